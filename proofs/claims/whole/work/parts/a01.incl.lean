/-! ===== a change comes into memory; whether there is room for it; class; written by wip/gen/incl.py ===== -/
theorem rc_reqRoom {sc : Nat × (Nat → Int32)} {N : Nat} {kf : Nat → Int8} {kl mo pl : Nat → Nat} {le : Nat → Option Nat} {al : Nat → Bool} {od sp : Nat → Nat} {sz ss ac : Nat} {d p b u B : Nat} {H : aH} {up cw cl cp cb : Int32} {op : Nat → Bool} {sm : Nat → Nat} {x : Int32} {D : Nat → Int8} {S K : Nat → Nat} {E : Nat → Option Nat} {ws : List aE} {vs : List aV} (h0 : H[0]? = some (kO 11 (fvs (nI B) (nI p) up cw cl cp cb))) (hA : VersAt H N kf kl mo pl le al od sp sz ss ac) (hV : VersWf N kf kl mo pl le al od sp sz ss ac) (hvs : vs = vsL kf kl mo pl le al od sz) (hb : BatchAt H b D S K E ws.length u) (hbk : BatchOk S K E ws.length u) (hL : LayE D 0 S K E ws) (hs : SightAt H op sm) (hsm : ∀ t, t < 8 → sm t < 2 ^ 31) (hK1 : ∀ i, i < ws.length → 1 ≤ K i) (h1W : OneW ws) (hpr : ∀ v ∈ vs, v.2.1 ≤ p) (hp : p + 1 < 2 ^ 31) (hB : B ≤ 128) (hle : (sumN op sm x (p + 1) (kmV (inclV (p + 1) (fun _ => 0) 0 ws vs)) (inclV (p + 1) (fun _ => 0) 0 ws vs)) ≤ B * 256) : RC sc (d + 4) mr_88 [.ref 1, .ref (b + 1), .int x] H (.inl none) H 0 0 := by
  have hnw := rc_neededWith (sc := sc) (d := d) (x := x) hA hV hvs hb hbk hL hs hsm hK1 h1W hpr hp
  generalize (sumN op sm x (p + 1) (kmV (inclV (p + 1) (fun _ => 0) 0 ws vs)) (inclV (p + 1) (fun _ => 0) 0 ws vs)) = s at hnw hle
  refine RP.blk 1 (pc' := 1) (lv' := [(0, .ref 1), (1, .ref (b + 1)), (2, .int x)]) (st' := [.ref 1]) (H' := _) (kc' := 0) (ks' := 0) rfl ?_
  refine RP.get (ci := 11) rfl h0 rfl rfl ?_
  refine RP.blk 3 (pc' := 7) (lv' := [(0, .ref 1), (1, .ref (b + 1)), (2, .int x)]) (st' := [.ref 1, .int x, .ref (b + 1), .ref 75]) (H' := _) (kc' := 0) (ks' := 0) rfl ?_
  refine RP.get (ci := 11) rfl h0 rfl rfl ?_
  refine RP.call (v := some (.int (nI s))) (st' := []) rfl rfl rfl rfl rfl rfl (args_v [.int (nI p), .int x, .ref (b + 1)] [] rfl rfl (Nat.le_of_ble_eq_true rfl) rfl hA.1 (Nat.le_of_ble_eq_true rfl)) hnw ?_
  refine RP.blk 1 (pc' := 14) (lv' := [(0, .ref 1), (1, .ref (b + 1)), (2, .int x)]) (st' := [.ref 1, .int (nI s)]) (H' := _) (kc' := 0) (ks' := 0) rfl ?_
  refine RP.call (v := some (.int (nI (B * 256)))) (st' := [.int (nI s)]) rfl rfl rfl rfl rfl rfl (args_v [] [.int (nI s)] rfl rfl (Nat.le_of_ble_eq_true rfl) rfl h0 (Nat.le_of_ble_eq_true rfl)) (rc_limit h0) ?_
  refine RP.brT rfl rfl rfl (cT_le s (B * 256)) ?_
  exact RP.done (c := 0) (s := 0) rfl rfl rfl rfl
theorem rc_reqRoomX {sc : Nat × (Nat → Int32)} {N : Nat} {kf : Nat → Int8} {kl mo pl : Nat → Nat} {le : Nat → Option Nat} {al : Nat → Bool} {od sp : Nat → Nat} {sz ss ac : Nat} {d p b u B : Nat} {H : aH} {up cw cl cp cb : Int32} {op : Nat → Bool} {sm : Nat → Nat} {x : Int32} {D : Nat → Int8} {S K : Nat → Nat} {E : Nat → Option Nat} {ws : List aE} {vs : List aV} (h0 : H[0]? = some (kO 11 (fvs (nI B) (nI p) up cw cl cp cb))) (hA : VersAt H N kf kl mo pl le al od sp sz ss ac) (hV : VersWf N kf kl mo pl le al od sp sz ss ac) (hvs : vs = vsL kf kl mo pl le al od sz) (hb : BatchAt H b D S K E ws.length u) (hbk : BatchOk S K E ws.length u) (hL : LayE D 0 S K E ws) (hs : SightAt H op sm) (hsm : ∀ t, t < 8 → sm t < 2 ^ 31) (hK1 : ∀ i, i < ws.length → 1 ≤ K i) (h1W : OneW ws) (hpr : ∀ v ∈ vs, v.2.1 ≤ p) (hp : p + 1 < 2 ^ 31) (hB : B ≤ 128) (hle : B * 256 < (sumN op sm x (p + 1) (kmV (inclV (p + 1) (fun _ => 0) 0 ws vs)) (inclV (p + 1) (fun _ => 0) 0 ws vs))) (hs2 : (sumN op sm x (p + 1) (kmV (inclV (p + 1) (fun _ => 0) 0 ws vs)) (inclV (p + 1) (fun _ => 0) 0 ws vs)) < 2 ^ 31) : RC sc (d + 4) mr_88 [.ref 1, .ref (b + 1), .int x] H (.inr 2) H 1 6 := by
  have hnw := rc_neededWith (sc := sc) (d := d) (x := x) hA hV hvs hb hbk hL hs hsm hK1 h1W hpr hp
  generalize (sumN op sm x (p + 1) (kmV (inclV (p + 1) (fun _ => 0) 0 ws vs)) (inclV (p + 1) (fun _ => 0) 0 ws vs)) = s at hnw hle hs2
  refine RP.blk 1 (pc' := 1) (lv' := [(0, .ref 1), (1, .ref (b + 1)), (2, .int x)]) (st' := [.ref 1]) (H' := _) (kc' := 0) (ks' := 0) rfl ?_
  refine RP.get (ci := 11) rfl h0 rfl rfl ?_
  refine RP.blk 3 (pc' := 7) (lv' := [(0, .ref 1), (1, .ref (b + 1)), (2, .int x)]) (st' := [.ref 1, .int x, .ref (b + 1), .ref 75]) (H' := _) (kc' := 0) (ks' := 0) rfl ?_
  refine RP.get (ci := 11) rfl h0 rfl rfl ?_
  refine RP.call (v := some (.int (nI s))) (st' := []) rfl rfl rfl rfl rfl rfl (args_v [.int (nI p), .int x, .ref (b + 1)] [] rfl rfl (Nat.le_of_ble_eq_true rfl) rfl hA.1 (Nat.le_of_ble_eq_true rfl)) hnw ?_
  refine RP.blk 1 (pc' := 14) (lv' := [(0, .ref 1), (1, .ref (b + 1)), (2, .int x)]) (st' := [.ref 1, .int (nI s)]) (H' := _) (kc' := 0) (ks' := 0) rfl ?_
  refine RP.call (v := some (.int (nI (B * 256)))) (st' := [.int (nI s)]) rfl rfl rfl rfl rfl rfl (args_v [] [.int (nI s)] rfl rfl (Nat.le_of_ble_eq_true rfl) rfl h0 (Nat.le_of_ble_eq_true rfl)) (rc_limit h0) ?_
  refine RP.brF rfl rfl rfl (cF_le s (B * 256)) ?_
  exact RP.done (c := 1) (s := 6) rfl rfl rfl rfl
theorem inclV_len {m : Nat} {pl : Nat → Nat} : ∀ (ws : List aE) (i : Nat) (vs : List aV), (inclV m pl i ws vs).length = vs.length + ws.length
  | [], i, vs => rfl
  | e :: ws, i, vs => by
    show (inclV m pl (i + 1) ws _).length = _
    rw [inclV_len ws, (insV_perm _ vs).length_eq, List.length_cons, List.length_cons]
    omega
theorem rn_include {sc : Nat × (Nat → Int32)} {d N m b u : Nat} {H : aH} {D : Nat → Int8} {S K P : Nat → Nat} {E : Nat → Option Nat} {ws : List aE} {vs : List aV} (hVI : VersIs H N vs) (hb : BatchAt H b D S K E ws.length u) (hbk : BatchOk S K E ws.length u) (hL : LayE D 0 S K E ws) (h5 : H[b + 5]? = some (kI 40 (fun j => nI (P j)))) (hb74 : b + 6 ≤ 74) (hK : ∀ i, i < ws.length → 1 ≤ K i ∧ K i ≤ 41) (hP : ∀ i, i < ws.length → P i < 2 ^ 30) (h1W : OneW ws) (hm : m < 2 ^ 30) (hlt : ∀ v ∈ vs, v.2.1 < m) (hroom : vs.length + ws.length ≤ N) : RN sc (d + 2) mr_161 [.ref 75, .ref (b + 1), .int (nI m)] H (fun H' => VersIs H' N (inclV m P 0 ws vs) ∧ ∀ a, ¬ (74 ≤ a ∧ a < 83) → H'[a]? = H[a]?) := by
  have hn40 := hbk.1
  have hu41 := hbk.2.1
  refine RN.of ?_
  refine RQ.blk 2 (pc' := 2) (lv' := [(3, .int 0), (0, .ref 75), (1, .ref (b + 1)), (2, .int (nI m))]) (st' := []) (H' := _) (kc' := 0) (ks' := 0) rfl ?_
  refine RQ.while (S := Nat) (pc := 2) (fun i H' => i ≤ ws.length ∧ VersIs H' N (inclV m P 0 (ws.take i) vs) ∧ ∀ a, ¬ (74 ≤ a ∧ a < 83) → H'[a]? = H[a]?) (fun i => [(3, .int (nI i)), (0, .ref 75), (1, .ref (b + 1)), (2, .int (nI m))]) (fun i => ws.length - i) ?_ 0 H ⟨Nat.zero_le _, hVI, fun a _ => rfl⟩
  rintro i H1 ⟨hi, hW, hfr⟩ ih
  have gb : BatchAt H1 b D S K E ws.length u := hb.far (fun a h1 h2 => hfr a (by omega))
  have g5 := (hfr (b + 5) (by omega)).trans h5
  by_cases hil : i < ws.length
  ·
    refine RQ.blk 2 (pc' := 4) (lv' := [(3, .int (nI i)), (0, .ref 75), (1, .ref (b + 1)), (2, .int (nI m))]) (st' := [.ref (b + 1), .int (nI i)]) (H' := _) (kc' := 0) (ks' := 0) rfl ?_
    refine RQ.get (ci := 0) rfl gb.1 rfl rfl ?_
    refine RQ.brF rfl rfl rfl (cF_ge i ws.length) ?_
    refine RQ.blk 2 (pc' := 12) (lv' := [(3, .int (nI i)), (0, .ref 75), (1, .ref (b + 1)), (2, .int (nI m))]) (st' := [.ref (b + 1), .ref 75]) (H' := _) (kc' := 0) (ks' := 0) rfl ?_
    refine RQ.get (ci := 0) rfl gb.1 rfl rfl ?_
    refine RQ.blk 1 (pc' := 16) (lv' := [(3, .int (nI i)), (0, .ref 75), (1, .ref (b + 1)), (2, .int (nI m))]) (st' := [.ref (b + 1), .ref ((b + 1) + 1), .ref 75]) (H' := _) (kc' := 0) (ks' := 0) rfl ?_
    refine RQ.get (ci := 0) rfl gb.1 rfl rfl ?_
    refine RQ.blk 1 (pc' := 20) (lv' := [(3, .int (nI i)), (0, .ref 75), (1, .ref (b + 1)), (2, .int (nI m))]) (st' := [.int (nI i), .ref ((b + 2) + 1), .ref ((b + 1) + 1), .ref 75]) (H' := _) (kc' := 0) (ks' := 0) rfl ?_
    refine RQ.ialdN (j := i) rfl gb.2.2.1 (by omega) (by decide) ?_
    refine RQ.blk 1 (pc' := 22) (lv' := [(3, .int (nI i)), (0, .ref 75), (1, .ref (b + 1)), (2, .int (nI m))]) (st' := [.ref (b + 1), .int (nI (S i)), .ref ((b + 1) + 1), .ref 75]) (H' := _) (kc' := 0) (ks' := 0) rfl ?_
    refine RQ.get (ci := 0) rfl gb.1 rfl rfl ?_
    refine RQ.blk 1 (pc' := 26) (lv' := [(3, .int (nI i)), (0, .ref 75), (1, .ref (b + 1)), (2, .int (nI m))]) (st' := [.int (nI i), .ref ((b + 3) + 1), .int (nI (S i)), .ref ((b + 1) + 1), .ref 75]) (H' := _) (kc' := 0) (ks' := 0) rfl ?_
    refine RQ.ialdN (j := i) rfl gb.2.2.2.1 (by omega) (by decide) ?_
    refine RQ.blk 1 (pc' := 29) (lv' := [(3, .int (nI i)), (0, .ref 75), (1, .ref (b + 1)), (2, .int (nI m))]) (st' := [.int 2147483647, .int (nI (K i)), .int (nI (S i)), .ref ((b + 1) + 1), .ref 75]) (H' := _) (kc' := 0) (ks' := 0) rfl ?_
    obtain ⟨e, he⟩ := lt_get hil
    have hSK := hbk.2.2 i hil
    obtain ⟨e1, e2, e3, -⟩ := hL i e he
    have hkey : sl D (S i) (K i) = e.1 := hL.key he
    obtain ⟨hK1, hK2⟩ := hK i hil
    have hPi := hP i hil
    have hlen := inclV_len (m := m) (pl := P) (ws.take i) 0 vs
    rw [List.length_take, Nat.min_eq_left (by omega)] at hlen
    have hnewW : ∀ v ∈ inclV m P 0 (ws.take i) vs, v.1 = e.1 → v.2.1 < m := fun v hv hk => hlt v (incl_old h1W he hv hk)
    obtain ⟨kf, kl, mo, pl, le, al, od, sp, sz, ss, ac, hA, hV, hvs⟩ := hW
    have hN := hV.1.1
    have hsz : sz = vs.length + i := by rw [← hlen, hvs]; unfold vsL; rw [List.length_map, List.length_range]
    have hss : ss + sz = N := hV.2.2.1
    have hsrt := hV.2.2.2.2.2.2.2.2
    obtain ⟨k, hc⟩ := cut_ex (sl D (S i) (K i)) 2147483647 hsrt (fun p hp => by have := (hV.1.2.2.2.2.2 _ (hV.1.2.2.2.1 p hp)).2.1; omega)
    have hnew : ∀ q, q < sz → keyO kf kl od q = sl D (S i) (K i) → mo (od q) < m := fun q hq hk => hnewW (verO kf kl mo pl le al (od q)) (by rw [hvs]; exact List.mem_map.mpr ⟨q, List.mem_range.mpr hq, rfl⟩) (hk.trans hkey)
    refine RQ.call (v := some (.int (nI k))) (st' := []) rfl rfl rfl rfl rfl rfl (args_v [.int 2147483647, .int (nI (K i)), .int (nI (S i)), .ref ((b + 1) + 1)] [] rfl rfl (Nat.le_of_ble_eq_true rfl) rfl hA.1 (Nat.le_of_ble_eq_true rfl)) (rc_from (k := k) hA hV.1 gb.2.1 (by decide) (by omega) hc) ?_
    refine RQ.blk 4 (pc' := 38) (lv' := [(4, .int (nI k)), (3, .int (nI i)), (0, .ref 75), (1, .ref (b + 1)), (2, .int (nI m))]) (st' := [.ref (b + 1), .int (nI k), .ref 75]) (H' := _) (kc' := 0) (ks' := 0) rfl ?_
    refine RQ.get (ci := 0) rfl gb.1 rfl rfl ?_
    refine RQ.blk 1 (pc' := 42) (lv' := [(4, .int (nI k)), (3, .int (nI i)), (0, .ref 75), (1, .ref (b + 1)), (2, .int (nI m))]) (st' := [.ref (b + 1), .ref ((b + 1) + 1), .int (nI k), .ref 75]) (H' := _) (kc' := 0) (ks' := 0) rfl ?_
    refine RQ.get (ci := 0) rfl gb.1 rfl rfl ?_
    refine RQ.blk 1 (pc' := 46) (lv' := [(4, .int (nI k)), (3, .int (nI i)), (0, .ref 75), (1, .ref (b + 1)), (2, .int (nI m))]) (st' := [.int (nI i), .ref ((b + 2) + 1), .ref ((b + 1) + 1), .int (nI k), .ref 75]) (H' := _) (kc' := 0) (ks' := 0) rfl ?_
    refine RQ.ialdN (j := i) rfl gb.2.2.1 (by omega) (by decide) ?_
    refine RQ.blk 1 (pc' := 48) (lv' := [(4, .int (nI k)), (3, .int (nI i)), (0, .ref 75), (1, .ref (b + 1)), (2, .int (nI m))]) (st' := [.ref (b + 1), .int (nI (S i)), .ref ((b + 1) + 1), .int (nI k), .ref 75]) (H' := _) (kc' := 0) (ks' := 0) rfl ?_
    refine RQ.get (ci := 0) rfl gb.1 rfl rfl ?_
    refine RQ.blk 1 (pc' := 52) (lv' := [(4, .int (nI k)), (3, .int (nI i)), (0, .ref 75), (1, .ref (b + 1)), (2, .int (nI m))]) (st' := [.int (nI i), .ref ((b + 3) + 1), .int (nI (S i)), .ref ((b + 1) + 1), .int (nI k), .ref 75]) (H' := _) (kc' := 0) (ks' := 0) rfl ?_
    refine RQ.ialdN (j := i) rfl gb.2.2.2.1 (by omega) (by decide) ?_
    have hkz := hc.1
    refine RQ.callI (st' := []) rfl rfl rfl rfl rfl rfl (args_v [.int (nI (K i)), .int (nI (S i)), .ref ((b + 1) + 1), .int (nI k)] [] rfl rfl (Nat.le_of_ble_eq_true rfl) rfl hA.1 (Nat.le_of_ble_eq_true rfl)) (ri_insert hA hV.1 gb.2.1 (by decide) (by omega) (by omega) (by omega) hkz (by omega) (by omega)) (fun y H2 hx => ?_)
    obtain ⟨ey, hA2, hfr2⟩ := hx
    rw [ey]
    have hslot := hV.1.2.2.2.2.1 (ss - 1) (by omega)
    have gb2 : BatchAt H2 b D S K E ws.length u := gb.far (fun a h1 h2 => hfr2 a (by omega))
    have g52 := (hfr2 (b + 5) (by omega)).trans g5
    refine RQ.blk 2 (pc' := 60) (lv' := [(5, .int (nI (sp (ss - 1)))), (4, .int (nI k)), (3, .int (nI i)), (0, .ref 75), (1, .ref (b + 1)), (2, .int (nI m))]) (st' := [.int (nI (sp (ss - 1)))]) (H' := _) (kc' := 0) (ks' := 0) rfl ?_
    refine RQ.brF rfl rfl rfl (cF_lt (sp (ss - 1)) 0) ?_
    refine RQ.blk 1 (pc' := 64) (lv' := [(5, .int (nI (sp (ss - 1)))), (4, .int (nI k)), (3, .int (nI i)), (0, .ref 75), (1, .ref (b + 1)), (2, .int (nI m))]) (st' := [.ref 75]) (H' := _) (kc' := 0) (ks' := 0) rfl ?_
    refine RQ.get (ci := 10) rfl hA2.1 rfl rfl ?_
    refine RQ.blk 2 (pc' := 70) (lv' := [(5, .int (nI (sp (ss - 1)))), (4, .int (nI k)), (3, .int (nI i)), (0, .ref 75), (1, .ref (b + 1)), (2, .int (nI m))]) (st' := [.int (nI m), .int (nI (sp (ss - 1))), .ref 78]) (H' := _) (kc' := 0) (ks' := 0) rfl ?_
    refine RQ.iastN (j := sp (ss - 1)) rfl hA2.2.2.2.1 (by omega) (by omega) ?_
    rw [up_nI]
    refine RQ.blk 1 (pc' := 72) (lv' := [(5, .int (nI (sp (ss - 1)))), (4, .int (nI k)), (3, .int (nI i)), (0, .ref 75), (1, .ref (b + 1)), (2, .int (nI m))]) (st' := [.ref 75]) (H' := _) (kc' := 0) (ks' := 0) rfl ?_
    refine RQ.get (ci := 10) rfl ((set_far (by decide)).trans hA2.1) rfl rfl ?_
    refine RQ.blk 2 (pc' := 78) (lv' := [(5, .int (nI (sp (ss - 1)))), (4, .int (nI k)), (3, .int (nI i)), (0, .ref 75), (1, .ref (b + 1)), (2, .int (nI m))]) (st' := [.ref (b + 1), .int (nI (sp (ss - 1))), .ref 79]) (H' := _) (kc' := 0) (ks' := 0) rfl ?_
    refine RQ.get (ci := 0) rfl ((set_far (by omega)).trans gb2.1) rfl rfl ?_
    refine RQ.blk 1 (pc' := 82) (lv' := [(5, .int (nI (sp (ss - 1)))), (4, .int (nI k)), (3, .int (nI i)), (0, .ref 75), (1, .ref (b + 1)), (2, .int (nI m))]) (st' := [.int (nI i), .ref ((b + 5) + 1), .int (nI (sp (ss - 1))), .ref 79]) (H' := _) (kc' := 0) (ks' := 0) rfl ?_
    refine RQ.ialdN (j := i) rfl ((set_far (by omega)).trans g52) (by omega) (by decide) ?_
    refine RQ.iastN (j := sp (ss - 1)) rfl ((set_far (by decide)).trans hA2.2.2.2.2.1) (by omega) (by omega) ?_
    rw [up_nI]
    refine RQ.blk 1 (pc' := 85) (lv' := [(5, .int (nI (sp (ss - 1)))), (4, .int (nI k)), (3, .int (nI i)), (0, .ref 75), (1, .ref (b + 1)), (2, .int (nI m))]) (st' := [.ref 75]) (H' := _) (kc' := 0) (ks' := 0) rfl ?_
    refine RQ.get (ci := 10) rfl ((set_far (by decide)).trans ((set_far (by decide)).trans hA2.1)) rfl rfl ?_
    refine RQ.blk 2 (pc' := 91) (lv' := [(5, .int (nI (sp (ss - 1)))), (4, .int (nI k)), (3, .int (nI i)), (0, .ref 75), (1, .ref (b + 1)), (2, .int (nI m))]) (st' := [.ref (b + 1), .int (nI (sp (ss - 1))), .ref 80]) (H' := _) (kc' := 0) (ks' := 0) rfl ?_
    refine RQ.get (ci := 0) rfl ((set_far (by omega)).trans ((set_far (by omega)).trans gb2.1)) rfl rfl ?_
    refine RQ.blk 1 (pc' := 95) (lv' := [(5, .int (nI (sp (ss - 1)))), (4, .int (nI k)), (3, .int (nI i)), (0, .ref 75), (1, .ref (b + 1)), (2, .int (nI m))]) (st' := [.int (nI i), .ref ((b + 4) + 1), .int (nI (sp (ss - 1))), .ref 80]) (H' := _) (kc' := 0) (ks' := 0) rfl ?_
    refine RQ.ialdN (j := i) rfl ((set_far (by omega)).trans ((set_far (by omega)).trans gb2.2.2.2.2)) (by omega) (by decide) ?_
    refine RQ.iastN (j := sp (ss - 1)) rfl ((set_far (by decide)).trans ((set_far (by decide)).trans hA2.2.2.2.2.2.1)) (by omega) (by omega) ?_
    rw [up_lI]
    refine RQ.blk 3 (pc' := 101) (lv' := [(5, .int (nI (sp (ss - 1)))), (4, .int (nI k)), (3, .int (nI i)), (0, .ref 75), (1, .ref (b + 1)), (2, .int (nI m))]) (st' := [.int 1, .int (nI (sp (ss - 1))), .ref 75]) (H' := _) (kc' := 0) (ks' := 0) rfl ?_
    have hA3 : VersAt (((H2.set 77 (kI N (fun j => nI (va_up mo (sp (ss - 1)) m j)))).set 78 (kI N (fun j => nI (va_up pl (sp (ss - 1)) (P i) j)))).set 79 (kI N (fun j => lI (va_up le (sp (ss - 1)) (E i) j)))) N (cpy D (S i) kf ((sp (ss - 1)) * 41) (K i)) (va_up kl (sp (ss - 1)) (K i)) (va_up mo (sp (ss - 1)) m) (va_up pl (sp (ss - 1)) (P i)) (va_up le (sp (ss - 1)) (E i)) al (va_up (shR od k (sz - k)) k (sp (ss - 1))) sp (sz + 1) (ss - 1) ac := ⟨((set_far (by decide)).trans ((set_far (by decide)).trans ((set_far (by decide)).trans hA2.1))), ((set_far (by decide)).trans ((set_far (by decide)).trans ((set_far (by decide)).trans hA2.2.1))), ((set_far (by decide)).trans ((set_far (by decide)).trans ((set_far (by decide)).trans hA2.2.2.1))), ((set_far (by decide)).trans ((set_far (by decide)).trans (get_set hA2.2.2.2.1))), ((set_far (by decide)).trans (get_set ((set_far (by decide)).trans hA2.2.2.2.2.1))), (get_set ((set_far (by decide)).trans ((set_far (by decide)).trans hA2.2.2.2.2.2.1))), ((set_far (by decide)).trans ((set_far (by decide)).trans ((set_far (by decide)).trans hA2.2.2.2.2.2.2.1))), ((set_far (by decide)).trans ((set_far (by decide)).trans ((set_far (by decide)).trans hA2.2.2.2.2.2.2.2.1))), ((set_far (by decide)).trans ((set_far (by decide)).trans ((set_far (by decide)).trans hA2.2.2.2.2.2.2.2.2)))⟩
    have hW3 := ins_wf (b := true) (g := D) (j := S i) (m := K i) (mm := m) (pp := P i) (l := E i) hV (by omega) hK1 hK2 hc hm hPi (by have := hbk.2.2 i hil; omega) hnew
    have hal : al (sp (ss - 1)) = false := hV.2.2.2.2.2.1 (ss - 1) (by omega)
    have hok : VersOk N (va_up kl (sp (ss - 1)) (K i)) (va_up mo (sp (ss - 1)) m) (va_up pl (sp (ss - 1)) (P i)) (va_up le (sp (ss - 1)) (E i)) (va_up (shR od k (sz - k)) k (sp (ss - 1))) sp (sz + 1) (ss - 1) := hW3.1
    refine RQ.callN (st' := []) rfl rfl rfl rfl rfl rfl (args_v [.int 1, .int (nI (sp (ss - 1)))] [] rfl rfl (Nat.le_of_ble_eq_true rfl) rfl ((set_far (by decide)).trans ((set_far (by decide)).trans ((set_far (by decide)).trans hA2.1))) (Nat.le_of_ble_eq_true rfl)) (rn_setAlone (b := true) hA3 hok hslot (fun e => by rw [hal] at e; cases e)) (fun H4 hx4 => ?_)
    obtain ⟨hA4, hfr4⟩ := hx4
    rw [hal] at hA4
    refine RQ.blk 1 (pc' := 107) (lv' := [(3, .int (nI i + 1)), (5, .int (nI (sp (ss - 1)))), (4, .int (nI k)), (0, .ref 75), (1, .ref (b + 1)), (2, .int (nI m))]) (st' := []) (H' := _) (kc' := 0) (ks' := 0) rfl ?_
    rw [show (nI i + 1 : Int32) = nI (i + 1) from nI_add i 1]
    refine RQ.blk 1 (pc' := 2) (lv' := [(3, .int (nI (i + 1))), (5, .int (nI (sp (ss - 1)))), (4, .int (nI k)), (0, .ref 75), (1, .ref (b + 1)), (2, .int (nI m))]) (st' := []) (H' := _) (kc' := 0) (ks' := 0) rfl ?_
    refine RQ.pick (a := [(3, .int (nI (i + 1))), (0, .ref 75), (1, .ref (b + 1)), (2, .int (nI m))]) [0, 3, 4, 5] [3, 5, 4, 0, 1, 2] rfl rfl (by decide) ?_
    refine ih (i + 1) H4 ⟨by omega, ?_, fun a ha => (hfr4 a ha).trans ((set_far (by omega)).trans ((set_far (by omega)).trans ((set_far (by omega)).trans ((hfr2 a ha).trans (hfr a ha)))))⟩ (by omega)
    rw [inclV_take he, hvs, ← e3, ← hkey]
    exact ⟨_, _, _, _, _, _, _, _, _, _, _, hA4, hW3, (ins_vs hV (by omega) hK2 hc).symm⟩
  · have e : i = ws.length := by omega
    subst e
    rw [List.take_of_length_le (Nat.le_refl _)] at hW
    refine RQ.blk 2 (pc' := 4) (lv' := [(3, .int (nI ws.length)), (0, .ref 75), (1, .ref (b + 1)), (2, .int (nI m))]) (st' := [.ref (b + 1), .int (nI ws.length)]) (H' := _) (kc' := 0) (ks' := 0) rfl ?_
    refine RQ.get (ci := 0) rfl gb.1 rfl rfl ?_
    refine RQ.brT rfl rfl rfl (cT_ge ws.length ws.length) ?_
    exact RQ.done (c := 0) (s := 0) rfl rfl rfl rfl ⟨_, rfl, hW, hfr⟩
