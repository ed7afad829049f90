/-! ===== commit out of its parts; class; written by wip/gen/change.py ===== -/
/-- a call that answers 1, or 0 where the power failed in it -/
theorem RQ.callB {sc : Nat × (Nat → Int32)} {d : Nat} {M M' : aM} {pc nx : Nat} {lv : aL} {st : List Value} {H : aH} {kc ks : Nat} {Q : tO × aH × Nat × Nat → Prop} {I : Instr} {m k : Nat} {av st' : List Value} {ok bad : aH → Prop} (hI : lkI pc (mT M) = some (nx, I)) (h0 : stG sc nx lv st H I = none) (h1 : stB st I = none) (h2 : stD st I = none) (hC : stC I = some (m, k)) (hm : mtb[m]? = some M') (ha : argsOf M' k H st = some (av, st')) (hr : RB sc d M' av H ok bad) (k1 : ∀ H', ok H' → RQ sc (d + 1) M nx lv (.int 1 :: st') H' kc ks Q) (k2 : ∀ H', bad H' → RQ sc (d + 1) M nx lv (.int 0 :: st') H' (kc + 1) (ks + 6) Q) : RQ sc (d + 1) M pc lv st H kc ks Q := by
  rcases hr with ⟨H', a, b⟩ | ⟨H', a, b⟩
  · exact RQ.call hI h0 h1 h2 hC hm ha a (k1 H' b)
  · exact RQ.call hI h0 h1 h2 hC hm ha a (k2 H' b)
theorem RX.to {sc : Nat × (Nat → Int32)} {d : Nat} {M : aM} {av : List Value} {H : aH} {e : Nat} {P P' : aH → Prop} (h : RX sc d M av H e P) (hp : ∀ H', P H' → P' H') : RX sc d M av H e P' := by
  obtain ⟨H', a, b⟩ := h
  exact ⟨H', a, hp H' b⟩
/-- a call that throws, behind another throw that was caught -/
def RX2 (sc : Nat × (Nat → Int32)) (d : Nat) (M : aM) (av : List Value) (H : aH) (e : Nat) (P : aH → Prop) : Prop := ∃ H', RC sc d M av H (.inr e) H' 2 12 ∧ P H'
theorem RX2.of {sc : Nat × (Nat → Int32)} {d : Nat} {M : aM} {av : List Value} {H : aH} {e : Nat} {P : aH → Prop} (h : RQ sc d M 0 (lv_args 0 av) [] H 0 0 (fun r => ∃ H', r = (.inr e, H', 2, 12) ∧ P H')) : RX2 sc d M av H e P := by
  obtain ⟨r, h1, H', e2, h3⟩ := h
  subst e2
  exact ⟨H', h1, h3⟩
set_option maxRecDepth 20000 in
theorem ri_commit0 {sc : Nat × (Nat → Int32)} {d : Nat} {H : aH} {B P : Nat} {cw cl : Int32} {cp cb : Nat} {tb : Nat → Int8} {l : Nat} {g : Nat → Int8} {rl : Nat} {wss : Nat → List aE} {t0 : aTr} {t N : Nat} {op : Nat → Bool} {sm : Nat → Nat} {vs : List aV}  (h : ClsA H B P 1 cw cl cp cb tb l g rl wss t0) (hs : SightAt H op sm) (hsm : ∀ t, t < 8 → sm t < 2 ^ 30) (hV : VersIs H N vs) (hpr : ∀ v ∈ vs, v.2.1 ≤ P) (ht : t < 8) (hop : op t = true) (hw0 : wss t = []) : RI sc (d + 8) mr_77 [.ref 1, .int (nI t)] H (fun x H' => x = nI P ∧ ClsA H' B P 1 cw cl cp cb tb l g rl wss t0 ∧ SightAt H' (va_up op t false) sm ∧ VersIs H' N (vs.filter (keepS (va_up op t false) sm P (kmV vs))) ∧ (∀ a, a ≠ 8 → ¬ (74 ≤ a ∧ a < 83) → H'[a]? = H[a]?)) := by
  obtain ⟨h0, h1, h2, h3, h4, ⟨q5, p6, h5, h6⟩, ⟨wq, h10, hwq⟩, hW, hCh, hT⟩ := id h
  obtain ⟨D, Sx, K, E, hbA, hbL, hb40, hb41⟩ := (hW t ht).1
  have hbk := hbL.ok hb40 hb41
  obtain ⟨kf, kl, mo, pl, le, al, od, sp, sz, ss, ac, hA, hVW, hvs⟩ := id hV
  refine RI.of ?_
  refine RQ.blk 2 (pc' := 2) (lv' := [(0, .ref 1), (1, .int (nI t))]) (st' := [.int (nI t), .ref 1]) (H' := _) (kc' := 0) (ks' := 0) rfl ?_
  refine RQ.call (v := none) (st' := []) rfl rfl rfl rfl rfl rfl (args_v [.int (nI t)] [] rfl rfl (Nat.le_of_ble_eq_true rfl) rfl h0 (Nat.le_of_ble_eq_true rfl)) (rc_reqTx h0 ht) ?_
  refine RQ.blk 1 (pc' := 6) (lv' := [(0, .ref 1), (1, .int (nI t))]) (st' := [.ref 1]) (H' := _) (kc' := 0) (ks' := 0) rfl ?_
  refine RQ.call (v := none) (st' := []) rfl rfl rfl rfl rfl rfl (args_v [] [] rfl rfl (Nat.le_of_ble_eq_true rfl) rfl h0 (Nat.le_of_ble_eq_true rfl)) (rc_up h0 rfl) ?_
  refine RQ.blk 2 (pc' := 11) (lv' := [(0, .ref 1), (1, .int (nI t))]) (st' := [.int (nI t), .ref 1]) (H' := _) (kc' := 0) (ks' := 0) rfl ?_
  refine RQ.call (v := none) (st' := []) rfl rfl rfl rfl rfl rfl (args_v [.int (nI t)] [] rfl rfl (Nat.le_of_ble_eq_true rfl) rfl h0 (Nat.le_of_ble_eq_true rfl)) (rc_reqOpen h0 hs ht hop) ?_
  refine RQ.blk 1 (pc' := 15) (lv' := [(0, .ref 1), (1, .int (nI t))]) (st' := [.ref 1]) (H' := _) (kc' := 0) (ks' := 0) rfl ?_
  refine RQ.get (ci := 11) rfl h0 rfl rfl ?_
  refine RQ.blk 1 (pc' := 19) (lv' := [(0, .ref 1), (1, .int (nI t))]) (st' := [.int (nI t), .ref 8]) (H' := _) (kc' := 0) (ks' := 0) rfl ?_
  refine RQ.call (v := some (.ref ((11 + 6 * t) + 1))) (st' := []) rfl rfl rfl rfl rfl rfl (args_v [.int (nI t)] [] rfl rfl (Nat.le_of_ble_eq_true rfl) rfl hs.1 (Nat.le_of_ble_eq_true rfl)) (rc_writesOf hs h10 (hwq t ht) ht) ?_
  refine RQ.blk 2 (pc' := 24) (lv' := [(2, .ref ((11 + 6 * t) + 1)), (0, .ref 1), (1, .int (nI t))]) (st' := [.ref ((11 + 6 * t) + 1)]) (H' := _) (kc' := 0) (ks' := 0) rfl ?_
  refine RQ.get (ci := 0) rfl hbA.1 rfl rfl ?_
  have hz : ((wss t).map pfx).length = 0 := by rw [hw0]; rfl
  refine RQ.brF rfl rfl rfl (cF_ne (((wss t).map pfx).length) 0) ?_
  refine RQ.blk 2 (pc' := 32) (lv' := [(2, .ref ((11 + 6 * t) + 1)), (0, .ref 1), (1, .int (nI t))]) (st' := [.int (nI t), .ref 1]) (H' := _) (kc' := 0) (ks' := 0) rfl ?_
  refine RQ.callN (st' := []) rfl rfl rfl rfl rfl rfl (args_v [.int (nI t)] [] rfl rfl (Nat.le_of_ble_eq_true rfl) rfl h0 (Nat.le_of_ble_eq_true rfl)) (rn_closeTx h0 hs (fun t ht => Nat.lt_trans (hsm t ht) (by decide)) hV hpr ht) (fun H2 hx2 => ?_)
  obtain ⟨y1, y2, y3⟩ := hx2
  have hc2 := h.far (H' := H2) (fun a a1 a2 => y3 a (by omega) (by omega))
  refine RQ.blk 1 (pc' := 36) (lv' := [(2, .ref ((11 + 6 * t) + 1)), (0, .ref 1), (1, .int (nI t))]) (st' := [.ref 1]) (H' := _) (kc' := 0) (ks' := 0) rfl ?_
  refine RQ.get (ci := 11) rfl hc2.1 rfl rfl ?_
  exact RQ.done (c := 0) (s := 0) rfl rfl rfl rfl ⟨_, _, rfl, rfl, hc2, y1, y2, y3⟩
set_option maxRecDepth 20000 in
theorem rx_commit_col {sc : Nat × (Nat → Int32)} {d : Nat} {H : aH} {B P : Nat} {cw cl : Int32} {cp cb : Nat} {tb : Nat → Int8} {l : Nat} {g : Nat → Int8} {rl : Nat} {wss : Nat → List aE} {t0 : aTr} {t N : Nat} {op : Nat → Bool} {sm : Nat → Nat} {vs : List aV}  (h : ClsA H B P 1 cw cl cp cb tb l g rl wss t0) (hs : SightAt H op sm) (hsm : ∀ t, t < 8 → sm t < 2 ^ 30) (hV : VersIs H N vs) (hpr : ∀ v ∈ vs, v.2.1 ≤ P) (ht : t < 8) (hop : op t = true) (hw0 : ¬ wss t = []) (hcol : ((wss t).any (fun e => colV vs P (sm t) e.1)) = true) : RX sc (d + 8) mr_77 [.ref 1, .int (nI t)] H 4 (fun H' => ClsA H' B P 1 cw cl cp cb tb l g rl wss t0 ∧ SightAt H' (va_up op t false) sm ∧ VersIs H' N (vs.filter (keepS (va_up op t false) sm P (kmV vs))) ∧ (∀ a, a ≠ 8 → ¬ (74 ≤ a ∧ a < 83) → H'[a]? = H[a]?)) := by
  obtain ⟨h0, h1, h2, h3, h4, ⟨q5, p6, h5, h6⟩, ⟨wq, h10, hwq⟩, hW, hCh, hT⟩ := id h
  obtain ⟨D, Sx, K, E, hbA, hbL, hb40, hb41⟩ := (hW t ht).1
  have hbk := hbL.ok hb40 hb41
  obtain ⟨kf, kl, mo, pl, le, al, od, sp, sz, ss, ac, hA, hVW, hvs⟩ := id hV
  refine RX.of ?_
  refine RQ.blk 2 (pc' := 2) (lv' := [(0, .ref 1), (1, .int (nI t))]) (st' := [.int (nI t), .ref 1]) (H' := _) (kc' := 0) (ks' := 0) rfl ?_
  refine RQ.call (v := none) (st' := []) rfl rfl rfl rfl rfl rfl (args_v [.int (nI t)] [] rfl rfl (Nat.le_of_ble_eq_true rfl) rfl h0 (Nat.le_of_ble_eq_true rfl)) (rc_reqTx h0 ht) ?_
  refine RQ.blk 1 (pc' := 6) (lv' := [(0, .ref 1), (1, .int (nI t))]) (st' := [.ref 1]) (H' := _) (kc' := 0) (ks' := 0) rfl ?_
  refine RQ.call (v := none) (st' := []) rfl rfl rfl rfl rfl rfl (args_v [] [] rfl rfl (Nat.le_of_ble_eq_true rfl) rfl h0 (Nat.le_of_ble_eq_true rfl)) (rc_up h0 rfl) ?_
  refine RQ.blk 2 (pc' := 11) (lv' := [(0, .ref 1), (1, .int (nI t))]) (st' := [.int (nI t), .ref 1]) (H' := _) (kc' := 0) (ks' := 0) rfl ?_
  refine RQ.call (v := none) (st' := []) rfl rfl rfl rfl rfl rfl (args_v [.int (nI t)] [] rfl rfl (Nat.le_of_ble_eq_true rfl) rfl h0 (Nat.le_of_ble_eq_true rfl)) (rc_reqOpen h0 hs ht hop) ?_
  refine RQ.blk 1 (pc' := 15) (lv' := [(0, .ref 1), (1, .int (nI t))]) (st' := [.ref 1]) (H' := _) (kc' := 0) (ks' := 0) rfl ?_
  refine RQ.get (ci := 11) rfl h0 rfl rfl ?_
  refine RQ.blk 1 (pc' := 19) (lv' := [(0, .ref 1), (1, .int (nI t))]) (st' := [.int (nI t), .ref 8]) (H' := _) (kc' := 0) (ks' := 0) rfl ?_
  refine RQ.call (v := some (.ref ((11 + 6 * t) + 1))) (st' := []) rfl rfl rfl rfl rfl rfl (args_v [.int (nI t)] [] rfl rfl (Nat.le_of_ble_eq_true rfl) rfl hs.1 (Nat.le_of_ble_eq_true rfl)) (rc_writesOf hs h10 (hwq t ht) ht) ?_
  refine RQ.blk 2 (pc' := 24) (lv' := [(2, .ref ((11 + 6 * t) + 1)), (0, .ref 1), (1, .int (nI t))]) (st' := [.ref ((11 + 6 * t) + 1)]) (H' := _) (kc' := 0) (ks' := 0) rfl ?_
  refine RQ.get (ci := 0) rfl hbA.1 rfl rfl ?_
  have hz : ¬ ((wss t).map pfx).length = 0 := by rw [List.length_map]; exact fun e => hw0 (List.eq_nil_of_length_eq_zero e)
  refine RQ.brT rfl rfl rfl (cT_ne (((wss t).map pfx).length) 0) ?_
  refine RQ.blk 3 (pc' := 43) (lv' := [(2, .ref ((11 + 6 * t) + 1)), (0, .ref 1), (1, .int (nI t))]) (st' := [.ref 1, .ref ((11 + 6 * t) + 1), .ref 1]) (H' := _) (kc' := 0) (ks' := 0) rfl ?_
  refine RQ.get (ci := 11) rfl h0 rfl rfl ?_
  refine RQ.blk 1 (pc' := 47) (lv' := [(2, .ref ((11 + 6 * t) + 1)), (0, .ref 1), (1, .int (nI t))]) (st' := [.int (nI t), .ref 8, .ref ((11 + 6 * t) + 1), .ref 1]) (H' := _) (kc' := 0) (ks' := 0) rfl ?_
  refine RQ.call (v := some (.int (nI (sm t)))) (st' := [.ref ((11 + 6 * t) + 1), .ref 1]) rfl rfl rfl rfl rfl rfl (args_v [.int (nI t)] [.ref ((11 + 6 * t) + 1), .ref 1] rfl rfl (Nat.le_of_ble_eq_true rfl) rfl hs.1 (Nat.le_of_ble_eq_true rfl)) (rc_momentOf hs ht hop) ?_
  have hsmt := hsm t ht
  refine RQ.call (v := some (.int (if (wss t).any (fun e => colV vs P (sm t) e.1) = true then 1 else 0))) (st' := []) rfl rfl rfl rfl rfl rfl (args_v [.int (nI (sm t)), .ref ((11 + 6 * t) + 1)] [] rfl rfl (Nat.le_of_ble_eq_true rfl) rfl h0 (Nat.le_of_ble_eq_true rfl)) (rc_collides (p := P) h0 hA hVW hvs hpr hbA hbk hbL (by omega)) ?_
  rw [hcol]
  rw [if_pos (by decide)]
  refine RQ.brF rfl rfl rfl (by decide) ?_
  refine RQ.blk 2 (pc' := 58) (lv' := [(2, .ref ((11 + 6 * t) + 1)), (0, .ref 1), (1, .int (nI t))]) (st' := [.int (nI t), .ref 1]) (H' := _) (kc' := 0) (ks' := 0) rfl ?_
  refine RQ.callN (st' := []) rfl rfl rfl rfl rfl rfl (args_v [.int (nI t)] [] rfl rfl (Nat.le_of_ble_eq_true rfl) rfl h0 (Nat.le_of_ble_eq_true rfl)) (rn_closeTx h0 hs (fun t ht => Nat.lt_trans (hsm t ht) (by decide)) hV hpr ht) (fun H2 hx2 => ?_)
  obtain ⟨y1, y2, y3⟩ := hx2
  have hc2 := h.far (H' := H2) (fun a a1 a2 => y3 a (by omega) (by omega))
  exact RQ.done (c := 1) (s := 6) rfl rfl rfl rfl ⟨_, rfl, hc2, y1, y2, y3⟩
set_option maxRecDepth 20000 in
theorem rx_commit_full {sc : Nat × (Nat → Int32)} {d : Nat} {H : aH} {B P : Nat} {cw cl : Int32} {cp cb : Nat} {tb : Nat → Int8} {l : Nat} {g : Nat → Int8} {rl : Nat} {wss : Nat → List aE} {t0 : aTr} {t N : Nat} {op : Nat → Bool} {sm : Nat → Nat} {vs : List aV}  (h : ClsA H B P 1 cw cl cp cb tb l g rl wss t0) (hs : SightAt H op sm) (hsm : ∀ t, t < 8 → sm t < 2 ^ 30) (hV : VersIs H N vs) (hpr : ∀ v ∈ vs, v.2.1 ≤ P) (ht : t < 8) (hop : op t = true) (hw0 : ¬ wss t = []) (hcol : ((wss t).any (fun e => colV vs P (sm t) e.1)) = false) (h1W : OneW ((wss t).map pfx)) (hP : P + 1 < 2 ^ 30) (hB : B ≤ 128) (hle : B * 256 < sumN op sm (nI t) (P + 1) (kmV (inclV (P + 1) (fun _ => 0) 0 ((wss t).map pfx) vs)) (inclV (P + 1) (fun _ => 0) 0 ((wss t).map pfx) vs)) (hl31 : sumN op sm (nI t) (P + 1) (kmV (inclV (P + 1) (fun _ => 0) 0 ((wss t).map pfx) vs)) (inclV (P + 1) (fun _ => 0) 0 ((wss t).map pfx) vs) < 2 ^ 31) : RX sc (d + 8) mr_77 [.ref 1, .int (nI t)] H 2 (fun H' => ClsA H' B P 1 cw cl cp cb tb l g rl wss t0 ∧ SightAt H' op sm ∧ VersIs H' N vs ∧ ∀ a : Nat, H'[a]? = H[a]?) := by
  obtain ⟨h0, h1, h2, h3, h4, ⟨q5, p6, h5, h6⟩, ⟨wq, h10, hwq⟩, hW, hCh, hT⟩ := id h
  obtain ⟨D, Sx, K, E, hbA, hbL, hb40, hb41⟩ := (hW t ht).1
  have hbk := hbL.ok hb40 hb41
  obtain ⟨kf, kl, mo, pl, le, al, od, sp, sz, ss, ac, hA, hVW, hvs⟩ := id hV
  refine RX.of ?_
  refine RQ.blk 2 (pc' := 2) (lv' := [(0, .ref 1), (1, .int (nI t))]) (st' := [.int (nI t), .ref 1]) (H' := _) (kc' := 0) (ks' := 0) rfl ?_
  refine RQ.call (v := none) (st' := []) rfl rfl rfl rfl rfl rfl (args_v [.int (nI t)] [] rfl rfl (Nat.le_of_ble_eq_true rfl) rfl h0 (Nat.le_of_ble_eq_true rfl)) (rc_reqTx h0 ht) ?_
  refine RQ.blk 1 (pc' := 6) (lv' := [(0, .ref 1), (1, .int (nI t))]) (st' := [.ref 1]) (H' := _) (kc' := 0) (ks' := 0) rfl ?_
  refine RQ.call (v := none) (st' := []) rfl rfl rfl rfl rfl rfl (args_v [] [] rfl rfl (Nat.le_of_ble_eq_true rfl) rfl h0 (Nat.le_of_ble_eq_true rfl)) (rc_up h0 rfl) ?_
  refine RQ.blk 2 (pc' := 11) (lv' := [(0, .ref 1), (1, .int (nI t))]) (st' := [.int (nI t), .ref 1]) (H' := _) (kc' := 0) (ks' := 0) rfl ?_
  refine RQ.call (v := none) (st' := []) rfl rfl rfl rfl rfl rfl (args_v [.int (nI t)] [] rfl rfl (Nat.le_of_ble_eq_true rfl) rfl h0 (Nat.le_of_ble_eq_true rfl)) (rc_reqOpen h0 hs ht hop) ?_
  refine RQ.blk 1 (pc' := 15) (lv' := [(0, .ref 1), (1, .int (nI t))]) (st' := [.ref 1]) (H' := _) (kc' := 0) (ks' := 0) rfl ?_
  refine RQ.get (ci := 11) rfl h0 rfl rfl ?_
  refine RQ.blk 1 (pc' := 19) (lv' := [(0, .ref 1), (1, .int (nI t))]) (st' := [.int (nI t), .ref 8]) (H' := _) (kc' := 0) (ks' := 0) rfl ?_
  refine RQ.call (v := some (.ref ((11 + 6 * t) + 1))) (st' := []) rfl rfl rfl rfl rfl rfl (args_v [.int (nI t)] [] rfl rfl (Nat.le_of_ble_eq_true rfl) rfl hs.1 (Nat.le_of_ble_eq_true rfl)) (rc_writesOf hs h10 (hwq t ht) ht) ?_
  refine RQ.blk 2 (pc' := 24) (lv' := [(2, .ref ((11 + 6 * t) + 1)), (0, .ref 1), (1, .int (nI t))]) (st' := [.ref ((11 + 6 * t) + 1)]) (H' := _) (kc' := 0) (ks' := 0) rfl ?_
  refine RQ.get (ci := 0) rfl hbA.1 rfl rfl ?_
  have hz : ¬ ((wss t).map pfx).length = 0 := by rw [List.length_map]; exact fun e => hw0 (List.eq_nil_of_length_eq_zero e)
  refine RQ.brT rfl rfl rfl (cT_ne (((wss t).map pfx).length) 0) ?_
  refine RQ.blk 3 (pc' := 43) (lv' := [(2, .ref ((11 + 6 * t) + 1)), (0, .ref 1), (1, .int (nI t))]) (st' := [.ref 1, .ref ((11 + 6 * t) + 1), .ref 1]) (H' := _) (kc' := 0) (ks' := 0) rfl ?_
  refine RQ.get (ci := 11) rfl h0 rfl rfl ?_
  refine RQ.blk 1 (pc' := 47) (lv' := [(2, .ref ((11 + 6 * t) + 1)), (0, .ref 1), (1, .int (nI t))]) (st' := [.int (nI t), .ref 8, .ref ((11 + 6 * t) + 1), .ref 1]) (H' := _) (kc' := 0) (ks' := 0) rfl ?_
  refine RQ.call (v := some (.int (nI (sm t)))) (st' := [.ref ((11 + 6 * t) + 1), .ref 1]) rfl rfl rfl rfl rfl rfl (args_v [.int (nI t)] [.ref ((11 + 6 * t) + 1), .ref 1] rfl rfl (Nat.le_of_ble_eq_true rfl) rfl hs.1 (Nat.le_of_ble_eq_true rfl)) (rc_momentOf hs ht hop) ?_
  have hsmt := hsm t ht
  refine RQ.call (v := some (.int (if (wss t).any (fun e => colV vs P (sm t) e.1) = true then 1 else 0))) (st' := []) rfl rfl rfl rfl rfl rfl (args_v [.int (nI (sm t)), .ref ((11 + 6 * t) + 1)] [] rfl rfl (Nat.le_of_ble_eq_true rfl) rfl h0 (Nat.le_of_ble_eq_true rfl)) (rc_collides (p := P) h0 hA hVW hvs hpr hbA hbk hbL (by omega)) ?_
  rw [hcol]
  rw [if_neg (by decide)]
  refine RQ.brT rfl rfl rfl (by decide) ?_
  refine RQ.blk 3 (pc' := 74) (lv' := [(2, .ref ((11 + 6 * t) + 1)), (0, .ref 1), (1, .int (nI t))]) (st' := [.int (nI t), .ref ((11 + 6 * t) + 1), .ref 1]) (H' := _) (kc' := 0) (ks' := 0) rfl ?_
  exact RQ.callP (st' := []) rfl rfl rfl rfl rfl rfl (args_v [.int (nI t), .ref ((11 + 6 * t) + 1)] [] rfl rfl (Nat.le_of_ble_eq_true rfl) rfl h0 (Nat.le_of_ble_eq_true rfl)) (rc_reqRoomX h0 hA hVW hvs hbA hbk hbL hs (fun t ht => Nat.lt_trans (hsm t ht) (by decide)) (fun i hi => by obtain ⟨e, he⟩ := lt_get hi; rw [(hbL i e he).2.1]; obtain ⟨e2, -, e3⟩ := List.mem_map.mp (List.mem_of_getElem? he); rw [← e3]; exact Nat.succ_le_succ (Nat.zero_le _)) h1W hpr (by omega) hB hle hl31) rfl ⟨_, rfl, h, hs, hV, fun _ => rfl⟩
set_option maxRecDepth 20000 in
theorem ri_commit_ok {sc : Nat × (Nat → Int32)} {d : Nat} {H : aH} {B P : Nat} {cl : Int32} {cp cb : Nat} {tb : Nat → Int8} {l : Nat} {g : Nat → Int8} {rl : Nat} {wss : Nat → List aE} {t0 : aTr} {t N : Nat} {op : Nat → Bool} {sm : Nat → Nat} {vs : List aV} {ok1 ok2 ok3 ok4 ok5 : aH → Prop} (h : ClsA H B P 1 0 cl cp cb tb l g rl wss t0) (hs : SightAt H op sm) (hsm : ∀ t, t < 8 → sm t < 2 ^ 30) (hV : VersIs H N vs) (hpr : ∀ v ∈ vs, v.2.1 ≤ P) (ht : t < 8) (hop : op t = true) (hw0 : ¬ wss t = []) (hcol : ((wss t).any (fun e => colV vs P (sm t) e.1)) = false) (h1W : OneW ((wss t).map pfx)) (hP : P + 1 < 2 ^ 30) (hB : B ≤ 128) (hle : sumN op sm (nI t) (P + 1) (kmV (inclV (P + 1) (fun _ => 0) 0 ((wss t).map pfx) vs)) (inclV (P + 1) (fun _ => 0) 0 ((wss t).map pfx) vs) ≤ B * 256) (hRM : RB sc (d + 7) mr_96 [.ref 1] H ok1 (fun _ => False)) (hST : ∀ H', ok1 H' → RB sc (d + 7) mr_150 [.ref 1, .ref (11 + 6 * t + 1)] H' ok2 (fun _ => False)) (hSE : ∀ H', ok2 H' → RN sc (d + 7) mr_153 [.ref 1, .int 1] H' ok3) (hCL : ∀ H', ok3 H' → RN sc (d + 7) mr_79 [.ref 8, .int (nI t)] H' ok4) (hIN : ∀ H', ok4 H' → RN sc (d + 7) mr_160 [.ref 1, .ref (11 + 6 * t + 1)] H' ok5) (hf1 : ∀ H', ok1 H' → H'[0]? = some (kO 11 (fvs (nI B) (nI P) 1 0 cl (nI cp) (nI cb)))) (hf2 : ∀ H', ok2 H' → H'[0]? = some (kO 11 (fvs (nI B) (nI P) 1 0 cl (nI cp) (nI cb)))) (hf3 : ∀ H', ok3 H' → H'[0]? = some (kO 11 (fvs (nI B) (nI P) 1 0 cl (nI cp) (nI cb)))) (hf7 : ∀ H', ok3 H' → H'[7]? = some (kO 7 [.ref 9, .ref 10, .ref 11])) (hf4 : ∀ H', ok4 H' → H'[0]? = some (kO 11 (fvs (nI B) (nI P) 1 0 cl (nI cp) (nI cb)))) (hf5 : ∀ H', ok5 H' → H'[0]? = some (kO 11 (fvs (nI B) (nI (P + 1)) 1 0 cl (nI cp) (nI cb)))) : RI sc (d + 8) mr_77 [.ref 1, .int (nI t)] H (fun x H' => x = nI (P + 1) ∧ ok5 H') := by
  obtain ⟨h0, h1, h2, h3, h4, ⟨q5, p6, h5, h6⟩, ⟨wq, h10, hwq⟩, hW, hCh, hT⟩ := id h
  obtain ⟨D, Sx, K, E, hbA, hbL, hb40, hb41⟩ := (hW t ht).1
  have hbk := hbL.ok hb40 hb41
  obtain ⟨kf, kl, mo, pl, le, al, od, sp, sz, ss, ac, hA, hVW, hvs⟩ := id hV
  refine RI.of ?_
  refine RQ.blk 2 (pc' := 2) (lv' := [(0, .ref 1), (1, .int (nI t))]) (st' := [.int (nI t), .ref 1]) (H' := _) (kc' := 0) (ks' := 0) rfl ?_
  refine RQ.call (v := none) (st' := []) rfl rfl rfl rfl rfl rfl (args_v [.int (nI t)] [] rfl rfl (Nat.le_of_ble_eq_true rfl) rfl h0 (Nat.le_of_ble_eq_true rfl)) (rc_reqTx h0 ht) ?_
  refine RQ.blk 1 (pc' := 6) (lv' := [(0, .ref 1), (1, .int (nI t))]) (st' := [.ref 1]) (H' := _) (kc' := 0) (ks' := 0) rfl ?_
  refine RQ.call (v := none) (st' := []) rfl rfl rfl rfl rfl rfl (args_v [] [] rfl rfl (Nat.le_of_ble_eq_true rfl) rfl h0 (Nat.le_of_ble_eq_true rfl)) (rc_up h0 rfl) ?_
  refine RQ.blk 2 (pc' := 11) (lv' := [(0, .ref 1), (1, .int (nI t))]) (st' := [.int (nI t), .ref 1]) (H' := _) (kc' := 0) (ks' := 0) rfl ?_
  refine RQ.call (v := none) (st' := []) rfl rfl rfl rfl rfl rfl (args_v [.int (nI t)] [] rfl rfl (Nat.le_of_ble_eq_true rfl) rfl h0 (Nat.le_of_ble_eq_true rfl)) (rc_reqOpen h0 hs ht hop) ?_
  refine RQ.blk 1 (pc' := 15) (lv' := [(0, .ref 1), (1, .int (nI t))]) (st' := [.ref 1]) (H' := _) (kc' := 0) (ks' := 0) rfl ?_
  refine RQ.get (ci := 11) rfl h0 rfl rfl ?_
  refine RQ.blk 1 (pc' := 19) (lv' := [(0, .ref 1), (1, .int (nI t))]) (st' := [.int (nI t), .ref 8]) (H' := _) (kc' := 0) (ks' := 0) rfl ?_
  refine RQ.call (v := some (.ref ((11 + 6 * t) + 1))) (st' := []) rfl rfl rfl rfl rfl rfl (args_v [.int (nI t)] [] rfl rfl (Nat.le_of_ble_eq_true rfl) rfl hs.1 (Nat.le_of_ble_eq_true rfl)) (rc_writesOf hs h10 (hwq t ht) ht) ?_
  refine RQ.blk 2 (pc' := 24) (lv' := [(2, .ref ((11 + 6 * t) + 1)), (0, .ref 1), (1, .int (nI t))]) (st' := [.ref ((11 + 6 * t) + 1)]) (H' := _) (kc' := 0) (ks' := 0) rfl ?_
  refine RQ.get (ci := 0) rfl hbA.1 rfl rfl ?_
  have hz : ¬ ((wss t).map pfx).length = 0 := by rw [List.length_map]; exact fun e => hw0 (List.eq_nil_of_length_eq_zero e)
  refine RQ.brT rfl rfl rfl (cT_ne (((wss t).map pfx).length) 0) ?_
  refine RQ.blk 3 (pc' := 43) (lv' := [(2, .ref ((11 + 6 * t) + 1)), (0, .ref 1), (1, .int (nI t))]) (st' := [.ref 1, .ref ((11 + 6 * t) + 1), .ref 1]) (H' := _) (kc' := 0) (ks' := 0) rfl ?_
  refine RQ.get (ci := 11) rfl h0 rfl rfl ?_
  refine RQ.blk 1 (pc' := 47) (lv' := [(2, .ref ((11 + 6 * t) + 1)), (0, .ref 1), (1, .int (nI t))]) (st' := [.int (nI t), .ref 8, .ref ((11 + 6 * t) + 1), .ref 1]) (H' := _) (kc' := 0) (ks' := 0) rfl ?_
  refine RQ.call (v := some (.int (nI (sm t)))) (st' := [.ref ((11 + 6 * t) + 1), .ref 1]) rfl rfl rfl rfl rfl rfl (args_v [.int (nI t)] [.ref ((11 + 6 * t) + 1), .ref 1] rfl rfl (Nat.le_of_ble_eq_true rfl) rfl hs.1 (Nat.le_of_ble_eq_true rfl)) (rc_momentOf hs ht hop) ?_
  have hsmt := hsm t ht
  refine RQ.call (v := some (.int (if (wss t).any (fun e => colV vs P (sm t) e.1) = true then 1 else 0))) (st' := []) rfl rfl rfl rfl rfl rfl (args_v [.int (nI (sm t)), .ref ((11 + 6 * t) + 1)] [] rfl rfl (Nat.le_of_ble_eq_true rfl) rfl h0 (Nat.le_of_ble_eq_true rfl)) (rc_collides (p := P) h0 hA hVW hvs hpr hbA hbk hbL (by omega)) ?_
  rw [hcol]
  rw [if_neg (by decide)]
  refine RQ.brT rfl rfl rfl (by decide) ?_
  refine RQ.blk 3 (pc' := 74) (lv' := [(2, .ref ((11 + 6 * t) + 1)), (0, .ref 1), (1, .int (nI t))]) (st' := [.int (nI t), .ref ((11 + 6 * t) + 1), .ref 1]) (H' := _) (kc' := 0) (ks' := 0) rfl ?_
  refine RQ.call (v := none) (st' := []) rfl rfl rfl rfl rfl rfl (args_v [.int (nI t), .ref ((11 + 6 * t) + 1)] [] rfl rfl (Nat.le_of_ble_eq_true rfl) rfl h0 (Nat.le_of_ble_eq_true rfl)) (rc_reqRoom h0 hA hVW hvs hbA hbk hbL hs (fun t ht => Nat.lt_trans (hsm t ht) (by decide)) (fun i hi => by obtain ⟨e, he⟩ := lt_get hi; rw [(hbL i e he).2.1]; obtain ⟨e2, -, e3⟩ := List.mem_map.mp (List.mem_of_getElem? he); rw [← e3]; exact Nat.succ_le_succ (Nat.zero_le _)) h1W hpr (by omega) hB hle) ?_
  refine RQ.blk 2 (pc' := 79) (lv' := [(2, .ref ((11 + 6 * t) + 1)), (0, .ref 1), (1, .int (nI t))]) (st' := [.ref ((11 + 6 * t) + 1), .ref 1]) (H' := _) (kc' := 0) (ks' := 0) rfl ?_
  refine RQ.get (ci := 0) rfl hbA.1 rfl rfl ?_
  refine RQ.blk 2 (pc' := 84) (lv' := [(2, .ref ((11 + 6 * t) + 1)), (0, .ref 1), (1, .int (nI t))]) (st' := [.int (nI (((wss t).map pfx).length) + 1), .ref 1]) (H' := _) (kc' := 0) (ks' := 0) rfl ?_
  rw [show (nI (((wss t).map pfx).length) + 1 : Int32) = nI (((wss t).map pfx).length + 1) from nI_add (((wss t).map pfx).length) 1]
  refine RQ.call (v := none) (st' := []) rfl rfl rfl rfl rfl rfl (args_v [.int (nI (((wss t).map pfx).length + 1))] [] rfl rfl (Nat.le_of_ble_eq_true rfl) rfl h0 (Nat.le_of_ble_eq_true rfl)) (rc_armCut0 h0) ?_
  refine RQ.blk 2 (pc' := 89) (lv' := [(2, .ref ((11 + 6 * t) + 1)), (0, .ref 1), (1, .int (nI t))]) (st' := [.ref 1, .ref 1]) (H' := _) (kc' := 0) (ks' := 0) rfl ?_
  refine RQ.callB (st' := [.ref 1]) rfl rfl rfl rfl rfl rfl (args_v [] [.ref 1] rfl rfl (Nat.le_of_ble_eq_true rfl) rfl h0 (Nat.le_of_ble_eq_true rfl)) hRM (fun H2 hH2 => ?_) (fun H2 hH2 => False.elim hH2)
  · have g1 := hf1 H2 hH2
    refine RQ.brF rfl rfl rfl (by decide) ?_
    refine RQ.blk 2 (pc' := 97) (lv' := [(2, .ref ((11 + 6 * t) + 1)), (0, .ref 1), (1, .int (nI t))]) (st' := [.ref ((11 + 6 * t) + 1), .ref 1, .ref 1]) (H' := _) (kc' := 0) (ks' := 0) rfl ?_
    refine RQ.callB (st' := [.ref 1]) rfl rfl rfl rfl rfl rfl (args_v [.ref ((11 + 6 * t) + 1)] [.ref 1] rfl rfl (Nat.le_of_ble_eq_true rfl) rfl g1 (Nat.le_of_ble_eq_true rfl)) (hST H2 hH2) (fun H3 hH3 => ?_) (fun H3 hH3 => False.elim hH3)
    · have g2 := hf2 H3 hH3
      refine RQ.brF rfl rfl rfl (by decide) ?_
      refine RQ.blk 2 (pc' := 108) (lv' := [(2, .ref ((11 + 6 * t) + 1)), (0, .ref 1), (1, .int (nI t))]) (st' := [.int 1, .ref 1]) (H' := _) (kc' := 0) (ks' := 0) rfl ?_
      refine RQ.callN (st' := []) rfl rfl rfl rfl rfl rfl (args_v [.int 1] [] rfl rfl (Nat.le_of_ble_eq_true rfl) rfl g2 (Nat.le_of_ble_eq_true rfl)) (hSE H3 hH3) (fun H4 hH4 => ?_)
      have g3 := hf3 H4 hH4
      refine RQ.blk 1 (pc' := 112) (lv' := [(2, .ref ((11 + 6 * t) + 1)), (0, .ref 1), (1, .int (nI t))]) (st' := [.ref 1]) (H' := _) (kc' := 0) (ks' := 0) rfl ?_
      refine RQ.get (ci := 11) rfl g3 rfl rfl ?_
      refine RQ.blk 1 (pc' := 116) (lv' := [(2, .ref ((11 + 6 * t) + 1)), (0, .ref 1), (1, .int (nI t))]) (st' := [.int (nI t), .ref 8]) (H' := _) (kc' := 0) (ks' := 0) rfl ?_
      refine RQ.callN (st' := []) rfl rfl rfl rfl rfl rfl (args_v [.int (nI t)] [] rfl rfl (Nat.le_of_ble_eq_true rfl) rfl (hf7 H4 hH4) (Nat.le_of_ble_eq_true rfl)) (hCL H4 hH4) (fun H5 hH5 => ?_)
      have g4 := hf4 H5 hH5
      refine RQ.blk 2 (pc' := 121) (lv' := [(2, .ref ((11 + 6 * t) + 1)), (0, .ref 1), (1, .int (nI t))]) (st' := [.ref ((11 + 6 * t) + 1), .ref 1]) (H' := _) (kc' := 0) (ks' := 0) rfl ?_
      refine RQ.callN (st' := []) rfl rfl rfl rfl rfl rfl (args_v [.ref ((11 + 6 * t) + 1)] [] rfl rfl (Nat.le_of_ble_eq_true rfl) rfl g4 (Nat.le_of_ble_eq_true rfl)) (hIN H5 hH5) (fun H6 hH6 => ?_)
      have g5 := hf5 H6 hH6
      refine RQ.blk 1 (pc' := 125) (lv' := [(2, .ref ((11 + 6 * t) + 1)), (0, .ref 1), (1, .int (nI t))]) (st' := [.ref 1]) (H' := _) (kc' := 0) (ks' := 0) rfl ?_
      refine RQ.get (ci := 11) rfl g5 rfl rfl ?_
      exact RQ.done (c := 0) (s := 0) rfl rfl rfl rfl ⟨_, _, rfl, rfl, hH6⟩
set_option maxRecDepth 20000 in
theorem rx_commit_late {sc : Nat × (Nat → Int32)} {d : Nat} {H : aH} {B P : Nat}  {cp cb : Nat} {tb : Nat → Int8} {l : Nat} {g : Nat → Int8} {rl : Nat} {wss : Nat → List aE} {t0 : aTr} {t N : Nat} {op : Nat → Bool} {sm : Nat → Nat} {vs : List aV} {ok1 ok2 fin : aH → Prop} (h : ClsA H B P 1 1 1 cp cb tb l g rl wss t0) (hs : SightAt H op sm) (hsm : ∀ t, t < 8 → sm t < 2 ^ 30) (hV : VersIs H N vs) (hpr : ∀ v ∈ vs, v.2.1 ≤ P) (ht : t < 8) (hop : op t = true) (hw0 : ¬ wss t = []) (hcol : ((wss t).any (fun e => colV vs P (sm t) e.1)) = false) (h1W : OneW ((wss t).map pfx)) (hP : P + 1 < 2 ^ 30) (hB : B ≤ 128) (hle : sumN op sm (nI t) (P + 1) (kmV (inclV (P + 1) (fun _ => 0) 0 ((wss t).map pfx) vs)) (inclV (P + 1) (fun _ => 0) 0 ((wss t).map pfx) vs) ≤ B * 256) (hRM : RB sc (d + 7) mr_96 [.ref 1] H ok1 (fun _ => False)) (hST : ∀ H', ok1 H' → RB sc (d + 7) mr_150 [.ref 1, .ref (11 + 6 * t + 1)] H' ok2 (fun _ => False)) (hSE : ∀ H', ok2 H' → RX sc (d + 7) mr_153 [.ref 1, .int 1] H' 1 fin) (hf1 : ∀ H', ok1 H' → H'[0]? = some (kO 11 (fvs (nI B) (nI P) 1 1 1 (nI cp) (nI cb)))) (hf2 : ∀ H', ok2 H' → H'[0]? = some (kO 11 (fvs (nI B) (nI P) 1 1 1 (nI cp) (nI cb)))) : RX sc (d + 8) mr_77 [.ref 1, .int (nI t)] H 1 (fun H' => fin H') := by
  obtain ⟨h0, h1, h2, h3, h4, ⟨q5, p6, h5, h6⟩, ⟨wq, h10, hwq⟩, hW, hCh, hT⟩ := id h
  obtain ⟨D, Sx, K, E, hbA, hbL, hb40, hb41⟩ := (hW t ht).1
  have hbk := hbL.ok hb40 hb41
  obtain ⟨kf, kl, mo, pl, le, al, od, sp, sz, ss, ac, hA, hVW, hvs⟩ := id hV
  refine RX.of ?_
  refine RQ.blk 2 (pc' := 2) (lv' := [(0, .ref 1), (1, .int (nI t))]) (st' := [.int (nI t), .ref 1]) (H' := _) (kc' := 0) (ks' := 0) rfl ?_
  refine RQ.call (v := none) (st' := []) rfl rfl rfl rfl rfl rfl (args_v [.int (nI t)] [] rfl rfl (Nat.le_of_ble_eq_true rfl) rfl h0 (Nat.le_of_ble_eq_true rfl)) (rc_reqTx h0 ht) ?_
  refine RQ.blk 1 (pc' := 6) (lv' := [(0, .ref 1), (1, .int (nI t))]) (st' := [.ref 1]) (H' := _) (kc' := 0) (ks' := 0) rfl ?_
  refine RQ.call (v := none) (st' := []) rfl rfl rfl rfl rfl rfl (args_v [] [] rfl rfl (Nat.le_of_ble_eq_true rfl) rfl h0 (Nat.le_of_ble_eq_true rfl)) (rc_up h0 rfl) ?_
  refine RQ.blk 2 (pc' := 11) (lv' := [(0, .ref 1), (1, .int (nI t))]) (st' := [.int (nI t), .ref 1]) (H' := _) (kc' := 0) (ks' := 0) rfl ?_
  refine RQ.call (v := none) (st' := []) rfl rfl rfl rfl rfl rfl (args_v [.int (nI t)] [] rfl rfl (Nat.le_of_ble_eq_true rfl) rfl h0 (Nat.le_of_ble_eq_true rfl)) (rc_reqOpen h0 hs ht hop) ?_
  refine RQ.blk 1 (pc' := 15) (lv' := [(0, .ref 1), (1, .int (nI t))]) (st' := [.ref 1]) (H' := _) (kc' := 0) (ks' := 0) rfl ?_
  refine RQ.get (ci := 11) rfl h0 rfl rfl ?_
  refine RQ.blk 1 (pc' := 19) (lv' := [(0, .ref 1), (1, .int (nI t))]) (st' := [.int (nI t), .ref 8]) (H' := _) (kc' := 0) (ks' := 0) rfl ?_
  refine RQ.call (v := some (.ref ((11 + 6 * t) + 1))) (st' := []) rfl rfl rfl rfl rfl rfl (args_v [.int (nI t)] [] rfl rfl (Nat.le_of_ble_eq_true rfl) rfl hs.1 (Nat.le_of_ble_eq_true rfl)) (rc_writesOf hs h10 (hwq t ht) ht) ?_
  refine RQ.blk 2 (pc' := 24) (lv' := [(2, .ref ((11 + 6 * t) + 1)), (0, .ref 1), (1, .int (nI t))]) (st' := [.ref ((11 + 6 * t) + 1)]) (H' := _) (kc' := 0) (ks' := 0) rfl ?_
  refine RQ.get (ci := 0) rfl hbA.1 rfl rfl ?_
  have hz : ¬ ((wss t).map pfx).length = 0 := by rw [List.length_map]; exact fun e => hw0 (List.eq_nil_of_length_eq_zero e)
  refine RQ.brT rfl rfl rfl (cT_ne (((wss t).map pfx).length) 0) ?_
  refine RQ.blk 3 (pc' := 43) (lv' := [(2, .ref ((11 + 6 * t) + 1)), (0, .ref 1), (1, .int (nI t))]) (st' := [.ref 1, .ref ((11 + 6 * t) + 1), .ref 1]) (H' := _) (kc' := 0) (ks' := 0) rfl ?_
  refine RQ.get (ci := 11) rfl h0 rfl rfl ?_
  refine RQ.blk 1 (pc' := 47) (lv' := [(2, .ref ((11 + 6 * t) + 1)), (0, .ref 1), (1, .int (nI t))]) (st' := [.int (nI t), .ref 8, .ref ((11 + 6 * t) + 1), .ref 1]) (H' := _) (kc' := 0) (ks' := 0) rfl ?_
  refine RQ.call (v := some (.int (nI (sm t)))) (st' := [.ref ((11 + 6 * t) + 1), .ref 1]) rfl rfl rfl rfl rfl rfl (args_v [.int (nI t)] [.ref ((11 + 6 * t) + 1), .ref 1] rfl rfl (Nat.le_of_ble_eq_true rfl) rfl hs.1 (Nat.le_of_ble_eq_true rfl)) (rc_momentOf hs ht hop) ?_
  have hsmt := hsm t ht
  refine RQ.call (v := some (.int (if (wss t).any (fun e => colV vs P (sm t) e.1) = true then 1 else 0))) (st' := []) rfl rfl rfl rfl rfl rfl (args_v [.int (nI (sm t)), .ref ((11 + 6 * t) + 1)] [] rfl rfl (Nat.le_of_ble_eq_true rfl) rfl h0 (Nat.le_of_ble_eq_true rfl)) (rc_collides (p := P) h0 hA hVW hvs hpr hbA hbk hbL (by omega)) ?_
  rw [hcol]
  rw [if_neg (by decide)]
  refine RQ.brT rfl rfl rfl (by decide) ?_
  refine RQ.blk 3 (pc' := 74) (lv' := [(2, .ref ((11 + 6 * t) + 1)), (0, .ref 1), (1, .int (nI t))]) (st' := [.int (nI t), .ref ((11 + 6 * t) + 1), .ref 1]) (H' := _) (kc' := 0) (ks' := 0) rfl ?_
  refine RQ.call (v := none) (st' := []) rfl rfl rfl rfl rfl rfl (args_v [.int (nI t), .ref ((11 + 6 * t) + 1)] [] rfl rfl (Nat.le_of_ble_eq_true rfl) rfl h0 (Nat.le_of_ble_eq_true rfl)) (rc_reqRoom h0 hA hVW hvs hbA hbk hbL hs (fun t ht => Nat.lt_trans (hsm t ht) (by decide)) (fun i hi => by obtain ⟨e, he⟩ := lt_get hi; rw [(hbL i e he).2.1]; obtain ⟨e2, -, e3⟩ := List.mem_map.mp (List.mem_of_getElem? he); rw [← e3]; exact Nat.succ_le_succ (Nat.zero_le _)) h1W hpr (by omega) hB hle) ?_
  refine RQ.blk 2 (pc' := 79) (lv' := [(2, .ref ((11 + 6 * t) + 1)), (0, .ref 1), (1, .int (nI t))]) (st' := [.ref ((11 + 6 * t) + 1), .ref 1]) (H' := _) (kc' := 0) (ks' := 0) rfl ?_
  refine RQ.get (ci := 0) rfl hbA.1 rfl rfl ?_
  refine RQ.blk 2 (pc' := 84) (lv' := [(2, .ref ((11 + 6 * t) + 1)), (0, .ref 1), (1, .int (nI t))]) (st' := [.int (nI (((wss t).map pfx).length) + 1), .ref 1]) (H' := _) (kc' := 0) (ks' := 0) rfl ?_
  rw [show (nI (((wss t).map pfx).length) + 1 : Int32) = nI (((wss t).map pfx).length + 1) from nI_add (((wss t).map pfx).length) 1]
  refine RQ.call (v := none) (st' := []) rfl rfl rfl rfl rfl rfl (args_v [.int (nI (((wss t).map pfx).length + 1))] [] rfl rfl (Nat.le_of_ble_eq_true rfl) rfl h0 (Nat.le_of_ble_eq_true rfl)) (rc_armCutL h0) ?_
  refine RQ.blk 2 (pc' := 89) (lv' := [(2, .ref ((11 + 6 * t) + 1)), (0, .ref 1), (1, .int (nI t))]) (st' := [.ref 1, .ref 1]) (H' := _) (kc' := 0) (ks' := 0) rfl ?_
  refine RQ.callB (st' := [.ref 1]) rfl rfl rfl rfl rfl rfl (args_v [] [.ref 1] rfl rfl (Nat.le_of_ble_eq_true rfl) rfl h0 (Nat.le_of_ble_eq_true rfl)) hRM (fun H2 hH2 => ?_) (fun H2 hH2 => False.elim hH2)
  · have g1 := hf1 H2 hH2
    refine RQ.brF rfl rfl rfl (by decide) ?_
    refine RQ.blk 2 (pc' := 97) (lv' := [(2, .ref ((11 + 6 * t) + 1)), (0, .ref 1), (1, .int (nI t))]) (st' := [.ref ((11 + 6 * t) + 1), .ref 1, .ref 1]) (H' := _) (kc' := 0) (ks' := 0) rfl ?_
    refine RQ.callB (st' := [.ref 1]) rfl rfl rfl rfl rfl rfl (args_v [.ref ((11 + 6 * t) + 1)] [.ref 1] rfl rfl (Nat.le_of_ble_eq_true rfl) rfl g1 (Nat.le_of_ble_eq_true rfl)) (hST H2 hH2) (fun H3 hH3 => ?_) (fun H3 hH3 => False.elim hH3)
    · have g2 := hf2 H3 hH3
      refine RQ.brF rfl rfl rfl (by decide) ?_
      refine RQ.blk 2 (pc' := 108) (lv' := [(2, .ref ((11 + 6 * t) + 1)), (0, .ref 1), (1, .int (nI t))]) (st' := [.int 1, .ref 1]) (H' := _) (kc' := 0) (ks' := 0) rfl ?_
      obtain ⟨H4, hx4, hp4⟩ := hSE H3 hH3
      exact RQ.callP (st' := []) rfl rfl rfl rfl rfl rfl (args_v [.int 1] [] rfl rfl (Nat.le_of_ble_eq_true rfl) rfl g2 (Nat.le_of_ble_eq_true rfl)) hx4 rfl ⟨_, rfl, hp4⟩
set_option maxRecDepth 20000 in
theorem rx_commit_cut {sc : Nat × (Nat → Int32)} {d : Nat} {H : aH} {B P : Nat}  {cp cb : Nat} {tb : Nat → Int8} {l : Nat} {g : Nat → Int8} {rl : Nat} {wss : Nat → List aE} {t0 : aTr} {t N : Nat} {op : Nat → Bool} {sm : Nat → Nat} {vs : List aV} {ok1 bad fin : aH → Prop} {tf : Nat → Nat} {cf : Nat → Int8} {pq : Option Nat} {bb : Nat} (h : ClsA H B P 1 1 0 cp cb tb l g rl wss t0) (hs : SightAt H op sm) (hsm : ∀ t, t < 8 → sm t < 2 ^ 30) (hV : VersIs H N vs) (hpr : ∀ v ∈ vs, v.2.1 ≤ P) (ht : t < 8) (hop : op t = true) (hw0 : ¬ wss t = []) (hcol : ((wss t).any (fun e => colV vs P (sm t) e.1)) = false) (h1W : OneW ((wss t).map pfx)) (hP : P + 1 < 2 ^ 30) (hB : B ≤ 128) (hle : sumN op sm (nI t) (P + 1) (kmV (inclV (P + 1) (fun _ => 0) 0 ((wss t).map pfx) vs)) (inclV (P + 1) (fun _ => 0) 0 ((wss t).map pfx) vs) ≤ B * 256) (hC : ChipAt H B cf tf pq bb 0) (hcp : cp < 2 ^ 31) (hRM : RB sc (d + 7) mr_96 [.ref 1] (H.set 71 (kO 1 [.ref 73, .ref 74, .int (lI (some (cp % (((wss t).map pfx).length + 1)))), .int (nI cb), .int (nI 0)])) ok1 bad) (hST : ∀ H', ok1 H' → RB sc (d + 7) mr_150 [.ref 1, .ref (11 + 6 * t + 1)] H' (fun _ => False) bad) (hSB : ∀ H', bad H' → RX sc (d + 7) mr_153 [.ref 1, .int 0] H' 1 fin) (hf1 : ∀ H', ok1 H' → H'[0]? = some (kO 11 (fvs (nI B) (nI P) 1 1 0 (nI cp) (nI cb)))) (hfb : ∀ H', bad H' → H'[0]? = some (kO 11 (fvs (nI B) (nI P) 1 1 0 (nI cp) (nI cb)))) : RX2 sc (d + 8) mr_77 [.ref 1, .int (nI t)] H 1 (fun H' => fin H') := by
  obtain ⟨h0, h1, h2, h3, h4, ⟨q5, p6, h5, h6⟩, ⟨wq, h10, hwq⟩, hW, hCh, hT⟩ := id h
  obtain ⟨D, Sx, K, E, hbA, hbL, hb40, hb41⟩ := (hW t ht).1
  have hbk := hbL.ok hb40 hb41
  obtain ⟨kf, kl, mo, pl, le, al, od, sp, sz, ss, ac, hA, hVW, hvs⟩ := id hV
  refine RX2.of ?_
  refine RQ.blk 2 (pc' := 2) (lv' := [(0, .ref 1), (1, .int (nI t))]) (st' := [.int (nI t), .ref 1]) (H' := _) (kc' := 0) (ks' := 0) rfl ?_
  refine RQ.call (v := none) (st' := []) rfl rfl rfl rfl rfl rfl (args_v [.int (nI t)] [] rfl rfl (Nat.le_of_ble_eq_true rfl) rfl h0 (Nat.le_of_ble_eq_true rfl)) (rc_reqTx h0 ht) ?_
  refine RQ.blk 1 (pc' := 6) (lv' := [(0, .ref 1), (1, .int (nI t))]) (st' := [.ref 1]) (H' := _) (kc' := 0) (ks' := 0) rfl ?_
  refine RQ.call (v := none) (st' := []) rfl rfl rfl rfl rfl rfl (args_v [] [] rfl rfl (Nat.le_of_ble_eq_true rfl) rfl h0 (Nat.le_of_ble_eq_true rfl)) (rc_up h0 rfl) ?_
  refine RQ.blk 2 (pc' := 11) (lv' := [(0, .ref 1), (1, .int (nI t))]) (st' := [.int (nI t), .ref 1]) (H' := _) (kc' := 0) (ks' := 0) rfl ?_
  refine RQ.call (v := none) (st' := []) rfl rfl rfl rfl rfl rfl (args_v [.int (nI t)] [] rfl rfl (Nat.le_of_ble_eq_true rfl) rfl h0 (Nat.le_of_ble_eq_true rfl)) (rc_reqOpen h0 hs ht hop) ?_
  refine RQ.blk 1 (pc' := 15) (lv' := [(0, .ref 1), (1, .int (nI t))]) (st' := [.ref 1]) (H' := _) (kc' := 0) (ks' := 0) rfl ?_
  refine RQ.get (ci := 11) rfl h0 rfl rfl ?_
  refine RQ.blk 1 (pc' := 19) (lv' := [(0, .ref 1), (1, .int (nI t))]) (st' := [.int (nI t), .ref 8]) (H' := _) (kc' := 0) (ks' := 0) rfl ?_
  refine RQ.call (v := some (.ref ((11 + 6 * t) + 1))) (st' := []) rfl rfl rfl rfl rfl rfl (args_v [.int (nI t)] [] rfl rfl (Nat.le_of_ble_eq_true rfl) rfl hs.1 (Nat.le_of_ble_eq_true rfl)) (rc_writesOf hs h10 (hwq t ht) ht) ?_
  refine RQ.blk 2 (pc' := 24) (lv' := [(2, .ref ((11 + 6 * t) + 1)), (0, .ref 1), (1, .int (nI t))]) (st' := [.ref ((11 + 6 * t) + 1)]) (H' := _) (kc' := 0) (ks' := 0) rfl ?_
  refine RQ.get (ci := 0) rfl hbA.1 rfl rfl ?_
  have hz : ¬ ((wss t).map pfx).length = 0 := by rw [List.length_map]; exact fun e => hw0 (List.eq_nil_of_length_eq_zero e)
  refine RQ.brT rfl rfl rfl (cT_ne (((wss t).map pfx).length) 0) ?_
  refine RQ.blk 3 (pc' := 43) (lv' := [(2, .ref ((11 + 6 * t) + 1)), (0, .ref 1), (1, .int (nI t))]) (st' := [.ref 1, .ref ((11 + 6 * t) + 1), .ref 1]) (H' := _) (kc' := 0) (ks' := 0) rfl ?_
  refine RQ.get (ci := 11) rfl h0 rfl rfl ?_
  refine RQ.blk 1 (pc' := 47) (lv' := [(2, .ref ((11 + 6 * t) + 1)), (0, .ref 1), (1, .int (nI t))]) (st' := [.int (nI t), .ref 8, .ref ((11 + 6 * t) + 1), .ref 1]) (H' := _) (kc' := 0) (ks' := 0) rfl ?_
  refine RQ.call (v := some (.int (nI (sm t)))) (st' := [.ref ((11 + 6 * t) + 1), .ref 1]) rfl rfl rfl rfl rfl rfl (args_v [.int (nI t)] [.ref ((11 + 6 * t) + 1), .ref 1] rfl rfl (Nat.le_of_ble_eq_true rfl) rfl hs.1 (Nat.le_of_ble_eq_true rfl)) (rc_momentOf hs ht hop) ?_
  have hsmt := hsm t ht
  refine RQ.call (v := some (.int (if (wss t).any (fun e => colV vs P (sm t) e.1) = true then 1 else 0))) (st' := []) rfl rfl rfl rfl rfl rfl (args_v [.int (nI (sm t)), .ref ((11 + 6 * t) + 1)] [] rfl rfl (Nat.le_of_ble_eq_true rfl) rfl h0 (Nat.le_of_ble_eq_true rfl)) (rc_collides (p := P) h0 hA hVW hvs hpr hbA hbk hbL (by omega)) ?_
  rw [hcol]
  rw [if_neg (by decide)]
  refine RQ.brT rfl rfl rfl (by decide) ?_
  refine RQ.blk 3 (pc' := 74) (lv' := [(2, .ref ((11 + 6 * t) + 1)), (0, .ref 1), (1, .int (nI t))]) (st' := [.int (nI t), .ref ((11 + 6 * t) + 1), .ref 1]) (H' := _) (kc' := 0) (ks' := 0) rfl ?_
  refine RQ.call (v := none) (st' := []) rfl rfl rfl rfl rfl rfl (args_v [.int (nI t), .ref ((11 + 6 * t) + 1)] [] rfl rfl (Nat.le_of_ble_eq_true rfl) rfl h0 (Nat.le_of_ble_eq_true rfl)) (rc_reqRoom h0 hA hVW hvs hbA hbk hbL hs (fun t ht => Nat.lt_trans (hsm t ht) (by decide)) (fun i hi => by obtain ⟨e, he⟩ := lt_get hi; rw [(hbL i e he).2.1]; obtain ⟨e2, -, e3⟩ := List.mem_map.mp (List.mem_of_getElem? he); rw [← e3]; exact Nat.succ_le_succ (Nat.zero_le _)) h1W hpr (by omega) hB hle) ?_
  refine RQ.blk 2 (pc' := 79) (lv' := [(2, .ref ((11 + 6 * t) + 1)), (0, .ref 1), (1, .int (nI t))]) (st' := [.ref ((11 + 6 * t) + 1), .ref 1]) (H' := _) (kc' := 0) (ks' := 0) rfl ?_
  refine RQ.get (ci := 0) rfl hbA.1 rfl rfl ?_
  refine RQ.blk 2 (pc' := 84) (lv' := [(2, .ref ((11 + 6 * t) + 1)), (0, .ref 1), (1, .int (nI t))]) (st' := [.int (nI (((wss t).map pfx).length) + 1), .ref 1]) (H' := _) (kc' := 0) (ks' := 0) rfl ?_
  rw [show (nI (((wss t).map pfx).length) + 1 : Int32) = nI (((wss t).map pfx).length + 1) from nI_add (((wss t).map pfx).length) 1]
  refine RQ.call (v := none) (st' := []) rfl rfl rfl rfl rfl rfl (args_v [.int (nI (((wss t).map pfx).length + 1))] [] rfl rfl (Nat.le_of_ble_eq_true rfl) rfl h0 (Nat.le_of_ble_eq_true rfl)) (rc_armCutM (n := ((wss t).map pfx).length + 1) h0 hC (by omega) (by omega) hcp) ?_
  refine RQ.blk 2 (pc' := 89) (lv' := [(2, .ref ((11 + 6 * t) + 1)), (0, .ref 1), (1, .int (nI t))]) (st' := [.ref 1, .ref 1]) (H' := _) (kc' := 0) (ks' := 0) rfl ?_
  generalize hH1 : (H.set 71 (kO 1 [.ref 73, .ref 74, .int (lI (some (cp % (((wss t).map pfx).length + 1)))), .int (nI cb), .int (nI 0)])) = H1 at hRM ⊢
  have g0 : H1[0]? = some (kO 11 (fvs (nI B) (nI P) 1 1 0 (nI cp) (nI cb))) := by rw [← hH1]; exact (set_far (by decide)).trans h0
  refine RQ.callB (st' := [.ref 1]) rfl rfl rfl rfl rfl rfl (args_v [] [.ref 1] rfl rfl (Nat.le_of_ble_eq_true rfl) rfl g0 (Nat.le_of_ble_eq_true rfl)) hRM (fun H2 hH2 => ?_) (fun H2 hH2 => ?_)
  · have g1 := hf1 H2 hH2
    refine RQ.brF rfl rfl rfl (by decide) ?_
    refine RQ.blk 2 (pc' := 97) (lv' := [(2, .ref ((11 + 6 * t) + 1)), (0, .ref 1), (1, .int (nI t))]) (st' := [.ref ((11 + 6 * t) + 1), .ref 1, .ref 1]) (H' := _) (kc' := 0) (ks' := 0) rfl ?_
    refine RQ.callB (st' := [.ref 1]) rfl rfl rfl rfl rfl rfl (args_v [.ref ((11 + 6 * t) + 1)] [.ref 1] rfl rfl (Nat.le_of_ble_eq_true rfl) rfl g1 (Nat.le_of_ble_eq_true rfl)) (hST H2 hH2) (fun H3 hH3 => ?_) (fun H3 hH3 => ?_)
    · exact hH3.elim
    · have g2 := hfb H3 hH3
      refine RQ.brT rfl rfl rfl (by decide) ?_
      refine RQ.blk 1 (pc' := 108) (lv' := [(2, .ref ((11 + 6 * t) + 1)), (0, .ref 1), (1, .int (nI t))]) (st' := [.int 0, .ref 1]) (H' := _) (kc' := 0 + 1) (ks' := 0 + 6) rfl ?_
      obtain ⟨H4, hx4, hp4⟩ := hSB H3 hH3
      exact RQ.callP (st' := []) rfl rfl rfl rfl rfl rfl (args_v [.int 0] [] rfl rfl (Nat.le_of_ble_eq_true rfl) rfl g2 (Nat.le_of_ble_eq_true rfl)) hx4 rfl ⟨_, rfl, hp4⟩
  · have g1 := hfb H2 hH2
    refine RQ.brT rfl rfl rfl (by decide) ?_
    refine RQ.blk 1 (pc' := 108) (lv' := [(2, .ref ((11 + 6 * t) + 1)), (0, .ref 1), (1, .int (nI t))]) (st' := [.int 0, .ref 1]) (H' := _) (kc' := 0 + 1) (ks' := 0 + 6) rfl ?_
    obtain ⟨H4, hx4, hp4⟩ := hSB H2 hH2
    exact RQ.callP (st' := []) rfl rfl rfl rfl rfl rfl (args_v [.int 0] [] rfl rfl (Nat.le_of_ble_eq_true rfl) rfl g1 (Nat.le_of_ble_eq_true rfl)) hx4 rfl ⟨_, rfl, hp4⟩
