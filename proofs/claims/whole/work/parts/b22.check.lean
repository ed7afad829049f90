/-! ===== check; class; written by wip/gen/cls5.py ===== -/
set_option maxRecDepth 20000 in
theorem ri_check {ky : List (List Nat)} {sc : Nat × (Nat → Int32)} {d : Nat} {H : aH} {B P : Nat} {cw cl : Int32} {cp cb : Nat} {tb : Nat → Int8} {l : Nat} {g : Nat → Int8} {rl : Nat} {wss : Nat → List aE} {t : aTr} {N bb S : Nat} {op : Nat → Bool} {sm : Nat → Nat} {lgs : List Nat} {fr ff : Nat} {wr : Bool} {tp : Nat} {rs : List aR} {us : Nat → Bool} {c : Nat → Int8} {P1 : Nat} {gs : List aSg} {vs : List aV} {tss : List (List aT)} {L : List aCh} (h : ClsA H B P 1 cw cl cp cb tb l g rl wss t) (hk : TreeOk t.1 t.2.1 t.2.2.1 t.2.2.2.1) (hU : UpS H B N bb S op sm lgs fr ff wr tp rs us c P1 gs vs) (hSt : StW ky B P P1 rs gs c vs tss L) (hup : ∀ v, 1 ≤ v → v ≤ 200 → ¬ t.1 v = 0 → t.1 (t.2.1 v) = 2 ∧ upF t.2.1 0 201 v = 0) (hno : ndN vs = t.2.2.2.2.2) (hno2 : t.2.2.2.2.2 ≤ 200) (hB : B ≤ 128) (hP : P < 2 ^ 30) : RI sc (d + 8) mr_202 [.ref 1] H (fun x H' => x = nI (keysV P (kmV vs) vs + t.2.2.2.2.2) ∧ ClsA H' B P 1 cw cl cp cb tb l g rl wss t ∧ UpS H' B N bb S op sm lgs fr ff wr tp rs us c P1 gs vs ∧ ∀ a, 195 ≤ a → H'[a]? = H[a]?) := by
  obtain ⟨h0, h1, h2, h3, h4, ⟨q5, p6, h5, h6⟩, ⟨wq, h10, hwq⟩, hW, hCh, hT⟩ := id h
  obtain ⟨hD, hO, hus, hF, htp, hff, hV, hRX, hs, hAx⟩ := id hU
  obtain ⟨w1, w2, w3, w4, w5, w6, w7, w8, w9⟩ := id hSt
  obtain ⟨A1, ⟨lm, bf, A2, A3⟩, A4, A5, A6, ⟨cu, A7, A7'⟩, A8, A9, A10⟩ := id hAx
  obtain ⟨tf, pq, ms, mt, sq, tu, d1, d2, d3, d4, d5, d6, d7, d8, d9, d10, d11⟩ := id hD
  obtain ⟨lg, pi, hY, hlg, hlc, hRs⟩ := id d1
  obtain ⟨kf, kl, mo, pl, le, al, od, sp, sz, ss, ac, hA, hVW, hvs⟩ := id hV
  have hrec := recs_ok hlg hO hRX w7 hP
  have hlgB : ∀ j, j < lgs.length → lg j < 2 ^ 30 := fun j hj => by
    obtain ⟨b, hb⟩ := lt_get hj
    rw [hlg j b hb]
    have := (hO.1 b (List.mem_of_getElem? hb)).2
    omega
  refine RI.of ?_
  refine RQ.blk 1 (pc' := 1) (lv' := [(0, .ref 1)]) (st' := [.ref 1]) (H' := _) (kc' := 0) (ks' := 0) rfl ?_
  refine RQ.call (v := none) (st' := []) rfl rfl rfl rfl rfl rfl (args_v [] [] rfl rfl (Nat.le_of_ble_eq_true rfl) rfl h0 (Nat.le_of_ble_eq_true rfl)) (rc_up h0 rfl) ?_
  refine RQ.blk 1 (pc' := 5) (lv' := [(0, .ref 1)]) (st' := [.ref 1]) (H' := _) (kc' := 0) (ks' := 0) rfl ?_
  refine RQ.get (ci := 11) rfl h0 rfl rfl ?_
  refine RQ.call (v := some (.int 1)) (st' := []) rfl rfl rfl rfl rfl rfl (args_v [] [] rfl rfl (Nat.le_of_ble_eq_true rfl) rfl hY.1 (Nat.le_of_ble_eq_true rfl)) (rc_laySound d1 hB (fun x hx => by have := (hO.1 x hx).2; omega) (fun x hx y hy => by have := ((hO.2.1 x hx).2.2.2 y hy).2; omega) (uses_one hO hus)) ?_
  refine RQ.brF rfl rfl rfl (by decide) ?_
  refine RQ.blk 1 (pc' := 15) (lv' := [(0, .ref 1)]) (st' := [.ref 1]) (H' := _) (kc' := 0) (ks' := 0) rfl ?_
  refine RQ.get (ci := 11) rfl h0 rfl rfl ?_
  refine RQ.callI (st' := []) rfl rfl rfl rfl rfl rfl (args_v [] [] rfl rfl (Nat.le_of_ble_eq_true rfl) rfl A3 (Nat.le_of_ble_eq_true rfl)) (ri_tbSound d1 hB hA hVW hvs A3 A2 A9 A7 (A7' 0 (by decide)) (A8 0 (by decide)) d2 w1.1.symm (fun r x es hx hes => ⟨w1.2 r x es hx hes, w2 es (List.mem_of_getElem? hes)⟩) (cov_ok hSt hV.one) A10) (fun x2 H2 hx2 => ?_)
  obtain ⟨e2, z1, z2, ⟨lm2, z3, z4⟩, z5, z6⟩ := hx2
  rw [e2]
  have f2 : ∀ a, a < 136 ∨ 144 ≤ a ∨ a = 137 ∨ a = 140 → H2[a]? = H[a]? := fun a ha => z6 a (by omega)
  have hcuA : CursA H2 := fun cc hcc => by
    by_cases e0 : cc = 0
    · rw [e0]; exact z1
    · exact (A8 cc hcc).far (f2 _ (by omega)) (f2 _ (by omega))
  have hU2 : UpS H2 B N bb S op sm lgs fr ff wr tp rs us c P1 gs vs := ⟨hD.far (fun a ha => f2 a (by omega)), hO, hus, hF, htp, hff, hV.far (fun a a1 a2 => f2 a (by omega)), hRX, hs.far2 (fun a a1 a2 => f2 a (by omega)), (f2 190 (by decide)).trans A1, ⟨lm2, bf, z3, z4⟩, A4.imp (fun g hg => (f2 192 (by decide)).trans hg), A5.imp (fun g hg => (f2 193 (by decide)).trans hg), A6.imp (fun g hg => (f2 194 (by decide)).trans hg), ⟨cu, (f2 137 (by decide)).trans A7, A7'⟩, hcuA, z2, z5⟩
  have hc2 := h.far (H' := H2) (fun a a1 a2 => f2 a (by omega))
  have hA2 := hA.far (fun a a1 a2 => f2 a (by omega))
  have hT2 : TreeAt H2 t.1 t.2.1 t.2.2.1 t.2.2.2.1 t.2.2.2.2.1 t.2.2.2.2.2 := hc2.2.2.2.2.2.2.2.2.2
  refine RQ.brF rfl rfl rfl (by decide) ?_
  refine RQ.blk 1 (pc' := 25) (lv' := [(0, .ref 1)]) (st' := [.ref 1]) (H' := _) (kc' := 0) (ks' := 0) rfl ?_
  refine RQ.get (ci := 11) rfl hc2.1 rfl rfl ?_
  refine RQ.call (v := some (.int 1)) (st' := []) rfl rfl rfl rfl rfl rfl (args_v [] [] rfl rfl (Nat.le_of_ble_eq_true rfl) rfl ((f2 190 (by decide)).trans A1) (Nat.le_of_ble_eq_true rfl)) (rc_lgSound hA2 hVW hvs (d2.far (fun a a1 a2 => f2 a (by omega))) ⟨(f2 83 (by decide)).trans hY.1, (f2 86 (by decide)).trans hY.2.1, (f2 87 (by decide)).trans hY.2.2⟩ hB hlc hlgB ((f2 190 (by decide)).trans A1) hrec hF.1.2.1 (by omega) (fun v hv _ hb => fresh_ok hlg hO hF.1 hSt hv hb)) ?_
  refine RQ.brF rfl rfl rfl (by decide) ?_
  refine RQ.blk 1 (pc' := 35) (lv' := [(0, .ref 1)]) (st' := [.ref 1]) (H' := _) (kc' := 0) (ks' := 0) rfl ?_
  refine RQ.get (ci := 11) rfl hc2.1 rfl rfl ?_
  refine RQ.blk 1 (pc' := 39) (lv' := [(0, .ref 1)]) (st' := [.ref 1, .ref 66]) (H' := _) (kc' := 0) (ks' := 0) rfl ?_
  refine RQ.get (ci := 11) rfl hc2.1 rfl rfl ?_
  refine RQ.call (v := some (.int 1)) (st' := []) rfl rfl rfl rfl rfl rfl (args_v [.ref 75] [] rfl rfl (Nat.le_of_ble_eq_true rfl) rfl hT2.1 (Nat.le_of_ble_eq_true rfl)) (rc_trSound hA2 hVW hvs hT2 hk hup hno (by omega)) ?_
  refine RQ.brT rfl rfl rfl (by decide) ?_
  refine RQ.blk 1 (pc' := 51) (lv' := [(0, .ref 1)]) (st' := [.ref 1]) (H' := _) (kc' := 0) (ks' := 0) rfl ?_
  refine RQ.get (ci := 11) rfl hc2.1 rfl rfl ?_
  refine RQ.call (v := some (.int (nI (keysV P (kmV vs) vs)))) (st' := []) rfl rfl rfl rfl rfl rfl (args_v [] [] rfl rfl (Nat.le_of_ble_eq_true rfl) rfl hA2.1 (Nat.le_of_ble_eq_true rfl)) (rc_userKeysL hU2.2.2.2.2.2.2.1 (fun v hv => (w7 v hv).1)) ?_
  refine RQ.blk 1 (pc' := 58) (lv' := [(0, .ref 1)]) (st' := [.ref 1, .int (nI (keysV P (kmV vs) vs))]) (H' := _) (kc' := 0) (ks' := 0) rfl ?_
  refine RQ.get (ci := 11) rfl hc2.1 rfl rfl ?_
  refine RQ.get (ci := 9) rfl hT2.1 rfl rfl ?_
  refine RQ.blk 1 (pc' := 65) (lv' := [(0, .ref 1)]) (st' := [.int (nI (keysV P (kmV vs) vs) + nI t.2.2.2.2.2)]) (H' := _) (kc' := 0) (ks' := 0) rfl ?_
  rw [show (nI (keysV P (kmV vs) vs) + nI t.2.2.2.2.2 : Int32) = nI ((keysV P (kmV vs) vs) + t.2.2.2.2.2) from nI_add (keysV P (kmV vs) vs) t.2.2.2.2.2]
  exact RQ.done (c := 0) (s := 0) rfl rfl rfl rfl ⟨_, _, rfl, rfl, hc2, hU2, fun a ha => f2 a (by omega)⟩
set_option maxRecDepth 20000 in
theorem rx_check_down {sc : Nat × (Nat → Int32)} {d : Nat} {H : aH} {B P : Nat} {cw cl : Int32} {cp cb : Nat} {tb : Nat → Int8} {l : Nat} {g : Nat → Int8} {rl : Nat} {wss : Nat → List aE} {t : aTr}  (h : ClsA H B P 0 cw cl cp cb tb l g rl wss t)  : RX sc (d + 8) mr_202 [.ref 1] H 1 (fun H' => ClsA H' B P 0 cw cl cp cb tb l g rl wss t ∧ FrK H H') := by
  obtain ⟨h0, h1, h2, h3, h4, ⟨q5, p6, h5, h6⟩, ⟨wq, h10, hwq⟩, hW, hCh, hT⟩ := id h
  refine RX.of ?_
  refine RQ.blk 1 (pc' := 1) (lv' := [(0, .ref 1)]) (st' := [.ref 1]) (H' := _) (kc' := 0) (ks' := 0) rfl ?_
  exact RQ.callP (st' := []) rfl rfl rfl rfl rfl rfl (args_v [] [] rfl rfl (Nat.le_of_ble_eq_true rfl) rfl h0 (Nat.le_of_ble_eq_true rfl)) (rc_down h0 rfl) rfl ⟨_, rfl, h, FrK.rfl'⟩
