/-! ===== the class's own cells in one predicate; about, list; class; written by wip/gen/cls1.py ===== -/
/-- fields, tape, result, probe, writes, change, tree -/
def ClsA (H : aH) (B P : Nat) (up cw cl : Int32) (cp cb : Nat) (tb : Nat → Int8) (l : Nat) (g : Nat → Int8) (rl : Nat) (wss : Nat → List aE) (t : aTr) : Prop := H[0]? = some (kO 11 (fvs (nI B) (nI P) up cw cl (nI cp) (nI cb))) ∧ H[1]? = some (kO 5 [.ref 3, .int (nI l)]) ∧ H[2]? = some (kB 2000 tb) ∧ H[3]? = some (kO 5 [.ref 5, .int (nI rl)]) ∧ H[4]? = some (kB 1000 g) ∧ (∃ q p, H[5]? = some (kO 5 [.ref 7, .int (nI q)]) ∧ H[6]? = some (kB 41 p)) ∧ (∃ wq, H[10]? = some (kQ 4 8 wq) ∧ ∀ t, t < 8 → wq t = some (11 + 6 * t)) ∧ (∀ t, t < 8 → BatchIs H (11 + 6 * t) ((wss t).map pfx) ∧ ∃ Q : Nat → Nat, H[11 + 6 * t + 5]? = some (kI 40 (fun j => nI (Q j)))) ∧ ((∃ ws, BatchIs H 59 ws) ∧ ∃ Q : Nat → Nat, H[59 + 5]? = some (kI 40 (fun j => nI (Q j)))) ∧ TreeIs H t
/-- cells of sight and store, and of the reference -/
def FrK (H H' : aH) : Prop := ∀ a, (7 ≤ a ∧ a < 10) ∨ 71 ≤ a → H'[a]? = H[a]?
theorem FrK.rfl' {H : aH} : FrK H H := fun _ _ => rfl
theorem FrK.trans {H H1 H2 : aH} (h1 : FrK H H1) (h2 : FrK H1 H2) : FrK H H2 := fun a ha => (h2 a ha).trans (h1 a ha)
theorem BatchIs.keep {H H' : aH} {b : Nat} {ws : List aE} (h : BatchIs H b ws) (hs : ∀ a, b ≤ a → a < b + 5 → H'[a]? = H[a]?) : BatchIs H' b ws := by
  obtain ⟨D, S, K, E, h1, h2⟩ := h
  exact ⟨D, S, K, E, ⟨(hs _ (by omega) (by omega)).trans h1.1, (hs _ (by omega) (by omega)).trans h1.2.1, (hs _ (by omega) (by omega)).trans h1.2.2.1, (hs _ (by omega) (by omega)).trans h1.2.2.2.1, (hs _ (by omega) (by omega)).trans h1.2.2.2.2⟩, h2⟩
theorem TreeIs.far {H H' : aH} {t : aTr} (h : TreeIs H t) (hs : ∀ a, 65 ≤ a → a < 71 → H'[a]? = H[a]?) : TreeIs H' t := TreeAt.far h hs
theorem ClsA.far {H H' : aH} {B P : Nat} {up cw cl : Int32} {cp cb : Nat} {tb : Nat → Int8} {l : Nat} {g : Nat → Int8} {rl : Nat} {wss : Nat → List aE} {t : aTr} (h : ClsA H B P up cw cl cp cb tb l g rl wss t) (hs : ∀ a, a < 71 → ¬ (7 ≤ a ∧ a < 10) → H'[a]? = H[a]?) : ClsA H' B P up cw cl cp cb tb l g rl wss t := by
  obtain ⟨h0, h1, h2, h3, h4, ⟨q, p, h5, h6⟩, ⟨wq, h10, hwq⟩, hW, ⟨⟨ws, hC⟩, hQ⟩, hT⟩ := h
  exact ⟨(hs 0 (by decide) (by decide)).trans h0, (hs 1 (by decide) (by decide)).trans h1, (hs 2 (by decide) (by decide)).trans h2, (hs 3 (by decide) (by decide)).trans h3, (hs 4 (by decide) (by decide)).trans h4, ⟨q, p, (hs 5 (by decide) (by decide)).trans h5, (hs 6 (by decide) (by decide)).trans h6⟩, ⟨wq, (hs 10 (by decide) (by decide)).trans h10, hwq⟩, fun t ht => ⟨(hW t ht).1.keep (fun a a1 a2 => hs a (by omega) (by omega)), (hW t ht).2.imp (fun Q hQ => (hs _ (by omega) (by omega)).trans hQ)⟩, ⟨⟨ws, hC.keep (fun a a1 a2 => hs a (by omega) (by omega))⟩, hQ.imp (fun Q hQ => (hs _ (by decide) (by decide)).trans hQ)⟩, hT.far (fun a a1 a2 => hs a (by omega) (by omega))⟩
/-- all but the first cells stay -/
theorem ClsA.small {H H' : aH} {B P : Nat} {up cw cl : Int32} {cp cb : Nat} {tb : Nat → Int8} {l : Nat} {g : Nat → Int8} {rl : Nat} {wss : Nat → List aE} {t : aTr} (h : ClsA H B P up cw cl cp cb tb l g rl wss t) {P' : Nat} {up' cw' cl' : Int32} {cp' cb' : Nat} {tb' : Nat → Int8} {l' : Nat} {g' : Nat → Int8} {rl' : Nat} (h0 : H'[0]? = some (kO 11 (fvs (nI B) (nI P') up' cw' cl' (nI cp') (nI cb')))) (h1 : H'[1]? = some (kO 5 [.ref 3, .int (nI l')])) (h2 : H'[2]? = some (kB 2000 tb')) (h3 : H'[3]? = some (kO 5 [.ref 5, .int (nI rl')])) (h4 : H'[4]? = some (kB 1000 g')) (h5 : ∃ q p, H'[5]? = some (kO 5 [.ref 7, .int (nI q)]) ∧ H'[6]? = some (kB 41 p)) (hs : ∀ a, 10 ≤ a → a < 71 → H'[a]? = H[a]?) : ClsA H' B P' up' cw' cl' cp' cb' tb' l' g' rl' wss t := by
  obtain ⟨-, -, -, -, -, -, ⟨wq, h10, hwq⟩, hW, ⟨⟨ws, hC⟩, hQ⟩, hT⟩ := h
  exact ⟨h0, h1, h2, h3, h4, h5, ⟨wq, (hs 10 (by decide) (by decide)).trans h10, hwq⟩, fun t ht => ⟨(hW t ht).1.keep (fun a a1 a2 => hs a (by omega) (by omega)), (hW t ht).2.imp (fun Q hQ => (hs _ (by omega) (by omega)).trans hQ)⟩, ⟨⟨ws, hC.keep (fun a a1 a2 => hs a (by omega) (by omega))⟩, hQ.imp (fun Q hQ => (hs _ (by decide) (by decide)).trans hQ)⟩, hT.far (fun a a1 a2 => hs a (by omega) (by omega))⟩
/-- a call that throws -/
def RX (sc : Nat × (Nat → Int32)) (d : Nat) (M : aM) (av : List Value) (H : aH) (e : Nat) (P : aH → Prop) : Prop := ∃ H', RC sc d M av H (.inr e) H' 1 6 ∧ P H'
theorem RX.of {sc : Nat × (Nat → Int32)} {d : Nat} {M : aM} {av : List Value} {H : aH} {e : Nat} {P : aH → Prop} (h : RQ sc d M 0 (lv_args 0 av) [] H 0 0 (fun r => ∃ H', r = (.inr e, H', 1, 6) ∧ P H')) : RX sc d M av H e P := by
  obtain ⟨r, h1, H', e2, h3⟩ := h
  subst e2
  exact ⟨H', h1, h3⟩
theorem rk_le {P : Nat → Bool} : ∀ (n : Nat), rkF P n ≤ n
  | 0 => Nat.le_refl _
  | n + 1 => by
    have := rk_le (P := P) n
    rw [rkF]
    split <;> omega
theorem rc_ranked {sc : Nat × (Nat → Int32)} {n dd : Nat} {d : Nat} {H : aH} {kd pa sz nl : Nat → Nat} {nm : Nat → Int8} {no : Nat} (h : TreeAt H kd pa sz nl nm no) (hk : TreeOk kd pa sz nl) (hd : dd ≤ 200) (hn : n < 2 ^ 31) : RC sc (d + 4) mr_254 [.ref 66, .int (nI dd), .int (nI n)] H (.inl (some (.int (lI (fstF (lsP kd pa nl nm dd n) 1 200))))) H 0 0 := by
  refine RC.of ?_
  refine RQ.blk 2 (pc' := 2) (lv' := [(3, .int 1), (0, .ref 66), (1, .int (nI dd)), (2, .int (nI n))]) (st' := []) (H' := _) (kc' := 0) (ks' := 0) rfl ?_
  refine RQ.loopQ (pc := 2) (fun i => fstF (lsP kd pa nl nm dd n) (i + 1) (200 - i) = fstF (lsP kd pa nl nm dd n) 1 200) (fun i => [(3, .int (nI (i + 1))), (0, .ref 66), (1, .int (nI dd)), (2, .int (nI n))]) 200 (fun i hi h2 ih => ?_) (fun h2 => ?_) rfl
  · have hk_v := hk (i + 1) (by omega)
    have nx : (lsP kd pa nl nm dd n) (i + 1) = false → _ := fun e => ih (by rw [← h2, fstF_miss (by omega) e, show 200 - i - 1 = 200 - (i + 1) by omega])
    refine RQ.blk 2 (pc' := 6) (lv' := [(3, .int (nI (i + 1))), (0, .ref 66), (1, .int (nI dd)), (2, .int (nI n))]) (st' := [.int 200, .int (nI (i + 1))]) (H' := _) (kc' := 0) (ks' := 0) rfl ?_
    refine RQ.brF rfl rfl rfl (cF_gt (i + 1) 200) ?_
    refine RQ.blk 1 (pc' := 10) (lv' := [(3, .int (nI (i + 1))), (0, .ref 66), (1, .int (nI dd)), (2, .int (nI n))]) (st' := [.int (nI n)]) (H' := _) (kc' := 0) (ks' := 0) rfl ?_
    refine RQ.brF rfl rfl rfl (cF_lt n 0) ?_
    refine RQ.blk 3 (pc' := 16) (lv' := [(3, .int (nI (i + 1))), (0, .ref 66), (1, .int (nI dd)), (2, .int (nI n))]) (st' := [.int (nI dd), .int (nI (i + 1)), .ref 66]) (H' := _) (kc' := 0) (ks' := 0) rfl ?_
    refine RQ.call (v := some (.int (if inD kd pa dd (i + 1) then 1 else 0))) (st' := []) rfl rfl rfl rfl rfl rfl (args_v [.int (nI dd), .int (nI (i + 1))] [] rfl rfl (Nat.le_of_ble_eq_true rfl) rfl h.1 (Nat.le_of_ble_eq_true rfl)) (rc_isIn h hk (by omega) (by omega) hd) ?_
    cases hb : inD kd pa dd (i + 1) with
    | false =>
      refine RQ.brT rfl rfl rfl (by decide) ?_
      refine RQ.blk 1 (pc' := 37) (lv' := [(3, .int (nI (i + 1) + 1)), (0, .ref 66), (1, .int (nI dd)), (2, .int (nI n))]) (st' := []) (H' := _) (kc' := 0) (ks' := 0) rfl ?_
      rw [show (nI (i + 1) + 1 : Int32) = nI (i + 1 + 1) from nI_add (i + 1) 1]
      refine RQ.blk 1 (pc' := 2) (lv' := [(3, .int (nI (i + 1 + 1))), (0, .ref 66), (1, .int (nI dd)), (2, .int (nI n))]) (st' := []) (H' := _) (kc' := 0) (ks' := 0) rfl ?_
      exact nx (by unfold lsP; rw [hb]; rfl)
    | true =>
      have hr2 := rk_le (P := rkP kd pa nl nm (i + 1) dd) 200
      refine RQ.brF rfl rfl rfl (by decide) ?_
      refine RQ.blk 3 (pc' := 25) (lv' := [(3, .int (nI (i + 1))), (0, .ref 66), (1, .int (nI dd)), (2, .int (nI n))]) (st' := [.int (nI dd), .int (nI (i + 1)), .ref 66]) (H' := _) (kc' := 0) (ks' := 0) rfl ?_
      refine RQ.call (v := some (.int (nI (rkF (rkP kd pa nl nm (i + 1) dd) 200)))) (st' := []) rfl rfl rfl rfl rfl rfl (args_v [.int (nI dd), .int (nI (i + 1))] [] rfl rfl (Nat.le_of_ble_eq_true rfl) rfl h.1 (Nat.le_of_ble_eq_true rfl)) (rc_rankOf h hk (by omega) hd) ?_
      refine RQ.blk 1 (pc' := 29) (lv' := [(3, .int (nI (i + 1))), (0, .ref 66), (1, .int (nI dd)), (2, .int (nI n))]) (st' := [.int (nI n), .int (nI (rkF (rkP kd pa nl nm (i + 1) dd) 200))]) (H' := _) (kc' := 0) (ks' := 0) rfl ?_
      by_cases hl : rkF (rkP kd pa nl nm (i + 1) dd) 200 = n
      · rw [← h2, fstF_hit (by omega) (show (lsP kd pa nl nm dd n) (i + 1) = true by unfold lsP; rw [hb, decide_eq_true hl]; rfl)]
        refine RQ.brF rfl rfl rfl (cF_ne (rkF (rkP kd pa nl nm (i + 1) dd) 200) n) ?_
        refine RQ.blk 1 (pc' := 33) (lv' := [(3, .int (nI (i + 1))), (0, .ref 66), (1, .int (nI dd)), (2, .int (nI n))]) (st' := [.int (nI (i + 1))]) (H' := _) (kc' := 0) (ks' := 0) rfl ?_
        exact RQ.done (c := 0) (s := 0) rfl rfl rfl rfl rfl
      ·
        refine RQ.brT rfl rfl rfl (cT_ne (rkF (rkP kd pa nl nm (i + 1) dd) 200) n) ?_
        refine RQ.blk 1 (pc' := 37) (lv' := [(3, .int (nI (i + 1) + 1)), (0, .ref 66), (1, .int (nI dd)), (2, .int (nI n))]) (st' := []) (H' := _) (kc' := 0) (ks' := 0) rfl ?_
        rw [show (nI (i + 1) + 1 : Int32) = nI (i + 1 + 1) from nI_add (i + 1) 1]
        refine RQ.blk 1 (pc' := 2) (lv' := [(3, .int (nI (i + 1 + 1))), (0, .ref 66), (1, .int (nI dd)), (2, .int (nI n))]) (st' := []) (H' := _) (kc' := 0) (ks' := 0) rfl ?_
        exact nx (by unfold lsP; rw [hb, decide_eq_false hl]; rfl)
  · rw [← h2]
    refine RQ.blk 2 (pc' := 6) (lv' := [(3, .int (nI (200 + 1))), (0, .ref 66), (1, .int (nI dd)), (2, .int (nI n))]) (st' := [.int 200, .int (nI (200 + 1))]) (H' := _) (kc' := 0) (ks' := 0) rfl ?_
    refine RQ.brT rfl rfl rfl (cT_gt (200 + 1) 200) ?_
    refine RQ.blk 1 (pc' := 41) (lv' := [(3, .int (nI (200 + 1))), (0, .ref 66), (1, .int (nI dd)), (2, .int (nI n))]) (st' := [.int (-1)]) (H' := _) (kc' := 0) (ks' := 0) rfl ?_
    exact RQ.done (c := 0) (s := 0) rfl rfl rfl rfl rfl
theorem rc_rankedN {sc : Nat × (Nat → Int32)} {k : Int32} {dd : Nat} {d : Nat} {H : aH} {kd pa sz nl : Nat → Nat} {nm : Nat → Int8} {no : Nat} (h : TreeAt H kd pa sz nl nm no) (hk0 : k < 0) : RC sc (d + 4) mr_254 [.ref 66, .int (nI dd), .int k] H (.inl (some (.int (-1)))) H 0 0 := by
  refine RC.of ?_
  refine RQ.blk 4 (pc' := 6) (lv' := [(3, .int 1), (0, .ref 66), (1, .int (nI dd)), (2, .int k)]) (st' := [.int 200, .int 1]) (H' := _) (kc' := 0) (ks' := 0) rfl ?_
  refine RQ.brF rfl rfl rfl (by decide) ?_
  refine RQ.blk 1 (pc' := 10) (lv' := [(3, .int 1), (0, .ref 66), (1, .int (nI dd)), (2, .int k)]) (st' := [.int k]) (H' := _) (kc' := 0) (ks' := 0) rfl ?_
  refine RQ.brT rfl rfl rfl (decide_eq_true hk0) ?_
  refine RQ.blk 1 (pc' := 41) (lv' := [(3, .int 1), (0, .ref 66), (1, .int (nI dd)), (2, .int k)]) (st' := [.int (-1)]) (H' := _) (kc' := 0) (ks' := 0) rfl ?_
  exact RQ.done (c := 0) (s := 0) rfl rfl rfl rfl rfl
set_option maxRecDepth 20000 in
theorem ri_about0 {sc : Nat × (Nat → Int32)} {d : Nat} {H : aH} {B P : Nat} {cw cl : Int32} {cp cb : Nat} {tb : Nat → Int8} {l : Nat} {g : Nat → Int8} {rl : Nat} {wss : Nat → List aE} {t : aTr} {v : Nat} (h : ClsA H B P 1 cw cl cp cb tb l g rl wss t) (hk : TreeOk t.1 t.2.1 t.2.2.1 t.2.2.2.1) (hv : v ≤ 200) (hkd : ¬ t.1 v = 0) : RI sc (d + 8) mr_257 [.ref 1, .int (nI v), .int 0] H (fun x H' => x = nI (t.1 v) ∧ ClsA H' B P 1 cw cl cp cb tb l g rl wss t ∧ FrK H H') := by
  obtain ⟨h0, h1, h2, h3, h4, ⟨q5, p6, h5, h6⟩, ⟨wq, h10, hwq⟩, hW, hCh, hT⟩ := id h
  refine RI.of ?_
  have hkv := hk v hv
  refine RQ.blk 2 (pc' := 2) (lv' := [(0, .ref 1), (1, .int (nI v)), (2, .int 0)]) (st' := [.int (nI v), .ref 1]) (H' := _) (kc' := 0) (ks' := 0) rfl ?_
  refine RQ.call (v := none) (st' := []) rfl rfl rfl rfl rfl rfl (args_v [.int (nI v)] [] rfl rfl (Nat.le_of_ble_eq_true rfl) rfl h0 (Nat.le_of_ble_eq_true rfl)) (rc_reqNum h0 hv) ?_
  refine RQ.blk 4 (pc' := 9) (lv' := [(0, .ref 1), (1, .int (nI v)), (2, .int 0)]) (st' := [.int 3, .int 0, .int 0, .ref 1]) (H' := _) (kc' := 0) (ks' := 0) rfl ?_
  refine RQ.call (v := none) (st' := []) rfl rfl rfl rfl rfl rfl (args_v [.int 3, .int 0, .int 0] [] rfl rfl (Nat.le_of_ble_eq_true rfl) rfl h0 (Nat.le_of_ble_eq_true rfl)) (rc_range (by decide) (by decide)) ?_
  refine RQ.blk 1 (pc' := 13) (lv' := [(0, .ref 1), (1, .int (nI v)), (2, .int 0)]) (st' := [.ref 1]) (H' := _) (kc' := 0) (ks' := 0) rfl ?_
  refine RQ.call (v := none) (st' := []) rfl rfl rfl rfl rfl rfl (args_v [] [] rfl rfl (Nat.le_of_ble_eq_true rfl) rfl h0 (Nat.le_of_ble_eq_true rfl)) (rc_up h0 rfl) ?_
  refine RQ.blk 1 (pc' := 17) (lv' := [(0, .ref 1), (1, .int (nI v)), (2, .int 0)]) (st' := [.ref 1]) (H' := _) (kc' := 0) (ks' := 0) rfl ?_
  refine RQ.get (ci := 11) rfl h0 rfl rfl ?_
  refine RQ.blk 1 (pc' := 21) (lv' := [(0, .ref 1), (1, .int (nI v)), (2, .int 0)]) (st' := [.int (nI v), .ref 66]) (H' := _) (kc' := 0) (ks' := 0) rfl ?_
  refine RQ.call (v := some (.int (nI (t.1 v)))) (st' := []) rfl rfl rfl rfl rfl rfl (args_v [.int (nI v)] [] rfl rfl (Nat.le_of_ble_eq_true rfl) rfl hT.1 (Nat.le_of_ble_eq_true rfl)) (rc_kindOf hT.1 rfl hT.2.1 hv) ?_
  refine RQ.brT rfl rfl rfl (cT_ne (t.1 v) 0) ?_
  refine RQ.blk 2 (pc' := 64) (lv' := [(0, .ref 1), (1, .int (nI v)), (2, .int 0)]) (st' := []) (H' := _) (kc' := 0) (ks' := 0) rfl ?_
  refine RQ.blk 1 (pc' := 65) (lv' := [(0, .ref 1), (1, .int (nI v)), (2, .int 0)]) (st' := [.ref 1]) (H' := _) (kc' := 0) (ks' := 0) rfl ?_
  refine RQ.get (ci := 11) rfl h0 rfl rfl ?_
  refine RQ.blk 1 (pc' := 69) (lv' := [(0, .ref 1), (1, .int (nI v)), (2, .int 0)]) (st' := [.int (nI v), .ref 66]) (H' := _) (kc' := 0) (ks' := 0) rfl ?_
  refine RQ.call (v := some (.int (nI (t.1 v)))) (st' := []) rfl rfl rfl rfl rfl rfl (args_v [.int (nI v)] [] rfl rfl (Nat.le_of_ble_eq_true rfl) rfl hT.1 (Nat.le_of_ble_eq_true rfl)) (rc_kindOf hT.1 rfl hT.2.1 hv) ?_
  exact RQ.done (c := 0) (s := 0) rfl rfl rfl rfl ⟨_, _, rfl, rfl, h, FrK.rfl'⟩
set_option maxRecDepth 20000 in
theorem ri_about1 {sc : Nat × (Nat → Int32)} {d : Nat} {H : aH} {B P : Nat} {cw cl : Int32} {cp cb : Nat} {tb : Nat → Int8} {l : Nat} {g : Nat → Int8} {rl : Nat} {wss : Nat → List aE} {t : aTr} {v : Nat} (h : ClsA H B P 1 cw cl cp cb tb l g rl wss t) (hk : TreeOk t.1 t.2.1 t.2.2.1 t.2.2.2.1) (hv : v ≤ 200) (hkd : ¬ t.1 v = 0) : RI sc (d + 8) mr_257 [.ref 1, .int (nI v), .int 1] H (fun x H' => x = (if t.1 v = 1 then nI (t.2.2.1 v) else nI (sumF (fun w => if inD t.1 t.2.1 v w then 1 else 0) 200)) ∧ ClsA H' B P 1 cw cl cp cb tb l g rl wss t ∧ FrK H H') := by
  obtain ⟨h0, h1, h2, h3, h4, ⟨q5, p6, h5, h6⟩, ⟨wq, h10, hwq⟩, hW, hCh, hT⟩ := id h
  refine RI.of ?_
  have hkv := hk v hv
  refine RQ.blk 2 (pc' := 2) (lv' := [(0, .ref 1), (1, .int (nI v)), (2, .int 1)]) (st' := [.int (nI v), .ref 1]) (H' := _) (kc' := 0) (ks' := 0) rfl ?_
  refine RQ.call (v := none) (st' := []) rfl rfl rfl rfl rfl rfl (args_v [.int (nI v)] [] rfl rfl (Nat.le_of_ble_eq_true rfl) rfl h0 (Nat.le_of_ble_eq_true rfl)) (rc_reqNum h0 hv) ?_
  refine RQ.blk 4 (pc' := 9) (lv' := [(0, .ref 1), (1, .int (nI v)), (2, .int 1)]) (st' := [.int 3, .int 0, .int 1, .ref 1]) (H' := _) (kc' := 0) (ks' := 0) rfl ?_
  refine RQ.call (v := none) (st' := []) rfl rfl rfl rfl rfl rfl (args_v [.int 3, .int 0, .int 1] [] rfl rfl (Nat.le_of_ble_eq_true rfl) rfl h0 (Nat.le_of_ble_eq_true rfl)) (rc_range (by decide) (by decide)) ?_
  refine RQ.blk 1 (pc' := 13) (lv' := [(0, .ref 1), (1, .int (nI v)), (2, .int 1)]) (st' := [.ref 1]) (H' := _) (kc' := 0) (ks' := 0) rfl ?_
  refine RQ.call (v := none) (st' := []) rfl rfl rfl rfl rfl rfl (args_v [] [] rfl rfl (Nat.le_of_ble_eq_true rfl) rfl h0 (Nat.le_of_ble_eq_true rfl)) (rc_up h0 rfl) ?_
  refine RQ.blk 1 (pc' := 17) (lv' := [(0, .ref 1), (1, .int (nI v)), (2, .int 1)]) (st' := [.ref 1]) (H' := _) (kc' := 0) (ks' := 0) rfl ?_
  refine RQ.get (ci := 11) rfl h0 rfl rfl ?_
  refine RQ.blk 1 (pc' := 21) (lv' := [(0, .ref 1), (1, .int (nI v)), (2, .int 1)]) (st' := [.int (nI v), .ref 66]) (H' := _) (kc' := 0) (ks' := 0) rfl ?_
  refine RQ.call (v := some (.int (nI (t.1 v)))) (st' := []) rfl rfl rfl rfl rfl rfl (args_v [.int (nI v)] [] rfl rfl (Nat.le_of_ble_eq_true rfl) rfl hT.1 (Nat.le_of_ble_eq_true rfl)) (rc_kindOf hT.1 rfl hT.2.1 hv) ?_
  refine RQ.brT rfl rfl rfl (cT_ne (t.1 v) 0) ?_
  refine RQ.blk 2 (pc' := 73) (lv' := [(0, .ref 1), (1, .int (nI v)), (2, .int 1)]) (st' := []) (H' := _) (kc' := 0) (ks' := 0) rfl ?_
  refine RQ.blk 1 (pc' := 74) (lv' := [(0, .ref 1), (1, .int (nI v)), (2, .int 1)]) (st' := [.ref 1]) (H' := _) (kc' := 0) (ks' := 0) rfl ?_
  refine RQ.get (ci := 11) rfl h0 rfl rfl ?_
  refine RQ.blk 1 (pc' := 78) (lv' := [(0, .ref 1), (1, .int (nI v)), (2, .int 1)]) (st' := [.int (nI v), .ref 66]) (H' := _) (kc' := 0) (ks' := 0) rfl ?_
  refine RQ.call (v := some (.int (if t.1 v = 1 then 1 else 0))) (st' := []) rfl rfl rfl rfl rfl rfl (args_v [.int (nI v)] [] rfl rfl (Nat.le_of_ble_eq_true rfl) rfl hT.1 (Nat.le_of_ble_eq_true rfl)) (rc_isFile hT hk hv) ?_
  by_cases kz : t.1 v = 1
  · rw [if_pos kz]
    refine RQ.brF rfl rfl rfl (by decide) ?_
    refine RQ.blk 1 (pc' := 85) (lv' := [(0, .ref 1), (1, .int (nI v)), (2, .int 1)]) (st' := [.ref 1]) (H' := _) (kc' := 0) (ks' := 0) rfl ?_
    refine RQ.get (ci := 11) rfl h0 rfl rfl ?_
    refine RQ.blk 1 (pc' := 89) (lv' := [(0, .ref 1), (1, .int (nI v)), (2, .int 1)]) (st' := [.int (nI v), .ref 66]) (H' := _) (kc' := 0) (ks' := 0) rfl ?_
    refine RQ.call (v := some (.int (nI (t.2.2.1 v)))) (st' := []) rfl rfl rfl rfl rfl rfl (args_v [.int (nI v)] [] rfl rfl (Nat.le_of_ble_eq_true rfl) rfl hT.1 (Nat.le_of_ble_eq_true rfl)) (rc_sizeOf hT hk hv) ?_
    refine RQ.blk 1 (pc' := 103) (lv' := [(0, .ref 1), (1, .int (nI v)), (2, .int 1)]) (st' := [.int (nI (t.2.2.1 v))]) (H' := _) (kc' := 0) (ks' := 0) rfl ?_
    exact RQ.done (c := 0) (s := 0) rfl rfl rfl rfl ⟨_, _, rfl, (by rw [if_pos kz]), h, FrK.rfl'⟩
  · rw [if_neg kz]
    refine RQ.brT rfl rfl rfl (by decide) ?_
    refine RQ.blk 1 (pc' := 96) (lv' := [(0, .ref 1), (1, .int (nI v)), (2, .int 1)]) (st' := [.ref 1]) (H' := _) (kc' := 0) (ks' := 0) rfl ?_
    refine RQ.get (ci := 11) rfl h0 rfl rfl ?_
    refine RQ.blk 1 (pc' := 100) (lv' := [(0, .ref 1), (1, .int (nI v)), (2, .int 1)]) (st' := [.int (nI v), .ref 66]) (H' := _) (kc' := 0) (ks' := 0) rfl ?_
    refine RQ.call (v := some (.int (nI (sumF (fun w => if inD t.1 t.2.1 v w then 1 else 0) 200)))) (st' := []) rfl rfl rfl rfl rfl rfl (args_v [.int (nI v)] [] rfl rfl (Nat.le_of_ble_eq_true rfl) rfl hT.1 (Nat.le_of_ble_eq_true rfl)) (rc_childCount hT hk hv) ?_
    exact RQ.done (c := 0) (s := 0) rfl rfl rfl rfl ⟨_, _, rfl, (by rw [if_neg kz]), h, FrK.rfl'⟩
set_option maxRecDepth 20000 in
theorem ri_about2 {sc : Nat × (Nat → Int32)} {d : Nat} {H : aH} {B P : Nat} {cw cl : Int32} {cp cb : Nat} {tb : Nat → Int8} {l : Nat} {g : Nat → Int8} {rl : Nat} {wss : Nat → List aE} {t : aTr} {v : Nat} (h : ClsA H B P 1 cw cl cp cb tb l g rl wss t) (hk : TreeOk t.1 t.2.1 t.2.2.1 t.2.2.2.1) (hv : v ≤ 200) (hkd : ¬ t.1 v = 0) : RI sc (d + 8) mr_257 [.ref 1, .int (nI v), .int 2] H (fun x H' => x = nI (t.2.1 v) ∧ ClsA H' B P 1 cw cl cp cb tb l g rl wss t ∧ FrK H H') := by
  obtain ⟨h0, h1, h2, h3, h4, ⟨q5, p6, h5, h6⟩, ⟨wq, h10, hwq⟩, hW, hCh, hT⟩ := id h
  refine RI.of ?_
  have hkv := hk v hv
  refine RQ.blk 2 (pc' := 2) (lv' := [(0, .ref 1), (1, .int (nI v)), (2, .int 2)]) (st' := [.int (nI v), .ref 1]) (H' := _) (kc' := 0) (ks' := 0) rfl ?_
  refine RQ.call (v := none) (st' := []) rfl rfl rfl rfl rfl rfl (args_v [.int (nI v)] [] rfl rfl (Nat.le_of_ble_eq_true rfl) rfl h0 (Nat.le_of_ble_eq_true rfl)) (rc_reqNum h0 hv) ?_
  refine RQ.blk 4 (pc' := 9) (lv' := [(0, .ref 1), (1, .int (nI v)), (2, .int 2)]) (st' := [.int 3, .int 0, .int 2, .ref 1]) (H' := _) (kc' := 0) (ks' := 0) rfl ?_
  refine RQ.call (v := none) (st' := []) rfl rfl rfl rfl rfl rfl (args_v [.int 3, .int 0, .int 2] [] rfl rfl (Nat.le_of_ble_eq_true rfl) rfl h0 (Nat.le_of_ble_eq_true rfl)) (rc_range (by decide) (by decide)) ?_
  refine RQ.blk 1 (pc' := 13) (lv' := [(0, .ref 1), (1, .int (nI v)), (2, .int 2)]) (st' := [.ref 1]) (H' := _) (kc' := 0) (ks' := 0) rfl ?_
  refine RQ.call (v := none) (st' := []) rfl rfl rfl rfl rfl rfl (args_v [] [] rfl rfl (Nat.le_of_ble_eq_true rfl) rfl h0 (Nat.le_of_ble_eq_true rfl)) (rc_up h0 rfl) ?_
  refine RQ.blk 1 (pc' := 17) (lv' := [(0, .ref 1), (1, .int (nI v)), (2, .int 2)]) (st' := [.ref 1]) (H' := _) (kc' := 0) (ks' := 0) rfl ?_
  refine RQ.get (ci := 11) rfl h0 rfl rfl ?_
  refine RQ.blk 1 (pc' := 21) (lv' := [(0, .ref 1), (1, .int (nI v)), (2, .int 2)]) (st' := [.int (nI v), .ref 66]) (H' := _) (kc' := 0) (ks' := 0) rfl ?_
  refine RQ.call (v := some (.int (nI (t.1 v)))) (st' := []) rfl rfl rfl rfl rfl rfl (args_v [.int (nI v)] [] rfl rfl (Nat.le_of_ble_eq_true rfl) rfl hT.1 (Nat.le_of_ble_eq_true rfl)) (rc_kindOf hT.1 rfl hT.2.1 hv) ?_
  refine RQ.brT rfl rfl rfl (cT_ne (t.1 v) 0) ?_
  refine RQ.blk 2 (pc' := 104) (lv' := [(0, .ref 1), (1, .int (nI v)), (2, .int 2)]) (st' := []) (H' := _) (kc' := 0) (ks' := 0) rfl ?_
  refine RQ.blk 1 (pc' := 105) (lv' := [(0, .ref 1), (1, .int (nI v)), (2, .int 2)]) (st' := [.ref 1]) (H' := _) (kc' := 0) (ks' := 0) rfl ?_
  refine RQ.get (ci := 11) rfl h0 rfl rfl ?_
  refine RQ.blk 1 (pc' := 109) (lv' := [(0, .ref 1), (1, .int (nI v)), (2, .int 2)]) (st' := [.int (nI v), .ref 66]) (H' := _) (kc' := 0) (ks' := 0) rfl ?_
  refine RQ.call (v := some (.int (nI (t.2.1 v)))) (st' := []) rfl rfl rfl rfl rfl rfl (args_v [.int (nI v)] [] rfl rfl (Nat.le_of_ble_eq_true rfl) rfl hT.1 (Nat.le_of_ble_eq_true rfl)) (rc_parentOf hT hk hv) ?_
  exact RQ.done (c := 0) (s := 0) rfl rfl rfl rfl ⟨_, _, rfl, rfl, h, FrK.rfl'⟩
set_option maxRecDepth 20000 in
theorem ri_about3 {sc : Nat × (Nat → Int32)} {d : Nat} {H : aH} {B P : Nat} {cw cl : Int32} {cp cb : Nat} {tb : Nat → Int8} {l : Nat} {g : Nat → Int8} {rl : Nat} {wss : Nat → List aE} {t : aTr} {v N : Nat}{vs : List aV} (h : ClsA H B P 1 cw cl cp cb tb l g rl wss t) (hk : TreeOk t.1 t.2.1 t.2.2.1 t.2.2.2.1) (hv : v ≤ 200) (hkd : ¬ t.1 v = 0) (hV : VersIs H N vs) : RI sc (d + 8) mr_257 [.ref 1, .int (nI v), .int 3] H (fun x H' => x = nI (cntB (pcIn vs v) 32) ∧ ClsA H' B P 1 cw cl cp cb tb l g rl wss t ∧ FrK H H') := by
  obtain ⟨h0, h1, h2, h3, h4, ⟨q5, p6, h5, h6⟩, ⟨wq, h10, hwq⟩, hW, hCh, hT⟩ := id h
  obtain ⟨kf, kl, mo, pl, le, al, od, sp, sz, ss, ac, hA, hVW, hvs⟩ := hV
  refine RI.of ?_
  have hkv := hk v hv
  refine RQ.blk 2 (pc' := 2) (lv' := [(0, .ref 1), (1, .int (nI v)), (2, .int 3)]) (st' := [.int (nI v), .ref 1]) (H' := _) (kc' := 0) (ks' := 0) rfl ?_
  refine RQ.call (v := none) (st' := []) rfl rfl rfl rfl rfl rfl (args_v [.int (nI v)] [] rfl rfl (Nat.le_of_ble_eq_true rfl) rfl h0 (Nat.le_of_ble_eq_true rfl)) (rc_reqNum h0 hv) ?_
  refine RQ.blk 4 (pc' := 9) (lv' := [(0, .ref 1), (1, .int (nI v)), (2, .int 3)]) (st' := [.int 3, .int 0, .int 3, .ref 1]) (H' := _) (kc' := 0) (ks' := 0) rfl ?_
  refine RQ.call (v := none) (st' := []) rfl rfl rfl rfl rfl rfl (args_v [.int 3, .int 0, .int 3] [] rfl rfl (Nat.le_of_ble_eq_true rfl) rfl h0 (Nat.le_of_ble_eq_true rfl)) (rc_range (by decide) (by decide)) ?_
  refine RQ.blk 1 (pc' := 13) (lv' := [(0, .ref 1), (1, .int (nI v)), (2, .int 3)]) (st' := [.ref 1]) (H' := _) (kc' := 0) (ks' := 0) rfl ?_
  refine RQ.call (v := none) (st' := []) rfl rfl rfl rfl rfl rfl (args_v [] [] rfl rfl (Nat.le_of_ble_eq_true rfl) rfl h0 (Nat.le_of_ble_eq_true rfl)) (rc_up h0 rfl) ?_
  refine RQ.blk 1 (pc' := 17) (lv' := [(0, .ref 1), (1, .int (nI v)), (2, .int 3)]) (st' := [.ref 1]) (H' := _) (kc' := 0) (ks' := 0) rfl ?_
  refine RQ.get (ci := 11) rfl h0 rfl rfl ?_
  refine RQ.blk 1 (pc' := 21) (lv' := [(0, .ref 1), (1, .int (nI v)), (2, .int 3)]) (st' := [.int (nI v), .ref 66]) (H' := _) (kc' := 0) (ks' := 0) rfl ?_
  refine RQ.call (v := some (.int (nI (t.1 v)))) (st' := []) rfl rfl rfl rfl rfl rfl (args_v [.int (nI v)] [] rfl rfl (Nat.le_of_ble_eq_true rfl) rfl hT.1 (Nat.le_of_ble_eq_true rfl)) (rc_kindOf hT.1 rfl hT.2.1 hv) ?_
  refine RQ.brT rfl rfl rfl (cT_ne (t.1 v) 0) ?_
  refine RQ.blk 2 (pc' := 113) (lv' := [(0, .ref 1), (1, .int (nI v)), (2, .int 3)]) (st' := []) (H' := _) (kc' := 0) (ks' := 0) rfl ?_
  refine RQ.blk 2 (pc' := 115) (lv' := [(0, .ref 1), (1, .int (nI v)), (2, .int 3)]) (st' := [.int (nI v), .ref 1]) (H' := _) (kc' := 0) (ks' := 0) rfl ?_
  refine RQ.callI (st' := []) rfl rfl rfl rfl rfl rfl (args_v [.int (nI v)] [] rfl rfl (Nat.le_of_ble_eq_true rfl) rfl h0 (Nat.le_of_ble_eq_true rfl)) (ri_keptPieces h0 h5 h6 hA hVW hvs (by omega)) (fun x H2 hx => ?_)
  obtain ⟨hx1, hx2, hx3⟩ := hx
  exact RQ.done (c := 0) (s := 0) rfl rfl rfl rfl ⟨_, _, rfl, hx1, h.small ((hx3 0 (by decide) (by decide)).trans h0) ((hx3 1 (by decide) (by decide)).trans h1) ((hx3 2 (by decide) (by decide)).trans h2) ((hx3 3 (by decide) (by decide)).trans h3) ((hx3 4 (by decide) (by decide)).trans h4) hx2 (fun a a1 a2 => hx3 a (by omega) (by omega)), fun a ha => hx3 a (by omega) (by omega)⟩
set_option maxRecDepth 20000 in
theorem ri_list {sc : Nat × (Nat → Int32)} {d : Nat} {H : aH} {B P : Nat} {cw cl : Int32} {cp cb : Nat} {tb : Nat → Int8} {l : Nat} {g : Nat → Int8} {rl : Nat} {wss : Nat → List aE} {t : aTr} {v n r : Nat} (h : ClsA H B P 1 cw cl cp cb tb l g rl wss t) (hk : TreeOk t.1 t.2.1 t.2.2.1 t.2.2.2.1) (hv : v ≤ 200) (hkd : t.1 v = 2) (hn : n < 2 ^ 31) (hfn : fstF (lsP t.1 t.2.1 t.2.2.2.1 t.2.2.2.2.1 v n) 1 200 = some r) : RI sc (d + 8) mr_253 [.ref 1, .int (nI v), .int (nI n)] H (fun x H' => x = nI r ∧ ClsA H' B P 1 cw cl cp cb tb l (cpy t.2.2.2.2.1 (r * 30) g 0 (t.2.2.2.1 r)) (t.2.2.2.1 r) wss t ∧ FrK H H') := by
  obtain ⟨h0, h1, h2, h3, h4, ⟨q5, p6, h5, h6⟩, ⟨wq, h10, hwq⟩, hW, hCh, hT⟩ := id h
  refine RI.of ?_
  have hr1 := fstF_lt hfn
  have hkr := hk r (by omega)
  refine RQ.blk 2 (pc' := 2) (lv' := [(0, .ref 1), (1, .int (nI v)), (2, .int (nI n))]) (st' := [.int (nI v), .ref 1]) (H' := _) (kc' := 0) (ks' := 0) rfl ?_
  refine RQ.call (v := none) (st' := []) rfl rfl rfl rfl rfl rfl (args_v [.int (nI v)] [] rfl rfl (Nat.le_of_ble_eq_true rfl) rfl h0 (Nat.le_of_ble_eq_true rfl)) (rc_reqNum h0 hv) ?_
  refine RQ.blk 1 (pc' := 6) (lv' := [(0, .ref 1), (1, .int (nI v)), (2, .int (nI n))]) (st' := [.ref 1]) (H' := _) (kc' := 0) (ks' := 0) rfl ?_
  refine RQ.call (v := none) (st' := []) rfl rfl rfl rfl rfl rfl (args_v [] [] rfl rfl (Nat.le_of_ble_eq_true rfl) rfl h0 (Nat.le_of_ble_eq_true rfl)) (rc_up h0 rfl) ?_
  refine RQ.blk 2 (pc' := 11) (lv' := [(0, .ref 1), (1, .int (nI v)), (2, .int (nI n))]) (st' := [.int (nI v), .ref 1]) (H' := _) (kc' := 0) (ks' := 0) rfl ?_
  refine RQ.call (v := none) (st' := []) rfl rfl rfl rfl rfl rfl (args_v [.int (nI v)] [] rfl rfl (Nat.le_of_ble_eq_true rfl) rfl h0 (Nat.le_of_ble_eq_true rfl)) (rc_reqDir h0 rfl hT.1 rfl hT.2.1 hv (nI_is2 hkd)) ?_
  refine RQ.blk 1 (pc' := 15) (lv' := [(0, .ref 1), (1, .int (nI v)), (2, .int (nI n))]) (st' := [.ref 1]) (H' := _) (kc' := 0) (ks' := 0) rfl ?_
  refine RQ.get (ci := 11) rfl h0 rfl rfl ?_
  refine RQ.blk 2 (pc' := 20) (lv' := [(0, .ref 1), (1, .int (nI v)), (2, .int (nI n))]) (st' := [.int (nI n), .int (nI v), .ref 66]) (H' := _) (kc' := 0) (ks' := 0) rfl ?_
  refine RQ.call (v := some (.int (lI (fstF (lsP t.1 t.2.1 t.2.2.2.1 t.2.2.2.2.1 v n) 1 200)))) (st' := []) rfl rfl rfl rfl rfl rfl (args_v [.int (nI n), .int (nI v)] [] rfl rfl (Nat.le_of_ble_eq_true rfl) rfl hT.1 (Nat.le_of_ble_eq_true rfl)) (rc_ranked hT hk hv hn) ?_
  rw [hfn]
  rw [show lI (some r) = nI r from rfl]
  refine RQ.blk 3 (pc' := 26) (lv' := [(3, .int (nI r)), (0, .ref 1), (1, .int (nI v)), (2, .int (nI n))]) (st' := [.int (nI r), .ref 1]) (H' := _) (kc' := 0) (ks' := 0) rfl ?_
  refine RQ.call (v := none) (st' := []) rfl rfl rfl rfl rfl rfl (args_v [.int (nI r)] [] rfl rfl (Nat.le_of_ble_eq_true rfl) rfl h0 (Nat.le_of_ble_eq_true rfl)) (rc_there (by omega)) ?_
  refine RQ.blk 2 (pc' := 31) (lv' := [(3, .int (nI r)), (0, .ref 1), (1, .int (nI v)), (2, .int (nI n))]) (st' := [.ref 1, .ref 1]) (H' := _) (kc' := 0) (ks' := 0) rfl ?_
  refine RQ.get (ci := 11) rfl h0 rfl rfl ?_
  refine RQ.get (ci := 9) rfl hT.1 rfl rfl ?_
  refine RQ.blk 3 (pc' := 41) (lv' := [(3, .int (nI r)), (0, .ref 1), (1, .int (nI v)), (2, .int (nI n))]) (st' := [.int (nI r * 30), .ref 71, .ref 1]) (H' := _) (kc' := 0) (ks' := 0) rfl ?_
  rw [show (nI r * 30 : Int32) = nI (r * 30) from pk_mul r 30]
  refine RQ.blk 1 (pc' := 42) (lv' := [(3, .int (nI r)), (0, .ref 1), (1, .int (nI v)), (2, .int (nI n))]) (st' := [.ref 1, .int (nI (r * 30)), .ref 71, .ref 1]) (H' := _) (kc' := 0) (ks' := 0) rfl ?_
  refine RQ.get (ci := 11) rfl h0 rfl rfl ?_
  refine RQ.blk 1 (pc' := 46) (lv' := [(3, .int (nI r)), (0, .ref 1), (1, .int (nI v)), (2, .int (nI n))]) (st' := [.int (nI r), .ref 66, .int (nI (r * 30)), .ref 71, .ref 1]) (H' := _) (kc' := 0) (ks' := 0) rfl ?_
  refine RQ.call (v := some (.int (nI (t.2.2.2.1 r)))) (st' := [.int (nI (r * 30)), .ref 71, .ref 1]) rfl rfl rfl rfl rfl rfl (args_v [.int (nI r)] [.int (nI (r * 30)), .ref 71, .ref 1] rfl rfl (Nat.le_of_ble_eq_true rfl) rfl hT.1 (Nat.le_of_ble_eq_true rfl)) (rc_nameLengthOf hT hk (by omega)) ?_
  refine RQ.call (v := some (.int (nI (t.2.2.2.1 r)))) (st' := []) rfl rfl rfl rfl rfl rfl (args_v [.int (nI (t.2.2.2.1 r)), .int (nI (r * 30)), .ref 71] [] rfl rfl (Nat.le_of_ble_eq_true rfl) rfl h0 (Nat.le_of_ble_eq_true rfl)) (rc_answer (a := 70) (na := 6030) (i := r * 30) (n := t.2.2.2.1 r) h0 h3 h4 hT.2.2.2.2.2 (by decide) (by decide) (by decide) (by omega) (by omega)) ?_
  refine RQ.blk 2 (pc' := 54) (lv' := [(3, .int (nI r)), (0, .ref 1), (1, .int (nI v)), (2, .int (nI n))]) (st' := [.int (nI r)]) (H' := _) (kc' := 0) (ks' := 0) rfl ?_
  exact RQ.done (c := 0) (s := 0) rfl rfl rfl rfl ⟨_, _, rfl, rfl, h.small ((set_far (by decide)).trans ((set_far (by decide)).trans h0)) ((set_far (by decide)).trans ((set_far (by decide)).trans h1)) ((set_far (by decide)).trans ((set_far (by decide)).trans h2)) (get_set ((set_far (by decide)).trans h3)) ((set_far (by decide)).trans (get_set h4)) ⟨q5, p6, (set_far (by decide)).trans ((set_far (by decide)).trans h5), (set_far (by decide)).trans ((set_far (by decide)).trans h6)⟩ (fun a a1 a2 => (set_far (by omega)).trans (set_far (by omega))), fun a ha => (set_far (by omega)).trans (set_far (by omega))⟩
set_option maxRecDepth 20000 in
theorem rx_list_none {sc : Nat × (Nat → Int32)} {d : Nat} {H : aH} {B P : Nat} {cw cl : Int32} {cp cb : Nat} {tb : Nat → Int8} {l : Nat} {g : Nat → Int8} {rl : Nat} {wss : Nat → List aE} {t : aTr} {v n : Nat} (h : ClsA H B P 1 cw cl cp cb tb l g rl wss t) (hk : TreeOk t.1 t.2.1 t.2.2.1 t.2.2.2.1) (hv : v ≤ 200) (hkd : t.1 v = 2) (hn : n < 2 ^ 31) (hfn : fstF (lsP t.1 t.2.1 t.2.2.2.1 t.2.2.2.2.1 v n) 1 200 = none) : RX sc (d + 8) mr_253 [.ref 1, .int (nI v), .int (nI n)] H 3 (fun H' => ClsA H' B P 1 cw cl cp cb tb l g rl wss t ∧ FrK H H') := by
  obtain ⟨h0, h1, h2, h3, h4, ⟨q5, p6, h5, h6⟩, ⟨wq, h10, hwq⟩, hW, hCh, hT⟩ := id h
  refine RX.of ?_
  refine RQ.blk 2 (pc' := 2) (lv' := [(0, .ref 1), (1, .int (nI v)), (2, .int (nI n))]) (st' := [.int (nI v), .ref 1]) (H' := _) (kc' := 0) (ks' := 0) rfl ?_
  refine RQ.call (v := none) (st' := []) rfl rfl rfl rfl rfl rfl (args_v [.int (nI v)] [] rfl rfl (Nat.le_of_ble_eq_true rfl) rfl h0 (Nat.le_of_ble_eq_true rfl)) (rc_reqNum h0 hv) ?_
  refine RQ.blk 1 (pc' := 6) (lv' := [(0, .ref 1), (1, .int (nI v)), (2, .int (nI n))]) (st' := [.ref 1]) (H' := _) (kc' := 0) (ks' := 0) rfl ?_
  refine RQ.call (v := none) (st' := []) rfl rfl rfl rfl rfl rfl (args_v [] [] rfl rfl (Nat.le_of_ble_eq_true rfl) rfl h0 (Nat.le_of_ble_eq_true rfl)) (rc_up h0 rfl) ?_
  refine RQ.blk 2 (pc' := 11) (lv' := [(0, .ref 1), (1, .int (nI v)), (2, .int (nI n))]) (st' := [.int (nI v), .ref 1]) (H' := _) (kc' := 0) (ks' := 0) rfl ?_
  refine RQ.call (v := none) (st' := []) rfl rfl rfl rfl rfl rfl (args_v [.int (nI v)] [] rfl rfl (Nat.le_of_ble_eq_true rfl) rfl h0 (Nat.le_of_ble_eq_true rfl)) (rc_reqDir h0 rfl hT.1 rfl hT.2.1 hv (nI_is2 hkd)) ?_
  refine RQ.blk 1 (pc' := 15) (lv' := [(0, .ref 1), (1, .int (nI v)), (2, .int (nI n))]) (st' := [.ref 1]) (H' := _) (kc' := 0) (ks' := 0) rfl ?_
  refine RQ.get (ci := 11) rfl h0 rfl rfl ?_
  refine RQ.blk 2 (pc' := 20) (lv' := [(0, .ref 1), (1, .int (nI v)), (2, .int (nI n))]) (st' := [.int (nI n), .int (nI v), .ref 66]) (H' := _) (kc' := 0) (ks' := 0) rfl ?_
  refine RQ.call (v := some (.int (lI (fstF (lsP t.1 t.2.1 t.2.2.2.1 t.2.2.2.2.1 v n) 1 200)))) (st' := []) rfl rfl rfl rfl rfl rfl (args_v [.int (nI n), .int (nI v)] [] rfl rfl (Nat.le_of_ble_eq_true rfl) rfl hT.1 (Nat.le_of_ble_eq_true rfl)) (rc_ranked hT hk hv hn) ?_
  rw [hfn]
  rw [show lI none = -1 from rfl]
  refine RQ.blk 3 (pc' := 26) (lv' := [(3, .int (-1)), (0, .ref 1), (1, .int (nI v)), (2, .int (nI n))]) (st' := [.int (-1), .ref 1]) (H' := _) (kc' := 0) (ks' := 0) rfl ?_
  exact RQ.callP (st' := []) rfl rfl rfl rfl rfl rfl (args_v [.int (-1)] [] rfl rfl (Nat.le_of_ble_eq_true rfl) rfl h0 (Nat.le_of_ble_eq_true rfl)) (rc_thereX (by decide)) rfl ⟨_, rfl, h, FrK.rfl'⟩
set_option maxRecDepth 20000 in
theorem rx_list_neg {sc : Nat × (Nat → Int32)} {d : Nat} {H : aH} {B P : Nat} {cw cl : Int32} {cp cb : Nat} {tb : Nat → Int8} {l : Nat} {g : Nat → Int8} {rl : Nat} {wss : Nat → List aE} {t : aTr} {v : Nat} {k : Int32} (h : ClsA H B P 1 cw cl cp cb tb l g rl wss t) (hk : TreeOk t.1 t.2.1 t.2.2.1 t.2.2.2.1) (hv : v ≤ 200) (hkd : t.1 v = 2) (hk0 : k < 0) : RX sc (d + 8) mr_253 [.ref 1, .int (nI v), .int k] H 3 (fun H' => ClsA H' B P 1 cw cl cp cb tb l g rl wss t ∧ FrK H H') := by
  obtain ⟨h0, h1, h2, h3, h4, ⟨q5, p6, h5, h6⟩, ⟨wq, h10, hwq⟩, hW, hCh, hT⟩ := id h
  refine RX.of ?_
  refine RQ.blk 2 (pc' := 2) (lv' := [(0, .ref 1), (1, .int (nI v)), (2, .int k)]) (st' := [.int (nI v), .ref 1]) (H' := _) (kc' := 0) (ks' := 0) rfl ?_
  refine RQ.call (v := none) (st' := []) rfl rfl rfl rfl rfl rfl (args_v [.int (nI v)] [] rfl rfl (Nat.le_of_ble_eq_true rfl) rfl h0 (Nat.le_of_ble_eq_true rfl)) (rc_reqNum h0 hv) ?_
  refine RQ.blk 1 (pc' := 6) (lv' := [(0, .ref 1), (1, .int (nI v)), (2, .int k)]) (st' := [.ref 1]) (H' := _) (kc' := 0) (ks' := 0) rfl ?_
  refine RQ.call (v := none) (st' := []) rfl rfl rfl rfl rfl rfl (args_v [] [] rfl rfl (Nat.le_of_ble_eq_true rfl) rfl h0 (Nat.le_of_ble_eq_true rfl)) (rc_up h0 rfl) ?_
  refine RQ.blk 2 (pc' := 11) (lv' := [(0, .ref 1), (1, .int (nI v)), (2, .int k)]) (st' := [.int (nI v), .ref 1]) (H' := _) (kc' := 0) (ks' := 0) rfl ?_
  refine RQ.call (v := none) (st' := []) rfl rfl rfl rfl rfl rfl (args_v [.int (nI v)] [] rfl rfl (Nat.le_of_ble_eq_true rfl) rfl h0 (Nat.le_of_ble_eq_true rfl)) (rc_reqDir h0 rfl hT.1 rfl hT.2.1 hv (nI_is2 hkd)) ?_
  refine RQ.blk 1 (pc' := 15) (lv' := [(0, .ref 1), (1, .int (nI v)), (2, .int k)]) (st' := [.ref 1]) (H' := _) (kc' := 0) (ks' := 0) rfl ?_
  refine RQ.get (ci := 11) rfl h0 rfl rfl ?_
  refine RQ.blk 2 (pc' := 20) (lv' := [(0, .ref 1), (1, .int (nI v)), (2, .int k)]) (st' := [.int k, .int (nI v), .ref 66]) (H' := _) (kc' := 0) (ks' := 0) rfl ?_
  refine RQ.call (v := some (.int (-1))) (st' := []) rfl rfl rfl rfl rfl rfl (args_v [.int k, .int (nI v)] [] rfl rfl (Nat.le_of_ble_eq_true rfl) rfl hT.1 (Nat.le_of_ble_eq_true rfl)) (rc_rankedN hT hk0) ?_
  refine RQ.blk 3 (pc' := 26) (lv' := [(3, .int (-1)), (0, .ref 1), (1, .int (nI v)), (2, .int k)]) (st' := [.int (-1), .ref 1]) (H' := _) (kc' := 0) (ks' := 0) rfl ?_
  exact RQ.callP (st' := []) rfl rfl rfl rfl rfl rfl (args_v [.int (-1)] [] rfl rfl (Nat.le_of_ble_eq_true rfl) rfl h0 (Nat.le_of_ble_eq_true rfl)) (rc_thereX (by decide)) rfl ⟨_, rfl, h, FrK.rfl'⟩
set_option maxRecDepth 20000 in
theorem rx_list_nodir {sc : Nat × (Nat → Int32)} {d : Nat} {H : aH} {B P : Nat} {cw cl : Int32} {cp cb : Nat} {tb : Nat → Int8} {l : Nat} {g : Nat → Int8} {rl : Nat} {wss : Nat → List aE} {t : aTr} {v : Nat} {k : Int32} (h : ClsA H B P 1 cw cl cp cb tb l g rl wss t) (hk : TreeOk t.1 t.2.1 t.2.2.1 t.2.2.2.1) (hv : v ≤ 200) (hkd : ¬ t.1 v = 2) : RX sc (d + 8) mr_253 [.ref 1, .int (nI v), .int k] H 3 (fun H' => ClsA H' B P 1 cw cl cp cb tb l g rl wss t ∧ FrK H H') := by
  obtain ⟨h0, h1, h2, h3, h4, ⟨q5, p6, h5, h6⟩, ⟨wq, h10, hwq⟩, hW, hCh, hT⟩ := id h
  refine RX.of ?_
  have hkv := hk v hv
  refine RQ.blk 2 (pc' := 2) (lv' := [(0, .ref 1), (1, .int (nI v)), (2, .int k)]) (st' := [.int (nI v), .ref 1]) (H' := _) (kc' := 0) (ks' := 0) rfl ?_
  refine RQ.call (v := none) (st' := []) rfl rfl rfl rfl rfl rfl (args_v [.int (nI v)] [] rfl rfl (Nat.le_of_ble_eq_true rfl) rfl h0 (Nat.le_of_ble_eq_true rfl)) (rc_reqNum h0 hv) ?_
  refine RQ.blk 1 (pc' := 6) (lv' := [(0, .ref 1), (1, .int (nI v)), (2, .int k)]) (st' := [.ref 1]) (H' := _) (kc' := 0) (ks' := 0) rfl ?_
  refine RQ.call (v := none) (st' := []) rfl rfl rfl rfl rfl rfl (args_v [] [] rfl rfl (Nat.le_of_ble_eq_true rfl) rfl h0 (Nat.le_of_ble_eq_true rfl)) (rc_up h0 rfl) ?_
  refine RQ.blk 2 (pc' := 11) (lv' := [(0, .ref 1), (1, .int (nI v)), (2, .int k)]) (st' := [.int (nI v), .ref 1]) (H' := _) (kc' := 0) (ks' := 0) rfl ?_
  exact RQ.callP (st' := []) rfl rfl rfl rfl rfl rfl (args_v [.int (nI v)] [] rfl rfl (Nat.le_of_ble_eq_true rfl) rfl h0 (Nat.le_of_ble_eq_true rfl)) (rc_reqDirX h0 rfl hT.1 rfl hT.2.1 hv (nI_ne2 hkv.1 hkd)) rfl ⟨_, rfl, h, FrK.rfl'⟩
set_option maxRecDepth 20000 in
theorem rx_list_down {sc : Nat × (Nat → Int32)} {d : Nat} {H : aH} {B P : Nat} {cw cl : Int32} {cp cb : Nat} {tb : Nat → Int8} {l : Nat} {g : Nat → Int8} {rl : Nat} {wss : Nat → List aE} {t : aTr} {v : Nat} {k : Int32} (h : ClsA H B P 0 cw cl cp cb tb l g rl wss t) (hv : v ≤ 200) : RX sc (d + 8) mr_253 [.ref 1, .int (nI v), .int k] H 1 (fun H' => ClsA H' B P 0 cw cl cp cb tb l g rl wss t ∧ FrK H H') := by
  obtain ⟨h0, h1, h2, h3, h4, ⟨q5, p6, h5, h6⟩, ⟨wq, h10, hwq⟩, hW, hCh, hT⟩ := id h
  refine RX.of ?_
  refine RQ.blk 2 (pc' := 2) (lv' := [(0, .ref 1), (1, .int (nI v)), (2, .int k)]) (st' := [.int (nI v), .ref 1]) (H' := _) (kc' := 0) (ks' := 0) rfl ?_
  refine RQ.call (v := none) (st' := []) rfl rfl rfl rfl rfl rfl (args_v [.int (nI v)] [] rfl rfl (Nat.le_of_ble_eq_true rfl) rfl h0 (Nat.le_of_ble_eq_true rfl)) (rc_reqNum h0 hv) ?_
  refine RQ.blk 1 (pc' := 6) (lv' := [(0, .ref 1), (1, .int (nI v)), (2, .int k)]) (st' := [.ref 1]) (H' := _) (kc' := 0) (ks' := 0) rfl ?_
  exact RQ.callP (st' := []) rfl rfl rfl rfl rfl rfl (args_v [] [] rfl rfl (Nat.le_of_ble_eq_true rfl) rfl h0 (Nat.le_of_ble_eq_true rfl)) (rc_down h0 rfl) rfl ⟨_, rfl, h, FrK.rfl'⟩
theorem rg_hi {w n : Nat} (h : w ≤ n) (hn : n < 2 ^ 31) : nI w ≤ nI n := by
  rw [Int32.le_iff_toInt_le, nI_toInt hn, nI_toInt (by omega)]
  omega
set_option maxRecDepth 20000 in
theorem rx_about_down {sc : Nat × (Nat → Int32)} {d : Nat} {H : aH} {B P : Nat} {cw cl : Int32} {cp cb : Nat} {tb : Nat → Int8} {l : Nat} {g : Nat → Int8} {rl : Nat} {wss : Nat → List aE} {t : aTr} {v w : Nat} (h : ClsA H B P 0 cw cl cp cb tb l g rl wss t) (hv : v ≤ 200) (hw : w ≤ 3) : RX sc (d + 8) mr_257 [.ref 1, .int (nI v), .int (nI w)] H 1 (fun H' => ClsA H' B P 0 cw cl cp cb tb l g rl wss t ∧ FrK H H') := by
  obtain ⟨h0, h1, h2, h3, h4, ⟨q5, p6, h5, h6⟩, ⟨wq, h10, hwq⟩, hW, hCh, hT⟩ := id h
  refine RX.of ?_
  refine RQ.blk 2 (pc' := 2) (lv' := [(0, .ref 1), (1, .int (nI v)), (2, .int (nI w))]) (st' := [.int (nI v), .ref 1]) (H' := _) (kc' := 0) (ks' := 0) rfl ?_
  refine RQ.call (v := none) (st' := []) rfl rfl rfl rfl rfl rfl (args_v [.int (nI v)] [] rfl rfl (Nat.le_of_ble_eq_true rfl) rfl h0 (Nat.le_of_ble_eq_true rfl)) (rc_reqNum h0 hv) ?_
  refine RQ.blk 4 (pc' := 9) (lv' := [(0, .ref 1), (1, .int (nI v)), (2, .int (nI w))]) (st' := [.int 3, .int 0, .int (nI w), .ref 1]) (H' := _) (kc' := 0) (ks' := 0) rfl ?_
  refine RQ.call (v := none) (st' := []) rfl rfl rfl rfl rfl rfl (args_v [.int 3, .int 0, .int (nI w)] [] rfl rfl (Nat.le_of_ble_eq_true rfl) rfl h0 (Nat.le_of_ble_eq_true rfl)) (rc_range (nI_nlt (Nat.zero_le w) (by omega)) (rg_hi (n := 3) hw (by decide))) ?_
  refine RQ.blk 1 (pc' := 13) (lv' := [(0, .ref 1), (1, .int (nI v)), (2, .int (nI w))]) (st' := [.ref 1]) (H' := _) (kc' := 0) (ks' := 0) rfl ?_
  exact RQ.callP (st' := []) rfl rfl rfl rfl rfl rfl (args_v [] [] rfl rfl (Nat.le_of_ble_eq_true rfl) rfl h0 (Nat.le_of_ble_eq_true rfl)) (rc_down h0 rfl) rfl ⟨_, rfl, h, FrK.rfl'⟩
set_option maxRecDepth 20000 in
theorem rx_about_no {sc : Nat × (Nat → Int32)} {d : Nat} {H : aH} {B P : Nat} {cw cl : Int32} {cp cb : Nat} {tb : Nat → Int8} {l : Nat} {g : Nat → Int8} {rl : Nat} {wss : Nat → List aE} {t : aTr} {v w : Nat} (h : ClsA H B P 1 cw cl cp cb tb l g rl wss t) (hk : TreeOk t.1 t.2.1 t.2.2.1 t.2.2.2.1) (hv : v ≤ 200) (hw : w ≤ 3) (hkd : t.1 v = 0) : RX sc (d + 8) mr_257 [.ref 1, .int (nI v), .int (nI w)] H 3 (fun H' => ClsA H' B P 1 cw cl cp cb tb l g rl wss t ∧ FrK H H') := by
  obtain ⟨h0, h1, h2, h3, h4, ⟨q5, p6, h5, h6⟩, ⟨wq, h10, hwq⟩, hW, hCh, hT⟩ := id h
  refine RX.of ?_
  have hkv := hk v hv
  refine RQ.blk 2 (pc' := 2) (lv' := [(0, .ref 1), (1, .int (nI v)), (2, .int (nI w))]) (st' := [.int (nI v), .ref 1]) (H' := _) (kc' := 0) (ks' := 0) rfl ?_
  refine RQ.call (v := none) (st' := []) rfl rfl rfl rfl rfl rfl (args_v [.int (nI v)] [] rfl rfl (Nat.le_of_ble_eq_true rfl) rfl h0 (Nat.le_of_ble_eq_true rfl)) (rc_reqNum h0 hv) ?_
  refine RQ.blk 4 (pc' := 9) (lv' := [(0, .ref 1), (1, .int (nI v)), (2, .int (nI w))]) (st' := [.int 3, .int 0, .int (nI w), .ref 1]) (H' := _) (kc' := 0) (ks' := 0) rfl ?_
  refine RQ.call (v := none) (st' := []) rfl rfl rfl rfl rfl rfl (args_v [.int 3, .int 0, .int (nI w)] [] rfl rfl (Nat.le_of_ble_eq_true rfl) rfl h0 (Nat.le_of_ble_eq_true rfl)) (rc_range (nI_nlt (Nat.zero_le w) (by omega)) (rg_hi (n := 3) hw (by decide))) ?_
  refine RQ.blk 1 (pc' := 13) (lv' := [(0, .ref 1), (1, .int (nI v)), (2, .int (nI w))]) (st' := [.ref 1]) (H' := _) (kc' := 0) (ks' := 0) rfl ?_
  refine RQ.call (v := none) (st' := []) rfl rfl rfl rfl rfl rfl (args_v [] [] rfl rfl (Nat.le_of_ble_eq_true rfl) rfl h0 (Nat.le_of_ble_eq_true rfl)) (rc_up h0 rfl) ?_
  refine RQ.blk 1 (pc' := 17) (lv' := [(0, .ref 1), (1, .int (nI v)), (2, .int (nI w))]) (st' := [.ref 1]) (H' := _) (kc' := 0) (ks' := 0) rfl ?_
  refine RQ.get (ci := 11) rfl h0 rfl rfl ?_
  refine RQ.blk 1 (pc' := 21) (lv' := [(0, .ref 1), (1, .int (nI v)), (2, .int (nI w))]) (st' := [.int (nI v), .ref 66]) (H' := _) (kc' := 0) (ks' := 0) rfl ?_
  refine RQ.call (v := some (.int (nI (t.1 v)))) (st' := []) rfl rfl rfl rfl rfl rfl (args_v [.int (nI v)] [] rfl rfl (Nat.le_of_ble_eq_true rfl) rfl hT.1 (Nat.le_of_ble_eq_true rfl)) (rc_kindOf hT.1 rfl hT.2.1 hv) ?_
  refine RQ.brF rfl rfl rfl (cF_ne (t.1 v) 0) ?_
  exact RQ.done (c := 1) (s := 6) rfl rfl rfl rfl ⟨_, rfl, h, FrK.rfl'⟩
