/-! ===== include, find, check; class; written by wip/gen/cls2.py ===== -/
set_option maxRecDepth 20000 in
theorem rn_incl {sc : Nat × (Nat → Int32)} {d N b u P : Nat} {H : aH} {bl up cw cl cp cb : Int32} {op : Nat → Bool} {sm : Nat → Nat} {D : Nat → Int8} {S K : Nat → Nat} {E : Nat → Option Nat} {ws : List aE} {Q : Nat → Nat} {vs : List aV} (h0 : H[0]? = some (kO 11 (fvs bl (nI P) up cw cl cp cb))) (hs : SightAt H op sm) (hsm : ∀ t, t < 8 → sm t < 2 ^ 31) (hV : VersIs H N vs) (hb : BatchAt H b D S K E ws.length u) (hbk : BatchOk S K E ws.length u) (hL : LayE D 0 S K E ws) (h5 : H[b + 5]? = some (kI 40 (fun j => nI (Q j)))) (hb1 : 1 ≤ b) (hb74 : b + 6 ≤ 74) (hK : ∀ i, i < ws.length → 1 ≤ K i ∧ K i ≤ 41) (hQ : ∀ i, i < ws.length → Q i < 2 ^ 30) (h1W : OneW ws) (hm : P + 1 < 2 ^ 30) (hlt : ∀ v ∈ vs, v.2.1 < P + 1) (hroom : vs.length + ws.length ≤ N) : RN sc (d + 4) mr_160 [.ref 1, .ref (b + 1)] H (fun H' => H'[0]? = some (kO 11 (fvs bl (nI (P + 1)) up cw cl cp cb)) ∧ VersIs H' N ((inclV (P + 1) Q 0 ws vs).filter (keepS op sm (P + 1) (kmV (inclV (P + 1) Q 0 ws vs)))) ∧ ∀ a, a ≠ 0 → ¬ (74 ≤ a ∧ a < 83) → H'[a]? = H[a]?) := by
  have hpr2 : ∀ v ∈ inclV (P + 1) Q 0 ws vs, v.2.1 ≤ P + 1 := fun v hv => by
    rcases mem_incl.mp hv with q | q
    · have := hlt v q; omega
    · rw [(verB_alone q).2]; exact Nat.le_refl _
  refine RN.of ?_
  refine RQ.blk 2 (pc' := 2) (lv' := [(0, .ref 1), (1, .ref (b + 1))]) (st' := [.ref 1, .ref 1]) (H' := _) (kc' := 0) (ks' := 0) rfl ?_
  refine RQ.get (ci := 11) rfl h0 rfl rfl ?_
  refine RQ.blk 2 (pc' := 7) (lv' := [(0, .ref 1), (1, .ref (b + 1))]) (st' := [.int (nI P + 1), .ref 1]) (H' := _) (kc' := 0) (ks' := 0) rfl ?_
  rw [show (nI P + 1 : Int32) = nI (P + 1) from nI_add P 1]
  refine RQ.put (ci := 11) rfl h0 rfl rfl (Nat.le_of_ble_eq_true rfl) ?_
  have h01 : (H.set 0 (kO 11 (fvs bl (nI (P + 1)) up cw cl cp cb)))[0]? = some (kO 11 (fvs bl (nI (P + 1)) up cw cl cp cb)) := get_set h0
  have f1 : ∀ a, a ≠ 0 → (H.set 0 (kO 11 (fvs bl (nI (P + 1)) up cw cl cp cb)))[a]? = H[a]? := fun a ha => set_far ha
  show RQ _ _ _ 10 [(0, .ref 1), (1, .ref (b + 1))] [] (H.set 0 (kO 11 (fvs bl (nI (P + 1)) up cw cl cp cb))) 0 0 _
  generalize (H.set 0 (kO 11 (fvs bl (nI (P + 1)) up cw cl cp cb))) = H1 at h01 f1 ⊢
  obtain ⟨vfs, hv74⟩ : ∃ fs, H1[74]? = some (kO 10 fs) := by obtain ⟨kf, kl, mo, pl, le, al, od, sp, sz, ss, ac, hA, -⟩ := hV; exact ⟨_, (f1 74 (by decide)).trans hA.1⟩
  refine RQ.blk 1 (pc' := 11) (lv' := [(0, .ref 1), (1, .ref (b + 1))]) (st' := [.ref 1]) (H' := _) (kc' := 0) (ks' := 0) rfl ?_
  refine RQ.get (ci := 11) rfl h01 rfl rfl ?_
  refine RQ.blk 2 (pc' := 16) (lv' := [(0, .ref 1), (1, .ref (b + 1))]) (st' := [.ref 1, .ref (b + 1), .ref 75]) (H' := _) (kc' := 0) (ks' := 0) rfl ?_
  refine RQ.get (ci := 11) rfl h01 rfl rfl ?_
  refine RQ.callN (st' := []) rfl rfl rfl rfl rfl rfl (args_v [.int (nI (P + 1)), .ref (b + 1)] [] rfl rfl (Nat.le_of_ble_eq_true rfl) rfl hv74 (Nat.le_of_ble_eq_true rfl)) (rn_include (hV.far (fun a a1 a2 => f1 a (by omega))) ⟨(f1 _ (by omega)).trans hb.1, (f1 _ (by omega)).trans hb.2.1, (f1 _ (by omega)).trans hb.2.2.1, (f1 _ (by omega)).trans hb.2.2.2.1, (f1 _ (by omega)).trans hb.2.2.2.2⟩ hbk hL ((f1 _ (by omega)).trans h5) hb74 hK hQ h1W hm hlt hroom) (fun H2 hx2 => ?_)
  obtain ⟨y1, y2⟩ := hx2
  obtain ⟨vfs2, hv2⟩ : ∃ fs, H2[74]? = some (kO 10 fs) := by obtain ⟨kf, kl, mo, pl, le, al, od, sp, sz, ss, ac, hA, -⟩ := y1; exact ⟨_, hA.1⟩
  refine RQ.blk 1 (pc' := 23) (lv' := [(0, .ref 1), (1, .ref (b + 1))]) (st' := [.ref 1]) (H' := _) (kc' := 0) (ks' := 0) rfl ?_
  refine RQ.get (ci := 11) rfl ((y2 0 (by decide)).trans h01) rfl rfl ?_
  refine RQ.callN (st' := []) rfl rfl rfl rfl rfl rfl (args_v [] [] rfl rfl (Nat.le_of_ble_eq_true rfl) rfl hv2 (Nat.le_of_ble_eq_true rfl)) (rn_purgeL (pr := P + 1) (hs.far2 (fun a a1 a2 => (y2 a (by omega)).trans (f1 a (by omega)))) hsm y1 hpr2) (fun H3 hx3 => ?_)
  obtain ⟨z1, z2⟩ := hx3
  exact RQ.done (c := 0) (s := 0) rfl rfl rfl rfl ⟨_, rfl, (z2 0 (by decide)).trans ((y2 0 (by decide)).trans h01), z1, fun a a1 a2 => (z2 a a2).trans ((y2 a a2).trans (f1 a a1))⟩
/-- only directories have children -/
def ParD (kd pa : Nat → Nat) : Prop := ∀ w, 1 ≤ w → w ≤ 200 → ¬ kd w = 0 → kd (pa w) = 2
theorem fst_none {P : Nat → Bool} : ∀ {n v : Nat}, (∀ w, v ≤ w → w < v + n → P w = false) → fstF P v n = none
  | 0, _, _ => rfl
  | n + 1, v, h => by
    rw [fstF, if_neg (by rw [h v (Nat.le_refl _) (by omega)]; decide)]
    exact fst_none (fun w a b => h w (by omega) (by omega))
theorem par_ch {kd pa nl : Nat → Nat} {nm : Nat → Int8} {v : Nat} {k : List Nat} (h : ParD kd pa) : (if kd v = 2 then fstF (inN kd pa nl nm v k) 1 200 else none) = fstF (inN kd pa nl nm v k) 1 200 := by
  by_cases c : kd v = 2
  · rw [if_pos c]
  · rw [if_neg c]
    refine (fst_none (fun w a b => ?_)).symm
    cases e : inD kd pa v w with
    | false => unfold inN; rw [e]; rfl
    | true =>
      unfold inD at e
      rw [Bool.and_eq_true, decide_eq_true_iff] at e
      have hw : ¬ kd w = 0 := fun q => by rw [decide_eq_true q] at e; exact Bool.noConfusion e.1
      have := h w a (by omega) hw
      rw [e.2] at this
      exact absurd this c
set_option maxRecDepth 20000 in
theorem ri_find_root {sc : Nat × (Nat → Int32)} {d : Nat} {H : aH} {B P : Nat} {cw cl : Int32} {cp cb : Nat} {tb : Nat → Int8} {l : Nat} {g : Nat → Int8} {rl : Nat} {wss : Nat → List aE} {t : aTr}  (h : ClsA H B P 1 cw cl cp cb tb l g rl wss t) (hl0 : l = 0) : RI sc (d + 8) mr_236 [.ref 1] H (fun x H' => x = 0 ∧ ClsA H' B P 1 cw cl cp cb tb 0 g rl wss t ∧ FrK H H') := by
  obtain ⟨h0, h1, h2, h3, h4, ⟨q5, p6, h5, h6⟩, ⟨wq, h10, hwq⟩, hW, hCh, hT⟩ := id h
  refine RI.of ?_
  refine RQ.blk 1 (pc' := 1) (lv' := [(0, .ref 1)]) (st' := [.ref 1]) (H' := _) (kc' := 0) (ks' := 0) rfl ?_
  refine RQ.call (v := none) (st' := []) rfl rfl rfl rfl rfl rfl (args_v [] [] rfl rfl (Nat.le_of_ble_eq_true rfl) rfl h0 (Nat.le_of_ble_eq_true rfl)) (rc_up h0 rfl) ?_
  refine RQ.blk 1 (pc' := 5) (lv' := [(0, .ref 1)]) (st' := [.ref 1]) (H' := _) (kc' := 0) (ks' := 0) rfl ?_
  refine RQ.call (v := some (.int (nI l))) (st' := []) rfl rfl rfl rfl rfl rfl (args_v [] [] rfl rfl (Nat.le_of_ble_eq_true rfl) rfl h0 (Nat.le_of_ble_eq_true rfl)) (rc_takeTape h0 h1) ?_
  have far1 : ∀ a, a ≠ 1 → (H.set 1 (kO 5 [.ref 3, .int (nI 0)]))[a]? = H[a]? := fun a ha => set_far ha
  have h11 : (H.set 1 (kO 5 [.ref 3, .int (nI 0)]))[1]? = some (kO 5 [.ref 3, .int (nI 0)]) := get_set h1
  refine RQ.blk 7 (pc' := 16) (lv' := [(4, .int 0), (3, .int 0), (2, .int 0), (1, .int (nI l)), (0, .ref 1)]) (st' := []) (H' := _) (kc' := 0) (ks' := 0) rfl ?_
  refine RQ.pick (a := [(4, .int 0), (3, .int 0), (2, .int 0), (1, .int (nI l)), (0, .ref 1)]) [0, 1, 2, 3, 4] [4, 3, 2, 1, 0] rfl rfl (by decide) ?_
  show RQ _ _ _ 16 [(4, .int 0), (3, .int 0), (2, .int 0), (1, .int (nI l)), (0, .ref 1)] [] (H.set 1 (kO 5 [.ref 3, .int (nI 0)])) 0 0 _
  generalize (H.set 1 (kO 5 [.ref 3, .int (nI 0)])) = H1 at far1 h11 ⊢
  have h01 := (far1 0 (by decide)).trans h0
  have h21 := (far1 2 (by decide)).trans h2
  have hT1 : TreeAt H1 t.1 t.2.1 t.2.2.1 t.2.2.2.1 t.2.2.2.2.1 t.2.2.2.2.2 := hT.far (fun a a1 a2 => far1 a (by omega))
  refine RQ.blk 2 (pc' := 19) (lv' := [(4, .int 0), (3, .int 0), (2, .int 0), (1, .int (nI l)), (0, .ref 1)]) (st' := [.int (nI l), .int 0]) (H' := _) (kc' := 0) (ks' := 0) rfl ?_
  refine RQ.brF rfl rfl rfl (cF_gt 0 l) ?_
  refine RQ.blk 1 (pc' := 23) (lv' := [(4, .int 0), (3, .int 0), (2, .int 0), (1, .int (nI l)), (0, .ref 1)]) (st' := [.int (nI l)]) (H' := _) (kc' := 0) (ks' := 0) rfl ?_
  refine RQ.brT rfl rfl rfl (cT_le l 0) ?_
  refine RQ.blk 1 (pc' := 85) (lv' := [(4, .int 0), (3, .int 0), (2, .int 0), (1, .int (nI l)), (0, .ref 1)]) (st' := [.int 0]) (H' := _) (kc' := 0) (ks' := 0) rfl ?_
  exact RQ.done (c := 0) (s := 0) rfl rfl rfl rfl ⟨_, _, rfl, rfl, h.small h01 h11 h21 ((far1 3 (by decide)).trans h3) ((far1 4 (by decide)).trans h4) ⟨q5, p6, (far1 5 (by decide)).trans h5, (far1 6 (by decide)).trans h6⟩ (fun a a1 a2 => far1 a (by omega)), fun a ha => far1 a (by omega)⟩
set_option maxRecDepth 20000 in
theorem rx_find_down {sc : Nat × (Nat → Int32)} {d : Nat} {H : aH} {B P : Nat} {cw cl : Int32} {cp cb : Nat} {tb : Nat → Int8} {l : Nat} {g : Nat → Int8} {rl : Nat} {wss : Nat → List aE} {t : aTr}  (h : ClsA H B P 0 cw cl cp cb tb l g rl wss t)  : RX sc (d + 8) mr_236 [.ref 1] H 1 (fun H' => ClsA H' B P 0 cw cl cp cb tb l g rl wss t ∧ FrK H H') := by
  obtain ⟨h0, h1, h2, h3, h4, ⟨q5, p6, h5, h6⟩, ⟨wq, h10, hwq⟩, hW, hCh, hT⟩ := id h
  refine RX.of ?_
  refine RQ.blk 1 (pc' := 1) (lv' := [(0, .ref 1)]) (st' := [.ref 1]) (H' := _) (kc' := 0) (ks' := 0) rfl ?_
  exact RQ.callP (st' := []) rfl rfl rfl rfl rfl rfl (args_v [] [] rfl rfl (Nat.le_of_ble_eq_true rfl) rfl h0 (Nat.le_of_ble_eq_true rfl)) (rc_down h0 rfl) rfl ⟨_, rfl, h, FrK.rfl'⟩
set_option maxRecDepth 20000 in
theorem ri_find {sc : Nat × (Nat → Int32)} {d : Nat} {H : aH} {B P : Nat} {cw cl : Int32} {cp cb : Nat} {tb : Nat → Int8} {l : Nat} {g : Nat → Int8} {rl : Nat} {wss : Nat → List aE} {t : aTr} {r : Nat} (h : ClsA H B P 1 cw cl cp cb tb l g rl wss t) (hk : TreeOk t.1 t.2.1 t.2.2.1 t.2.2.2.1) (hpar : ParD t.1 t.2.1) (hl : l ≤ 2000) (hl0 : 1 ≤ l) (hfn : fnF t.1 t.2.1 t.2.2.2.1 t.2.2.2.2.1 tb l (l + 2) 0 0 = some r) : RI sc (d + 8) mr_236 [.ref 1] H (fun x H' => x = nI r ∧ ClsA H' B P 1 cw cl cp cb tb 0 g rl wss t ∧ FrK H H') := by
  obtain ⟨h0, h1, h2, h3, h4, ⟨q5, p6, h5, h6⟩, ⟨wq, h10, hwq⟩, hW, hCh, hT⟩ := id h
  refine RI.of ?_
  refine RQ.blk 1 (pc' := 1) (lv' := [(0, .ref 1)]) (st' := [.ref 1]) (H' := _) (kc' := 0) (ks' := 0) rfl ?_
  refine RQ.call (v := none) (st' := []) rfl rfl rfl rfl rfl rfl (args_v [] [] rfl rfl (Nat.le_of_ble_eq_true rfl) rfl h0 (Nat.le_of_ble_eq_true rfl)) (rc_up h0 rfl) ?_
  refine RQ.blk 1 (pc' := 5) (lv' := [(0, .ref 1)]) (st' := [.ref 1]) (H' := _) (kc' := 0) (ks' := 0) rfl ?_
  refine RQ.call (v := some (.int (nI l))) (st' := []) rfl rfl rfl rfl rfl rfl (args_v [] [] rfl rfl (Nat.le_of_ble_eq_true rfl) rfl h0 (Nat.le_of_ble_eq_true rfl)) (rc_takeTape h0 h1) ?_
  have far1 : ∀ a, a ≠ 1 → (H.set 1 (kO 5 [.ref 3, .int (nI 0)]))[a]? = H[a]? := fun a ha => set_far ha
  have h11 : (H.set 1 (kO 5 [.ref 3, .int (nI 0)]))[1]? = some (kO 5 [.ref 3, .int (nI 0)]) := get_set h1
  refine RQ.blk 7 (pc' := 16) (lv' := [(4, .int 0), (3, .int 0), (2, .int 0), (1, .int (nI l)), (0, .ref 1)]) (st' := []) (H' := _) (kc' := 0) (ks' := 0) rfl ?_
  refine RQ.pick (a := [(4, .int 0), (3, .int 0), (2, .int 0), (1, .int (nI l)), (0, .ref 1)]) [0, 1, 2, 3, 4] [4, 3, 2, 1, 0] rfl rfl (by decide) ?_
  show RQ _ _ _ 16 [(4, .int 0), (3, .int 0), (2, .int 0), (1, .int (nI l)), (0, .ref 1)] [] (H.set 1 (kO 5 [.ref 3, .int (nI 0)])) 0 0 _
  generalize (H.set 1 (kO 5 [.ref 3, .int (nI 0)])) = H1 at far1 h11 ⊢
  have h01 := (far1 0 (by decide)).trans h0
  have h21 := (far1 2 (by decide)).trans h2
  have hT1 : TreeAt H1 t.1 t.2.1 t.2.2.1 t.2.2.2.1 t.2.2.2.2.1 t.2.2.2.2.2 := hT.far (fun a a1 a2 => far1 a (by omega))
  refine RQ.while (S := Nat × Nat × Nat) (pc := 16) (fun s H' => s.1 ≤ 200 ∧ s.2.1 ≤ s.2.2 ∧ s.2.2 ≤ l + 1 ∧ (s.2.2 ≤ l → fstF (fun j => decide ((tb j).toInt32 = 47)) s.2.1 (l - s.2.1) = fstF (fun j => decide ((tb j).toInt32 = 47)) s.2.2 (l - s.2.2)) ∧ (s.2.2 = l + 1 → s.2.1 = l + 1) ∧ fnF t.1 t.2.1 t.2.2.2.1 t.2.2.2.2.1 tb l (l + 2 - s.2.1) s.1 s.2.1 = some r ∧ H' = H1) (fun s => [(4, .int (nI s.2.2)), (3, .int (nI s.2.1)), (2, .int (nI s.1)), (1, .int (nI l)), (0, .ref 1)]) (fun s => l + 1 - s.2.2) ?_ (0, 0, 0) H1 ⟨Nat.zero_le _, Nat.zero_le _, Nat.zero_le _, fun _ => rfl, fun e => by dsimp only at e; omega, hfn, rfl⟩
  rintro ⟨v, f, i⟩ H3 ⟨hv, hfi, hi, hsp, hend, he, eH⟩ ih
  dsimp only at hv hfi hi hsp hend he ⊢
  rw [eH]
  by_cases hil : i ≤ l
  ·
    have hs0 := hsp hil
    rw [show l + 2 - f = l + 1 - f + 1 by omega, fnF, if_neg (by omega), par_ch hpar] at he
    refine RQ.blk 2 (pc' := 19) (lv' := [(4, .int (nI i)), (3, .int (nI f)), (2, .int (nI v)), (1, .int (nI l)), (0, .ref 1)]) (st' := [.int (nI l), .int (nI i)]) (H' := _) (kc' := 0) (ks' := 0) rfl ?_
    refine RQ.brF rfl rfl rfl (cF_gt i l) ?_
    refine RQ.blk 1 (pc' := 23) (lv' := [(4, .int (nI i)), (3, .int (nI f)), (2, .int (nI v)), (1, .int (nI l)), (0, .ref 1)]) (st' := [.int (nI l)]) (H' := _) (kc' := 0) (ks' := 0) rfl ?_
    refine RQ.brF rfl rfl rfl (cF_le l 0) ?_
    refine RQ.blk 2 (pc' := 29) (lv' := [(4, .int (nI i)), (3, .int (nI f)), (2, .int (nI v)), (1, .int (nI l)), (0, .ref 1)]) (st' := [.int (nI l), .int (nI i)]) (H' := _) (kc' := 0) (ks' := 0) rfl ?_
    by_cases kl0 : i = l
    · refine RQ.brT rfl rfl rfl (cT_eq i l) ?_
      have hspi : spT tb l f = i := by unfold spT; rw [hs0, show l - i = 0 by omega]; show l = i; omega
      rw [hspi] at he
      have hch := rc_childNamed (sc := sc) (d := d + 6) (dd := v) (j := f) (m := i - f) hT1 hk h21 (by decide) (by omega) hv
      refine RQ.blk 1 (pc' := 48) (lv' := [(4, .int (nI i)), (3, .int (nI f)), (2, .int (nI v)), (1, .int (nI l)), (0, .ref 1)]) (st' := [.ref 1]) (H' := _) (kc' := 0) (ks' := 0) rfl ?_
      refine RQ.get (ci := 11) rfl h01 rfl rfl ?_
      refine RQ.blk 2 (pc' := 53) (lv' := [(4, .int (nI i)), (3, .int (nI f)), (2, .int (nI v)), (1, .int (nI l)), (0, .ref 1)]) (st' := [.ref 1, .int (nI v), .ref 66]) (H' := _) (kc' := 0) (ks' := 0) rfl ?_
      refine RQ.get (ci := 11) rfl h01 rfl rfl ?_
      refine RQ.get (ci := 5) rfl h11 rfl rfl ?_
      refine RQ.blk 4 (pc' := 64) (lv' := [(4, .int (nI i)), (3, .int (nI f)), (2, .int (nI v)), (1, .int (nI l)), (0, .ref 1)]) (st' := [.int (nI i - nI f), .int (nI f), .ref 3, .int (nI v), .ref 66]) (H' := _) (kc' := 0) (ks' := 0) rfl ?_
      rw [show (nI i - nI f : Int32) = nI (i - f) from pk_sub (a := i) (b := f) (by omega)]
      cases hc : fstF (inN t.1 t.2.1 t.2.2.2.1 t.2.2.2.2.1 v (sl tb f (i - f))) 1 200 with
      | none =>
        rw [hc] at he hch
        dsimp only at he
        exact absurd he (by intro e; cases e)
      | some c =>
        rw [hc] at he hch
        dsimp only at he
        have hcl := fstF_lt hc
        refine RQ.call (v := some (.int (nI c))) (st' := []) rfl rfl rfl rfl rfl rfl (args_v [.int (nI (i - f)), .int (nI f), .ref 3, .int (nI v)] [] rfl rfl (Nat.le_of_ble_eq_true rfl) rfl hT1.1 (Nat.le_of_ble_eq_true rfl)) hch ?_
        refine RQ.blk 3 (pc' := 70) (lv' := [(2, .int (nI c)), (4, .int (nI i)), (3, .int (nI f)), (1, .int (nI l)), (0, .ref 1)]) (st' := [.int (nI c), .ref 1]) (H' := _) (kc' := 0) (ks' := 0) rfl ?_
        refine RQ.call (v := none) (st' := []) rfl rfl rfl rfl rfl rfl (args_v [.int (nI c)] [] rfl rfl (Nat.le_of_ble_eq_true rfl) rfl h01 (Nat.le_of_ble_eq_true rfl)) (rc_there (by omega)) ?_
        refine RQ.blk 3 (pc' := 77) (lv' := [(2, .int (nI c)), (4, .int (nI i)), (3, .int (nI f)), (1, .int (nI l)), (0, .ref 1)]) (st' := [.int (nI i + 1)]) (H' := _) (kc' := 0) (ks' := 0) rfl ?_
        rw [show (nI i + 1 : Int32) = nI (i + 1) from nI_add i 1]
        refine RQ.blk 2 (pc' := 81) (lv' := [(4, .int (nI i + 1)), (3, .int (nI (i + 1))), (2, .int (nI c)), (1, .int (nI l)), (0, .ref 1)]) (st' := []) (H' := _) (kc' := 0) (ks' := 0) rfl ?_
        rw [show (nI i + 1 : Int32) = nI (i + 1) from nI_add i 1]
        refine RQ.blk 1 (pc' := 16) (lv' := [(4, .int (nI (i + 1))), (3, .int (nI (i + 1))), (2, .int (nI c)), (1, .int (nI l)), (0, .ref 1)]) (st' := []) (H' := _) (kc' := 0) (ks' := 0) rfl ?_
        refine RQ.pick (a := [(4, .int (nI (i + 1))), (3, .int (nI (i + 1))), (2, .int (nI c)), (1, .int (nI l)), (0, .ref 1)]) [0, 1, 2, 3, 4] [4, 3, 2, 1, 0] rfl rfl (by decide) ?_
        exact ih (c, i + 1, i + 1) _ ⟨by show c ≤ 200; omega, Nat.le_refl _, by show i + 1 ≤ l + 1; omega, fun _ => rfl, fun e => e, by show fnF t.1 t.2.1 t.2.2.2.1 t.2.2.2.2.1 tb l (l + 2 - (i + 1)) c (i + 1) = _; rw [← he]; exact fnF_fuel (by omega) (by omega), rfl⟩ (by show l + 1 - (i + 1) < l + 1 - i; omega)
    · refine RQ.brF rfl rfl rfl (cF_eq i l) ?_
      refine RQ.blk 1 (pc' := 33) (lv' := [(4, .int (nI i)), (3, .int (nI f)), (2, .int (nI v)), (1, .int (nI l)), (0, .ref 1)]) (st' := [.ref 1]) (H' := _) (kc' := 0) (ks' := 0) rfl ?_
      refine RQ.get (ci := 11) rfl h01 rfl rfl ?_
      refine RQ.get (ci := 5) rfl h11 rfl rfl ?_
      refine RQ.blk 1 (pc' := 41) (lv' := [(4, .int (nI i)), (3, .int (nI f)), (2, .int (nI v)), (1, .int (nI l)), (0, .ref 1)]) (st' := [.int (nI i), .ref 3]) (H' := _) (kc' := 0) (ks' := 0) rfl ?_
      refine RQ.baldN (j := i) rfl h21 (by omega) (by decide) ?_
      refine RQ.blk 1 (pc' := 44) (lv' := [(4, .int (nI i)), (3, .int (nI f)), (2, .int (nI v)), (1, .int (nI l)), (0, .ref 1)]) (st' := [.int 47, .int ((tb i).toInt32)]) (H' := _) (kc' := 0) (ks' := 0) rfl ?_
      by_cases kz : (tb i).toInt32 = 47
      · refine RQ.brF rfl rfl rfl (bnf kz) ?_
        have hspi : spT tb l f = i := by unfold spT; rw [hs0, fstF_hit (by omega) (decide_eq_true kz)]; rfl
        rw [hspi] at he
        have hch := rc_childNamed (sc := sc) (d := d + 6) (dd := v) (j := f) (m := i - f) hT1 hk h21 (by decide) (by omega) hv
        refine RQ.blk 1 (pc' := 48) (lv' := [(4, .int (nI i)), (3, .int (nI f)), (2, .int (nI v)), (1, .int (nI l)), (0, .ref 1)]) (st' := [.ref 1]) (H' := _) (kc' := 0) (ks' := 0) rfl ?_
        refine RQ.get (ci := 11) rfl h01 rfl rfl ?_
        refine RQ.blk 2 (pc' := 53) (lv' := [(4, .int (nI i)), (3, .int (nI f)), (2, .int (nI v)), (1, .int (nI l)), (0, .ref 1)]) (st' := [.ref 1, .int (nI v), .ref 66]) (H' := _) (kc' := 0) (ks' := 0) rfl ?_
        refine RQ.get (ci := 11) rfl h01 rfl rfl ?_
        refine RQ.get (ci := 5) rfl h11 rfl rfl ?_
        refine RQ.blk 4 (pc' := 64) (lv' := [(4, .int (nI i)), (3, .int (nI f)), (2, .int (nI v)), (1, .int (nI l)), (0, .ref 1)]) (st' := [.int (nI i - nI f), .int (nI f), .ref 3, .int (nI v), .ref 66]) (H' := _) (kc' := 0) (ks' := 0) rfl ?_
        rw [show (nI i - nI f : Int32) = nI (i - f) from pk_sub (a := i) (b := f) (by omega)]
        cases hc : fstF (inN t.1 t.2.1 t.2.2.2.1 t.2.2.2.2.1 v (sl tb f (i - f))) 1 200 with
        | none =>
          rw [hc] at he hch
          dsimp only at he
          exact absurd he (by intro e; cases e)
        | some c =>
          rw [hc] at he hch
          dsimp only at he
          have hcl := fstF_lt hc
          refine RQ.call (v := some (.int (nI c))) (st' := []) rfl rfl rfl rfl rfl rfl (args_v [.int (nI (i - f)), .int (nI f), .ref 3, .int (nI v)] [] rfl rfl (Nat.le_of_ble_eq_true rfl) rfl hT1.1 (Nat.le_of_ble_eq_true rfl)) hch ?_
          refine RQ.blk 3 (pc' := 70) (lv' := [(2, .int (nI c)), (4, .int (nI i)), (3, .int (nI f)), (1, .int (nI l)), (0, .ref 1)]) (st' := [.int (nI c), .ref 1]) (H' := _) (kc' := 0) (ks' := 0) rfl ?_
          refine RQ.call (v := none) (st' := []) rfl rfl rfl rfl rfl rfl (args_v [.int (nI c)] [] rfl rfl (Nat.le_of_ble_eq_true rfl) rfl h01 (Nat.le_of_ble_eq_true rfl)) (rc_there (by omega)) ?_
          refine RQ.blk 3 (pc' := 77) (lv' := [(2, .int (nI c)), (4, .int (nI i)), (3, .int (nI f)), (1, .int (nI l)), (0, .ref 1)]) (st' := [.int (nI i + 1)]) (H' := _) (kc' := 0) (ks' := 0) rfl ?_
          rw [show (nI i + 1 : Int32) = nI (i + 1) from nI_add i 1]
          refine RQ.blk 2 (pc' := 81) (lv' := [(4, .int (nI i + 1)), (3, .int (nI (i + 1))), (2, .int (nI c)), (1, .int (nI l)), (0, .ref 1)]) (st' := []) (H' := _) (kc' := 0) (ks' := 0) rfl ?_
          rw [show (nI i + 1 : Int32) = nI (i + 1) from nI_add i 1]
          refine RQ.blk 1 (pc' := 16) (lv' := [(4, .int (nI (i + 1))), (3, .int (nI (i + 1))), (2, .int (nI c)), (1, .int (nI l)), (0, .ref 1)]) (st' := []) (H' := _) (kc' := 0) (ks' := 0) rfl ?_
          refine RQ.pick (a := [(4, .int (nI (i + 1))), (3, .int (nI (i + 1))), (2, .int (nI c)), (1, .int (nI l)), (0, .ref 1)]) [0, 1, 2, 3, 4] [4, 3, 2, 1, 0] rfl rfl (by decide) ?_
          exact ih (c, i + 1, i + 1) _ ⟨by show c ≤ 200; omega, Nat.le_refl _, by show i + 1 ≤ l + 1; omega, fun _ => rfl, fun e => e, by show fnF t.1 t.2.1 t.2.2.2.1 t.2.2.2.2.1 tb l (l + 2 - (i + 1)) c (i + 1) = _; rw [← he]; exact fnF_fuel (by omega) (by omega), rfl⟩ (by show l + 1 - (i + 1) < l + 1 - i; omega)
      · refine RQ.brT rfl rfl rfl (bnt kz) ?_
        refine RQ.blk 1 (pc' := 81) (lv' := [(4, .int (nI i + 1)), (3, .int (nI f)), (2, .int (nI v)), (1, .int (nI l)), (0, .ref 1)]) (st' := []) (H' := _) (kc' := 0) (ks' := 0) rfl ?_
        rw [show (nI i + 1 : Int32) = nI (i + 1) from nI_add i 1]
        refine RQ.blk 1 (pc' := 16) (lv' := [(4, .int (nI (i + 1))), (3, .int (nI f)), (2, .int (nI v)), (1, .int (nI l)), (0, .ref 1)]) (st' := []) (H' := _) (kc' := 0) (ks' := 0) rfl ?_
        refine RQ.pick (a := [(4, .int (nI (i + 1))), (3, .int (nI f)), (2, .int (nI v)), (1, .int (nI l)), (0, .ref 1)]) [0, 1, 2, 3, 4] [4, 3, 2, 1, 0] rfl rfl (by decide) ?_
        exact ih (v, f, i + 1) _ ⟨hv, by show f ≤ i + 1; omega, by show i + 1 ≤ l + 1; omega, fun _ => by show fstF _ f (l - f) = fstF _ (i + 1) (l - (i + 1)); rw [hs0, fstF_miss (by omega) (decide_eq_false kz), show l - i - 1 = l - (i + 1) by omega], fun e => by dsimp only at e; omega, by show fnF t.1 t.2.1 t.2.2.2.1 t.2.2.2.2.1 tb l (l + 2 - f) v f = _; rw [show l + 2 - f = l + 1 - f + 1 by omega, fnF, if_neg (by omega), par_ch hpar]; exact he, rfl⟩ (by show l + 1 - (i + 1) < l + 1 - i; omega)
  ·
    have hfl := hend (by omega)
    rw [show l + 2 - f = l + 1 - f + 1 by omega, fnF, if_pos (by omega)] at he
    refine RQ.blk 2 (pc' := 19) (lv' := [(4, .int (nI i)), (3, .int (nI f)), (2, .int (nI v)), (1, .int (nI l)), (0, .ref 1)]) (st' := [.int (nI l), .int (nI i)]) (H' := _) (kc' := 0) (ks' := 0) rfl ?_
    refine RQ.brT rfl rfl rfl (cT_gt i l) ?_
    refine RQ.blk 1 (pc' := 85) (lv' := [(4, .int (nI i)), (3, .int (nI f)), (2, .int (nI v)), (1, .int (nI l)), (0, .ref 1)]) (st' := [.int (nI v)]) (H' := _) (kc' := 0) (ks' := 0) rfl ?_
    exact RQ.done (c := 0) (s := 0) rfl rfl rfl rfl ⟨_, _, rfl, (by rw [Option.some.inj he]), h.small h01 h11 h21 ((far1 3 (by decide)).trans h3) ((far1 4 (by decide)).trans h4) ⟨q5, p6, (far1 5 (by decide)).trans h5, (far1 6 (by decide)).trans h6⟩ (fun a a1 a2 => far1 a (by omega)), fun a ha => far1 a (by omega)⟩
set_option maxRecDepth 20000 in
theorem rx_find_no {sc : Nat × (Nat → Int32)} {d : Nat} {H : aH} {B P : Nat} {cw cl : Int32} {cp cb : Nat} {tb : Nat → Int8} {l : Nat} {g : Nat → Int8} {rl : Nat} {wss : Nat → List aE} {t : aTr}  (h : ClsA H B P 1 cw cl cp cb tb l g rl wss t) (hk : TreeOk t.1 t.2.1 t.2.2.1 t.2.2.2.1) (hpar : ParD t.1 t.2.1) (hl : l ≤ 2000) (hl0 : 1 ≤ l) (hfn : fnF t.1 t.2.1 t.2.2.2.1 t.2.2.2.2.1 tb l (l + 2) 0 0 = none) : RX sc (d + 8) mr_236 [.ref 1] H 3 (fun H' => ClsA H' B P 1 cw cl cp cb tb 0 g rl wss t ∧ FrK H H') := by
  obtain ⟨h0, h1, h2, h3, h4, ⟨q5, p6, h5, h6⟩, ⟨wq, h10, hwq⟩, hW, hCh, hT⟩ := id h
  refine RX.of ?_
  refine RQ.blk 1 (pc' := 1) (lv' := [(0, .ref 1)]) (st' := [.ref 1]) (H' := _) (kc' := 0) (ks' := 0) rfl ?_
  refine RQ.call (v := none) (st' := []) rfl rfl rfl rfl rfl rfl (args_v [] [] rfl rfl (Nat.le_of_ble_eq_true rfl) rfl h0 (Nat.le_of_ble_eq_true rfl)) (rc_up h0 rfl) ?_
  refine RQ.blk 1 (pc' := 5) (lv' := [(0, .ref 1)]) (st' := [.ref 1]) (H' := _) (kc' := 0) (ks' := 0) rfl ?_
  refine RQ.call (v := some (.int (nI l))) (st' := []) rfl rfl rfl rfl rfl rfl (args_v [] [] rfl rfl (Nat.le_of_ble_eq_true rfl) rfl h0 (Nat.le_of_ble_eq_true rfl)) (rc_takeTape h0 h1) ?_
  have far1 : ∀ a, a ≠ 1 → (H.set 1 (kO 5 [.ref 3, .int (nI 0)]))[a]? = H[a]? := fun a ha => set_far ha
  have h11 : (H.set 1 (kO 5 [.ref 3, .int (nI 0)]))[1]? = some (kO 5 [.ref 3, .int (nI 0)]) := get_set h1
  refine RQ.blk 7 (pc' := 16) (lv' := [(4, .int 0), (3, .int 0), (2, .int 0), (1, .int (nI l)), (0, .ref 1)]) (st' := []) (H' := _) (kc' := 0) (ks' := 0) rfl ?_
  refine RQ.pick (a := [(4, .int 0), (3, .int 0), (2, .int 0), (1, .int (nI l)), (0, .ref 1)]) [0, 1, 2, 3, 4] [4, 3, 2, 1, 0] rfl rfl (by decide) ?_
  show RQ _ _ _ 16 [(4, .int 0), (3, .int 0), (2, .int 0), (1, .int (nI l)), (0, .ref 1)] [] (H.set 1 (kO 5 [.ref 3, .int (nI 0)])) 0 0 _
  generalize (H.set 1 (kO 5 [.ref 3, .int (nI 0)])) = H1 at far1 h11 ⊢
  have h01 := (far1 0 (by decide)).trans h0
  have h21 := (far1 2 (by decide)).trans h2
  have hT1 : TreeAt H1 t.1 t.2.1 t.2.2.1 t.2.2.2.1 t.2.2.2.2.1 t.2.2.2.2.2 := hT.far (fun a a1 a2 => far1 a (by omega))
  refine RQ.while (S := Nat × Nat × Nat) (pc := 16) (fun s H' => s.1 ≤ 200 ∧ s.2.1 ≤ s.2.2 ∧ s.2.2 ≤ l + 1 ∧ (s.2.2 ≤ l → fstF (fun j => decide ((tb j).toInt32 = 47)) s.2.1 (l - s.2.1) = fstF (fun j => decide ((tb j).toInt32 = 47)) s.2.2 (l - s.2.2)) ∧ (s.2.2 = l + 1 → s.2.1 = l + 1) ∧ fnF t.1 t.2.1 t.2.2.2.1 t.2.2.2.2.1 tb l (l + 2 - s.2.1) s.1 s.2.1 = none ∧ H' = H1) (fun s => [(4, .int (nI s.2.2)), (3, .int (nI s.2.1)), (2, .int (nI s.1)), (1, .int (nI l)), (0, .ref 1)]) (fun s => l + 1 - s.2.2) ?_ (0, 0, 0) H1 ⟨Nat.zero_le _, Nat.zero_le _, Nat.zero_le _, fun _ => rfl, fun e => by dsimp only at e; omega, hfn, rfl⟩
  rintro ⟨v, f, i⟩ H3 ⟨hv, hfi, hi, hsp, hend, he, eH⟩ ih
  dsimp only at hv hfi hi hsp hend he ⊢
  rw [eH]
  by_cases hil : i ≤ l
  ·
    have hs0 := hsp hil
    rw [show l + 2 - f = l + 1 - f + 1 by omega, fnF, if_neg (by omega), par_ch hpar] at he
    refine RQ.blk 2 (pc' := 19) (lv' := [(4, .int (nI i)), (3, .int (nI f)), (2, .int (nI v)), (1, .int (nI l)), (0, .ref 1)]) (st' := [.int (nI l), .int (nI i)]) (H' := _) (kc' := 0) (ks' := 0) rfl ?_
    refine RQ.brF rfl rfl rfl (cF_gt i l) ?_
    refine RQ.blk 1 (pc' := 23) (lv' := [(4, .int (nI i)), (3, .int (nI f)), (2, .int (nI v)), (1, .int (nI l)), (0, .ref 1)]) (st' := [.int (nI l)]) (H' := _) (kc' := 0) (ks' := 0) rfl ?_
    refine RQ.brF rfl rfl rfl (cF_le l 0) ?_
    refine RQ.blk 2 (pc' := 29) (lv' := [(4, .int (nI i)), (3, .int (nI f)), (2, .int (nI v)), (1, .int (nI l)), (0, .ref 1)]) (st' := [.int (nI l), .int (nI i)]) (H' := _) (kc' := 0) (ks' := 0) rfl ?_
    by_cases kl0 : i = l
    · refine RQ.brT rfl rfl rfl (cT_eq i l) ?_
      have hspi : spT tb l f = i := by unfold spT; rw [hs0, show l - i = 0 by omega]; show l = i; omega
      rw [hspi] at he
      have hch := rc_childNamed (sc := sc) (d := d + 6) (dd := v) (j := f) (m := i - f) hT1 hk h21 (by decide) (by omega) hv
      refine RQ.blk 1 (pc' := 48) (lv' := [(4, .int (nI i)), (3, .int (nI f)), (2, .int (nI v)), (1, .int (nI l)), (0, .ref 1)]) (st' := [.ref 1]) (H' := _) (kc' := 0) (ks' := 0) rfl ?_
      refine RQ.get (ci := 11) rfl h01 rfl rfl ?_
      refine RQ.blk 2 (pc' := 53) (lv' := [(4, .int (nI i)), (3, .int (nI f)), (2, .int (nI v)), (1, .int (nI l)), (0, .ref 1)]) (st' := [.ref 1, .int (nI v), .ref 66]) (H' := _) (kc' := 0) (ks' := 0) rfl ?_
      refine RQ.get (ci := 11) rfl h01 rfl rfl ?_
      refine RQ.get (ci := 5) rfl h11 rfl rfl ?_
      refine RQ.blk 4 (pc' := 64) (lv' := [(4, .int (nI i)), (3, .int (nI f)), (2, .int (nI v)), (1, .int (nI l)), (0, .ref 1)]) (st' := [.int (nI i - nI f), .int (nI f), .ref 3, .int (nI v), .ref 66]) (H' := _) (kc' := 0) (ks' := 0) rfl ?_
      rw [show (nI i - nI f : Int32) = nI (i - f) from pk_sub (a := i) (b := f) (by omega)]
      cases hc : fstF (inN t.1 t.2.1 t.2.2.2.1 t.2.2.2.2.1 v (sl tb f (i - f))) 1 200 with
      | none =>
        rw [hc] at he hch
        dsimp only at he
        refine RQ.call (v := some (.int (-1))) (st' := []) rfl rfl rfl rfl rfl rfl (args_v [.int (nI (i - f)), .int (nI f), .ref 3, .int (nI v)] [] rfl rfl (Nat.le_of_ble_eq_true rfl) rfl hT1.1 (Nat.le_of_ble_eq_true rfl)) hch ?_
        refine RQ.blk 3 (pc' := 70) (lv' := [(2, .int (-1)), (4, .int (nI i)), (3, .int (nI f)), (1, .int (nI l)), (0, .ref 1)]) (st' := [.int (-1), .ref 1]) (H' := _) (kc' := 0) (ks' := 0) rfl ?_
        exact RQ.callP (st' := []) rfl rfl rfl rfl rfl rfl (args_v [.int (-1)] [] rfl rfl (Nat.le_of_ble_eq_true rfl) rfl h01 (Nat.le_of_ble_eq_true rfl)) (rc_thereX (by decide)) rfl ⟨_, rfl, h.small h01 h11 h21 ((far1 3 (by decide)).trans h3) ((far1 4 (by decide)).trans h4) ⟨q5, p6, (far1 5 (by decide)).trans h5, (far1 6 (by decide)).trans h6⟩ (fun a a1 a2 => far1 a (by omega)), fun a ha => far1 a (by omega)⟩
      | some c =>
        rw [hc] at he hch
        dsimp only at he
        have hcl := fstF_lt hc
        refine RQ.call (v := some (.int (nI c))) (st' := []) rfl rfl rfl rfl rfl rfl (args_v [.int (nI (i - f)), .int (nI f), .ref 3, .int (nI v)] [] rfl rfl (Nat.le_of_ble_eq_true rfl) rfl hT1.1 (Nat.le_of_ble_eq_true rfl)) hch ?_
        refine RQ.blk 3 (pc' := 70) (lv' := [(2, .int (nI c)), (4, .int (nI i)), (3, .int (nI f)), (1, .int (nI l)), (0, .ref 1)]) (st' := [.int (nI c), .ref 1]) (H' := _) (kc' := 0) (ks' := 0) rfl ?_
        refine RQ.call (v := none) (st' := []) rfl rfl rfl rfl rfl rfl (args_v [.int (nI c)] [] rfl rfl (Nat.le_of_ble_eq_true rfl) rfl h01 (Nat.le_of_ble_eq_true rfl)) (rc_there (by omega)) ?_
        refine RQ.blk 3 (pc' := 77) (lv' := [(2, .int (nI c)), (4, .int (nI i)), (3, .int (nI f)), (1, .int (nI l)), (0, .ref 1)]) (st' := [.int (nI i + 1)]) (H' := _) (kc' := 0) (ks' := 0) rfl ?_
        rw [show (nI i + 1 : Int32) = nI (i + 1) from nI_add i 1]
        refine RQ.blk 2 (pc' := 81) (lv' := [(4, .int (nI i + 1)), (3, .int (nI (i + 1))), (2, .int (nI c)), (1, .int (nI l)), (0, .ref 1)]) (st' := []) (H' := _) (kc' := 0) (ks' := 0) rfl ?_
        rw [show (nI i + 1 : Int32) = nI (i + 1) from nI_add i 1]
        refine RQ.blk 1 (pc' := 16) (lv' := [(4, .int (nI (i + 1))), (3, .int (nI (i + 1))), (2, .int (nI c)), (1, .int (nI l)), (0, .ref 1)]) (st' := []) (H' := _) (kc' := 0) (ks' := 0) rfl ?_
        refine RQ.pick (a := [(4, .int (nI (i + 1))), (3, .int (nI (i + 1))), (2, .int (nI c)), (1, .int (nI l)), (0, .ref 1)]) [0, 1, 2, 3, 4] [4, 3, 2, 1, 0] rfl rfl (by decide) ?_
        exact ih (c, i + 1, i + 1) _ ⟨by show c ≤ 200; omega, Nat.le_refl _, by show i + 1 ≤ l + 1; omega, fun _ => rfl, fun e => e, by show fnF t.1 t.2.1 t.2.2.2.1 t.2.2.2.2.1 tb l (l + 2 - (i + 1)) c (i + 1) = _; rw [← he]; exact fnF_fuel (by omega) (by omega), rfl⟩ (by show l + 1 - (i + 1) < l + 1 - i; omega)
    · refine RQ.brF rfl rfl rfl (cF_eq i l) ?_
      refine RQ.blk 1 (pc' := 33) (lv' := [(4, .int (nI i)), (3, .int (nI f)), (2, .int (nI v)), (1, .int (nI l)), (0, .ref 1)]) (st' := [.ref 1]) (H' := _) (kc' := 0) (ks' := 0) rfl ?_
      refine RQ.get (ci := 11) rfl h01 rfl rfl ?_
      refine RQ.get (ci := 5) rfl h11 rfl rfl ?_
      refine RQ.blk 1 (pc' := 41) (lv' := [(4, .int (nI i)), (3, .int (nI f)), (2, .int (nI v)), (1, .int (nI l)), (0, .ref 1)]) (st' := [.int (nI i), .ref 3]) (H' := _) (kc' := 0) (ks' := 0) rfl ?_
      refine RQ.baldN (j := i) rfl h21 (by omega) (by decide) ?_
      refine RQ.blk 1 (pc' := 44) (lv' := [(4, .int (nI i)), (3, .int (nI f)), (2, .int (nI v)), (1, .int (nI l)), (0, .ref 1)]) (st' := [.int 47, .int ((tb i).toInt32)]) (H' := _) (kc' := 0) (ks' := 0) rfl ?_
      by_cases kz : (tb i).toInt32 = 47
      · refine RQ.brF rfl rfl rfl (bnf kz) ?_
        have hspi : spT tb l f = i := by unfold spT; rw [hs0, fstF_hit (by omega) (decide_eq_true kz)]; rfl
        rw [hspi] at he
        have hch := rc_childNamed (sc := sc) (d := d + 6) (dd := v) (j := f) (m := i - f) hT1 hk h21 (by decide) (by omega) hv
        refine RQ.blk 1 (pc' := 48) (lv' := [(4, .int (nI i)), (3, .int (nI f)), (2, .int (nI v)), (1, .int (nI l)), (0, .ref 1)]) (st' := [.ref 1]) (H' := _) (kc' := 0) (ks' := 0) rfl ?_
        refine RQ.get (ci := 11) rfl h01 rfl rfl ?_
        refine RQ.blk 2 (pc' := 53) (lv' := [(4, .int (nI i)), (3, .int (nI f)), (2, .int (nI v)), (1, .int (nI l)), (0, .ref 1)]) (st' := [.ref 1, .int (nI v), .ref 66]) (H' := _) (kc' := 0) (ks' := 0) rfl ?_
        refine RQ.get (ci := 11) rfl h01 rfl rfl ?_
        refine RQ.get (ci := 5) rfl h11 rfl rfl ?_
        refine RQ.blk 4 (pc' := 64) (lv' := [(4, .int (nI i)), (3, .int (nI f)), (2, .int (nI v)), (1, .int (nI l)), (0, .ref 1)]) (st' := [.int (nI i - nI f), .int (nI f), .ref 3, .int (nI v), .ref 66]) (H' := _) (kc' := 0) (ks' := 0) rfl ?_
        rw [show (nI i - nI f : Int32) = nI (i - f) from pk_sub (a := i) (b := f) (by omega)]
        cases hc : fstF (inN t.1 t.2.1 t.2.2.2.1 t.2.2.2.2.1 v (sl tb f (i - f))) 1 200 with
        | none =>
          rw [hc] at he hch
          dsimp only at he
          refine RQ.call (v := some (.int (-1))) (st' := []) rfl rfl rfl rfl rfl rfl (args_v [.int (nI (i - f)), .int (nI f), .ref 3, .int (nI v)] [] rfl rfl (Nat.le_of_ble_eq_true rfl) rfl hT1.1 (Nat.le_of_ble_eq_true rfl)) hch ?_
          refine RQ.blk 3 (pc' := 70) (lv' := [(2, .int (-1)), (4, .int (nI i)), (3, .int (nI f)), (1, .int (nI l)), (0, .ref 1)]) (st' := [.int (-1), .ref 1]) (H' := _) (kc' := 0) (ks' := 0) rfl ?_
          exact RQ.callP (st' := []) rfl rfl rfl rfl rfl rfl (args_v [.int (-1)] [] rfl rfl (Nat.le_of_ble_eq_true rfl) rfl h01 (Nat.le_of_ble_eq_true rfl)) (rc_thereX (by decide)) rfl ⟨_, rfl, h.small h01 h11 h21 ((far1 3 (by decide)).trans h3) ((far1 4 (by decide)).trans h4) ⟨q5, p6, (far1 5 (by decide)).trans h5, (far1 6 (by decide)).trans h6⟩ (fun a a1 a2 => far1 a (by omega)), fun a ha => far1 a (by omega)⟩
        | some c =>
          rw [hc] at he hch
          dsimp only at he
          have hcl := fstF_lt hc
          refine RQ.call (v := some (.int (nI c))) (st' := []) rfl rfl rfl rfl rfl rfl (args_v [.int (nI (i - f)), .int (nI f), .ref 3, .int (nI v)] [] rfl rfl (Nat.le_of_ble_eq_true rfl) rfl hT1.1 (Nat.le_of_ble_eq_true rfl)) hch ?_
          refine RQ.blk 3 (pc' := 70) (lv' := [(2, .int (nI c)), (4, .int (nI i)), (3, .int (nI f)), (1, .int (nI l)), (0, .ref 1)]) (st' := [.int (nI c), .ref 1]) (H' := _) (kc' := 0) (ks' := 0) rfl ?_
          refine RQ.call (v := none) (st' := []) rfl rfl rfl rfl rfl rfl (args_v [.int (nI c)] [] rfl rfl (Nat.le_of_ble_eq_true rfl) rfl h01 (Nat.le_of_ble_eq_true rfl)) (rc_there (by omega)) ?_
          refine RQ.blk 3 (pc' := 77) (lv' := [(2, .int (nI c)), (4, .int (nI i)), (3, .int (nI f)), (1, .int (nI l)), (0, .ref 1)]) (st' := [.int (nI i + 1)]) (H' := _) (kc' := 0) (ks' := 0) rfl ?_
          rw [show (nI i + 1 : Int32) = nI (i + 1) from nI_add i 1]
          refine RQ.blk 2 (pc' := 81) (lv' := [(4, .int (nI i + 1)), (3, .int (nI (i + 1))), (2, .int (nI c)), (1, .int (nI l)), (0, .ref 1)]) (st' := []) (H' := _) (kc' := 0) (ks' := 0) rfl ?_
          rw [show (nI i + 1 : Int32) = nI (i + 1) from nI_add i 1]
          refine RQ.blk 1 (pc' := 16) (lv' := [(4, .int (nI (i + 1))), (3, .int (nI (i + 1))), (2, .int (nI c)), (1, .int (nI l)), (0, .ref 1)]) (st' := []) (H' := _) (kc' := 0) (ks' := 0) rfl ?_
          refine RQ.pick (a := [(4, .int (nI (i + 1))), (3, .int (nI (i + 1))), (2, .int (nI c)), (1, .int (nI l)), (0, .ref 1)]) [0, 1, 2, 3, 4] [4, 3, 2, 1, 0] rfl rfl (by decide) ?_
          exact ih (c, i + 1, i + 1) _ ⟨by show c ≤ 200; omega, Nat.le_refl _, by show i + 1 ≤ l + 1; omega, fun _ => rfl, fun e => e, by show fnF t.1 t.2.1 t.2.2.2.1 t.2.2.2.2.1 tb l (l + 2 - (i + 1)) c (i + 1) = _; rw [← he]; exact fnF_fuel (by omega) (by omega), rfl⟩ (by show l + 1 - (i + 1) < l + 1 - i; omega)
      · refine RQ.brT rfl rfl rfl (bnt kz) ?_
        refine RQ.blk 1 (pc' := 81) (lv' := [(4, .int (nI i + 1)), (3, .int (nI f)), (2, .int (nI v)), (1, .int (nI l)), (0, .ref 1)]) (st' := []) (H' := _) (kc' := 0) (ks' := 0) rfl ?_
        rw [show (nI i + 1 : Int32) = nI (i + 1) from nI_add i 1]
        refine RQ.blk 1 (pc' := 16) (lv' := [(4, .int (nI (i + 1))), (3, .int (nI f)), (2, .int (nI v)), (1, .int (nI l)), (0, .ref 1)]) (st' := []) (H' := _) (kc' := 0) (ks' := 0) rfl ?_
        refine RQ.pick (a := [(4, .int (nI (i + 1))), (3, .int (nI f)), (2, .int (nI v)), (1, .int (nI l)), (0, .ref 1)]) [0, 1, 2, 3, 4] [4, 3, 2, 1, 0] rfl rfl (by decide) ?_
        exact ih (v, f, i + 1) _ ⟨hv, by show f ≤ i + 1; omega, by show i + 1 ≤ l + 1; omega, fun _ => by show fstF _ f (l - f) = fstF _ (i + 1) (l - (i + 1)); rw [hs0, fstF_miss (by omega) (decide_eq_false kz), show l - i - 1 = l - (i + 1) by omega], fun e => by dsimp only at e; omega, by show fnF t.1 t.2.1 t.2.2.2.1 t.2.2.2.2.1 tb l (l + 2 - f) v f = _; rw [show l + 2 - f = l + 1 - f + 1 by omega, fnF, if_neg (by omega), par_ch hpar]; exact he, rfl⟩ (by show l + 1 - (i + 1) < l + 1 - i; omega)
  ·
    have hfl := hend (by omega)
    rw [show l + 2 - f = l + 1 - f + 1 by omega, fnF, if_pos (by omega)] at he
    cases he
