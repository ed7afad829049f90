/-! ===== changes of pieces; a piece is read; class; written by wip/gen/chg2.py ===== -/
theorem sl_zero {f : Nat → Int8} : ∀ {m p : Nat}, (∀ q, p ≤ q → q < p + m → f q = 0) → sl f p m = List.replicate m 0
  | 0, p, _ => rfl
  | m + 1, p, h => by
    show ub (f p) :: sl f (p + 1) m = 0 :: List.replicate m 0
    rw [h p (Nat.le_refl _) (by omega), sl_zero (fun q q1 q2 => h q (by omega) (by omega))]
    rfl
/-- a value with bytes laid over it, from a on -/
def ovrL (old : List Nat) (a : Nat) (bs : List Nat) : List Nat := (old ++ List.replicate (a - old.length) 0).take a ++ (bs ++ old.drop (a + bs.length))
theorem ovrL_len {old bs : List Nat} {a : Nat} : (ovrL old a bs).length = max old.length (a + bs.length) := by
  unfold ovrL
  rw [List.length_append, List.length_append, List.length_take, List.length_append, List.length_replicate, List.length_drop]
  omega
theorem sl_old {c X : Nat → Int8} {va p ol m : Nat} {old : List Nat} (hold : sl c va ol = old) (h1 : ∀ j, j < ol → X (p + j) = c (va + j)) (h2 : ∀ j, ol ≤ j → j < m → X (p + j) = 0) : sl X p m = (old ++ List.replicate (m - old.length) 0).take m := by
  have hl : old.length = ol := by rw [← hold, sl_length]
  by_cases h : m ≤ ol
  · rw [List.take_append_of_le_length (by omega), ← hold, sl_take _ _ _ h]
    exact sl_congr m p va (fun q hq => h1 q (by omega))
  · rw [List.take_of_length_le (by rw [List.length_append, List.length_replicate]; omega), hl]
    have e : m = ol + (m - ol) := by omega
    rw [e, sl_append, show ol + (m - ol) - ol = m - ol by omega, sl_congr ol p va (fun q hq => h1 q hq), hold]
    congr 1
    refine sl_zero (fun q q1 q2 => ?_)
    have := h2 (q - p) (by omega) (by omega)
    rw [show p + (q - p) = q by omega] at this
    exact this
/-- where bytes were laid over a value -/
theorem sl_ovrL {c f X : Nat → Int8} {va p ol a s b kept : Nat} {old : List Nat} (hold : sl c va ol = old) (hk : kept = max ol (a + b)) (h1 : ∀ j, j < ol → X (p + j) = c (va + j)) (h2 : ∀ j, ol ≤ j → j < kept → X (p + j) = 0) : sl (cpy f s X (p + a) b) p kept = ovrL old a (sl f s b) := by
  have hl : old.length = ol := by rw [← hold, sl_length]
  unfold ovrL
  rw [show kept = a + (b + (kept - a - b)) by omega]
  refine sl_join ?_ (sl_join sl_cpy ?_)
  · rw [sl_cpy_out (by omega)]
    exact sl_old hold h1 (fun j j1 j2 => h2 j j1 (by omega))
  · rw [sl_cpy_out (by omega), sl_length]
    by_cases h : a + b ≤ ol
    · rw [show kept - a - b = ol - (a + b) by omega, ← hold]
      have e := sl_append (f := c) (a + b) (ol - (a + b)) va
      rw [show a + b + (ol - (a + b)) = ol by omega] at e
      rw [e, List.drop_append_of_le_length (by rw [sl_length]; omega), List.drop_of_length_le (by rw [sl_length]; omega), List.nil_append]
      exact sl_congr _ _ _ (fun q hq => by rw [show p + a + b + q = p + (a + b + q) by omega, h1 _ (by omega), show va + (a + b + q) = va + (a + b) + q by omega])
    · rw [show kept - a - b = 0 by omega, List.drop_of_length_le (by omega)]
      rfl
/-- the value of a file's piece -/
def pcV (c : Nat → Int8) (vs : List aV) (f i : Nat) : List Nat := match seenV vs [2, f, i] (2 ^ 30) with
  | some v => sl c (v.2.2.1 + 8 + v.1.length) (v.2.2.2.1.getD 0)
  | none => []
theorem seen_key {vs : List aV} {k : List Nat} {m : Nat} {v : aV} (h : seenV vs k m = some v) : v.1 = k := by
  have h2 := List.find?_some h
  have h2 : (decide (v.1 = k) && stK (kmV vs) v.1 v.2.1 m) = true := h2
  rw [Bool.and_eq_true, decide_eq_true_iff] at h2
  exact h2.1
set_option maxRecDepth 20000 in
theorem rn_chPiece {sc : Nat × (Nat → Int32)} {N : Nat} {kf : Nat → Int8} {kl mo pl : Nat → Nat} {le : Nat → Option Nat} {al : Nat → Bool} {od sp : Nat → Nat} {sz ss ac : Nat} {lc fr ff : Nat} {wr : Bool} {tp rc ms mt sq tu tn nb : Nat} {us : Nat → Bool} {lg : Nat → Nat} {B : Nat} {cf : Nat → Int8} {tf : Nat → Nat} {pq : Option Nat} {bb ov : Nat} {d mp hv f i tt n l : Nat} {H : aH} {bl pr up cw cl cp cb : Int32} {ws : List aE} {vs : List aV} {tb : Nat → Int8} (h0 : H[0]? = some (kO 11 (fvs bl pr up cw cl cp cb))) (h5 : ∃ q : Nat, H[5]? = some (kO 5 [.ref 7, .int (nI q)])) (h6 : ∃ g, H[6]? = some (kB 41 g)) (hb : BatchIs H 59 ws) (h1 : H[1]? = some (kO 5 [.ref 3, .int (nI l)])) (h2 : H[2]? = some (kB 2000 tb)) (hA : VersAt H N kf kl mo pl le al od sp sz ss ac) (hW : VersWf N kf kl mo pl le al od sp sz ss ac) (hvs : vs = vsL kf kl mo pl le al od sz) (hC : ChipAt H B cf tf pq bb ov) (hY : LayAt H (layF B lc fr ff wr tp rc ms mt sq tu tn nb) B us lg) (hB : B ≤ 128) (hlc : lc ≤ B) (hlg : ∀ j, j < lc → lg j < 2 ^ 30) (hG : H[190]? = some (kO 4 (logF mp hv))) (hRec : RecsOk cf B lg lc vs) (hpl : ∀ v : aV, seenV vs [2, f, i] (2 ^ 30) = some v → ∀ n, v.2.2.2.1 = some n → n ≤ 512) (hf : f < 256) (hi : i < 32) (ht : tt ≤ 16384) (hn2 : n ≤ 2000) (ho1 : i * 512 < tt + n) (ho2 : tt < i * 512 + 512) (hn1 : 1 ≤ n) (hw : ws.length < 40) (hu : eOff ws ws.length + 515 ≤ 4100) : RN sc (d + 4) mr_241 [.ref 1, .int (nI f), .int (nI i), .int (nI tt), .int (nI n)] H (fun H' => BatchIs H' 59 (ws ++ [([2, f, i], some (ovrL (pcV cf vs f i) ((max tt (i * 512)) - i * 512) (sl tb ((max tt (i * 512)) - tt) ((min (tt + n) (i * 512 + 512)) - (max tt (i * 512))))))]) ∧ (∃ q : Nat, H'[5]? = some (kO 5 [.ref 7, .int (nI q)])) ∧ (∃ g, H'[6]? = some (kB 41 g)) ∧ ∀ a, a ≠ 5 → a ≠ 6 → ¬ (59 ≤ a ∧ a < 64) → H'[a]? = H[a]?) := by
  have hN2 := hW.1.1
  obtain ⟨q0, h5⟩ := h5
  obtain ⟨g0, h6⟩ := h6
  obtain ⟨D, S, K, E, hb, hL, -, -⟩ := hb
  have hbk := hL.ok (by omega) (by omega)
  generalize hue : eOff ws ws.length = u at hb hbk hu
  refine RN.of ?_
  refine RQ.blk 3 (pc' := 5) (lv' := [(0, .ref 1), (1, .int (nI f)), (2, .int (nI i)), (3, .int (nI tt)), (4, .int (nI n))]) (st' := [.int (nI i * 512)]) (H' := _) (kc' := 0) (ks' := 0) rfl ?_
  rw [show (nI i * 512 : Int32) = nI (i * 512) from pk_mul i 512]
  refine RQ.blk 4 (pc' := 13) (lv' := [(5, .int (nI (i * 512))), (0, .ref 1), (1, .int (nI f)), (2, .int (nI i)), (3, .int (nI tt)), (4, .int (nI n))]) (st' := [.int (if nI tt < nI (i * 512) then nI (i * 512) else nI tt)]) (H' := _) (kc' := 0) (ks' := 0) rfl ?_
  rw [show (if nI tt < nI (i * 512) then nI (i * 512) else nI tt : Int32) = nI (max tt (i * 512)) from maxI (a := tt) (b := (i * 512)) (by omega) (by omega)]
  refine RQ.blk 4 (pc' := 19) (lv' := [(6, .int (nI (max tt (i * 512)))), (5, .int (nI (i * 512))), (0, .ref 1), (1, .int (nI f)), (2, .int (nI i)), (3, .int (nI tt)), (4, .int (nI n))]) (st' := [.int (nI tt + nI n)]) (H' := _) (kc' := 0) (ks' := 0) rfl ?_
  rw [show (nI tt + nI n : Int32) = nI (tt + n) from nI_add tt n]
  refine RQ.blk 3 (pc' := 25) (lv' := [(6, .int (nI (max tt (i * 512)))), (5, .int (nI (i * 512))), (0, .ref 1), (1, .int (nI f)), (2, .int (nI i)), (3, .int (nI tt)), (4, .int (nI n))]) (st' := [.int (nI (i * 512) + 512), .int (nI (tt + n))]) (H' := _) (kc' := 0) (ks' := 0) rfl ?_
  rw [show (nI (i * 512) + 512 : Int32) = nI (i * 512 + 512) from nI_add (i * 512) 512]
  refine RQ.blk 1 (pc' := 28) (lv' := [(6, .int (nI (max tt (i * 512)))), (5, .int (nI (i * 512))), (0, .ref 1), (1, .int (nI f)), (2, .int (nI i)), (3, .int (nI tt)), (4, .int (nI n))]) (st' := [.int (if nI (i * 512 + 512) < nI (tt + n) then nI (i * 512 + 512) else nI (tt + n))]) (H' := _) (kc' := 0) (ks' := 0) rfl ?_
  rw [show (if nI (i * 512 + 512) < nI (tt + n) then nI (i * 512 + 512) else nI (tt + n) : Int32) = nI (min (tt + n) (i * 512 + 512)) from minI (a := (tt + n)) (b := (i * 512 + 512)) (by omega) (by omega)]
  refine RQ.blk 4 (pc' := 33) (lv' := [(7, .int (nI (min (tt + n) (i * 512 + 512)))), (6, .int (nI (max tt (i * 512)))), (5, .int (nI (i * 512))), (0, .ref 1), (1, .int (nI f)), (2, .int (nI i)), (3, .int (nI tt)), (4, .int (nI n))]) (st' := [.int (nI i), .int (nI f), .ref 1]) (H' := _) (kc' := 0) (ks' := 0) rfl ?_
  refine RQ.callI (st' := []) rfl rfl rfl rfl rfl rfl (args_v [.int (nI i), .int (nI f)] [] rfl rfl (Nat.le_of_ble_eq_true rfl) rfl h0 (Nat.le_of_ble_eq_true rfl)) (ri_pieceSlot (d := d) h0 h5 h6 hA hW hvs hf (by omega)) (fun y H1 hx1 => ?_)
  obtain ⟨⟨g1, k6, hk6⟩, k5, f1, hcase⟩ := hx1
  have f1' : ∀ a, a ≠ 5 → a ≠ 6 → ¬ (59 ≤ a ∧ a < 64) → H1[a]? = H[a]? := fun a a1 a2 _ => f1 a a1 a2
  rcases hcase with ⟨j, hj, ey, hne, hsee⟩ | ⟨ey, hno⟩
  ·
    have hAH1 := hA.far (H' := H1) (fun a a1 a2 => f1' a (by omega) (by omega) (by omega))
    have hb1 := hb.far (H' := H1) (fun a a1 a2 => f1 a (by omega) (by omega))
    have hod := hW.1.2.2.2.1 j hj
    have hso := hW.1.2.2.2.2.2 _ hod
    obtain ⟨ol, hol⟩ : ∃ ol, le (od j) = some ol := by
      cases e : le (od j) with
      | none => exact absurd e hne
      | some n => exact ⟨n, rfl⟩
    have hvm : verO kf kl mo pl le al (od j) ∈ vs := by rw [hvs]; exact List.mem_of_getElem? (vsL_get hj)
    have hkey : sl kf (od j * 41) (kl (od j)) = [2, f, i] := seen_key hsee
    have hkl : kl (od j) = 3 := by have := congrArg List.length hkey; rw [sl_length] at this; exact this
    obtain ⟨hR1, hR2, hR3, hR4⟩ := hRec _ hvm ol hol
    have hR3 : pl (od j) + 9 + (sl kf (od j * 41) (kl (od j))).length + ol ≤ B * 2048 := hR3
    rw [sl_length, hkl] at hR3
    have hpv : pcV cf vs f i = sl cf (pl (od j) + 8 + 3) ol := by
      unfold pcV
      rw [hsee]
      show sl cf (pl (od j) + 8 + (sl kf (od j * 41) (kl (od j))).length) ((le (od j)).getD 0) = _
      rw [sl_length, hkl, hol]
      rfl
    have hol512 := hpl (verO kf kl mo pl le al (od j)) hsee ol hol
    rw [ey]
    refine RQ.blk 2 (pc' := 40) (lv' := [(8, .int (nI (od j))), (7, .int (nI (min (tt + n) (i * 512 + 512)))), (6, .int (nI (max tt (i * 512)))), (5, .int (nI (i * 512))), (0, .ref 1), (1, .int (nI f)), (2, .int (nI i)), (3, .int (nI tt)), (4, .int (nI n))]) (st' := [.int (nI (od j))]) (H' := _) (kc' := 0) (ks' := 0) rfl ?_
    refine RQ.brT rfl rfl rfl (cT_ge (od j) 0) ?_
    refine RQ.blk 1 (pc' := 48) (lv' := [(8, .int (nI (od j))), (7, .int (nI (min (tt + n) (i * 512 + 512)))), (6, .int (nI (max tt (i * 512)))), (5, .int (nI (i * 512))), (0, .ref 1), (1, .int (nI f)), (2, .int (nI i)), (3, .int (nI tt)), (4, .int (nI n))]) (st' := [.ref 1]) (H' := _) (kc' := 0) (ks' := 0) rfl ?_
    refine RQ.get (ci := 11) rfl ((f1' 0 (by decide) (by decide) (by decide)).trans h0) rfl rfl ?_
    refine RQ.get (ci := 10) rfl hAH1.1 rfl rfl ?_
    refine RQ.blk 1 (pc' := 56) (lv' := [(8, .int (nI (od j))), (7, .int (nI (min (tt + n) (i * 512 + 512)))), (6, .int (nI (max tt (i * 512)))), (5, .int (nI (i * 512))), (0, .ref 1), (1, .int (nI f)), (2, .int (nI i)), (3, .int (nI tt)), (4, .int (nI n))]) (st' := [.int (nI (od j)), .ref 80]) (H' := _) (kc' := 0) (ks' := 0) rfl ?_
    refine RQ.ialdN (j := od j) rfl hAH1.2.2.2.2.2.1 (by omega) (by omega) ?_
    rw [show lI (le (od j)) = nI ol by rw [hol]; rfl]
    refine RQ.blk 5 (pc' := 66) (lv' := [(9, .int (nI ol)), (8, .int (nI (od j))), (7, .int (nI (min (tt + n) (i * 512 + 512)))), (6, .int (nI (max tt (i * 512)))), (5, .int (nI (i * 512))), (0, .ref 1), (1, .int (nI f)), (2, .int (nI i)), (3, .int (nI tt)), (4, .int (nI n))]) (st' := [.int (nI (min (tt + n) (i * 512 + 512)) - nI (i * 512)), .int (nI ol)]) (H' := _) (kc' := 0) (ks' := 0) rfl ?_
    rw [show (nI (min (tt + n) (i * 512 + 512)) - nI (i * 512) : Int32) = nI ((min (tt + n) (i * 512 + 512)) - (i * 512)) from pk_sub (a := (min (tt + n) (i * 512 + 512))) (b := (i * 512)) (by omega)]
    refine RQ.blk 1 (pc' := 69) (lv' := [(9, .int (nI ol)), (8, .int (nI (od j))), (7, .int (nI (min (tt + n) (i * 512 + 512)))), (6, .int (nI (max tt (i * 512)))), (5, .int (nI (i * 512))), (0, .ref 1), (1, .int (nI f)), (2, .int (nI i)), (3, .int (nI tt)), (4, .int (nI n))]) (st' := [.int (if nI ol < nI ((min (tt + n) (i * 512 + 512)) - (i * 512)) then nI ((min (tt + n) (i * 512 + 512)) - (i * 512)) else nI ol)]) (H' := _) (kc' := 0) (ks' := 0) rfl ?_
    rw [show (if nI ol < nI ((min (tt + n) (i * 512 + 512)) - (i * 512)) then nI ((min (tt + n) (i * 512 + 512)) - (i * 512)) else nI ol : Int32) = nI (max ol ((min (tt + n) (i * 512 + 512)) - (i * 512))) from maxI (a := ol) (b := ((min (tt + n) (i * 512 + 512)) - (i * 512))) (by omega) (by omega)]
    refine RQ.blk 2 (pc' := 72) (lv' := [(10, .int (nI (max ol ((min (tt + n) (i * 512 + 512)) - (i * 512))))), (9, .int (nI ol)), (8, .int (nI (od j))), (7, .int (nI (min (tt + n) (i * 512 + 512)))), (6, .int (nI (max tt (i * 512)))), (5, .int (nI (i * 512))), (0, .ref 1), (1, .int (nI f)), (2, .int (nI i)), (3, .int (nI tt)), (4, .int (nI n))]) (st' := [.ref 1]) (H' := _) (kc' := 0) (ks' := 0) rfl ?_
    refine RQ.get (ci := 11) rfl ((f1' 0 (by decide) (by decide) (by decide)).trans h0) rfl rfl ?_
    refine RQ.blk 1 (pc' := 76) (lv' := [(10, .int (nI (max ol ((min (tt + n) (i * 512 + 512)) - (i * 512))))), (9, .int (nI ol)), (8, .int (nI (od j))), (7, .int (nI (min (tt + n) (i * 512 + 512)))), (6, .int (nI (max tt (i * 512)))), (5, .int (nI (i * 512))), (0, .ref 1), (1, .int (nI f)), (2, .int (nI i)), (3, .int (nI tt)), (4, .int (nI n))]) (st' := [.ref 1, .ref 60]) (H' := _) (kc' := 0) (ks' := 0) rfl ?_
    refine RQ.get (ci := 11) rfl ((f1' 0 (by decide) (by decide) (by decide)).trans h0) rfl rfl ?_
    refine RQ.get (ci := 5) rfl k5 rfl rfl ?_
    refine RQ.blk 1 (pc' := 83) (lv' := [(10, .int (nI (max ol ((min (tt + n) (i * 512 + 512)) - (i * 512))))), (9, .int (nI ol)), (8, .int (nI (od j))), (7, .int (nI (min (tt + n) (i * 512 + 512)))), (6, .int (nI (max tt (i * 512)))), (5, .int (nI (i * 512))), (0, .ref 1), (1, .int (nI f)), (2, .int (nI i)), (3, .int (nI tt)), (4, .int (nI n))]) (st' := [.ref 1, .ref 7, .ref 60]) (H' := _) (kc' := 0) (ks' := 0) rfl ?_
    refine RQ.get (ci := 11) rfl ((f1' 0 (by decide) (by decide) (by decide)).trans h0) rfl rfl ?_
    refine RQ.get (ci := 5) rfl k5 rfl rfl ?_
    refine RQ.blk 1 (pc' := 91) (lv' := [(10, .int (nI (max ol ((min (tt + n) (i * 512 + 512)) - (i * 512))))), (9, .int (nI ol)), (8, .int (nI (od j))), (7, .int (nI (min (tt + n) (i * 512 + 512)))), (6, .int (nI (max tt (i * 512)))), (5, .int (nI (i * 512))), (0, .ref 1), (1, .int (nI f)), (2, .int (nI i)), (3, .int (nI tt)), (4, .int (nI n))]) (st' := [.int (nI (max ol ((min (tt + n) (i * 512 + 512)) - (i * 512)))), .int (nI 3), .ref 7, .ref 60]) (H' := _) (kc' := 0) (ks' := 0) rfl ?_
    generalize hkp : max ol ((min (tt + n) (i * 512 + 512)) - (i * 512)) = kp
    have hkp1 : kp ≤ 512 := by omega
    have hkp2 : kp = max ol ((max tt (i * 512)) - i * 512 + ((min (tt + n) (i * 512 + 512)) - (max tt (i * 512)))) := by omega
    refine RQ.callI (st' := []) rfl rfl rfl rfl rfl rfl (args_v [.int (nI kp), .int (nI 3), .ref 7] [] rfl rfl (Nat.le_of_ble_eq_true rfl) rfl hb1.1 (Nat.le_of_ble_eq_true rfl)) (ri_badd5 (l := some kp) (m := 3) hb1 hbk k6 (by decide) (by decide) (by decide) hw (by show u + 3 + kp ≤ 4100; omega)) (fun y2 H2 hx2 => ?_)
    obtain ⟨ey2, hb2, f2⟩ := hx2
    rw [ey2]
    have f2' : ∀ a, a ≠ 5 → a ≠ 6 → ¬ (59 ≤ a ∧ a < 64) → H2[a]? = H[a]? := fun a a1 a2 a3 => (f2 a (by omega)).trans (f1 a a1 a2)
    have k52 := (f2 5 (by decide)).trans k5
    have k62 := (f2 6 (by decide)).trans k6
    have hAH2 := hA.far (H' := H2) (fun a a1 a2 => f2' a (by omega) (by omega) (by omega))
    refine RQ.blk 2 (pc' := 97) (lv' := [(11, .int (nI (u + 3))), (10, .int (nI kp)), (9, .int (nI ol)), (8, .int (nI (od j))), (7, .int (nI (min (tt + n) (i * 512 + 512)))), (6, .int (nI (max tt (i * 512)))), (5, .int (nI (i * 512))), (0, .ref 1), (1, .int (nI f)), (2, .int (nI i)), (3, .int (nI tt)), (4, .int (nI n))]) (st' := [.ref 1]) (H' := _) (kc' := 0) (ks' := 0) rfl ?_
    refine RQ.get (ci := 11) rfl ((f2' 0 (by decide) (by decide) (by decide)).trans h0) rfl rfl ?_
    refine RQ.get (ci := 0) rfl hb2.1 rfl rfl ?_
    refine RQ.blk 2 (pc' := 107) (lv' := [(11, .int (nI (u + 3))), (10, .int (nI kp)), (9, .int (nI ol)), (8, .int (nI (od j))), (7, .int (nI (min (tt + n) (i * 512 + 512)))), (6, .int (nI (max tt (i * 512)))), (5, .int (nI (i * 512))), (0, .ref 1), (1, .int (nI f)), (2, .int (nI i)), (3, .int (nI tt)), (4, .int (nI n))]) (st' := [.int (nI kp), .int (nI (u + 3)), .ref 61]) (H' := _) (kc' := 0) (ks' := 0) rfl ?_
    refine RQ.call (v := none) (st' := []) rfl rfl rfl rfl rfl rfl rfl (rc_blank (a := 60) (n := 4100) (i := u + 3) (k := kp) hb2.2.1 (by decide) (by omega)) ?_
    show RQ _ _ _ _ _ _ (H2.set 60 (kB 4100 (fun q => if u + 3 ≤ q ∧ q < u + 3 + kp then 0 else (cpy g1 0 D u 3) q))) _ _ _
    have hb3 := hb2.data (fun q => if u + 3 ≤ q ∧ q < u + 3 + kp then 0 else (cpy g1 0 D u 3) q)
    have f3 : ∀ a, a ≠ 60 → (H2.set 60 (kB 4100 (fun q => if u + 3 ≤ q ∧ q < u + 3 + kp then 0 else (cpy g1 0 D u 3) q)))[a]? = H2[a]? := fun a a1 => set_far a1
    have f3' : ∀ a, a ≠ 5 → a ≠ 6 → ¬ (59 ≤ a ∧ a < 64) → (H2.set 60 (kB 4100 (fun q => if u + 3 ≤ q ∧ q < u + 3 + kp then 0 else (cpy g1 0 D u 3) q)))[a]? = H[a]? := fun a a1 a2 a3 => (f3 a (by omega)).trans (f2' a a1 a2 a3)
    generalize (H2.set 60 (kB 4100 (fun q => if u + 3 ≤ q ∧ q < u + 3 + kp then 0 else (cpy g1 0 D u 3) q))) = H3 at hb3 f3 f3' ⊢
    have hAH3 := hA.far (H' := H3) (fun a a1 a2 => f3' a (by omega) (by omega) (by omega))
    refine RQ.blk 1 (pc' := 112) (lv' := [(11, .int (nI (u + 3))), (10, .int (nI kp)), (9, .int (nI ol)), (8, .int (nI (od j))), (7, .int (nI (min (tt + n) (i * 512 + 512)))), (6, .int (nI (max tt (i * 512)))), (5, .int (nI (i * 512))), (0, .ref 1), (1, .int (nI f)), (2, .int (nI i)), (3, .int (nI tt)), (4, .int (nI n))]) (st' := [.int (nI (od j))]) (H' := _) (kc' := 0) (ks' := 0) rfl ?_
    refine RQ.brF rfl rfl rfl (cF_lt (od j) 0) ?_
    refine RQ.blk 1 (pc' := 116) (lv' := [(11, .int (nI (u + 3))), (10, .int (nI kp)), (9, .int (nI ol)), (8, .int (nI (od j))), (7, .int (nI (min (tt + n) (i * 512 + 512)))), (6, .int (nI (max tt (i * 512)))), (5, .int (nI (i * 512))), (0, .ref 1), (1, .int (nI f)), (2, .int (nI i)), (3, .int (nI tt)), (4, .int (nI n))]) (st' := [.ref 1]) (H' := _) (kc' := 0) (ks' := 0) rfl ?_
    refine RQ.get (ci := 11) rfl ((f3' 0 (by decide) (by decide) (by decide)).trans h0) rfl rfl ?_
    refine RQ.blk 1 (pc' := 121) (lv' := [(11, .int (nI (u + 3))), (10, .int (nI kp)), (9, .int (nI ol)), (8, .int (nI (od j))), (7, .int (nI (min (tt + n) (i * 512 + 512)))), (6, .int (nI (max tt (i * 512)))), (5, .int (nI (i * 512))), (0, .ref 1), (1, .int (nI f)), (2, .int (nI i)), (3, .int (nI tt)), (4, .int (nI n))]) (st' := [.int (nI (od j)), .ref 191]) (H' := _) (kc' := 0) (ks' := 0) rfl ?_
    have hC3 := hC.far (H' := H3) (fun a a1 a2 => f3' a (by omega) (by omega) (by omega))
    have hY3 := hY.far (H' := H3) (fun a a1 a2 => f3' a (by omega) (by omega) (by omega))
    refine RQ.call (v := none) (st' := []) rfl rfl rfl rfl rfl rfl (args_v [.int (nI (od j))] [] rfl rfl (Nat.le_of_ble_eq_true rfl) rfl ((f3' 190 (by decide) (by decide) (by decide)).trans hG) (Nat.le_of_ble_eq_true rfl)) (rc_watch hAH3 hW.1 hC3 hY3 hB hlc hlg ((f3' 190 (by decide) (by decide) (by decide)).trans hG) hod hol hR1 hR2 (by rw [hkl]; exact hR3)) ?_
    refine RQ.blk 1 (pc' := 125) (lv' := [(11, .int (nI (u + 3))), (10, .int (nI kp)), (9, .int (nI ol)), (8, .int (nI (od j))), (7, .int (nI (min (tt + n) (i * 512 + 512)))), (6, .int (nI (max tt (i * 512)))), (5, .int (nI (i * 512))), (0, .ref 1), (1, .int (nI f)), (2, .int (nI i)), (3, .int (nI tt)), (4, .int (nI n))]) (st' := [.ref 1]) (H' := _) (kc' := 0) (ks' := 0) rfl ?_
    refine RQ.get (ci := 11) rfl ((f3' 0 (by decide) (by decide) (by decide)).trans h0) rfl rfl ?_
    refine RQ.blk 1 (pc' := 129) (lv' := [(11, .int (nI (u + 3))), (10, .int (nI kp)), (9, .int (nI ol)), (8, .int (nI (od j))), (7, .int (nI (min (tt + n) (i * 512 + 512)))), (6, .int (nI (max tt (i * 512)))), (5, .int (nI (i * 512))), (0, .ref 1), (1, .int (nI f)), (2, .int (nI i)), (3, .int (nI tt)), (4, .int (nI n))]) (st' := [.ref 1, .ref 72]) (H' := _) (kc' := 0) (ks' := 0) rfl ?_
    refine RQ.get (ci := 11) rfl ((f3' 0 (by decide) (by decide) (by decide)).trans h0) rfl rfl ?_
    refine RQ.blk 1 (pc' := 134) (lv' := [(11, .int (nI (u + 3))), (10, .int (nI kp)), (9, .int (nI ol)), (8, .int (nI (od j))), (7, .int (nI (min (tt + n) (i * 512 + 512)))), (6, .int (nI (max tt (i * 512)))), (5, .int (nI (i * 512))), (0, .ref 1), (1, .int (nI f)), (2, .int (nI i)), (3, .int (nI tt)), (4, .int (nI n))]) (st' := [.int (nI (od j)), .ref 75, .ref 72]) (H' := _) (kc' := 0) (ks' := 0) rfl ?_
    refine RQ.call (v := some (.int (nI (pl (od j) + 8 + kl (od j))))) (st' := [.ref 72]) rfl rfl rfl rfl rfl rfl (args_v [.int (nI (od j))] [.ref 72] rfl rfl (Nat.le_of_ble_eq_true rfl) rfl hAH3.1 (Nat.le_of_ble_eq_true rfl)) (rc_valueAddress hAH3 hW.1 hod) ?_
    rw [hkl]
    refine RQ.blk 1 (pc' := 138) (lv' := [(11, .int (nI (u + 3))), (10, .int (nI kp)), (9, .int (nI ol)), (8, .int (nI (od j))), (7, .int (nI (min (tt + n) (i * 512 + 512)))), (6, .int (nI (max tt (i * 512)))), (5, .int (nI (i * 512))), (0, .ref 1), (1, .int (nI f)), (2, .int (nI i)), (3, .int (nI tt)), (4, .int (nI n))]) (st' := [.ref 1, .int (nI (pl (od j) + 8 + 3)), .ref 72]) (H' := _) (kc' := 0) (ks' := 0) rfl ?_
    refine RQ.get (ci := 11) rfl ((f3' 0 (by decide) (by decide) (by decide)).trans h0) rfl rfl ?_
    refine RQ.get (ci := 0) rfl hb3.1 rfl rfl ?_
    refine RQ.blk 2 (pc' := 148) (lv' := [(11, .int (nI (u + 3))), (10, .int (nI kp)), (9, .int (nI ol)), (8, .int (nI (od j))), (7, .int (nI (min (tt + n) (i * 512 + 512)))), (6, .int (nI (max tt (i * 512)))), (5, .int (nI (i * 512))), (0, .ref 1), (1, .int (nI f)), (2, .int (nI i)), (3, .int (nI tt)), (4, .int (nI n))]) (st' := [.int (nI ol), .int (nI (u + 3)), .ref 61, .int (nI (pl (od j) + 8 + 3)), .ref 72]) (H' := _) (kc' := 0) (ks' := 0) rfl ?_
    refine RQ.call (v := none) (st' := []) rfl rfl rfl rfl rfl rfl (args_v [.int (nI ol), .int (nI (u + 3)), .ref 61, .int (nI (pl (od j) + 8 + 3))] [] rfl rfl (Nat.le_of_ble_eq_true rfl) rfl ((f3' 71 (by decide) (by decide) (by decide)).trans hC.1) (Nat.le_of_ble_eq_true rfl)) (rc_copyOut (a := 71) (b := 72) (c := 60) (i := pl (od j) + 8 + 3) (j := u + 3) (k := ol) hC3.1 rfl hC3.2.1 (by omega) hb3.2.1 (by decide) (by omega) (by omega)) ?_
    show RQ _ _ _ _ _ _ (H3.set 60 (kB 4100 (cpy cf (pl (od j) + 8 + 3) (fun q => if u + 3 ≤ q ∧ q < u + 3 + kp then 0 else (cpy g1 0 D u 3) q) (u + 3) ol))) _ _ _
    have hb4 := hb3.data (cpy cf (pl (od j) + 8 + 3) (fun q => if u + 3 ≤ q ∧ q < u + 3 + kp then 0 else (cpy g1 0 D u 3) q) (u + 3) ol)
    have f4 : ∀ a, a ≠ 60 → (H3.set 60 (kB 4100 (cpy cf (pl (od j) + 8 + 3) (fun q => if u + 3 ≤ q ∧ q < u + 3 + kp then 0 else (cpy g1 0 D u 3) q) (u + 3) ol)))[a]? = H3[a]? := fun a a1 => set_far a1
    have f4' : ∀ a, a ≠ 5 → a ≠ 6 → ¬ (59 ≤ a ∧ a < 64) → (H3.set 60 (kB 4100 (cpy cf (pl (od j) + 8 + 3) (fun q => if u + 3 ≤ q ∧ q < u + 3 + kp then 0 else (cpy g1 0 D u 3) q) (u + 3) ol)))[a]? = H[a]? := fun a a1 a2 a3 => (f4 a (by omega)).trans (f3' a a1 a2 a3)
    generalize (H3.set 60 (kB 4100 (cpy cf (pl (od j) + 8 + 3) (fun q => if u + 3 ≤ q ∧ q < u + 3 + kp then 0 else (cpy g1 0 D u 3) q) (u + 3) ol))) = H4 at hb4 f4 f4' ⊢
    have hAH4 := hA.far (H' := H4) (fun a a1 a2 => f4' a (by omega) (by omega) (by omega))
    refine RQ.blk 1 (pc' := 152) (lv' := [(11, .int (nI (u + 3))), (10, .int (nI kp)), (9, .int (nI ol)), (8, .int (nI (od j))), (7, .int (nI (min (tt + n) (i * 512 + 512)))), (6, .int (nI (max tt (i * 512)))), (5, .int (nI (i * 512))), (0, .ref 1), (1, .int (nI f)), (2, .int (nI i)), (3, .int (nI tt)), (4, .int (nI n))]) (st' := [.ref 1]) (H' := _) (kc' := 0) (ks' := 0) rfl ?_
    refine RQ.get (ci := 11) rfl ((f4' 0 (by decide) (by decide) (by decide)).trans h0) rfl rfl ?_
    refine RQ.get (ci := 5) rfl ((f4' 1 (by decide) (by decide) (by decide)).trans h1) rfl rfl ?_
    refine RQ.blk 3 (pc' := 162) (lv' := [(11, .int (nI (u + 3))), (10, .int (nI kp)), (9, .int (nI ol)), (8, .int (nI (od j))), (7, .int (nI (min (tt + n) (i * 512 + 512)))), (6, .int (nI (max tt (i * 512)))), (5, .int (nI (i * 512))), (0, .ref 1), (1, .int (nI f)), (2, .int (nI i)), (3, .int (nI tt)), (4, .int (nI n))]) (st' := [.int (nI (max tt (i * 512)) - nI tt), .ref 3]) (H' := _) (kc' := 0) (ks' := 0) rfl ?_
    rw [show (nI (max tt (i * 512)) - nI tt : Int32) = nI ((max tt (i * 512)) - tt) from pk_sub (a := (max tt (i * 512))) (b := tt) (by omega)]
    refine RQ.blk 1 (pc' := 163) (lv' := [(11, .int (nI (u + 3))), (10, .int (nI kp)), (9, .int (nI ol)), (8, .int (nI (od j))), (7, .int (nI (min (tt + n) (i * 512 + 512)))), (6, .int (nI (max tt (i * 512)))), (5, .int (nI (i * 512))), (0, .ref 1), (1, .int (nI f)), (2, .int (nI i)), (3, .int (nI tt)), (4, .int (nI n))]) (st' := [.ref 1, .int (nI ((max tt (i * 512)) - tt)), .ref 3]) (H' := _) (kc' := 0) (ks' := 0) rfl ?_
    refine RQ.get (ci := 11) rfl ((f4' 0 (by decide) (by decide) (by decide)).trans h0) rfl rfl ?_
    refine RQ.get (ci := 0) rfl hb4.1 rfl rfl ?_
    refine RQ.blk 3 (pc' := 174) (lv' := [(11, .int (nI (u + 3))), (10, .int (nI kp)), (9, .int (nI ol)), (8, .int (nI (od j))), (7, .int (nI (min (tt + n) (i * 512 + 512)))), (6, .int (nI (max tt (i * 512)))), (5, .int (nI (i * 512))), (0, .ref 1), (1, .int (nI f)), (2, .int (nI i)), (3, .int (nI tt)), (4, .int (nI n))]) (st' := [.int (nI (u + 3) + nI (max tt (i * 512))), .ref 61, .int (nI ((max tt (i * 512)) - tt)), .ref 3]) (H' := _) (kc' := 0) (ks' := 0) rfl ?_
    rw [show (nI (u + 3) + nI (max tt (i * 512)) : Int32) = nI (u + 3 + (max tt (i * 512))) from nI_add (u + 3) (max tt (i * 512))]
    refine RQ.blk 2 (pc' := 177) (lv' := [(11, .int (nI (u + 3))), (10, .int (nI kp)), (9, .int (nI ol)), (8, .int (nI (od j))), (7, .int (nI (min (tt + n) (i * 512 + 512)))), (6, .int (nI (max tt (i * 512)))), (5, .int (nI (i * 512))), (0, .ref 1), (1, .int (nI f)), (2, .int (nI i)), (3, .int (nI tt)), (4, .int (nI n))]) (st' := [.int (nI (u + 3 + (max tt (i * 512))) - nI (i * 512)), .ref 61, .int (nI ((max tt (i * 512)) - tt)), .ref 3]) (H' := _) (kc' := 0) (ks' := 0) rfl ?_
    rw [show (nI (u + 3 + (max tt (i * 512))) - nI (i * 512) : Int32) = nI ((u + 3 + (max tt (i * 512))) - (i * 512)) from pk_sub (a := (u + 3 + (max tt (i * 512)))) (b := (i * 512)) (by omega)]
    refine RQ.blk 3 (pc' := 182) (lv' := [(11, .int (nI (u + 3))), (10, .int (nI kp)), (9, .int (nI ol)), (8, .int (nI (od j))), (7, .int (nI (min (tt + n) (i * 512 + 512)))), (6, .int (nI (max tt (i * 512)))), (5, .int (nI (i * 512))), (0, .ref 1), (1, .int (nI f)), (2, .int (nI i)), (3, .int (nI tt)), (4, .int (nI n))]) (st' := [.int (nI (min (tt + n) (i * 512 + 512)) - nI (max tt (i * 512))), .int (nI ((u + 3 + (max tt (i * 512))) - (i * 512))), .ref 61, .int (nI ((max tt (i * 512)) - tt)), .ref 3]) (H' := _) (kc' := 0) (ks' := 0) rfl ?_
    rw [show (nI (min (tt + n) (i * 512 + 512)) - nI (max tt (i * 512)) : Int32) = nI ((min (tt + n) (i * 512 + 512)) - (max tt (i * 512))) from pk_sub (a := (min (tt + n) (i * 512 + 512))) (b := (max tt (i * 512))) (by omega)]
    have hfr : (max tt (i * 512)) ≤ (min (tt + n) (i * 512 + 512)) := by omega
    rw [show u + 3 + (max tt (i * 512)) - i * 512 = u + 3 + ((max tt (i * 512)) - i * 512) by omega]
    refine RQ.call (v := none) (st' := []) rfl rfl rfl rfl rfl rfl rfl (rc_copy (a := 2) (b := 60) (na := 2000) (nb := 4100) (i := (max tt (i * 512)) - tt) (j := (u + 3 + ((max tt (i * 512)) - i * 512))) (k := (min (tt + n) (i * 512 + 512)) - (max tt (i * 512))) ((f4' 2 (by decide) (by decide) (by decide)).trans h2) hb4.2.1 (by decide) (by decide) (by omega) (by omega)) ?_
    show RQ _ _ _ _ _ _ (H4.set 60 (kB 4100 (cpy tb ((max tt (i * 512)) - tt) (cpy cf (pl (od j) + 8 + 3) (fun q => if u + 3 ≤ q ∧ q < u + 3 + kp then 0 else (cpy g1 0 D u 3) q) (u + 3) ol) (u + 3 + ((max tt (i * 512)) - i * 512)) ((min (tt + n) (i * 512 + 512)) - (max tt (i * 512)))))) _ _ _
    have hb6 := hb4.data (cpy tb ((max tt (i * 512)) - tt) (cpy cf (pl (od j) + 8 + 3) (fun q => if u + 3 ≤ q ∧ q < u + 3 + kp then 0 else (cpy g1 0 D u 3) q) (u + 3) ol) (u + 3 + ((max tt (i * 512)) - i * 512)) ((min (tt + n) (i * 512 + 512)) - (max tt (i * 512))))
    have f6 : ∀ a, a ≠ 60 → (H4.set 60 (kB 4100 (cpy tb ((max tt (i * 512)) - tt) (cpy cf (pl (od j) + 8 + 3) (fun q => if u + 3 ≤ q ∧ q < u + 3 + kp then 0 else (cpy g1 0 D u 3) q) (u + 3) ol) (u + 3 + ((max tt (i * 512)) - i * 512)) ((min (tt + n) (i * 512 + 512)) - (max tt (i * 512))))))[a]? = H4[a]? := fun a a1 => set_far a1
    generalize (H4.set 60 (kB 4100 (cpy tb ((max tt (i * 512)) - tt) (cpy cf (pl (od j) + 8 + 3) (fun q => if u + 3 ≤ q ∧ q < u + 3 + kp then 0 else (cpy g1 0 D u 3) q) (u + 3) ol) (u + 3 + ((max tt (i * 512)) - i * 512)) ((min (tt + n) (i * 512 + 512)) - (max tt (i * 512)))))) = H6 at hb6 f6 ⊢
    have hval : sl (cpy tb ((max tt (i * 512)) - tt) (cpy cf (pl (od j) + 8 + 3) (fun q => if u + 3 ≤ q ∧ q < u + 3 + kp then 0 else (cpy g1 0 D u 3) q) (u + 3) ol) (u + 3 + ((max tt (i * 512)) - i * 512)) ((min (tt + n) (i * 512 + 512)) - (max tt (i * 512)))) (u + 3) kp = ovrL (pcV cf vs f i) ((max tt (i * 512)) - i * 512) (sl tb ((max tt (i * 512)) - tt) ((min (tt + n) (i * 512 + 512)) - (max tt (i * 512)))) := by
      refine sl_ovrL (c := cf) (va := pl (od j) + 8 + 3) (ol := ol) (old := pcV cf vs f i) hpv.symm hkp2 (fun j2 hj2 => ?_) (fun j2 hj1 hj2 => ?_)
      · exact cpy_in hj2
      · rw [cpy_out (by omega)]; exact if_pos (by omega)
    have hkk : sl (cpy tb ((max tt (i * 512)) - tt) (cpy cf (pl (od j) + 8 + 3) (fun q => if u + 3 ≤ q ∧ q < u + 3 + kp then 0 else (cpy g1 0 D u 3) q) (u + 3) ol) (u + 3 + ((max tt (i * 512)) - i * 512)) ((min (tt + n) (i * 512 + 512)) - (max tt (i * 512)))) u 3 = [2, f, i] := by
      rw [sl_cpy_out (by omega), sl_cpy_out (by omega), sl_congr 3 u u (fun q hq => if_neg (by omega)), sl_cpy, hk6]
    have hold : ∀ q, q < u → (cpy tb ((max tt (i * 512)) - tt) (cpy cf (pl (od j) + 8 + 3) (fun q => if u + 3 ≤ q ∧ q < u + 3 + kp then 0 else (cpy g1 0 D u 3) q) (u + 3) ol) (u + 3 + ((max tt (i * 512)) - i * 512)) ((min (tt + n) (i * 512 + 512)) - (max tt (i * 512)))) q = D q := fun q hq => by
      rw [cpy_out (by omega), cpy_out (by omega), if_neg (by omega), cpy_out (by omega)]
    have hnl : (ovrL (pcV cf vs f i) ((max tt (i * 512)) - i * 512) (sl tb ((max tt (i * 512)) - tt) ((min (tt + n) (i * 512 + 512)) - (max tt (i * 512))))).length = kp := by rw [← hval, sl_length]
    exact RQ.done (c := 0) (s := 0) rfl rfl rfl rfl ⟨_, rfl, BatchIs.more (key := [2, f, i]) (v := some (ovrL (pcV cf vs f i) ((max tt (i * 512)) - i * 512) (sl tb ((max tt (i * 512)) - tt) ((min (tt + n) (i * 512 + 512)) - (max tt (i * 512)))))) (m := 3) (l := some kp) hL (by rw [hue]; exact hb6) rfl (by show some kp = some _; rw [hnl]) (by rw [hue]) (by rw [hue]; exact hold) (by rw [hue]; exact sl_join hkk hval) hw (by show u + (3 + kp) ≤ 4100; omega), ⟨3, (f6 5 (by decide)).trans (((f4 5 (by decide)).trans (f3 5 (by decide))).trans k52)⟩, ⟨g1, (f6 6 (by decide)).trans (((f4 6 (by decide)).trans (f3 6 (by decide))).trans k62)⟩, fun a a1 a2 a3 => (f6 a (by omega)).trans (f4' a a1 a2 a3)⟩
  ·
    have hAH1 := hA.far (H' := H1) (fun a a1 a2 => f1' a (by omega) (by omega) (by omega))
    have hb1 := hb.far (H' := H1) (fun a a1 a2 => f1 a (by omega) (by omega))
    have hpv : (∀ v, seenV vs [2, f, i] (2 ^ 30) ≠ some v ∨ v.2.2.2.1 = none) := fun v => by
      by_cases e : seenV vs [2, f, i] (2 ^ 30) = some v
      · exact Or.inr (hno v e)
      · exact Or.inl e
    have hpe : pcV cf vs f i = [] := by
      unfold pcV
      cases e : seenV vs [2, f, i] (2 ^ 30) with
      | none => rfl
      | some v => show sl cf _ (v.2.2.2.1.getD 0) = []; rw [hno v e]; rfl
    rw [ey]
    refine RQ.blk 2 (pc' := 40) (lv' := [(8, .int (-1)), (7, .int (nI (min (tt + n) (i * 512 + 512)))), (6, .int (nI (max tt (i * 512)))), (5, .int (nI (i * 512))), (0, .ref 1), (1, .int (nI f)), (2, .int (nI i)), (3, .int (nI tt)), (4, .int (nI n))]) (st' := [.int (-1)]) (H' := _) (kc' := 0) (ks' := 0) rfl ?_
    refine RQ.brF rfl rfl rfl (by decide) ?_
    refine RQ.blk 2 (pc' := 57) (lv' := [(8, .int (-1)), (7, .int (nI (min (tt + n) (i * 512 + 512)))), (6, .int (nI (max tt (i * 512)))), (5, .int (nI (i * 512))), (0, .ref 1), (1, .int (nI f)), (2, .int (nI i)), (3, .int (nI tt)), (4, .int (nI n))]) (st' := [.int 0]) (H' := _) (kc' := 0) (ks' := 0) rfl ?_
    refine RQ.blk 5 (pc' := 66) (lv' := [(9, .int 0), (8, .int (-1)), (7, .int (nI (min (tt + n) (i * 512 + 512)))), (6, .int (nI (max tt (i * 512)))), (5, .int (nI (i * 512))), (0, .ref 1), (1, .int (nI f)), (2, .int (nI i)), (3, .int (nI tt)), (4, .int (nI n))]) (st' := [.int (nI (min (tt + n) (i * 512 + 512)) - nI (i * 512)), .int 0]) (H' := _) (kc' := 0) (ks' := 0) rfl ?_
    rw [show (nI (min (tt + n) (i * 512 + 512)) - nI (i * 512) : Int32) = nI ((min (tt + n) (i * 512 + 512)) - (i * 512)) from pk_sub (a := (min (tt + n) (i * 512 + 512))) (b := (i * 512)) (by omega)]
    refine RQ.blk 1 (pc' := 69) (lv' := [(9, .int 0), (8, .int (-1)), (7, .int (nI (min (tt + n) (i * 512 + 512)))), (6, .int (nI (max tt (i * 512)))), (5, .int (nI (i * 512))), (0, .ref 1), (1, .int (nI f)), (2, .int (nI i)), (3, .int (nI tt)), (4, .int (nI n))]) (st' := [.int (if 0 < nI ((min (tt + n) (i * 512 + 512)) - (i * 512)) then nI ((min (tt + n) (i * 512 + 512)) - (i * 512)) else 0)]) (H' := _) (kc' := 0) (ks' := 0) rfl ?_
    rw [show (if 0 < nI ((min (tt + n) (i * 512 + 512)) - (i * 512)) then nI ((min (tt + n) (i * 512 + 512)) - (i * 512)) else 0 : Int32) = nI (max 0 ((min (tt + n) (i * 512 + 512)) - (i * 512))) from maxI (a := 0) (b := ((min (tt + n) (i * 512 + 512)) - (i * 512))) (by omega) (by omega)]
    refine RQ.blk 2 (pc' := 72) (lv' := [(10, .int (nI (max 0 ((min (tt + n) (i * 512 + 512)) - (i * 512))))), (9, .int 0), (8, .int (-1)), (7, .int (nI (min (tt + n) (i * 512 + 512)))), (6, .int (nI (max tt (i * 512)))), (5, .int (nI (i * 512))), (0, .ref 1), (1, .int (nI f)), (2, .int (nI i)), (3, .int (nI tt)), (4, .int (nI n))]) (st' := [.ref 1]) (H' := _) (kc' := 0) (ks' := 0) rfl ?_
    refine RQ.get (ci := 11) rfl ((f1' 0 (by decide) (by decide) (by decide)).trans h0) rfl rfl ?_
    refine RQ.blk 1 (pc' := 76) (lv' := [(10, .int (nI (max 0 ((min (tt + n) (i * 512 + 512)) - (i * 512))))), (9, .int 0), (8, .int (-1)), (7, .int (nI (min (tt + n) (i * 512 + 512)))), (6, .int (nI (max tt (i * 512)))), (5, .int (nI (i * 512))), (0, .ref 1), (1, .int (nI f)), (2, .int (nI i)), (3, .int (nI tt)), (4, .int (nI n))]) (st' := [.ref 1, .ref 60]) (H' := _) (kc' := 0) (ks' := 0) rfl ?_
    refine RQ.get (ci := 11) rfl ((f1' 0 (by decide) (by decide) (by decide)).trans h0) rfl rfl ?_
    refine RQ.get (ci := 5) rfl k5 rfl rfl ?_
    refine RQ.blk 1 (pc' := 83) (lv' := [(10, .int (nI (max 0 ((min (tt + n) (i * 512 + 512)) - (i * 512))))), (9, .int 0), (8, .int (-1)), (7, .int (nI (min (tt + n) (i * 512 + 512)))), (6, .int (nI (max tt (i * 512)))), (5, .int (nI (i * 512))), (0, .ref 1), (1, .int (nI f)), (2, .int (nI i)), (3, .int (nI tt)), (4, .int (nI n))]) (st' := [.ref 1, .ref 7, .ref 60]) (H' := _) (kc' := 0) (ks' := 0) rfl ?_
    refine RQ.get (ci := 11) rfl ((f1' 0 (by decide) (by decide) (by decide)).trans h0) rfl rfl ?_
    refine RQ.get (ci := 5) rfl k5 rfl rfl ?_
    refine RQ.blk 1 (pc' := 91) (lv' := [(10, .int (nI (max 0 ((min (tt + n) (i * 512 + 512)) - (i * 512))))), (9, .int 0), (8, .int (-1)), (7, .int (nI (min (tt + n) (i * 512 + 512)))), (6, .int (nI (max tt (i * 512)))), (5, .int (nI (i * 512))), (0, .ref 1), (1, .int (nI f)), (2, .int (nI i)), (3, .int (nI tt)), (4, .int (nI n))]) (st' := [.int (nI (max 0 ((min (tt + n) (i * 512 + 512)) - (i * 512)))), .int (nI 3), .ref 7, .ref 60]) (H' := _) (kc' := 0) (ks' := 0) rfl ?_
    generalize hkp : max 0 ((min (tt + n) (i * 512 + 512)) - (i * 512)) = kp
    have hkp1 : kp ≤ 512 := by omega
    have hkp2 : kp = max 0 ((max tt (i * 512)) - i * 512 + ((min (tt + n) (i * 512 + 512)) - (max tt (i * 512)))) := by omega
    refine RQ.callI (st' := []) rfl rfl rfl rfl rfl rfl (args_v [.int (nI kp), .int (nI 3), .ref 7] [] rfl rfl (Nat.le_of_ble_eq_true rfl) rfl hb1.1 (Nat.le_of_ble_eq_true rfl)) (ri_badd5 (l := some kp) (m := 3) hb1 hbk k6 (by decide) (by decide) (by decide) hw (by show u + 3 + kp ≤ 4100; omega)) (fun y2 H2 hx2 => ?_)
    obtain ⟨ey2, hb2, f2⟩ := hx2
    rw [ey2]
    have f2' : ∀ a, a ≠ 5 → a ≠ 6 → ¬ (59 ≤ a ∧ a < 64) → H2[a]? = H[a]? := fun a a1 a2 a3 => (f2 a (by omega)).trans (f1 a a1 a2)
    have k52 := (f2 5 (by decide)).trans k5
    have k62 := (f2 6 (by decide)).trans k6
    have hAH2 := hA.far (H' := H2) (fun a a1 a2 => f2' a (by omega) (by omega) (by omega))
    refine RQ.blk 2 (pc' := 97) (lv' := [(11, .int (nI (u + 3))), (10, .int (nI kp)), (9, .int 0), (8, .int (-1)), (7, .int (nI (min (tt + n) (i * 512 + 512)))), (6, .int (nI (max tt (i * 512)))), (5, .int (nI (i * 512))), (0, .ref 1), (1, .int (nI f)), (2, .int (nI i)), (3, .int (nI tt)), (4, .int (nI n))]) (st' := [.ref 1]) (H' := _) (kc' := 0) (ks' := 0) rfl ?_
    refine RQ.get (ci := 11) rfl ((f2' 0 (by decide) (by decide) (by decide)).trans h0) rfl rfl ?_
    refine RQ.get (ci := 0) rfl hb2.1 rfl rfl ?_
    refine RQ.blk 2 (pc' := 107) (lv' := [(11, .int (nI (u + 3))), (10, .int (nI kp)), (9, .int 0), (8, .int (-1)), (7, .int (nI (min (tt + n) (i * 512 + 512)))), (6, .int (nI (max tt (i * 512)))), (5, .int (nI (i * 512))), (0, .ref 1), (1, .int (nI f)), (2, .int (nI i)), (3, .int (nI tt)), (4, .int (nI n))]) (st' := [.int (nI kp), .int (nI (u + 3)), .ref 61]) (H' := _) (kc' := 0) (ks' := 0) rfl ?_
    refine RQ.call (v := none) (st' := []) rfl rfl rfl rfl rfl rfl rfl (rc_blank (a := 60) (n := 4100) (i := u + 3) (k := kp) hb2.2.1 (by decide) (by omega)) ?_
    show RQ _ _ _ _ _ _ (H2.set 60 (kB 4100 (fun q => if u + 3 ≤ q ∧ q < u + 3 + kp then 0 else (cpy g1 0 D u 3) q))) _ _ _
    have hb3 := hb2.data (fun q => if u + 3 ≤ q ∧ q < u + 3 + kp then 0 else (cpy g1 0 D u 3) q)
    have f3 : ∀ a, a ≠ 60 → (H2.set 60 (kB 4100 (fun q => if u + 3 ≤ q ∧ q < u + 3 + kp then 0 else (cpy g1 0 D u 3) q)))[a]? = H2[a]? := fun a a1 => set_far a1
    have f3' : ∀ a, a ≠ 5 → a ≠ 6 → ¬ (59 ≤ a ∧ a < 64) → (H2.set 60 (kB 4100 (fun q => if u + 3 ≤ q ∧ q < u + 3 + kp then 0 else (cpy g1 0 D u 3) q)))[a]? = H[a]? := fun a a1 a2 a3 => (f3 a (by omega)).trans (f2' a a1 a2 a3)
    generalize (H2.set 60 (kB 4100 (fun q => if u + 3 ≤ q ∧ q < u + 3 + kp then 0 else (cpy g1 0 D u 3) q))) = H3 at hb3 f3 f3' ⊢
    have hAH3 := hA.far (H' := H3) (fun a a1 a2 => f3' a (by omega) (by omega) (by omega))
    refine RQ.blk 1 (pc' := 112) (lv' := [(11, .int (nI (u + 3))), (10, .int (nI kp)), (9, .int 0), (8, .int (-1)), (7, .int (nI (min (tt + n) (i * 512 + 512)))), (6, .int (nI (max tt (i * 512)))), (5, .int (nI (i * 512))), (0, .ref 1), (1, .int (nI f)), (2, .int (nI i)), (3, .int (nI tt)), (4, .int (nI n))]) (st' := [.int (-1)]) (H' := _) (kc' := 0) (ks' := 0) rfl ?_
    refine RQ.brT rfl rfl rfl (by decide) ?_
    refine RQ.blk 1 (pc' := 152) (lv' := [(11, .int (nI (u + 3))), (10, .int (nI kp)), (9, .int 0), (8, .int (-1)), (7, .int (nI (min (tt + n) (i * 512 + 512)))), (6, .int (nI (max tt (i * 512)))), (5, .int (nI (i * 512))), (0, .ref 1), (1, .int (nI f)), (2, .int (nI i)), (3, .int (nI tt)), (4, .int (nI n))]) (st' := [.ref 1]) (H' := _) (kc' := 0) (ks' := 0) rfl ?_
    refine RQ.get (ci := 11) rfl ((f3' 0 (by decide) (by decide) (by decide)).trans h0) rfl rfl ?_
    refine RQ.get (ci := 5) rfl ((f3' 1 (by decide) (by decide) (by decide)).trans h1) rfl rfl ?_
    refine RQ.blk 3 (pc' := 162) (lv' := [(11, .int (nI (u + 3))), (10, .int (nI kp)), (9, .int 0), (8, .int (-1)), (7, .int (nI (min (tt + n) (i * 512 + 512)))), (6, .int (nI (max tt (i * 512)))), (5, .int (nI (i * 512))), (0, .ref 1), (1, .int (nI f)), (2, .int (nI i)), (3, .int (nI tt)), (4, .int (nI n))]) (st' := [.int (nI (max tt (i * 512)) - nI tt), .ref 3]) (H' := _) (kc' := 0) (ks' := 0) rfl ?_
    rw [show (nI (max tt (i * 512)) - nI tt : Int32) = nI ((max tt (i * 512)) - tt) from pk_sub (a := (max tt (i * 512))) (b := tt) (by omega)]
    refine RQ.blk 1 (pc' := 163) (lv' := [(11, .int (nI (u + 3))), (10, .int (nI kp)), (9, .int 0), (8, .int (-1)), (7, .int (nI (min (tt + n) (i * 512 + 512)))), (6, .int (nI (max tt (i * 512)))), (5, .int (nI (i * 512))), (0, .ref 1), (1, .int (nI f)), (2, .int (nI i)), (3, .int (nI tt)), (4, .int (nI n))]) (st' := [.ref 1, .int (nI ((max tt (i * 512)) - tt)), .ref 3]) (H' := _) (kc' := 0) (ks' := 0) rfl ?_
    refine RQ.get (ci := 11) rfl ((f3' 0 (by decide) (by decide) (by decide)).trans h0) rfl rfl ?_
    refine RQ.get (ci := 0) rfl hb3.1 rfl rfl ?_
    refine RQ.blk 3 (pc' := 174) (lv' := [(11, .int (nI (u + 3))), (10, .int (nI kp)), (9, .int 0), (8, .int (-1)), (7, .int (nI (min (tt + n) (i * 512 + 512)))), (6, .int (nI (max tt (i * 512)))), (5, .int (nI (i * 512))), (0, .ref 1), (1, .int (nI f)), (2, .int (nI i)), (3, .int (nI tt)), (4, .int (nI n))]) (st' := [.int (nI (u + 3) + nI (max tt (i * 512))), .ref 61, .int (nI ((max tt (i * 512)) - tt)), .ref 3]) (H' := _) (kc' := 0) (ks' := 0) rfl ?_
    rw [show (nI (u + 3) + nI (max tt (i * 512)) : Int32) = nI (u + 3 + (max tt (i * 512))) from nI_add (u + 3) (max tt (i * 512))]
    refine RQ.blk 2 (pc' := 177) (lv' := [(11, .int (nI (u + 3))), (10, .int (nI kp)), (9, .int 0), (8, .int (-1)), (7, .int (nI (min (tt + n) (i * 512 + 512)))), (6, .int (nI (max tt (i * 512)))), (5, .int (nI (i * 512))), (0, .ref 1), (1, .int (nI f)), (2, .int (nI i)), (3, .int (nI tt)), (4, .int (nI n))]) (st' := [.int (nI (u + 3 + (max tt (i * 512))) - nI (i * 512)), .ref 61, .int (nI ((max tt (i * 512)) - tt)), .ref 3]) (H' := _) (kc' := 0) (ks' := 0) rfl ?_
    rw [show (nI (u + 3 + (max tt (i * 512))) - nI (i * 512) : Int32) = nI ((u + 3 + (max tt (i * 512))) - (i * 512)) from pk_sub (a := (u + 3 + (max tt (i * 512)))) (b := (i * 512)) (by omega)]
    refine RQ.blk 3 (pc' := 182) (lv' := [(11, .int (nI (u + 3))), (10, .int (nI kp)), (9, .int 0), (8, .int (-1)), (7, .int (nI (min (tt + n) (i * 512 + 512)))), (6, .int (nI (max tt (i * 512)))), (5, .int (nI (i * 512))), (0, .ref 1), (1, .int (nI f)), (2, .int (nI i)), (3, .int (nI tt)), (4, .int (nI n))]) (st' := [.int (nI (min (tt + n) (i * 512 + 512)) - nI (max tt (i * 512))), .int (nI ((u + 3 + (max tt (i * 512))) - (i * 512))), .ref 61, .int (nI ((max tt (i * 512)) - tt)), .ref 3]) (H' := _) (kc' := 0) (ks' := 0) rfl ?_
    rw [show (nI (min (tt + n) (i * 512 + 512)) - nI (max tt (i * 512)) : Int32) = nI ((min (tt + n) (i * 512 + 512)) - (max tt (i * 512))) from pk_sub (a := (min (tt + n) (i * 512 + 512))) (b := (max tt (i * 512))) (by omega)]
    have hfr : (max tt (i * 512)) ≤ (min (tt + n) (i * 512 + 512)) := by omega
    rw [show u + 3 + (max tt (i * 512)) - i * 512 = u + 3 + ((max tt (i * 512)) - i * 512) by omega]
    refine RQ.call (v := none) (st' := []) rfl rfl rfl rfl rfl rfl rfl (rc_copy (a := 2) (b := 60) (na := 2000) (nb := 4100) (i := (max tt (i * 512)) - tt) (j := (u + 3 + ((max tt (i * 512)) - i * 512))) (k := (min (tt + n) (i * 512 + 512)) - (max tt (i * 512))) ((f3' 2 (by decide) (by decide) (by decide)).trans h2) hb3.2.1 (by decide) (by decide) (by omega) (by omega)) ?_
    show RQ _ _ _ _ _ _ (H3.set 60 (kB 4100 (cpy tb ((max tt (i * 512)) - tt) (fun q => if u + 3 ≤ q ∧ q < u + 3 + kp then 0 else (cpy g1 0 D u 3) q) (u + 3 + ((max tt (i * 512)) - i * 512)) ((min (tt + n) (i * 512 + 512)) - (max tt (i * 512)))))) _ _ _
    have hb6 := hb3.data (cpy tb ((max tt (i * 512)) - tt) (fun q => if u + 3 ≤ q ∧ q < u + 3 + kp then 0 else (cpy g1 0 D u 3) q) (u + 3 + ((max tt (i * 512)) - i * 512)) ((min (tt + n) (i * 512 + 512)) - (max tt (i * 512))))
    have f6 : ∀ a, a ≠ 60 → (H3.set 60 (kB 4100 (cpy tb ((max tt (i * 512)) - tt) (fun q => if u + 3 ≤ q ∧ q < u + 3 + kp then 0 else (cpy g1 0 D u 3) q) (u + 3 + ((max tt (i * 512)) - i * 512)) ((min (tt + n) (i * 512 + 512)) - (max tt (i * 512))))))[a]? = H3[a]? := fun a a1 => set_far a1
    generalize (H3.set 60 (kB 4100 (cpy tb ((max tt (i * 512)) - tt) (fun q => if u + 3 ≤ q ∧ q < u + 3 + kp then 0 else (cpy g1 0 D u 3) q) (u + 3 + ((max tt (i * 512)) - i * 512)) ((min (tt + n) (i * 512 + 512)) - (max tt (i * 512)))))) = H6 at hb6 f6 ⊢
    have hval : sl (cpy tb ((max tt (i * 512)) - tt) (fun q => if u + 3 ≤ q ∧ q < u + 3 + kp then 0 else (cpy g1 0 D u 3) q) (u + 3 + ((max tt (i * 512)) - i * 512)) ((min (tt + n) (i * 512 + 512)) - (max tt (i * 512)))) (u + 3) kp = ovrL (pcV cf vs f i) ((max tt (i * 512)) - i * 512) (sl tb ((max tt (i * 512)) - tt) ((min (tt + n) (i * 512 + 512)) - (max tt (i * 512)))) := by
      refine sl_ovrL (c := cf) (va := 0) (ol := 0) (old := pcV cf vs f i) hpe.symm hkp2 (fun j2 hj2 => ?_) (fun j2 hj1 hj2 => ?_)
      · exact absurd hj2 (Nat.not_lt_zero _)
      · exact if_pos (by omega)
    have hkk : sl (cpy tb ((max tt (i * 512)) - tt) (fun q => if u + 3 ≤ q ∧ q < u + 3 + kp then 0 else (cpy g1 0 D u 3) q) (u + 3 + ((max tt (i * 512)) - i * 512)) ((min (tt + n) (i * 512 + 512)) - (max tt (i * 512)))) u 3 = [2, f, i] := by
      rw [sl_cpy_out (by omega), sl_congr 3 u u (fun q hq => if_neg (by omega)), sl_cpy, hk6]
    have hold : ∀ q, q < u → (cpy tb ((max tt (i * 512)) - tt) (fun q => if u + 3 ≤ q ∧ q < u + 3 + kp then 0 else (cpy g1 0 D u 3) q) (u + 3 + ((max tt (i * 512)) - i * 512)) ((min (tt + n) (i * 512 + 512)) - (max tt (i * 512)))) q = D q := fun q hq => by
      rw [cpy_out (by omega), if_neg (by omega), cpy_out (by omega)]
    have hnl : (ovrL (pcV cf vs f i) ((max tt (i * 512)) - i * 512) (sl tb ((max tt (i * 512)) - tt) ((min (tt + n) (i * 512 + 512)) - (max tt (i * 512))))).length = kp := by rw [← hval, sl_length]
    exact RQ.done (c := 0) (s := 0) rfl rfl rfl rfl ⟨_, rfl, BatchIs.more (key := [2, f, i]) (v := some (ovrL (pcV cf vs f i) ((max tt (i * 512)) - i * 512) (sl tb ((max tt (i * 512)) - tt) ((min (tt + n) (i * 512 + 512)) - (max tt (i * 512)))))) (m := 3) (l := some kp) hL (by rw [hue]; exact hb6) rfl (by show some kp = some _; rw [hnl]) (by rw [hue]) (by rw [hue]; exact hold) (by rw [hue]; exact sl_join hkk hval) hw (by show u + (3 + kp) ≤ 4100; omega), ⟨3, (f6 5 (by decide)).trans ((f3 5 (by decide)).trans k52)⟩, ⟨g1, (f6 6 (by decide)).trans ((f3 6 (by decide)).trans k62)⟩, fun a a1 a2 a3 => (f6 a (by omega)).trans (f3' a a1 a2 a3)⟩
/-- how a file's piece is cut -/
def shW (c : Nat → Int8) (vs : List aV) (f i n : Nat) : List aE := if pcIn vs f i = true ∧ n - i * 512 < (pcV c vs f i).length then [([2, f, i], if n - i * 512 = 0 then none else some ((pcV c vs f i).take (n - i * 512)))] else []
theorem max0 {a b : Nat} (ha : a < 2 ^ 30) (hb : b < 2 ^ 30) : (if (0 : Int32) < nI a - nI b then nI a - nI b else 0) = nI (a - b) := by
  by_cases h : b ≤ a
  · rw [pk_sub h]
    by_cases h2 : a - b = 0
    · rw [h2]; rfl
    · rw [if_pos]
      exact of_decide_eq_true (cT_lt (x := 0) (y := nI (a - b)) 0 (a - b) (by omega) (by omega) rfl rfl)
  · have e : ¬ (0 : Int32) < nI a - nI b := by
      rw [Int32.lt_iff_toInt_lt, pk_sub_toInt (by omega) (by omega)]
      show ¬ (0 : Int) < (a : Int) - b
      omega
    rw [if_neg e, show a - b = 0 by omega]
    rfl
set_option maxRecDepth 20000 in
theorem rn_shPiece {sc : Nat × (Nat → Int32)} {N : Nat} {kf : Nat → Int8} {kl mo pl : Nat → Nat} {le : Nat → Option Nat} {al : Nat → Bool} {od sp : Nat → Nat} {sz ss ac : Nat} {lc fr ff : Nat} {wr : Bool} {tp rc ms mt sq tu tn nb : Nat} {us : Nat → Bool} {lg : Nat → Nat} {B : Nat} {cf : Nat → Int8} {tf : Nat → Nat} {pq : Option Nat} {bb ov : Nat} {d mp hv f i tt n l : Nat} {H : aH} {bl pr up cw cl cp cb : Int32} {ws : List aE} {vs : List aV} {tb : Nat → Int8} (h0 : H[0]? = some (kO 11 (fvs bl pr up cw cl cp cb))) (h5 : ∃ q : Nat, H[5]? = some (kO 5 [.ref 7, .int (nI q)])) (h6 : ∃ g, H[6]? = some (kB 41 g)) (hb : BatchIs H 59 ws) (h1 : H[1]? = some (kO 5 [.ref 3, .int (nI l)])) (h2 : H[2]? = some (kB 2000 tb)) (hA : VersAt H N kf kl mo pl le al od sp sz ss ac) (hW : VersWf N kf kl mo pl le al od sp sz ss ac) (hvs : vs = vsL kf kl mo pl le al od sz) (hC : ChipAt H B cf tf pq bb ov) (hY : LayAt H (layF B lc fr ff wr tp rc ms mt sq tu tn nb) B us lg) (hB : B ≤ 128) (hlc : lc ≤ B) (hlg : ∀ j, j < lc → lg j < 2 ^ 30) (hG : H[190]? = some (kO 4 (logF mp hv))) (hRec : RecsOk cf B lg lc vs) (hpl : ∀ v : aV, seenV vs [2, f, i] (2 ^ 30) = some v → ∀ n, v.2.2.2.1 = some n → n ≤ 512) (hf : f < 256) (hi : i < 32) (hn2 : n ≤ 16384) (hw : ws.length < 40) (hu : eOff ws ws.length + 515 ≤ 4100) : RN sc (d + 4) mr_251 [.ref 1, .int (nI f), .int (nI i), .int (nI n)] H (fun H' => BatchIs H' 59 (ws ++ shW cf vs f i n) ∧ (∃ q : Nat, H'[5]? = some (kO 5 [.ref 7, .int (nI q)])) ∧ (∃ g, H'[6]? = some (kB 41 g)) ∧ ∀ a, a ≠ 5 → a ≠ 6 → ¬ (59 ≤ a ∧ a < 64) → H'[a]? = H[a]?) := by
  have hN2 := hW.1.1
  obtain ⟨q0, h5⟩ := h5
  obtain ⟨g0, h6⟩ := h6
  have hbI := hb
  obtain ⟨D, S, K, E, hb, hL, -, -⟩ := hb
  have hbk := hL.ok (by omega) (by omega)
  generalize hue : eOff ws ws.length = u at hb hbk hu
  refine RN.of ?_
  refine RQ.blk 3 (pc' := 3) (lv' := [(0, .ref 1), (1, .int (nI f)), (2, .int (nI i)), (3, .int (nI n))]) (st' := [.int (nI i), .int (nI f), .ref 1]) (H' := _) (kc' := 0) (ks' := 0) rfl ?_
  refine RQ.callI (st' := []) rfl rfl rfl rfl rfl rfl (args_v [.int (nI i), .int (nI f)] [] rfl rfl (Nat.le_of_ble_eq_true rfl) rfl h0 (Nat.le_of_ble_eq_true rfl)) (ri_pieceSlot (d := d) h0 h5 h6 hA hW hvs hf (by omega)) (fun y H1 hx1 => ?_)
  obtain ⟨⟨g1, k6, hk6⟩, k5, f1, hcase⟩ := hx1
  have f1' : ∀ a, a ≠ 5 → a ≠ 6 → ¬ (59 ≤ a ∧ a < 64) → H1[a]? = H[a]? := fun a a1 a2 _ => f1 a a1 a2
  rcases hcase with ⟨j, hj, ey, hne, hsee⟩ | ⟨ey, hno⟩
  ·
    have hAH1 := hA.far (H' := H1) (fun a a1 a2 => f1' a (by omega) (by omega) (by omega))
    have hb1 := hb.far (H' := H1) (fun a a1 a2 => f1 a (by omega) (by omega))
    have hod := hW.1.2.2.2.1 j hj
    have hso := hW.1.2.2.2.2.2 _ hod
    obtain ⟨ol, hol⟩ : ∃ ol, le (od j) = some ol := by
      cases e : le (od j) with
      | none => exact absurd e hne
      | some n => exact ⟨n, rfl⟩
    have hvm : verO kf kl mo pl le al (od j) ∈ vs := by rw [hvs]; exact List.mem_of_getElem? (vsL_get hj)
    have hkey : sl kf (od j * 41) (kl (od j)) = [2, f, i] := seen_key hsee
    have hkl : kl (od j) = 3 := by have := congrArg List.length hkey; rw [sl_length] at this; exact this
    obtain ⟨hR1, hR2, hR3, hR4⟩ := hRec _ hvm ol hol
    have hR3 : pl (od j) + 9 + (sl kf (od j * 41) (kl (od j))).length + ol ≤ B * 2048 := hR3
    rw [sl_length, hkl] at hR3
    have hpv : pcV cf vs f i = sl cf (pl (od j) + 8 + 3) ol := by
      unfold pcV
      rw [hsee]
      show sl cf (pl (od j) + 8 + (sl kf (od j * 41) (kl (od j))).length) ((le (od j)).getD 0) = _
      rw [sl_length, hkl, hol]
      rfl
    have hol512 := hpl (verO kf kl mo pl le al (od j)) hsee ol hol
    rw [ey]
    refine RQ.blk 6 (pc' := 15) (lv' := [(4, .int (nI (od j))), (0, .ref 1), (1, .int (nI f)), (2, .int (nI i)), (3, .int (nI n))]) (st' := [.int (nI i * 512), .int (nI n), .int 0]) (H' := _) (kc' := 0) (ks' := 0) rfl ?_
    rw [show (nI i * 512 : Int32) = nI (i * 512) from pk_mul i 512]
    refine RQ.blk 2 (pc' := 19) (lv' := [(4, .int (nI (od j))), (0, .ref 1), (1, .int (nI f)), (2, .int (nI i)), (3, .int (nI n))]) (st' := [.int (if 0 < nI n - nI (i * 512) then nI n - nI (i * 512) else 0)]) (H' := _) (kc' := 0) (ks' := 0) rfl ?_
    rw [show (if (0 : Int32) < nI n - nI (i * 512) then nI n - nI (i * 512) else 0) = nI (n - i * 512) from max0 (by omega) (by omega)]
    refine RQ.blk 2 (pc' := 23) (lv' := [(5, .int (nI (n - i * 512))), (4, .int (nI (od j))), (0, .ref 1), (1, .int (nI f)), (2, .int (nI i)), (3, .int (nI n))]) (st' := [.int (nI (od j))]) (H' := _) (kc' := 0) (ks' := 0) rfl ?_
    have hpc : pcIn vs f i = true := pcIn_T hsee hne
    have hpl2 : (pcV cf vs f i).length = ol := by rw [hpv, sl_length]
    refine RQ.brF rfl rfl rfl (cF_lt (od j) 0) ?_
    refine RQ.blk 1 (pc' := 27) (lv' := [(5, .int (nI (n - i * 512))), (4, .int (nI (od j))), (0, .ref 1), (1, .int (nI f)), (2, .int (nI i)), (3, .int (nI n))]) (st' := [.ref 1]) (H' := _) (kc' := 0) (ks' := 0) rfl ?_
    refine RQ.get (ci := 11) rfl ((f1' 0 (by decide) (by decide) (by decide)).trans h0) rfl rfl ?_
    refine RQ.get (ci := 10) rfl hAH1.1 rfl rfl ?_
    refine RQ.blk 1 (pc' := 35) (lv' := [(5, .int (nI (n - i * 512))), (4, .int (nI (od j))), (0, .ref 1), (1, .int (nI f)), (2, .int (nI i)), (3, .int (nI n))]) (st' := [.int (nI (od j)), .ref 80]) (H' := _) (kc' := 0) (ks' := 0) rfl ?_
    refine RQ.ialdN (j := od j) rfl hAH1.2.2.2.2.2.1 (by omega) (by omega) ?_
    refine RQ.blk 1 (pc' := 38) (lv' := [(5, .int (nI (n - i * 512))), (4, .int (nI (od j))), (0, .ref 1), (1, .int (nI f)), (2, .int (nI i)), (3, .int (nI n))]) (st' := [.int (nI (n - i * 512)), .int (lI (le (od j)))]) (H' := _) (kc' := 0) (ks' := 0) rfl ?_
    rw [show lI (le (od j)) = nI ol by rw [hol]; rfl]
    by_cases hcut : n - i * 512 < ol
    · refine RQ.brT rfl rfl rfl (cT_gt ol (n - i * 512)) ?_
      refine RQ.blk 1 (pc' := 44) (lv' := [(5, .int (nI (n - i * 512))), (4, .int (nI (od j))), (0, .ref 1), (1, .int (nI f)), (2, .int (nI i)), (3, .int (nI n))]) (st' := [.int (nI (n - i * 512))]) (H' := _) (kc' := 0) (ks' := 0) rfl ?_
      by_cases hz : n - i * 512 = 0
      · refine RQ.brF rfl rfl rfl (cF_ne (n - i * 512) 0) ?_
        refine RQ.blk 1 (pc' := 48) (lv' := [(5, .int (nI (n - i * 512))), (4, .int (nI (od j))), (0, .ref 1), (1, .int (nI f)), (2, .int (nI i)), (3, .int (nI n))]) (st' := [.ref 1]) (H' := _) (kc' := 0) (ks' := 0) rfl ?_
        refine RQ.get (ci := 11) rfl ((f1' 0 (by decide) (by decide) (by decide)).trans h0) rfl rfl ?_
        refine RQ.blk 1 (pc' := 52) (lv' := [(5, .int (nI (n - i * 512))), (4, .int (nI (od j))), (0, .ref 1), (1, .int (nI f)), (2, .int (nI i)), (3, .int (nI n))]) (st' := [.ref 1, .ref 60]) (H' := _) (kc' := 0) (ks' := 0) rfl ?_
        refine RQ.get (ci := 11) rfl ((f1' 0 (by decide) (by decide) (by decide)).trans h0) rfl rfl ?_
        refine RQ.get (ci := 5) rfl k5 rfl rfl ?_
        refine RQ.blk 1 (pc' := 59) (lv' := [(5, .int (nI (n - i * 512))), (4, .int (nI (od j))), (0, .ref 1), (1, .int (nI f)), (2, .int (nI i)), (3, .int (nI n))]) (st' := [.ref 1, .ref 7, .ref 60]) (H' := _) (kc' := 0) (ks' := 0) rfl ?_
        refine RQ.get (ci := 11) rfl ((f1' 0 (by decide) (by decide) (by decide)).trans h0) rfl rfl ?_
        refine RQ.get (ci := 5) rfl k5 rfl rfl ?_
        refine RQ.blk 1 (pc' := 66) (lv' := [(5, .int (nI (n - i * 512))), (4, .int (nI (od j))), (0, .ref 1), (1, .int (nI f)), (2, .int (nI i)), (3, .int (nI n))]) (st' := [.int (-1), .int (nI 3), .ref 7, .ref 60]) (H' := _) (kc' := 0) (ks' := 0) rfl ?_
        refine RQ.callI (st' := []) rfl rfl rfl rfl rfl rfl (args_v [.int (-1), .int (nI 3), .ref 7] [] rfl rfl (Nat.le_of_ble_eq_true rfl) rfl hb1.1 (Nat.le_of_ble_eq_true rfl)) (ri_badd5 (l := none) (m := 3) hb1 hbk k6 (by decide) (by decide) (by decide) hw (by show u + 3 + 0 ≤ 4100; omega)) (fun y2 H2 hx2 => ?_)
        obtain ⟨ey2, hb2, f2⟩ := hx2
        rw [ey2]
        have f2' : ∀ a, a ≠ 5 → a ≠ 6 → ¬ (59 ≤ a ∧ a < 64) → H2[a]? = H[a]? := fun a a1 a2 a3 => (f2 a (by omega)).trans (f1 a a1 a2)
        have k52 := (f2 5 (by decide)).trans k5
        have k62 := (f2 6 (by decide)).trans k6
        have hAH2 := hA.far (H' := H2) (fun a a1 a2 => f2' a (by omega) (by omega) (by omega))
        refine RQ.blk 1 (pc' := 70) (lv' := [(5, .int (nI (n - i * 512))), (4, .int (nI (od j))), (0, .ref 1), (1, .int (nI f)), (2, .int (nI i)), (3, .int (nI n))]) (st' := []) (H' := _) (kc' := 0) (ks' := 0) rfl ?_
        have hsw : shW cf vs f i n = [([2, f, i], none)] := by unfold shW; rw [if_pos ⟨hpc, by rw [hpl2]; exact hcut⟩, if_pos hz]
        rw [hsw]
        exact RQ.done (c := 0) (s := 0) rfl rfl rfl rfl ⟨_, rfl, BatchIs.more (key := [2, f, i]) (v := none) (m := 3) (l := none) hL (by rw [hue]; exact hb2) rfl rfl (by rw [hue]) (by rw [hue]; exact fun q hq => cpy_out (by omega)) (by rw [hue]; show sl _ _ 3 = _; rw [sl_cpy, hk6]; rfl) hw (by show u + (3 + 0) ≤ 4100; omega), ⟨3, k52⟩, ⟨g1, k62⟩, f2'⟩
      · refine RQ.brT rfl rfl rfl (cT_ne (n - i * 512) 0) ?_
        refine RQ.blk 1 (pc' := 72) (lv' := [(5, .int (nI (n - i * 512))), (4, .int (nI (od j))), (0, .ref 1), (1, .int (nI f)), (2, .int (nI i)), (3, .int (nI n))]) (st' := [.ref 1]) (H' := _) (kc' := 0) (ks' := 0) rfl ?_
        refine RQ.get (ci := 11) rfl ((f1' 0 (by decide) (by decide) (by decide)).trans h0) rfl rfl ?_
        refine RQ.blk 1 (pc' := 77) (lv' := [(5, .int (nI (n - i * 512))), (4, .int (nI (od j))), (0, .ref 1), (1, .int (nI f)), (2, .int (nI i)), (3, .int (nI n))]) (st' := [.int (nI (od j)), .ref 191]) (H' := _) (kc' := 0) (ks' := 0) rfl ?_
        have hC1 := hC.far (H' := H1) (fun a a1 a2 => f1 a (by omega) (by omega))
        have hY1 := hY.far (H' := H1) (fun a a1 a2 => f1 a (by omega) (by omega))
        refine RQ.call (v := none) (st' := []) rfl rfl rfl rfl rfl rfl (args_v [.int (nI (od j))] [] rfl rfl (Nat.le_of_ble_eq_true rfl) rfl ((f1' 190 (by decide) (by decide) (by decide)).trans hG) (Nat.le_of_ble_eq_true rfl)) (rc_watch hAH1 hW.1 hC1 hY1 hB hlc hlg ((f1 190 (by decide) (by decide)).trans hG) hod hol hR1 hR2 (by rw [hkl]; exact hR3)) ?_
        refine RQ.blk 1 (pc' := 81) (lv' := [(5, .int (nI (n - i * 512))), (4, .int (nI (od j))), (0, .ref 1), (1, .int (nI f)), (2, .int (nI i)), (3, .int (nI n))]) (st' := [.ref 1]) (H' := _) (kc' := 0) (ks' := 0) rfl ?_
        refine RQ.get (ci := 11) rfl ((f1' 0 (by decide) (by decide) (by decide)).trans h0) rfl rfl ?_
        refine RQ.blk 1 (pc' := 85) (lv' := [(5, .int (nI (n - i * 512))), (4, .int (nI (od j))), (0, .ref 1), (1, .int (nI f)), (2, .int (nI i)), (3, .int (nI n))]) (st' := [.ref 1, .ref 60]) (H' := _) (kc' := 0) (ks' := 0) rfl ?_
        refine RQ.get (ci := 11) rfl ((f1' 0 (by decide) (by decide) (by decide)).trans h0) rfl rfl ?_
        refine RQ.get (ci := 5) rfl k5 rfl rfl ?_
        refine RQ.blk 1 (pc' := 92) (lv' := [(5, .int (nI (n - i * 512))), (4, .int (nI (od j))), (0, .ref 1), (1, .int (nI f)), (2, .int (nI i)), (3, .int (nI n))]) (st' := [.ref 1, .ref 7, .ref 60]) (H' := _) (kc' := 0) (ks' := 0) rfl ?_
        refine RQ.get (ci := 11) rfl ((f1' 0 (by decide) (by decide) (by decide)).trans h0) rfl rfl ?_
        refine RQ.get (ci := 5) rfl k5 rfl rfl ?_
        refine RQ.blk 1 (pc' := 100) (lv' := [(5, .int (nI (n - i * 512))), (4, .int (nI (od j))), (0, .ref 1), (1, .int (nI f)), (2, .int (nI i)), (3, .int (nI n))]) (st' := [.int (nI (n - i * 512)), .int (nI 3), .ref 7, .ref 60]) (H' := _) (kc' := 0) (ks' := 0) rfl ?_
        refine RQ.callI (st' := []) rfl rfl rfl rfl rfl rfl (args_v [.int (nI (n - i * 512)), .int (nI 3), .ref 7] [] rfl rfl (Nat.le_of_ble_eq_true rfl) rfl hb1.1 (Nat.le_of_ble_eq_true rfl)) (ri_badd5 (l := (some (n - i * 512))) (m := 3) hb1 hbk k6 (by decide) (by decide) (by decide) hw (by show u + 3 + (n - i * 512) ≤ 4100; omega)) (fun y2 H2 hx2 => ?_)
        obtain ⟨ey2, hb2, f2⟩ := hx2
        rw [ey2]
        have f2' : ∀ a, a ≠ 5 → a ≠ 6 → ¬ (59 ≤ a ∧ a < 64) → H2[a]? = H[a]? := fun a a1 a2 a3 => (f2 a (by omega)).trans (f1 a a1 a2)
        have k52 := (f2 5 (by decide)).trans k5
        have k62 := (f2 6 (by decide)).trans k6
        have hAH2 := hA.far (H' := H2) (fun a a1 a2 => f2' a (by omega) (by omega) (by omega))
        refine RQ.blk 2 (pc' := 106) (lv' := [(6, .int (nI (u + 3))), (5, .int (nI (n - i * 512))), (4, .int (nI (od j))), (0, .ref 1), (1, .int (nI f)), (2, .int (nI i)), (3, .int (nI n))]) (st' := [.ref 1]) (H' := _) (kc' := 0) (ks' := 0) rfl ?_
        refine RQ.get (ci := 11) rfl ((f2' 0 (by decide) (by decide) (by decide)).trans h0) rfl rfl ?_
        refine RQ.blk 1 (pc' := 110) (lv' := [(6, .int (nI (u + 3))), (5, .int (nI (n - i * 512))), (4, .int (nI (od j))), (0, .ref 1), (1, .int (nI f)), (2, .int (nI i)), (3, .int (nI n))]) (st' := [.ref 1, .ref 72]) (H' := _) (kc' := 0) (ks' := 0) rfl ?_
        refine RQ.get (ci := 11) rfl ((f2' 0 (by decide) (by decide) (by decide)).trans h0) rfl rfl ?_
        refine RQ.blk 1 (pc' := 115) (lv' := [(6, .int (nI (u + 3))), (5, .int (nI (n - i * 512))), (4, .int (nI (od j))), (0, .ref 1), (1, .int (nI f)), (2, .int (nI i)), (3, .int (nI n))]) (st' := [.int (nI (od j)), .ref 75, .ref 72]) (H' := _) (kc' := 0) (ks' := 0) rfl ?_
        refine RQ.call (v := some (.int (nI (pl (od j) + 8 + kl (od j))))) (st' := [.ref 72]) rfl rfl rfl rfl rfl rfl (args_v [.int (nI (od j))] [.ref 72] rfl rfl (Nat.le_of_ble_eq_true rfl) rfl hAH2.1 (Nat.le_of_ble_eq_true rfl)) (rc_valueAddress hAH2 hW.1 hod) ?_
        rw [hkl]
        refine RQ.blk 1 (pc' := 119) (lv' := [(6, .int (nI (u + 3))), (5, .int (nI (n - i * 512))), (4, .int (nI (od j))), (0, .ref 1), (1, .int (nI f)), (2, .int (nI i)), (3, .int (nI n))]) (st' := [.ref 1, .int (nI (pl (od j) + 8 + 3)), .ref 72]) (H' := _) (kc' := 0) (ks' := 0) rfl ?_
        refine RQ.get (ci := 11) rfl ((f2' 0 (by decide) (by decide) (by decide)).trans h0) rfl rfl ?_
        refine RQ.get (ci := 0) rfl hb2.1 rfl rfl ?_
        refine RQ.blk 2 (pc' := 129) (lv' := [(6, .int (nI (u + 3))), (5, .int (nI (n - i * 512))), (4, .int (nI (od j))), (0, .ref 1), (1, .int (nI f)), (2, .int (nI i)), (3, .int (nI n))]) (st' := [.int (nI (n - i * 512)), .int (nI (u + 3)), .ref 61, .int (nI (pl (od j) + 8 + 3)), .ref 72]) (H' := _) (kc' := 0) (ks' := 0) rfl ?_
        have hC2 := hC.far (H' := H2) (fun a a1 a2 => f2' a (by omega) (by omega) (by omega))
        refine RQ.call (v := none) (st' := []) rfl rfl rfl rfl rfl rfl (args_v [.int (nI (n - i * 512)), .int (nI (u + 3)), .ref 61, .int (nI (pl (od j) + 8 + 3))] [] rfl rfl (Nat.le_of_ble_eq_true rfl) rfl ((f2' 71 (by decide) (by decide) (by decide)).trans hC.1) (Nat.le_of_ble_eq_true rfl)) (rc_copyOut (a := 71) (b := 72) (c := 60) (i := pl (od j) + 8 + 3) (j := u + 3) (k := n - i * 512) hC2.1 rfl hC2.2.1 (by omega) hb2.2.1 (by decide) (by omega) (by omega)) ?_
        show RQ _ _ _ _ _ _ (H2.set 60 (kB 4100 (cpy cf (pl (od j) + 8 + 3) (cpy g1 0 D u 3) (u + 3) (n - i * 512)))) _ _ _
        have hb4 := hb2.data (cpy cf (pl (od j) + 8 + 3) (cpy g1 0 D u 3) (u + 3) (n - i * 512))
        have f4 : ∀ a, a ≠ 60 → (H2.set 60 (kB 4100 (cpy cf (pl (od j) + 8 + 3) (cpy g1 0 D u 3) (u + 3) (n - i * 512))))[a]? = H2[a]? := fun a a1 => set_far a1
        generalize (H2.set 60 (kB 4100 (cpy cf (pl (od j) + 8 + 3) (cpy g1 0 D u 3) (u + 3) (n - i * 512)))) = H4 at hb4 f4 ⊢
        have hval : sl (cpy cf (pl (od j) + 8 + 3) (cpy g1 0 D u 3) (u + 3) (n - i * 512)) (u + 3) (n - i * 512) = (pcV cf vs f i).take (n - i * 512) := by rw [sl_cpy, hpv, sl_take _ _ _ (by omega)]
        have hkk : sl (cpy cf (pl (od j) + 8 + 3) (cpy g1 0 D u 3) (u + 3) (n - i * 512)) u 3 = [2, f, i] := by rw [sl_cpy_out (by omega), sl_cpy, hk6]
        have hsw : shW cf vs f i n = [([2, f, i], some ((pcV cf vs f i).take (n - i * 512)))] := by unfold shW; rw [if_pos ⟨hpc, by rw [hpl2]; exact hcut⟩, if_neg hz]
        rw [hsw]
        exact RQ.done (c := 0) (s := 0) rfl rfl rfl rfl ⟨_, rfl, BatchIs.more (key := [2, f, i]) (v := some ((pcV cf vs f i).take (n - i * 512))) (m := 3) (l := some (n - i * 512)) hL (by rw [hue]; exact hb4) rfl (by show some (n - i * 512) = some _; rw [List.length_take, hpl2, Nat.min_eq_left (by omega)]) (by rw [hue]) (by rw [hue]; exact fun q hq => by rw [cpy_out (by omega), cpy_out (by omega)]) (by rw [hue]; exact sl_join hkk hval) hw (by show u + (3 + (n - i * 512)) ≤ 4100; omega), ⟨3, (f4 5 (by decide)).trans k52⟩, ⟨g1, (f4 6 (by decide)).trans k62⟩, fun a a1 a2 a3 => (f4 a (by omega)).trans (f2' a a1 a2 a3)⟩
    · refine RQ.brF rfl rfl rfl (cF_gt ol (n - i * 512)) ?_
      have hsw : shW cf vs f i n = [] := by unfold shW; exact if_neg (fun e => hcut (by rw [← hpl2]; exact e.2))
      rw [hsw, List.append_nil]
      exact RQ.done (c := 0) (s := 0) rfl rfl rfl rfl ⟨_, rfl, hbI.far (fun a a1 a2 => f1 a (by omega) (by omega)), ⟨3, k5⟩, ⟨g1, k6⟩, f1'⟩
  ·
    have hAH1 := hA.far (H' := H1) (fun a a1 a2 => f1' a (by omega) (by omega) (by omega))
    have hb1 := hb.far (H' := H1) (fun a a1 a2 => f1 a (by omega) (by omega))
    have hpv : (∀ v, seenV vs [2, f, i] (2 ^ 30) ≠ some v ∨ v.2.2.2.1 = none) := fun v => by
      by_cases e : seenV vs [2, f, i] (2 ^ 30) = some v
      · exact Or.inr (hno v e)
      · exact Or.inl e
    have hpe : pcV cf vs f i = [] := by
      unfold pcV
      cases e : seenV vs [2, f, i] (2 ^ 30) with
      | none => rfl
      | some v => show sl cf _ (v.2.2.2.1.getD 0) = []; rw [hno v e]; rfl
    rw [ey]
    refine RQ.blk 6 (pc' := 15) (lv' := [(4, .int (-1)), (0, .ref 1), (1, .int (nI f)), (2, .int (nI i)), (3, .int (nI n))]) (st' := [.int (nI i * 512), .int (nI n), .int 0]) (H' := _) (kc' := 0) (ks' := 0) rfl ?_
    rw [show (nI i * 512 : Int32) = nI (i * 512) from pk_mul i 512]
    refine RQ.blk 2 (pc' := 19) (lv' := [(4, .int (-1)), (0, .ref 1), (1, .int (nI f)), (2, .int (nI i)), (3, .int (nI n))]) (st' := [.int (if 0 < nI n - nI (i * 512) then nI n - nI (i * 512) else 0)]) (H' := _) (kc' := 0) (ks' := 0) rfl ?_
    rw [show (if (0 : Int32) < nI n - nI (i * 512) then nI n - nI (i * 512) else 0) = nI (n - i * 512) from max0 (by omega) (by omega)]
    refine RQ.blk 2 (pc' := 23) (lv' := [(5, .int (nI (n - i * 512))), (4, .int (-1)), (0, .ref 1), (1, .int (nI f)), (2, .int (nI i)), (3, .int (nI n))]) (st' := [.int (-1)]) (H' := _) (kc' := 0) (ks' := 0) rfl ?_
    have hpc : ¬ pcIn vs f i = true := pcIn_F hno
    refine RQ.brT rfl rfl rfl (by decide) ?_
    have hsw : shW cf vs f i n = [] := by unfold shW; exact if_neg (fun e => hpc e.1)
    rw [hsw, List.append_nil]
    exact RQ.done (c := 0) (s := 0) rfl rfl rfl rfl ⟨_, rfl, hbI.far (fun a a1 a2 => f1 a (by omega) (by omega)), ⟨3, k5⟩, ⟨g1, k6⟩, f1'⟩
/-- a piece's bytes as a function -/
def pcA (c : Nat → Int8) (vs : List aV) (f i : Nat) : Nat → Int8 := match seenV vs [2, f, i] (2 ^ 30) with
  | some v => fun q => c (v.2.2.1 + 8 + v.1.length + q)
  | none => fun _ => 0
theorem rc_copyOutN {sc : Nat × (Nat → Int32)} {d a b c n : Nat} {H : aH} {fs : List Value} {f : Nat → Int8} {i j k : Int32} (ho : H[a]? = some (kO 1 fs)) (hc : fs[0]? = some (.ref (b + 1))) (h : H[b]? = some (kB n f)) (hk : k ≤ 0) : RC sc (d + 1) mr_67 [.ref (a + 1), .int i, .ref (c + 1), .int j, .int k] H (.inl none) H 0 0 := by
  refine RP.blk 1 (pc' := 1) (lv' := [(0, .ref (a + 1)), (1, .int i), (2, .ref (c + 1)), (3, .int j), (4, .int k)]) (st' := [.ref (a + 1)]) (H' := _) (kc' := 0) (ks' := 0) rfl ?_
  refine RP.get (ci := 1) rfl ho rfl hc ?_
  refine RP.blk 4 (pc' := 9) (lv' := [(0, .ref (a + 1)), (1, .int i), (2, .ref (c + 1)), (3, .int j), (4, .int k)]) (st' := [.int k, .int j, .ref (c + 1), .int i, .ref (b + 1)]) (H' := _) (kc' := 0) (ks' := 0) rfl ?_
  refine RP.call (v := none) (st' := []) rfl rfl rfl rfl rfl rfl rfl (rc_copyN hk) ?_
  exact RP.done (c := 0) (s := 0) rfl rfl rfl rfl
theorem neg_le {a b : Nat} (ha : a < 2 ^ 30) (hb : b < 2 ^ 30) (h : a ≤ b) : nI a - nI b ≤ 0 := by
  rw [Int32.le_iff_toInt_le, pk_sub_toInt (by omega) (by omega)]
  show (a : Int) - b ≤ 0
  omega
set_option maxRecDepth 20000 in
theorem rn_rdPiece {sc : Nat × (Nat → Int32)} {N : Nat} {kf : Nat → Int8} {kl mo pl : Nat → Nat} {le : Nat → Option Nat} {al : Nat → Bool} {od sp : Nat → Nat} {sz ss ac : Nat} {lc fr ff : Nat} {wr : Bool} {tp rc ms mt sq tu tn nb : Nat} {us : Nat → Bool} {lg : Nat → Nat} {B : Nat} {cf : Nat → Int8} {tf : Nat → Nat} {pq : Option Nat} {bb ov : Nat} {d mp hv f i tt n l : Nat} {H : aH} {bl pr up cw cl cp cb : Int32} {vs : List aV} {tb : Nat → Int8} {rl : Nat} {rb : Nat → Int8} (h0 : H[0]? = some (kO 11 (fvs bl pr up cw cl cp cb))) (h5 : ∃ q : Nat, H[5]? = some (kO 5 [.ref 7, .int (nI q)])) (h6 : ∃ g, H[6]? = some (kB 41 g)) (h1 : H[1]? = some (kO 5 [.ref 3, .int (nI l)])) (h2 : H[2]? = some (kB 2000 tb)) (h3 : H[3]? = some (kO 5 [.ref 5, .int (nI rl)])) (h4 : H[4]? = some (kB 1000 rb)) (hA : VersAt H N kf kl mo pl le al od sp sz ss ac) (hW : VersWf N kf kl mo pl le al od sp sz ss ac) (hvs : vs = vsL kf kl mo pl le al od sz) (hC : ChipAt H B cf tf pq bb ov) (hY : LayAt H (layF B lc fr ff wr tp rc ms mt sq tu tn nb) B us lg) (hB : B ≤ 128) (hlc : lc ≤ B) (hlg : ∀ j, j < lc → lg j < 2 ^ 30) (hG : H[190]? = some (kO 4 (logF mp hv))) (hRec : RecsOk cf B lg lc vs) (hpl : ∀ v : aV, seenV vs [2, f, i] (2 ^ 30) = some v → ∀ n, v.2.2.2.1 = some n → n ≤ 512) (hf : f < 256) (hi : i < 32) (ht : tt ≤ 16384) (hn2 : n ≤ 1000) : RN sc (d + 4) mr_248 [.ref 1, .int (nI f), .int (nI i), .int (nI tt), .int (nI n)] H (fun H' => H'[4]? = some (kB 1000 (if pcIn vs f i = true ∧ (max tt (i * 512)) < (min (tt + n) (i * 512 + (pcV cf vs f i).length)) then cpy (pcA cf vs f i) ((max tt (i * 512)) - i * 512) rb ((max tt (i * 512)) - tt) ((min (tt + n) (i * 512 + (pcV cf vs f i).length)) - (max tt (i * 512))) else rb)) ∧ (∃ q : Nat, H'[5]? = some (kO 5 [.ref 7, .int (nI q)])) ∧ (∃ g, H'[6]? = some (kB 41 g)) ∧ ∀ a, a ≠ 4 → a ≠ 5 → a ≠ 6 → H'[a]? = H[a]?) := by
  have hN2 := hW.1.1
  obtain ⟨q0, h5⟩ := h5
  obtain ⟨g0, h6⟩ := h6
  refine RN.of ?_
  refine RQ.blk 3 (pc' := 3) (lv' := [(0, .ref 1), (1, .int (nI f)), (2, .int (nI i)), (3, .int (nI tt)), (4, .int (nI n))]) (st' := [.int (nI i), .int (nI f), .ref 1]) (H' := _) (kc' := 0) (ks' := 0) rfl ?_
  refine RQ.callI (st' := []) rfl rfl rfl rfl rfl rfl (args_v [.int (nI i), .int (nI f)] [] rfl rfl (Nat.le_of_ble_eq_true rfl) rfl h0 (Nat.le_of_ble_eq_true rfl)) (ri_pieceSlot (d := d) h0 h5 h6 hA hW hvs hf (by omega)) (fun y H1 hx1 => ?_)
  obtain ⟨⟨g1, k6, hk6⟩, k5, f1, hcase⟩ := hx1
  have f1' : ∀ a, a ≠ 5 → a ≠ 6 → ¬ (59 ≤ a ∧ a < 64) → H1[a]? = H[a]? := fun a a1 a2 _ => f1 a a1 a2
  rcases hcase with ⟨j, hj, ey, hne, hsee⟩ | ⟨ey, hno⟩
  ·
    have hAH1 := hA.far (H' := H1) (fun a a1 a2 => f1' a (by omega) (by omega) (by omega))
    have hod := hW.1.2.2.2.1 j hj
    have hso := hW.1.2.2.2.2.2 _ hod
    obtain ⟨ol, hol⟩ : ∃ ol, le (od j) = some ol := by
      cases e : le (od j) with
      | none => exact absurd e hne
      | some n => exact ⟨n, rfl⟩
    have hvm : verO kf kl mo pl le al (od j) ∈ vs := by rw [hvs]; exact List.mem_of_getElem? (vsL_get hj)
    have hkey : sl kf (od j * 41) (kl (od j)) = [2, f, i] := seen_key hsee
    have hkl : kl (od j) = 3 := by have := congrArg List.length hkey; rw [sl_length] at this; exact this
    obtain ⟨hR1, hR2, hR3, hR4⟩ := hRec _ hvm ol hol
    have hR3 : pl (od j) + 9 + (sl kf (od j * 41) (kl (od j))).length + ol ≤ B * 2048 := hR3
    rw [sl_length, hkl] at hR3
    have hpv : pcV cf vs f i = sl cf (pl (od j) + 8 + 3) ol := by
      unfold pcV
      rw [hsee]
      show sl cf (pl (od j) + 8 + (sl kf (od j * 41) (kl (od j))).length) ((le (od j)).getD 0) = _
      rw [sl_length, hkl, hol]
      rfl
    have hol512 := hpl (verO kf kl mo pl le al (od j)) hsee ol hol
    rw [ey]
    refine RQ.blk 2 (pc' := 10) (lv' := [(5, .int (nI (od j))), (0, .ref 1), (1, .int (nI f)), (2, .int (nI i)), (3, .int (nI tt)), (4, .int (nI n))]) (st' := [.int (nI (od j))]) (H' := _) (kc' := 0) (ks' := 0) rfl ?_
    have hpc : pcIn vs f i = true := pcIn_T hsee hne
    have hpl2 : (pcV cf vs f i).length = ol := by rw [hpv, sl_length]
    have hpa : ∀ q, pcA cf vs f i q = cf (pl (od j) + 8 + 3 + q) := fun q => by
      unfold pcA
      rw [hsee]
      show cf (pl (od j) + 8 + (sl kf (od j * 41) (kl (od j))).length + q) = _
      rw [sl_length, hkl]
    refine RQ.brT rfl rfl rfl (cT_ge (od j) 0) ?_
    refine RQ.blk 1 (pc' := 15) (lv' := [(5, .int (nI (od j))), (0, .ref 1), (1, .int (nI f)), (2, .int (nI i)), (3, .int (nI tt)), (4, .int (nI n))]) (st' := [.ref 1]) (H' := _) (kc' := 0) (ks' := 0) rfl ?_
    refine RQ.get (ci := 11) rfl ((f1' 0 (by decide) (by decide) (by decide)).trans h0) rfl rfl ?_
    refine RQ.blk 1 (pc' := 20) (lv' := [(5, .int (nI (od j))), (0, .ref 1), (1, .int (nI f)), (2, .int (nI i)), (3, .int (nI tt)), (4, .int (nI n))]) (st' := [.int (nI (od j)), .ref 191]) (H' := _) (kc' := 0) (ks' := 0) rfl ?_
    have hC1 := hC.far (H' := H1) (fun a a1 a2 => f1 a (by omega) (by omega))
    have hY1 := hY.far (H' := H1) (fun a a1 a2 => f1 a (by omega) (by omega))
    refine RQ.call (v := none) (st' := []) rfl rfl rfl rfl rfl rfl (args_v [.int (nI (od j))] [] rfl rfl (Nat.le_of_ble_eq_true rfl) rfl ((f1' 190 (by decide) (by decide) (by decide)).trans hG) (Nat.le_of_ble_eq_true rfl)) (rc_watch hAH1 hW.1 hC1 hY1 hB hlc hlg ((f1 190 (by decide) (by decide)).trans hG) hod hol hR1 hR2 (by rw [hkl]; exact hR3)) ?_
    refine RQ.blk 3 (pc' := 28) (lv' := [(5, .int (nI (od j))), (0, .ref 1), (1, .int (nI f)), (2, .int (nI i)), (3, .int (nI tt)), (4, .int (nI n))]) (st' := [.int (nI i * 512)]) (H' := _) (kc' := 0) (ks' := 0) rfl ?_
    rw [show (nI i * 512 : Int32) = nI (i * 512) from pk_mul i 512]
    refine RQ.blk 4 (pc' := 36) (lv' := [(6, .int (nI (i * 512))), (5, .int (nI (od j))), (0, .ref 1), (1, .int (nI f)), (2, .int (nI i)), (3, .int (nI tt)), (4, .int (nI n))]) (st' := [.int (if nI tt < nI (i * 512) then nI (i * 512) else nI tt)]) (H' := _) (kc' := 0) (ks' := 0) rfl ?_
    rw [show (if nI tt < nI (i * 512) then nI (i * 512) else nI tt : Int32) = nI (max tt (i * 512)) from maxI (a := tt) (b := (i * 512)) (by omega) (by omega)]
    refine RQ.blk 4 (pc' := 42) (lv' := [(7, .int (nI (max tt (i * 512)))), (6, .int (nI (i * 512))), (5, .int (nI (od j))), (0, .ref 1), (1, .int (nI f)), (2, .int (nI i)), (3, .int (nI tt)), (4, .int (nI n))]) (st' := [.int (nI tt + nI n)]) (H' := _) (kc' := 0) (ks' := 0) rfl ?_
    rw [show (nI tt + nI n : Int32) = nI (tt + n) from nI_add tt n]
    refine RQ.blk 2 (pc' := 45) (lv' := [(7, .int (nI (max tt (i * 512)))), (6, .int (nI (i * 512))), (5, .int (nI (od j))), (0, .ref 1), (1, .int (nI f)), (2, .int (nI i)), (3, .int (nI tt)), (4, .int (nI n))]) (st' := [.ref 1, .int (nI (i * 512)), .int (nI (tt + n))]) (H' := _) (kc' := 0) (ks' := 0) rfl ?_
    refine RQ.get (ci := 11) rfl ((f1' 0 (by decide) (by decide) (by decide)).trans h0) rfl rfl ?_
    refine RQ.get (ci := 10) rfl hAH1.1 rfl rfl ?_
    refine RQ.blk 1 (pc' := 53) (lv' := [(7, .int (nI (max tt (i * 512)))), (6, .int (nI (i * 512))), (5, .int (nI (od j))), (0, .ref 1), (1, .int (nI f)), (2, .int (nI i)), (3, .int (nI tt)), (4, .int (nI n))]) (st' := [.int (nI (od j)), .ref 80, .int (nI (i * 512)), .int (nI (tt + n))]) (H' := _) (kc' := 0) (ks' := 0) rfl ?_
    refine RQ.ialdN (j := od j) rfl hAH1.2.2.2.2.2.1 (by omega) (by omega) ?_
    rw [show lI (le (od j)) = nI ol by rw [hol]; rfl]
    refine RQ.blk 1 (pc' := 55) (lv' := [(7, .int (nI (max tt (i * 512)))), (6, .int (nI (i * 512))), (5, .int (nI (od j))), (0, .ref 1), (1, .int (nI f)), (2, .int (nI i)), (3, .int (nI tt)), (4, .int (nI n))]) (st' := [.int (nI (i * 512) + nI ol), .int (nI (tt + n))]) (H' := _) (kc' := 0) (ks' := 0) rfl ?_
    rw [show (nI (i * 512) + nI ol : Int32) = nI (i * 512 + ol) from nI_add (i * 512) ol]
    refine RQ.blk 1 (pc' := 58) (lv' := [(7, .int (nI (max tt (i * 512)))), (6, .int (nI (i * 512))), (5, .int (nI (od j))), (0, .ref 1), (1, .int (nI f)), (2, .int (nI i)), (3, .int (nI tt)), (4, .int (nI n))]) (st' := [.int (if nI (i * 512 + ol) < nI (tt + n) then nI (i * 512 + ol) else nI (tt + n))]) (H' := _) (kc' := 0) (ks' := 0) rfl ?_
    rw [show (if nI (i * 512 + ol) < nI (tt + n) then nI (i * 512 + ol) else nI (tt + n) : Int32) = nI (min (tt + n) (i * 512 + ol)) from minI (a := (tt + n)) (b := (i * 512 + ol)) (by omega) (by omega)]
    refine RQ.blk 1 (pc' := 60) (lv' := [(8, .int (nI (min (tt + n) (i * 512 + ol)))), (7, .int (nI (max tt (i * 512)))), (6, .int (nI (i * 512))), (5, .int (nI (od j))), (0, .ref 1), (1, .int (nI f)), (2, .int (nI i)), (3, .int (nI tt)), (4, .int (nI n))]) (st' := []) (H' := _) (kc' := 0) (ks' := 0) rfl ?_
    by_cases hbig : (max tt (i * 512)) < (min (tt + n) (i * 512 + ol))
    · refine RQ.blk 1 (pc' := 61) (lv' := [(8, .int (nI (min (tt + n) (i * 512 + ol)))), (7, .int (nI (max tt (i * 512)))), (6, .int (nI (i * 512))), (5, .int (nI (od j))), (0, .ref 1), (1, .int (nI f)), (2, .int (nI i)), (3, .int (nI tt)), (4, .int (nI n))]) (st' := [.ref 1]) (H' := _) (kc' := 0) (ks' := 0) rfl ?_
      refine RQ.get (ci := 11) rfl ((f1' 0 (by decide) (by decide) (by decide)).trans h0) rfl rfl ?_
      refine RQ.blk 1 (pc' := 65) (lv' := [(8, .int (nI (min (tt + n) (i * 512 + ol)))), (7, .int (nI (max tt (i * 512)))), (6, .int (nI (i * 512))), (5, .int (nI (od j))), (0, .ref 1), (1, .int (nI f)), (2, .int (nI i)), (3, .int (nI tt)), (4, .int (nI n))]) (st' := [.ref 1, .ref 72]) (H' := _) (kc' := 0) (ks' := 0) rfl ?_
      refine RQ.get (ci := 11) rfl ((f1' 0 (by decide) (by decide) (by decide)).trans h0) rfl rfl ?_
      refine RQ.blk 1 (pc' := 70) (lv' := [(8, .int (nI (min (tt + n) (i * 512 + ol)))), (7, .int (nI (max tt (i * 512)))), (6, .int (nI (i * 512))), (5, .int (nI (od j))), (0, .ref 1), (1, .int (nI f)), (2, .int (nI i)), (3, .int (nI tt)), (4, .int (nI n))]) (st' := [.int (nI (od j)), .ref 75, .ref 72]) (H' := _) (kc' := 0) (ks' := 0) rfl ?_
      refine RQ.call (v := some (.int (nI (pl (od j) + 8 + kl (od j))))) (st' := [.ref 72]) rfl rfl rfl rfl rfl rfl (args_v [.int (nI (od j))] [.ref 72] rfl rfl (Nat.le_of_ble_eq_true rfl) rfl hAH1.1 (Nat.le_of_ble_eq_true rfl)) (rc_valueAddress hAH1 hW.1 hod) ?_
      rw [hkl]
      refine RQ.blk 2 (pc' := 76) (lv' := [(8, .int (nI (min (tt + n) (i * 512 + ol)))), (7, .int (nI (max tt (i * 512)))), (6, .int (nI (i * 512))), (5, .int (nI (od j))), (0, .ref 1), (1, .int (nI f)), (2, .int (nI i)), (3, .int (nI tt)), (4, .int (nI n))]) (st' := [.int (nI (pl (od j) + 8 + 3) + nI (max tt (i * 512))), .ref 72]) (H' := _) (kc' := 0) (ks' := 0) rfl ?_
      rw [show (nI (pl (od j) + 8 + 3) + nI (max tt (i * 512)) : Int32) = nI (pl (od j) + 8 + 3 + (max tt (i * 512))) from nI_add (pl (od j) + 8 + 3) (max tt (i * 512))]
      refine RQ.blk 2 (pc' := 79) (lv' := [(8, .int (nI (min (tt + n) (i * 512 + ol)))), (7, .int (nI (max tt (i * 512)))), (6, .int (nI (i * 512))), (5, .int (nI (od j))), (0, .ref 1), (1, .int (nI f)), (2, .int (nI i)), (3, .int (nI tt)), (4, .int (nI n))]) (st' := [.int (nI (pl (od j) + 8 + 3 + (max tt (i * 512))) - nI (i * 512)), .ref 72]) (H' := _) (kc' := 0) (ks' := 0) rfl ?_
      rw [show (nI (pl (od j) + 8 + 3 + (max tt (i * 512))) - nI (i * 512) : Int32) = nI ((pl (od j) + 8 + 3 + (max tt (i * 512))) - (i * 512)) from pk_sub (a := (pl (od j) + 8 + 3 + (max tt (i * 512)))) (b := (i * 512)) (by omega)]
      refine RQ.blk 1 (pc' := 80) (lv' := [(8, .int (nI (min (tt + n) (i * 512 + ol)))), (7, .int (nI (max tt (i * 512)))), (6, .int (nI (i * 512))), (5, .int (nI (od j))), (0, .ref 1), (1, .int (nI f)), (2, .int (nI i)), (3, .int (nI tt)), (4, .int (nI n))]) (st' := [.ref 1, .int (nI ((pl (od j) + 8 + 3 + (max tt (i * 512))) - (i * 512))), .ref 72]) (H' := _) (kc' := 0) (ks' := 0) rfl ?_
      refine RQ.get (ci := 11) rfl ((f1' 0 (by decide) (by decide) (by decide)).trans h0) rfl rfl ?_
      refine RQ.get (ci := 5) rfl ((f1 3 (by decide) (by decide)).trans h3) rfl rfl ?_
      refine RQ.blk 3 (pc' := 90) (lv' := [(8, .int (nI (min (tt + n) (i * 512 + ol)))), (7, .int (nI (max tt (i * 512)))), (6, .int (nI (i * 512))), (5, .int (nI (od j))), (0, .ref 1), (1, .int (nI f)), (2, .int (nI i)), (3, .int (nI tt)), (4, .int (nI n))]) (st' := [.int (nI (max tt (i * 512)) - nI tt), .ref 5, .int (nI ((pl (od j) + 8 + 3 + (max tt (i * 512))) - (i * 512))), .ref 72]) (H' := _) (kc' := 0) (ks' := 0) rfl ?_
      rw [show (nI (max tt (i * 512)) - nI tt : Int32) = nI ((max tt (i * 512)) - tt) from pk_sub (a := (max tt (i * 512))) (b := tt) (by omega)]
      refine RQ.blk 2 (pc' := 94) (lv' := [(8, .int (nI (min (tt + n) (i * 512 + ol)))), (7, .int (nI (max tt (i * 512)))), (6, .int (nI (i * 512))), (5, .int (nI (od j))), (0, .ref 1), (1, .int (nI f)), (2, .int (nI i)), (3, .int (nI tt)), (4, .int (nI n))]) (st' := [.int (nI (max tt (i * 512))), .int (nI (min (tt + n) (i * 512 + ol))), .int (nI ((max tt (i * 512)) - tt)), .ref 5, .int (nI ((pl (od j) + 8 + 3 + (max tt (i * 512))) - (i * 512))), .ref 72]) (H' := _) (kc' := 0) (ks' := 0) rfl ?_
      refine RQ.blk 1 (pc' := 95) (lv' := [(8, .int (nI (min (tt + n) (i * 512 + ol)))), (7, .int (nI (max tt (i * 512)))), (6, .int (nI (i * 512))), (5, .int (nI (od j))), (0, .ref 1), (1, .int (nI f)), (2, .int (nI i)), (3, .int (nI tt)), (4, .int (nI n))]) (st' := [.int (nI (min (tt + n) (i * 512 + ol)) - nI (max tt (i * 512))), .int (nI ((max tt (i * 512)) - tt)), .ref 5, .int (nI ((pl (od j) + 8 + 3 + (max tt (i * 512))) - (i * 512))), .ref 72]) (H' := _) (kc' := 0) (ks' := 0) rfl ?_
      rw [show (nI (min (tt + n) (i * 512 + ol)) - nI (max tt (i * 512)) : Int32) = nI ((min (tt + n) (i * 512 + ol)) - (max tt (i * 512))) from pk_sub (a := (min (tt + n) (i * 512 + ol))) (b := (max tt (i * 512))) (by omega)]
      rw [show pl (od j) + 8 + 3 + (max tt (i * 512)) - i * 512 = (pl (od j) + 8 + 3 + ((max tt (i * 512)) - i * 512)) by omega]
      refine RQ.call (v := none) (st' := []) rfl rfl rfl rfl rfl rfl (args_v [.int (nI ((min (tt + n) (i * 512 + ol)) - (max tt (i * 512)))), .int (nI ((max tt (i * 512)) - tt)), .ref 5, .int (nI (pl (od j) + 8 + 3 + ((max tt (i * 512)) - i * 512)))] [] rfl rfl (Nat.le_of_ble_eq_true rfl) rfl ((f1' 71 (by decide) (by decide) (by decide)).trans hC.1) (Nat.le_of_ble_eq_true rfl)) (rc_copyOut (a := 71) (b := 72) (c := 4) (i := (pl (od j) + 8 + 3 + ((max tt (i * 512)) - i * 512))) (j := (max tt (i * 512)) - tt) (k := (min (tt + n) (i * 512 + ol)) - (max tt (i * 512))) hC1.1 rfl hC1.2.1 (by omega) ((f1 4 (by decide) (by decide)).trans h4) (by decide) (by omega) (by omega)) ?_
      have hfn : cpy (pcA cf vs f i) ((max tt (i * 512)) - i * 512) rb ((max tt (i * 512)) - tt) ((min (tt + n) (i * 512 + ol)) - (max tt (i * 512))) = cpy cf (pl (od j) + 8 + 3 + ((max tt (i * 512)) - i * 512)) rb ((max tt (i * 512)) - tt) ((min (tt + n) (i * 512 + ol)) - (max tt (i * 512))) := by
        funext q
        unfold cpy
        rw [hpa, show pl (od j) + 8 + 3 + ((max tt (i * 512)) - i * 512 + (q - ((max tt (i * 512)) - tt))) = pl (od j) + 8 + 3 + ((max tt (i * 512)) - i * 512) + (q - ((max tt (i * 512)) - tt)) by omega]
      exact RQ.done (c := 0) (s := 0) rfl rfl rfl rfl ⟨_, rfl, by rw [hpl2, if_pos ⟨hpc, hbig⟩, hfn]; exact get_set ((f1 4 (by decide) (by decide)).trans h4), ⟨3, (set_far (by decide)).trans k5⟩, ⟨g1, (set_far (by decide)).trans k6⟩, fun a a1 a2 a3 => (set_far a1).trans (f1 a a2 a3)⟩
    · refine RQ.blk 1 (pc' := 61) (lv' := [(8, .int (nI (min (tt + n) (i * 512 + ol)))), (7, .int (nI (max tt (i * 512)))), (6, .int (nI (i * 512))), (5, .int (nI (od j))), (0, .ref 1), (1, .int (nI f)), (2, .int (nI i)), (3, .int (nI tt)), (4, .int (nI n))]) (st' := [.ref 1]) (H' := _) (kc' := 0) (ks' := 0) rfl ?_
      refine RQ.get (ci := 11) rfl ((f1' 0 (by decide) (by decide) (by decide)).trans h0) rfl rfl ?_
      refine RQ.blk 1 (pc' := 65) (lv' := [(8, .int (nI (min (tt + n) (i * 512 + ol)))), (7, .int (nI (max tt (i * 512)))), (6, .int (nI (i * 512))), (5, .int (nI (od j))), (0, .ref 1), (1, .int (nI f)), (2, .int (nI i)), (3, .int (nI tt)), (4, .int (nI n))]) (st' := [.ref 1, .ref 72]) (H' := _) (kc' := 0) (ks' := 0) rfl ?_
      refine RQ.get (ci := 11) rfl ((f1' 0 (by decide) (by decide) (by decide)).trans h0) rfl rfl ?_
      refine RQ.blk 1 (pc' := 70) (lv' := [(8, .int (nI (min (tt + n) (i * 512 + ol)))), (7, .int (nI (max tt (i * 512)))), (6, .int (nI (i * 512))), (5, .int (nI (od j))), (0, .ref 1), (1, .int (nI f)), (2, .int (nI i)), (3, .int (nI tt)), (4, .int (nI n))]) (st' := [.int (nI (od j)), .ref 75, .ref 72]) (H' := _) (kc' := 0) (ks' := 0) rfl ?_
      refine RQ.call (v := some (.int (nI (pl (od j) + 8 + kl (od j))))) (st' := [.ref 72]) rfl rfl rfl rfl rfl rfl (args_v [.int (nI (od j))] [.ref 72] rfl rfl (Nat.le_of_ble_eq_true rfl) rfl hAH1.1 (Nat.le_of_ble_eq_true rfl)) (rc_valueAddress hAH1 hW.1 hod) ?_
      rw [hkl]
      refine RQ.blk 2 (pc' := 76) (lv' := [(8, .int (nI (min (tt + n) (i * 512 + ol)))), (7, .int (nI (max tt (i * 512)))), (6, .int (nI (i * 512))), (5, .int (nI (od j))), (0, .ref 1), (1, .int (nI f)), (2, .int (nI i)), (3, .int (nI tt)), (4, .int (nI n))]) (st' := [.int (nI (pl (od j) + 8 + 3) + nI (max tt (i * 512))), .ref 72]) (H' := _) (kc' := 0) (ks' := 0) rfl ?_
      rw [show (nI (pl (od j) + 8 + 3) + nI (max tt (i * 512)) : Int32) = nI (pl (od j) + 8 + 3 + (max tt (i * 512))) from nI_add (pl (od j) + 8 + 3) (max tt (i * 512))]
      refine RQ.blk 2 (pc' := 79) (lv' := [(8, .int (nI (min (tt + n) (i * 512 + ol)))), (7, .int (nI (max tt (i * 512)))), (6, .int (nI (i * 512))), (5, .int (nI (od j))), (0, .ref 1), (1, .int (nI f)), (2, .int (nI i)), (3, .int (nI tt)), (4, .int (nI n))]) (st' := [.int (nI (pl (od j) + 8 + 3 + (max tt (i * 512))) - nI (i * 512)), .ref 72]) (H' := _) (kc' := 0) (ks' := 0) rfl ?_
      rw [show (nI (pl (od j) + 8 + 3 + (max tt (i * 512))) - nI (i * 512) : Int32) = nI ((pl (od j) + 8 + 3 + (max tt (i * 512))) - (i * 512)) from pk_sub (a := (pl (od j) + 8 + 3 + (max tt (i * 512)))) (b := (i * 512)) (by omega)]
      refine RQ.blk 1 (pc' := 80) (lv' := [(8, .int (nI (min (tt + n) (i * 512 + ol)))), (7, .int (nI (max tt (i * 512)))), (6, .int (nI (i * 512))), (5, .int (nI (od j))), (0, .ref 1), (1, .int (nI f)), (2, .int (nI i)), (3, .int (nI tt)), (4, .int (nI n))]) (st' := [.ref 1, .int (nI ((pl (od j) + 8 + 3 + (max tt (i * 512))) - (i * 512))), .ref 72]) (H' := _) (kc' := 0) (ks' := 0) rfl ?_
      refine RQ.get (ci := 11) rfl ((f1' 0 (by decide) (by decide) (by decide)).trans h0) rfl rfl ?_
      refine RQ.get (ci := 5) rfl ((f1 3 (by decide) (by decide)).trans h3) rfl rfl ?_
      refine RQ.blk 3 (pc' := 90) (lv' := [(8, .int (nI (min (tt + n) (i * 512 + ol)))), (7, .int (nI (max tt (i * 512)))), (6, .int (nI (i * 512))), (5, .int (nI (od j))), (0, .ref 1), (1, .int (nI f)), (2, .int (nI i)), (3, .int (nI tt)), (4, .int (nI n))]) (st' := [.int (nI (max tt (i * 512)) - nI tt), .ref 5, .int (nI ((pl (od j) + 8 + 3 + (max tt (i * 512))) - (i * 512))), .ref 72]) (H' := _) (kc' := 0) (ks' := 0) rfl ?_
      rw [show (nI (max tt (i * 512)) - nI tt : Int32) = nI ((max tt (i * 512)) - tt) from pk_sub (a := (max tt (i * 512))) (b := tt) (by omega)]
      refine RQ.blk 2 (pc' := 94) (lv' := [(8, .int (nI (min (tt + n) (i * 512 + ol)))), (7, .int (nI (max tt (i * 512)))), (6, .int (nI (i * 512))), (5, .int (nI (od j))), (0, .ref 1), (1, .int (nI f)), (2, .int (nI i)), (3, .int (nI tt)), (4, .int (nI n))]) (st' := [.int (nI (max tt (i * 512))), .int (nI (min (tt + n) (i * 512 + ol))), .int (nI ((max tt (i * 512)) - tt)), .ref 5, .int (nI ((pl (od j) + 8 + 3 + (max tt (i * 512))) - (i * 512))), .ref 72]) (H' := _) (kc' := 0) (ks' := 0) rfl ?_
      refine RQ.blk 1 (pc' := 95) (lv' := [(8, .int (nI (min (tt + n) (i * 512 + ol)))), (7, .int (nI (max tt (i * 512)))), (6, .int (nI (i * 512))), (5, .int (nI (od j))), (0, .ref 1), (1, .int (nI f)), (2, .int (nI i)), (3, .int (nI tt)), (4, .int (nI n))]) (st' := [.int (nI (min (tt + n) (i * 512 + ol)) - nI (max tt (i * 512))), .int (nI ((max tt (i * 512)) - tt)), .ref 5, .int (nI ((pl (od j) + 8 + 3 + (max tt (i * 512))) - (i * 512))), .ref 72]) (H' := _) (kc' := 0) (ks' := 0) rfl ?_
      refine RQ.call (v := none) (st' := []) rfl rfl rfl rfl rfl rfl (args_v [.int (nI (min (tt + n) (i * 512 + ol)) - nI (max tt (i * 512))), .int (nI ((max tt (i * 512)) - tt)), .ref 5, .int (nI ((pl (od j) + 8 + 3 + (max tt (i * 512))) - (i * 512)))] [] rfl rfl (Nat.le_of_ble_eq_true rfl) rfl ((f1' 71 (by decide) (by decide) (by decide)).trans hC.1) (Nat.le_of_ble_eq_true rfl)) (rc_copyOutN (a := 71) (b := 72) (c := 4) hC1.1 rfl hC1.2.1 (neg_le (by omega) (by omega) (by omega))) ?_
      exact RQ.done (c := 0) (s := 0) rfl rfl rfl rfl ⟨_, rfl, by rw [hpl2, if_neg (fun e => hbig e.2)]; exact (f1 4 (by decide) (by decide)).trans h4, ⟨3, k5⟩, ⟨g1, k6⟩, fun a a1 a2 a3 => f1 a a2 a3⟩
  ·
    have hAH1 := hA.far (H' := H1) (fun a a1 a2 => f1' a (by omega) (by omega) (by omega))
    have hpv : (∀ v, seenV vs [2, f, i] (2 ^ 30) ≠ some v ∨ v.2.2.2.1 = none) := fun v => by
      by_cases e : seenV vs [2, f, i] (2 ^ 30) = some v
      · exact Or.inr (hno v e)
      · exact Or.inl e
    have hpe : pcV cf vs f i = [] := by
      unfold pcV
      cases e : seenV vs [2, f, i] (2 ^ 30) with
      | none => rfl
      | some v => show sl cf _ (v.2.2.2.1.getD 0) = []; rw [hno v e]; rfl
    rw [ey]
    refine RQ.blk 2 (pc' := 10) (lv' := [(5, .int (-1)), (0, .ref 1), (1, .int (nI f)), (2, .int (nI i)), (3, .int (nI tt)), (4, .int (nI n))]) (st' := [.int (-1)]) (H' := _) (kc' := 0) (ks' := 0) rfl ?_
    have hpc : ¬ pcIn vs f i = true := pcIn_F hno
    refine RQ.brF rfl rfl rfl (by decide) ?_
    exact RQ.done (c := 0) (s := 0) rfl rfl rfl rfl ⟨_, rfl, by rw [if_neg (fun e => hpc e.1)]; exact (f1 4 (by decide) (by decide)).trans h4, ⟨3, k5⟩, ⟨g1, k6⟩, fun a a1 a2 a3 => f1 a a2 a3⟩
