/-! ===== changes of files: a node, a size, what goes; class; written by wip/gen/chg.py ===== -/
theorem BatchAt.data {H : aH} {b : Nat} {D : Nat → Int8} {S K : Nat → Nat} {E : Nat → Option Nat} {n u : Nat} (h : BatchAt H b D S K E n u) (D' : Nat → Int8) : BatchAt (H.set (b + 1) (kB 4100 D')) b D' S K E n u := ⟨(set_far (by omega)).trans h.1, get_set h.2.1, (set_far (by omega)).trans h.2.2.1, (set_far (by omega)).trans h.2.2.2.1, (set_far (by omega)).trans h.2.2.2.2⟩
/-- a change more -/
theorem BatchIs.more {H : aH} {b : Nat} {D D' : Nat → Int8} {S K : Nat → Nat} {E : Nat → Option Nat} {ws : List aE} {key : List Nat} {v : Option (List Nat)} {m u : Nat} {l : Option Nat} (hL : LayE D 0 S K E ws) (hB : BatchAt H b D' (va_up S ws.length (eOff ws ws.length)) (va_up K ws.length m) (va_up E ws.length l) (ws.length + 1) u) (hm : m = key.length) (hl : l = v.map List.length) (hu : u = eOff ws ws.length + (m + l.getD 0)) (hD : ∀ q, q < eOff ws ws.length → D' q = D q) (hs : sl D' (eOff ws ws.length) (m + l.getD 0) = key ++ v.getD []) (hn : ws.length < 40) (hu2 : u ≤ 4100) : BatchIs H b (ws ++ [(key, v)]) := by
  have he : eLen (key, v) = m + l.getD 0 := by
    rw [hm, hl]
    unfold eLen
    cases v <;> rfl
  refine BatchIs.mk' hB (hL.snoc (e := (key, v)) (fun q _ hq => hD q (by omega)) (fun i hi => ⟨up_ne (by omega), up_ne (by omega), up_ne (by omega)⟩) (by rw [up_at]; omega) (by rw [up_at]; exact hm) (by rw [up_at]; exact hl) (by rw [Nat.zero_add, he]; exact hs)) (by rw [List.length_append]; rfl) (by rw [eOff_end, he]; exact hu.symm) (by omega) hu2
set_option maxRecDepth 20000 in
theorem rn_chNode {sc : Nat × (Nat → Int32)} {d v k dir s i n a na : Nat} {f : Nat → Int8} {H : aH} {bl pr up cw cl cp cb : Int32} {ws : List aE} (h0 : H[0]? = some (kO 11 (fvs bl pr up cw cl cp cb))) (h5 : ∃ q : Nat, H[5]? = some (kO 5 [.ref 7, .int (nI q)])) (h6 : ∃ g, H[6]? = some (kB 41 g)) (hb : BatchIs H 59 ws) (h1 : H[a]? = some (kB na f)) (hna : na < 2 ^ 30) (ha5 : a ≠ 5) (ha6 : a ≠ 6) (hab : ¬ (59 ≤ a ∧ a < 64)) (hin : i + n ≤ na) (hv : v < 256) (hk : k < 256) (hdir : dir < 256) (hs : s < 65536) (hn : n ≤ 30) (hw : ws.length < 40) (hu : eOff ws ws.length + 6 + n ≤ 4100) : RN sc (d + 3) mr_222 [.ref 1, .int (nI v), .int (nI k), .int (nI dir), .int (nI s), .ref (a + 1), .int (nI i), .int (nI n)] H (fun H' => BatchIs H' 59 (ws ++ [([1, v], some ([k, dir] ++ (beB 2 s ++ sl f i n)))]) ∧ (∃ q : Nat, H'[5]? = some (kO 5 [.ref 7, .int (nI q)])) ∧ (∃ g, H'[6]? = some (kB 41 g)) ∧ ∀ a, a ≠ 5 → a ≠ 6 → ¬ (59 ≤ a ∧ a < 64) → H'[a]? = H[a]?) := by
  obtain ⟨q0, h5⟩ := h5
  obtain ⟨g0, h6⟩ := h6
  obtain ⟨D, S, K, E, hb, hL, -, -⟩ := hb
  have hbk := hL.ok (by omega) (by omega)
  generalize hue : eOff ws ws.length = u at hb hbk hu
  refine RN.of ?_
  refine RQ.blk 2 (pc' := 2) (lv' := [(0, .ref 1), (1, .int (nI v)), (2, .int (nI k)), (3, .int (nI dir)), (4, .int (nI s)), (5, .ref (a + 1)), (6, .int (nI i)), (7, .int (nI n))]) (st' := [.int (nI v), .ref 1]) (H' := _) (kc' := 0) (ks' := 0) rfl ?_
  refine RQ.callN (st' := []) rfl rfl rfl rfl rfl rfl (args_v [.int (nI v)] [] rfl rfl (Nat.le_of_ble_eq_true rfl) rfl h0 (Nat.le_of_ble_eq_true rfl)) (rn_probeNode h0 h5 h6 hv) (fun H1 hx1 => ?_)
  obtain ⟨⟨g1, k6, hk6⟩, k5, f1⟩ := hx1
  have hb1 := hb.far (H' := H1) (fun a a1 a2 => f1 a (by omega) (by omega))
  have k0 := (f1 0 (by decide) (by decide)).trans h0
  refine RQ.blk 1 (pc' := 6) (lv' := [(0, .ref 1), (1, .int (nI v)), (2, .int (nI k)), (3, .int (nI dir)), (4, .int (nI s)), (5, .ref (a + 1)), (6, .int (nI i)), (7, .int (nI n))]) (st' := [.ref 1]) (H' := _) (kc' := 0) (ks' := 0) rfl ?_
  refine RQ.get (ci := 11) rfl k0 rfl rfl ?_
  refine RQ.blk 1 (pc' := 10) (lv' := [(0, .ref 1), (1, .int (nI v)), (2, .int (nI k)), (3, .int (nI dir)), (4, .int (nI s)), (5, .ref (a + 1)), (6, .int (nI i)), (7, .int (nI n))]) (st' := [.ref 1, .ref 60]) (H' := _) (kc' := 0) (ks' := 0) rfl ?_
  refine RQ.get (ci := 11) rfl k0 rfl rfl ?_
  refine RQ.get (ci := 5) rfl k5 rfl rfl ?_
  refine RQ.blk 1 (pc' := 17) (lv' := [(0, .ref 1), (1, .int (nI v)), (2, .int (nI k)), (3, .int (nI dir)), (4, .int (nI s)), (5, .ref (a + 1)), (6, .int (nI i)), (7, .int (nI n))]) (st' := [.ref 1, .ref 7, .ref 60]) (H' := _) (kc' := 0) (ks' := 0) rfl ?_
  refine RQ.get (ci := 11) rfl k0 rfl rfl ?_
  refine RQ.get (ci := 5) rfl k5 rfl rfl ?_
  refine RQ.blk 3 (pc' := 27) (lv' := [(0, .ref 1), (1, .int (nI v)), (2, .int (nI k)), (3, .int (nI dir)), (4, .int (nI s)), (5, .ref (a + 1)), (6, .int (nI i)), (7, .int (nI n))]) (st' := [.int (4 + nI n), .int (nI 2), .ref 7, .ref 60]) (H' := _) (kc' := 0) (ks' := 0) rfl ?_
  rw [show (4 + nI n : Int32) = nI (4 + n) from nI_add 4 n]
  refine RQ.callI (st' := []) rfl rfl rfl rfl rfl rfl (args_v [.int (nI (4 + n)), .int (nI 2), .ref 7] [] rfl rfl (Nat.le_of_ble_eq_true rfl) rfl hb1.1 (Nat.le_of_ble_eq_true rfl)) (ri_badd5 (l := some (4 + n)) (m := 2) hb1 hbk k6 (by decide) (by decide) (by decide) hw (by show u + 2 + (4 + n) ≤ 4100; omega)) (fun y H2 hx2 => ?_)
  obtain ⟨ey, hb2, f2⟩ := hx2
  rw [ey]
  have k02 := (f2 0 (by decide)).trans k0
  have k52 := (f2 5 (by decide)).trans k5
  have k62 := (f2 6 (by decide)).trans k6
  have h12 : H2[a]? = some (kB na f) := (f2 a (by omega)).trans ((f1 a ha5 ha6).trans h1)
  refine RQ.blk 2 (pc' := 33) (lv' := [(8, .int (nI (u + 2))), (0, .ref 1), (1, .int (nI v)), (2, .int (nI k)), (3, .int (nI dir)), (4, .int (nI s)), (5, .ref (a + 1)), (6, .int (nI i)), (7, .int (nI n))]) (st' := [.ref 1]) (H' := _) (kc' := 0) (ks' := 0) rfl ?_
  refine RQ.get (ci := 11) rfl k02 rfl rfl ?_
  refine RQ.get (ci := 0) rfl hb2.1 rfl rfl ?_
  refine RQ.blk 3 (pc' := 43) (lv' := [(8, .int (nI (u + 2))), (0, .ref 1), (1, .int (nI v)), (2, .int (nI k)), (3, .int (nI dir)), (4, .int (nI s)), (5, .ref (a + 1)), (6, .int (nI i)), (7, .int (nI n))]) (st' := [.int (nI k), .int 1, .int (nI (u + 2)), .ref 61]) (H' := _) (kc' := 0) (ks' := 0) rfl ?_
  refine RQ.call (v := none) (st' := []) rfl rfl rfl rfl rfl rfl rfl (rc_number (a := 60) (m := 4100) (p := u + 2) (n := 1) (v := nI k) hb2.2.1 (by decide) (by omega) (by decide)) ?_
  show RQ _ _ _ _ _ _ (H2.set 60 (kB 4100 (numF (cpy g1 0 D u 2) (u + 2) 1 (nI k) 1))) _ _ _
  have hb3 := hb2.data (numF (cpy g1 0 D u 2) (u + 2) 1 (nI k) 1)
  have f3 : ∀ a, a ≠ 60 → (H2.set 60 (kB 4100 (numF (cpy g1 0 D u 2) (u + 2) 1 (nI k) 1)))[a]? = H2[a]? := fun a a1 => set_far a1
  have h13 : (H2.set 60 (kB 4100 (numF (cpy g1 0 D u 2) (u + 2) 1 (nI k) 1)))[a]? = some (kB na f) := (f3 a (by omega)).trans h12
  have k03 := (f3 0 (by decide)).trans k02
  generalize (H2.set 60 (kB 4100 (numF (cpy g1 0 D u 2) (u + 2) 1 (nI k) 1))) = H3 at hb3 f3 h13 k03 ⊢
  refine RQ.blk 1 (pc' := 47) (lv' := [(8, .int (nI (u + 2))), (0, .ref 1), (1, .int (nI v)), (2, .int (nI k)), (3, .int (nI dir)), (4, .int (nI s)), (5, .ref (a + 1)), (6, .int (nI i)), (7, .int (nI n))]) (st' := [.ref 1]) (H' := _) (kc' := 0) (ks' := 0) rfl ?_
  refine RQ.get (ci := 11) rfl k03 rfl rfl ?_
  refine RQ.get (ci := 0) rfl hb3.1 rfl rfl ?_
  refine RQ.blk 3 (pc' := 57) (lv' := [(8, .int (nI (u + 2))), (0, .ref 1), (1, .int (nI v)), (2, .int (nI k)), (3, .int (nI dir)), (4, .int (nI s)), (5, .ref (a + 1)), (6, .int (nI i)), (7, .int (nI n))]) (st' := [.int (nI (u + 2) + 1), .ref 61]) (H' := _) (kc' := 0) (ks' := 0) rfl ?_
  rw [show (nI (u + 2) + 1 : Int32) = nI (u + 2 + 1) from nI_add (u + 2) 1]
  refine RQ.blk 2 (pc' := 59) (lv' := [(8, .int (nI (u + 2))), (0, .ref 1), (1, .int (nI v)), (2, .int (nI k)), (3, .int (nI dir)), (4, .int (nI s)), (5, .ref (a + 1)), (6, .int (nI i)), (7, .int (nI n))]) (st' := [.int (nI dir), .int 1, .int (nI (u + 2 + 1)), .ref 61]) (H' := _) (kc' := 0) (ks' := 0) rfl ?_
  refine RQ.call (v := none) (st' := []) rfl rfl rfl rfl rfl rfl rfl (rc_number (a := 60) (m := 4100) (p := u + 2 + 1) (n := 1) (v := nI dir) hb3.2.1 (by decide) (by omega) (by decide)) ?_
  show RQ _ _ _ _ _ _ (H3.set 60 (kB 4100 (numF (numF (cpy g1 0 D u 2) (u + 2) 1 (nI k) 1) (u + 3) 1 (nI dir) 1))) _ _ _
  have hb4 := hb3.data (numF (numF (cpy g1 0 D u 2) (u + 2) 1 (nI k) 1) (u + 3) 1 (nI dir) 1)
  have f4 : ∀ a, a ≠ 60 → (H3.set 60 (kB 4100 (numF (numF (cpy g1 0 D u 2) (u + 2) 1 (nI k) 1) (u + 3) 1 (nI dir) 1)))[a]? = H3[a]? := fun a a1 => set_far a1
  have h14 : (H3.set 60 (kB 4100 (numF (numF (cpy g1 0 D u 2) (u + 2) 1 (nI k) 1) (u + 3) 1 (nI dir) 1)))[a]? = some (kB na f) := (f4 a (by omega)).trans h13
  have k04 := (f4 0 (by decide)).trans k03
  generalize (H3.set 60 (kB 4100 (numF (numF (cpy g1 0 D u 2) (u + 2) 1 (nI k) 1) (u + 3) 1 (nI dir) 1))) = H4 at hb4 f4 h14 k04 ⊢
  refine RQ.blk 1 (pc' := 63) (lv' := [(8, .int (nI (u + 2))), (0, .ref 1), (1, .int (nI v)), (2, .int (nI k)), (3, .int (nI dir)), (4, .int (nI s)), (5, .ref (a + 1)), (6, .int (nI i)), (7, .int (nI n))]) (st' := [.ref 1]) (H' := _) (kc' := 0) (ks' := 0) rfl ?_
  refine RQ.get (ci := 11) rfl k04 rfl rfl ?_
  refine RQ.get (ci := 0) rfl hb4.1 rfl rfl ?_
  refine RQ.blk 3 (pc' := 73) (lv' := [(8, .int (nI (u + 2))), (0, .ref 1), (1, .int (nI v)), (2, .int (nI k)), (3, .int (nI dir)), (4, .int (nI s)), (5, .ref (a + 1)), (6, .int (nI i)), (7, .int (nI n))]) (st' := [.int (nI (u + 2) + 2), .ref 61]) (H' := _) (kc' := 0) (ks' := 0) rfl ?_
  rw [show (nI (u + 2) + 2 : Int32) = nI (u + 2 + 2) from nI_add (u + 2) 2]
  refine RQ.blk 2 (pc' := 76) (lv' := [(8, .int (nI (u + 2))), (0, .ref 1), (1, .int (nI v)), (2, .int (nI k)), (3, .int (nI dir)), (4, .int (nI s)), (5, .ref (a + 1)), (6, .int (nI i)), (7, .int (nI n))]) (st' := [.int (nI s), .int 2, .int (nI (u + 2 + 2)), .ref 61]) (H' := _) (kc' := 0) (ks' := 0) rfl ?_
  refine RQ.call (v := none) (st' := []) rfl rfl rfl rfl rfl rfl rfl (rc_number (a := 60) (m := 4100) (p := u + 2 + 2) (n := 2) (v := nI s) hb4.2.1 (by decide) (by omega) (by decide)) ?_
  show RQ _ _ _ _ _ _ (H4.set 60 (kB 4100 (numF (numF (numF (cpy g1 0 D u 2) (u + 2) 1 (nI k) 1) (u + 3) 1 (nI dir) 1) (u + 4) 2 (nI s) 2))) _ _ _
  have hb5 := hb4.data (numF (numF (numF (cpy g1 0 D u 2) (u + 2) 1 (nI k) 1) (u + 3) 1 (nI dir) 1) (u + 4) 2 (nI s) 2)
  have f5 : ∀ a, a ≠ 60 → (H4.set 60 (kB 4100 (numF (numF (numF (cpy g1 0 D u 2) (u + 2) 1 (nI k) 1) (u + 3) 1 (nI dir) 1) (u + 4) 2 (nI s) 2)))[a]? = H4[a]? := fun a a1 => set_far a1
  have h15 : (H4.set 60 (kB 4100 (numF (numF (numF (cpy g1 0 D u 2) (u + 2) 1 (nI k) 1) (u + 3) 1 (nI dir) 1) (u + 4) 2 (nI s) 2)))[a]? = some (kB na f) := (f5 a (by omega)).trans h14
  have k05 := (f5 0 (by decide)).trans k04
  generalize (H4.set 60 (kB 4100 (numF (numF (numF (cpy g1 0 D u 2) (u + 2) 1 (nI k) 1) (u + 3) 1 (nI dir) 1) (u + 4) 2 (nI s) 2))) = H5 at hb5 f5 h15 k05 ⊢
  refine RQ.blk 3 (pc' := 84) (lv' := [(8, .int (nI (u + 2))), (0, .ref 1), (1, .int (nI v)), (2, .int (nI k)), (3, .int (nI dir)), (4, .int (nI s)), (5, .ref (a + 1)), (6, .int (nI i)), (7, .int (nI n))]) (st' := [.ref 1, .int (nI i), .ref (a + 1)]) (H' := _) (kc' := 0) (ks' := 0) rfl ?_
  refine RQ.get (ci := 11) rfl k05 rfl rfl ?_
  refine RQ.get (ci := 0) rfl hb5.1 rfl rfl ?_
  refine RQ.blk 3 (pc' := 94) (lv' := [(8, .int (nI (u + 2))), (0, .ref 1), (1, .int (nI v)), (2, .int (nI k)), (3, .int (nI dir)), (4, .int (nI s)), (5, .ref (a + 1)), (6, .int (nI i)), (7, .int (nI n))]) (st' := [.int (nI (u + 2) + 4), .ref 61, .int (nI i), .ref (a + 1)]) (H' := _) (kc' := 0) (ks' := 0) rfl ?_
  rw [show (nI (u + 2) + 4 : Int32) = nI (u + 2 + 4) from nI_add (u + 2) 4]
  refine RQ.blk 1 (pc' := 96) (lv' := [(8, .int (nI (u + 2))), (0, .ref 1), (1, .int (nI v)), (2, .int (nI k)), (3, .int (nI dir)), (4, .int (nI s)), (5, .ref (a + 1)), (6, .int (nI i)), (7, .int (nI n))]) (st' := [.int (nI n), .int (nI (u + 2 + 4)), .ref 61, .int (nI i), .ref (a + 1)]) (H' := _) (kc' := 0) (ks' := 0) rfl ?_
  refine RQ.call (v := none) (st' := []) rfl rfl rfl rfl rfl rfl rfl (rc_copy (a := a) (b := 60) (na := na) (nb := 4100) (i := i) (j := u + 2 + 4) (k := n) h15 hb5.2.1 (by omega) (by decide) hin (by omega)) ?_
  show RQ _ _ _ _ _ _ (H5.set 60 (kB 4100 (cpy f i (numF (numF (numF (cpy g1 0 D u 2) (u + 2) 1 (nI k) 1) (u + 3) 1 (nI dir) 1) (u + 4) 2 (nI s) 2) (u + 6) n))) _ _ _
  have hb6 := hb5.data (cpy f i (numF (numF (numF (cpy g1 0 D u 2) (u + 2) 1 (nI k) 1) (u + 3) 1 (nI dir) 1) (u + 4) 2 (nI s) 2) (u + 6) n)
  have f6 : ∀ a, a ≠ 60 → (H5.set 60 (kB 4100 (cpy f i (numF (numF (numF (cpy g1 0 D u 2) (u + 2) 1 (nI k) 1) (u + 3) 1 (nI dir) 1) (u + 4) 2 (nI s) 2) (u + 6) n)))[a]? = H5[a]? := fun a a1 => set_far a1
  generalize (H5.set 60 (kB 4100 (cpy f i (numF (numF (numF (cpy g1 0 D u 2) (u + 2) 1 (nI k) 1) (u + 3) 1 (nI dir) 1) (u + 4) 2 (nI s) 2) (u + 6) n))) = H6 at hb6 f6 ⊢
  have ff : ∀ a, a ≠ 60 → H6[a]? = H2[a]? := fun a a1 => (f6 a a1).trans ((f5 a a1).trans ((f4 a a1).trans (f3 a a1)))
  have hsl : sl (cpy f i (numF (numF (numF (cpy g1 0 D u 2) (u + 2) 1 (nI k) 1) (u + 3) 1 (nI dir) 1) (u + 4) 2 (nI s) 2) (u + 6) n) u (2 + (4 + n)) = [1, v] ++ ([k, dir] ++ (beB 2 s ++ sl f i n)) := by
    rw [show 2 + (4 + n) = 2 + (2 + (2 + n)) by omega]
    refine sl_join ?_ (sl_join ?_ (sl_join ?_ ?_))
    · rw [sl_cpy_out (by omega), sl_numF_out (by omega), sl_numF_out (by omega), sl_numF_out (by omega), sl_cpy, hk6]
    · rw [show (2 : Nat) = 1 + 1 from rfl]
      refine sl_join (a := [k]) (b := [dir]) ?_ ?_
      · rw [sl_cpy_out (by omega), sl_numF_out (by omega), sl_numF_out (by omega), sl_numF (by omega) (by omega), beB1 hk]
      · rw [sl_cpy_out (by omega), sl_numF_out (by omega), sl_numF (by omega) (by omega), beB1 hdir]
    · rw [sl_cpy_out (by omega), sl_numF (by omega) (by omega)]
    · rw [sl_cpy]
  have hold : ∀ q, q < u → (cpy f i (numF (numF (numF (cpy g1 0 D u 2) (u + 2) 1 (nI k) 1) (u + 3) 1 (nI dir) 1) (u + 4) 2 (nI s) 2) (u + 6) n) q = D q := fun q hq => by
    rw [cpy_out (by omega)]
    unfold numF
    rw [if_neg (by omega), if_neg (by omega), if_neg (by omega), cpy_out (by omega)]
  have hlen : (beB 2 s ++ sl f i n).length = 2 + n := by rw [List.length_append, beB_len, sl_length]
  exact RQ.done (c := 0) (s := 0) rfl rfl rfl rfl ⟨_, rfl, BatchIs.more (key := [1, v]) (v := some ([k, dir] ++ (beB 2 s ++ sl f i n))) (m := 2) (l := some (4 + n)) hL (by rw [hue]; exact hb6) rfl (by show some (4 + n) = some _; rw [List.length_append, hlen]; show some (4 + n) = some (2 + (2 + n)); rw [show 2 + (2 + n) = 4 + n by omega]) (by rw [hue]) (by rw [hue]; exact hold) (by rw [hue]; exact hsl) hw (by show u + (2 + (4 + n)) ≤ 4100; omega), ⟨2, (ff 5 (by decide)).trans k52⟩, ⟨g1, (ff 6 (by decide)).trans k62⟩, fun a a1 a2 a3 => (ff a (by omega)).trans ((f2 a (by omega)).trans (f1 a a1 a2))⟩
theorem rn_chSize {sc : Nat × (Nat → Int32)} {d v s : Nat} {H : aH} {bl pr up cw cl cp cb : Int32} {kd pa sz nl : Nat → Nat} {nm : Nat → Int8} {no : Nat} {ws : List aE} (h0 : H[0]? = some (kO 11 (fvs bl pr up cw cl cp cb))) (h5 : ∃ q : Nat, H[5]? = some (kO 5 [.ref 7, .int (nI q)])) (h6 : ∃ g, H[6]? = some (kB 41 g)) (hb : BatchIs H 59 ws) (h : TreeAt H kd pa sz nl nm no) (hk : TreeOk kd pa sz nl) (hv : v ≤ 200) (hs : s < 65536) (hw : ws.length < 40) (hu : eOff ws ws.length + 6 + nl v ≤ 4100) : RN sc (d + 4) mr_243 [.ref 1, .int (nI v), .int (nI s)] H (fun H' => BatchIs H' 59 (ws ++ [([1, v], some ([1, pa v] ++ (beB 2 s ++ sl nm (v * 30) (nl v))))]) ∧ (∃ q : Nat, H'[5]? = some (kO 5 [.ref 7, .int (nI q)])) ∧ (∃ g, H'[6]? = some (kB 41 g)) ∧ ∀ a, a ≠ 5 → a ≠ 6 → ¬ (59 ≤ a ∧ a < 64) → H'[a]? = H[a]?) := by
  refine RN.of ?_
  have hkv := hk v hv
  refine RQ.blk 4 (pc' := 4) (lv' := [(0, .ref 1), (1, .int (nI v)), (2, .int (nI s))]) (st' := [.ref 1, .int 1, .int (nI v), .ref 1]) (H' := _) (kc' := 0) (ks' := 0) rfl ?_
  refine RQ.get (ci := 11) rfl h0 rfl rfl ?_
  refine RQ.blk 1 (pc' := 8) (lv' := [(0, .ref 1), (1, .int (nI v)), (2, .int (nI s))]) (st' := [.int (nI v), .ref 66, .int 1, .int (nI v), .ref 1]) (H' := _) (kc' := 0) (ks' := 0) rfl ?_
  refine RQ.call (v := some (.int (nI (pa v)))) (st' := [.int 1, .int (nI v), .ref 1]) rfl rfl rfl rfl rfl rfl (args_v [.int (nI v)] [.int 1, .int (nI v), .ref 1] rfl rfl (Nat.le_of_ble_eq_true rfl) rfl h.1 (Nat.le_of_ble_eq_true rfl)) (rc_parentOf h hk hv) ?_
  refine RQ.blk 2 (pc' := 13) (lv' := [(0, .ref 1), (1, .int (nI v)), (2, .int (nI s))]) (st' := [.ref 1, .int (nI s), .int (nI (pa v)), .int 1, .int (nI v), .ref 1]) (H' := _) (kc' := 0) (ks' := 0) rfl ?_
  refine RQ.get (ci := 11) rfl h0 rfl rfl ?_
  refine RQ.get (ci := 9) rfl h.1 rfl rfl ?_
  refine RQ.blk 3 (pc' := 23) (lv' := [(0, .ref 1), (1, .int (nI v)), (2, .int (nI s))]) (st' := [.int (nI v * 30), .ref 71, .int (nI s), .int (nI (pa v)), .int 1, .int (nI v), .ref 1]) (H' := _) (kc' := 0) (ks' := 0) rfl ?_
  rw [show (nI v * 30 : Int32) = nI (v * 30) from pk_mul v 30]
  refine RQ.blk 1 (pc' := 24) (lv' := [(0, .ref 1), (1, .int (nI v)), (2, .int (nI s))]) (st' := [.ref 1, .int (nI (v * 30)), .ref 71, .int (nI s), .int (nI (pa v)), .int 1, .int (nI v), .ref 1]) (H' := _) (kc' := 0) (ks' := 0) rfl ?_
  refine RQ.get (ci := 11) rfl h0 rfl rfl ?_
  refine RQ.blk 1 (pc' := 28) (lv' := [(0, .ref 1), (1, .int (nI v)), (2, .int (nI s))]) (st' := [.int (nI v), .ref 66, .int (nI (v * 30)), .ref 71, .int (nI s), .int (nI (pa v)), .int 1, .int (nI v), .ref 1]) (H' := _) (kc' := 0) (ks' := 0) rfl ?_
  refine RQ.call (v := some (.int (nI (nl v)))) (st' := [.int (nI (v * 30)), .ref 71, .int (nI s), .int (nI (pa v)), .int 1, .int (nI v), .ref 1]) rfl rfl rfl rfl rfl rfl (args_v [.int (nI v)] [.int (nI (v * 30)), .ref 71, .int (nI s), .int (nI (pa v)), .int 1, .int (nI v), .ref 1] rfl rfl (Nat.le_of_ble_eq_true rfl) rfl h.1 (Nat.le_of_ble_eq_true rfl)) (rc_nameLengthOf h hk hv) ?_
  refine RQ.callN (st' := []) rfl rfl rfl rfl rfl rfl (args_v [.int (nI (nl v)), .int (nI (v * 30)), .ref 71, .int (nI s), .int (nI (pa v)), .int 1, .int (nI v)] [] rfl rfl (Nat.le_of_ble_eq_true rfl) rfl h0 (Nat.le_of_ble_eq_true rfl)) (rn_chNode (k := 1) (a := 70) h0 h5 h6 hb h.2.2.2.2.2 (by decide) (by decide) (by decide) (by decide) (by omega) (by omega) (by decide) (by omega) hs hkv.2.2.2 hw hu) (fun H1 hx1 => ?_)
  exact RQ.done (c := 0) (s := 0) rfl rfl rfl rfl ⟨_, rfl, hx1⟩
/-- the pieces of a file that go -/
def goneW (vs : List aV) (f : Nat) : Nat → List aE
  | 0 => []
  | i + 1 => goneW vs f i ++ (if pcIn vs f i = true then [([2, f, i], none)] else [])
theorem gone_len {vs : List aV} {f : Nat} : ∀ (i : Nat), (goneW vs f i).length ≤ i ∧ eOff (goneW vs f i) (goneW vs f i).length ≤ 3 * i
  | 0 => ⟨Nat.le_refl _, Nat.le_refl _⟩
  | i + 1 => by
    obtain ⟨h1, h2⟩ := gone_len (vs := vs) (f := f) i
    rw [goneW]
    split
    · rw [List.length_append, List.length_singleton, eOff_end]
      refine ⟨by omega, ?_⟩
      have : eLen (([2, f, i], none) : aE) = 3 := rfl
      omega
    · rw [List.append_nil]
      exact ⟨by omega, by omega⟩
theorem eOff_cat : ∀ (a b : List aE), eOff (a ++ b) (a ++ b).length = eOff a a.length + eOff b b.length
  | a, [] => by rw [List.append_nil]; show _ = _ + 0; omega
  | a, e :: b => by
    have h1 := eOff_cat (a ++ [e]) b
    have e1 : a ++ e :: b = (a ++ [e]) ++ b := by rw [List.append_assoc]; rfl
    have h2 : eOff (a ++ [e]) (a ++ [e]).length = eOff a a.length + eLen e := by rw [List.length_append]; exact eOff_end a e
    rw [e1, h1, h2]
    show _ = eOff a a.length + (eLen e + eOff b b.length)
    omega
theorem pcIn_T {vs : List aV} {f i : Nat} {v : aV} (h : seenV vs [2, f, i] (2 ^ 30) = some v) (hn : ¬ v.2.2.2.1 = none) : pcIn vs f i = true := by
  unfold pcIn
  rw [h]
  simpa using hn
theorem pcIn_F {vs : List aV} {f i : Nat} (h : ∀ v, seenV vs [2, f, i] (2 ^ 30) = some v → v.2.2.2.1 = none) : ¬ pcIn vs f i = true := by
  unfold pcIn
  cases e : seenV vs [2, f, i] (2 ^ 30) with
  | none => exact Bool.false_ne_true
  | some v =>
    show ¬ decide (¬ v.2.2.2.1 = none) = true
    rw [decide_eq_true_iff]
    exact fun e2 => e2 (h v e)
theorem rn_chGone {sc : Nat × (Nat → Int32)} {d f : Nat} {H : aH} {bl pr up cw cl cp cb : Int32} {N : Nat} {ws : List aE} {vs : List aV} (h0 : H[0]? = some (kO 11 (fvs bl pr up cw cl cp cb))) (h5 : ∃ q : Nat, H[5]? = some (kO 5 [.ref 7, .int (nI q)])) (h6 : ∃ g, H[6]? = some (kB 41 g)) (hb : BatchIs H 59 ws) (hV : VersIs H N vs) (hf : f < 256) (hw : ws.length + 33 ≤ 40) (hu : eOff ws ws.length + 98 ≤ 4100) : RN sc (d + 4) mr_228 [.ref 1, .int (nI f)] H (fun H' => BatchIs H' 59 (ws ++ [([1, f], none)] ++ goneW vs f 32) ∧ (∃ q : Nat, H'[5]? = some (kO 5 [.ref 7, .int (nI q)])) ∧ (∃ g, H'[6]? = some (kB 41 g)) ∧ ∀ a, a ≠ 5 → a ≠ 6 → ¬ (59 ≤ a ∧ a < 64) → H'[a]? = H[a]?) := by
  obtain ⟨q0, h5⟩ := h5
  obtain ⟨g0, h6⟩ := h6
  obtain ⟨kf, kl, mo, pl, le, al, od, sp, sz, ss, ac, hA, hW, hvs⟩ := hV
  have hN2 := hW.1.1
  refine RN.of ?_
  refine RQ.blk 2 (pc' := 2) (lv' := [(0, .ref 1), (1, .int (nI f))]) (st' := [.int (nI f), .ref 1]) (H' := _) (kc' := 0) (ks' := 0) rfl ?_
  refine RQ.callN (st' := []) rfl rfl rfl rfl rfl rfl (args_v [.int (nI f)] [] rfl rfl (Nat.le_of_ble_eq_true rfl) rfl h0 (Nat.le_of_ble_eq_true rfl)) (rn_probeNode h0 h5 h6 hf) (fun H1 hx1 => ?_)
  obtain ⟨⟨g1, k6, hk6⟩, k5, f1⟩ := hx1
  obtain ⟨D, S, K, E, hb0, hL, -, -⟩ := hb
  have hb1 := hb0.far (H' := H1) (fun a a1 a2 => f1 a (by omega) (by omega))
  have hbk := hL.ok (by omega) (by omega)
  have k0 := (f1 0 (by decide) (by decide)).trans h0
  refine RQ.blk 1 (pc' := 6) (lv' := [(0, .ref 1), (1, .int (nI f))]) (st' := [.ref 1]) (H' := _) (kc' := 0) (ks' := 0) rfl ?_
  refine RQ.get (ci := 11) rfl k0 rfl rfl ?_
  refine RQ.blk 1 (pc' := 10) (lv' := [(0, .ref 1), (1, .int (nI f))]) (st' := [.ref 1, .ref 60]) (H' := _) (kc' := 0) (ks' := 0) rfl ?_
  refine RQ.get (ci := 11) rfl k0 rfl rfl ?_
  refine RQ.get (ci := 5) rfl k5 rfl rfl ?_
  refine RQ.blk 1 (pc' := 17) (lv' := [(0, .ref 1), (1, .int (nI f))]) (st' := [.ref 1, .ref 7, .ref 60]) (H' := _) (kc' := 0) (ks' := 0) rfl ?_
  refine RQ.get (ci := 11) rfl k0 rfl rfl ?_
  refine RQ.get (ci := 5) rfl k5 rfl rfl ?_
  refine RQ.blk 1 (pc' := 24) (lv' := [(0, .ref 1), (1, .int (nI f))]) (st' := [.int (-1), .int (nI 2), .ref 7, .ref 60]) (H' := _) (kc' := 0) (ks' := 0) rfl ?_
  refine RQ.callI (st' := []) rfl rfl rfl rfl rfl rfl (args_v [.int (-1), .int (nI 2), .ref 7] [] rfl rfl (Nat.le_of_ble_eq_true rfl) rfl hb1.1 (Nat.le_of_ble_eq_true rfl)) (ri_badd5 (l := none) (m := 2) hb1 hbk k6 (by decide) (by decide) (by decide) (by omega) (by show _ + 2 + 0 ≤ 4100; omega)) (fun y H2 hx2 => ?_)
  obtain ⟨ey, hb2, f2⟩ := hx2
  have hB2 : BatchIs H2 59 (ws ++ [([1, f], none)]) := BatchIs.more (key := [1, f]) (v := none) (m := 2) (l := none) hL hb2 rfl rfl rfl (fun q hq => cpy_out (by omega)) (by show sl _ _ 2 = _; rw [sl_cpy, hk6]; rfl) (by omega) (by show _ + (2 + 0) ≤ 4100; omega)
  refine RQ.blk 3 (pc' := 30) (lv' := [(2, .int 0), (0, .ref 1), (1, .int (nI f))]) (st' := []) (H' := _) (kc' := 0) (ks' := 0) rfl ?_
  refine RQ.pick (a := [(2, .int 0), (0, .ref 1), (1, .int (nI f))]) [0, 1, 2] [2, 0, 1] rfl rfl (by decide) ?_
  refine RQ.while (S := Nat) (pc := 30) (fun i H' => i ≤ 32 ∧ BatchIs H' 59 (ws ++ [([1, f], none)] ++ goneW vs f i) ∧ (∃ q : Nat, H'[5]? = some (kO 5 [.ref 7, .int (nI q)])) ∧ (∃ g, H'[6]? = some (kB 41 g)) ∧ ∀ a, a ≠ 5 → a ≠ 6 → ¬ (59 ≤ a ∧ a < 64) → H'[a]? = H[a]?) (fun i => [(2, .int (nI i)), (0, .ref 1), (1, .int (nI f))]) (fun i => 32 - i) ?_ 0 H2 ⟨Nat.zero_le _, by rw [show goneW vs f 0 = [] from rfl, List.append_nil]; exact hB2, ⟨2, (f2 5 (by decide)).trans k5⟩, ⟨g1, (f2 6 (by decide)).trans k6⟩, fun a a1 a2 a3 => (f2 a (by omega)).trans (f1 a a1 a2)⟩
  rintro i H3 ⟨hi, hB3, ⟨q3, h53⟩, ⟨g3, h63⟩, f3⟩ ih
  have h03 := (f3 0 (by decide) (by decide) (by decide)).trans h0
  have hA3 := hA.far (H' := H3) (fun a a1 a2 => f3 a (by omega) (by omega) (by omega))
  by_cases hi2 : i < 32
  ·
    refine RQ.blk 2 (pc' := 33) (lv' := [(2, .int (nI i)), (0, .ref 1), (1, .int (nI f))]) (st' := [.int 32, .int (nI i)]) (H' := _) (kc' := 0) (ks' := 0) rfl ?_
    refine RQ.brF rfl rfl rfl (cF_ge i 32) ?_
    refine RQ.blk 3 (pc' := 39) (lv' := [(2, .int (nI i)), (0, .ref 1), (1, .int (nI f))]) (st' := [.int (nI i), .int (nI f), .ref 1]) (H' := _) (kc' := 0) (ks' := 0) rfl ?_
    refine RQ.callI (st' := []) rfl rfl rfl rfl rfl rfl (args_v [.int (nI i), .int (nI f)] [] rfl rfl (Nat.le_of_ble_eq_true rfl) rfl h03 (Nat.le_of_ble_eq_true rfl)) (ri_pieceSlot (d := d) h03 h53 h63 hA3 hW hvs hf (by omega)) (fun y H4 hx4 => ?_)
    obtain ⟨⟨g4, k6, hk6⟩, k5, f4, hcase⟩ := hx4
    have k0 := (f4 0 (by decide) (by decide)).trans h03
    rcases hcase with ⟨j, hj, ey, hne, hsee⟩ | ⟨ey, hno⟩
    ·
      have hod := hW.1.2.2.2.1 j hj
      have hpc : pcIn vs f i = true := pcIn_T hsee hne
      rw [ey]
      refine RQ.brF rfl rfl rfl (cF_lt (od j) 0) ?_
      obtain ⟨hgl, hgo⟩ := gone_len (vs := vs) (f := f) i
      generalize hWS : ws ++ [([1, f], none)] ++ goneW vs f i = W at hB3
      have hWl : W.length = ws.length + 1 + (goneW vs f i).length := by rw [← hWS, List.length_append, List.length_append]; rfl
      have hWo : eOff W W.length = eOff ws ws.length + 2 + eOff (goneW vs f i) (goneW vs f i).length := by
        rw [← hWS, eOff_cat, eOff_cat]
        rfl
      obtain ⟨D, S, K, E, hb0, hL, -, -⟩ := hB3
      have hb1 := hb0.far (H' := H4) (fun a a1 a2 => f4 a (by omega) (by omega))
      have hbk := hL.ok (by omega) (by omega)
      refine RQ.blk 1 (pc' := 46) (lv' := [(2, .int (nI i)), (0, .ref 1), (1, .int (nI f))]) (st' := [.ref 1]) (H' := _) (kc' := 0) (ks' := 0) rfl ?_
      refine RQ.get (ci := 11) rfl k0 rfl rfl ?_
      refine RQ.blk 1 (pc' := 50) (lv' := [(2, .int (nI i)), (0, .ref 1), (1, .int (nI f))]) (st' := [.ref 1, .ref 60]) (H' := _) (kc' := 0) (ks' := 0) rfl ?_
      refine RQ.get (ci := 11) rfl k0 rfl rfl ?_
      refine RQ.get (ci := 5) rfl k5 rfl rfl ?_
      refine RQ.blk 1 (pc' := 57) (lv' := [(2, .int (nI i)), (0, .ref 1), (1, .int (nI f))]) (st' := [.ref 1, .ref 7, .ref 60]) (H' := _) (kc' := 0) (ks' := 0) rfl ?_
      refine RQ.get (ci := 11) rfl k0 rfl rfl ?_
      refine RQ.get (ci := 5) rfl k5 rfl rfl ?_
      refine RQ.blk 1 (pc' := 64) (lv' := [(2, .int (nI i)), (0, .ref 1), (1, .int (nI f))]) (st' := [.int (-1), .int (nI 3), .ref 7, .ref 60]) (H' := _) (kc' := 0) (ks' := 0) rfl ?_
      refine RQ.callI (st' := []) rfl rfl rfl rfl rfl rfl (args_v [.int (-1), .int (nI 3), .ref 7] [] rfl rfl (Nat.le_of_ble_eq_true rfl) rfl hb1.1 (Nat.le_of_ble_eq_true rfl)) (ri_badd5 (l := none) (m := 3) hb1 hbk k6 (by decide) (by decide) (by decide) (by omega) (by show _ + 3 + 0 ≤ 4100; omega)) (fun y5 H5 hx5 => ?_)
      obtain ⟨ey5, hb5, f5⟩ := hx5
      have hB5 : BatchIs H5 59 (W ++ [([2, f, i], none)]) := BatchIs.more (key := [2, f, i]) (v := none) (m := 3) (l := none) hL hb5 rfl rfl rfl (fun q hq => cpy_out (by omega)) (by show sl _ _ 3 = _; rw [sl_cpy, hk6]; rfl) (by omega) (by show _ + (3 + 0) ≤ 4100; omega)
      refine RQ.blk 2 (pc' := 71) (lv' := [(2, .int (nI i + 1)), (0, .ref 1), (1, .int (nI f))]) (st' := []) (H' := _) (kc' := 0) (ks' := 0) rfl ?_
      rw [show (nI i + 1 : Int32) = nI (i + 1) from nI_add i 1]
      refine RQ.blk 1 (pc' := 30) (lv' := [(2, .int (nI (i + 1))), (0, .ref 1), (1, .int (nI f))]) (st' := []) (H' := _) (kc' := 0) (ks' := 0) rfl ?_
      refine RQ.pick (a := [(2, .int (nI (i + 1))), (0, .ref 1), (1, .int (nI f))]) [0, 1, 2] [2, 0, 1] rfl rfl (by decide) ?_
      have hgs : ws ++ [([1, f], none)] ++ goneW vs f (i + 1) = W ++ [([2, f, i], none)] := by rw [goneW, if_pos hpc, ← List.append_assoc, hWS]
      exact ih (i + 1) H5 ⟨by omega, by rw [hgs]; exact hB5, ⟨3, (f5 5 (by decide)).trans k5⟩, ⟨g4, (f5 6 (by decide)).trans k6⟩, fun a a1 a2 a3 => (f5 a (by omega)).trans ((f4 a a1 a2).trans (f3 a a1 a2 a3))⟩ (by omega)
    ·
      have hpc : ¬ pcIn vs f i = true := pcIn_F hno
      rw [ey]
      refine RQ.brT rfl rfl rfl (by decide) ?_
      refine RQ.blk 1 (pc' := 71) (lv' := [(2, .int (nI i + 1)), (0, .ref 1), (1, .int (nI f))]) (st' := []) (H' := _) (kc' := 0) (ks' := 0) rfl ?_
      rw [show (nI i + 1 : Int32) = nI (i + 1) from nI_add i 1]
      refine RQ.blk 1 (pc' := 30) (lv' := [(2, .int (nI (i + 1))), (0, .ref 1), (1, .int (nI f))]) (st' := []) (H' := _) (kc' := 0) (ks' := 0) rfl ?_
      refine RQ.pick (a := [(2, .int (nI (i + 1))), (0, .ref 1), (1, .int (nI f))]) [0, 1, 2] [2, 0, 1] rfl rfl (by decide) ?_
      have hgs : goneW vs f (i + 1) = goneW vs f i := by rw [goneW, if_neg hpc, List.append_nil]
      exact ih (i + 1) H4 ⟨by omega, by rw [hgs]; exact hB3.far (fun a a1 a2 => f4 a (by omega) (by omega)), ⟨3, k5⟩, ⟨g4, k6⟩, fun a a1 a2 a3 => (f4 a a1 a2).trans (f3 a a1 a2 a3)⟩ (by omega)
  ·
    refine RQ.blk 2 (pc' := 33) (lv' := [(2, .int (nI i)), (0, .ref 1), (1, .int (nI f))]) (st' := [.int 32, .int (nI i)]) (H' := _) (kc' := 0) (ks' := 0) rfl ?_
    refine RQ.brT rfl rfl rfl (cT_ge i 32) ?_
    have hie : i = 32 := by omega
    rw [hie] at hB3
    exact RQ.done (c := 0) (s := 0) rfl rfl rfl rfl ⟨_, rfl, hB3, ⟨q3, h53⟩, ⟨g3, h63⟩, f3⟩
