/-! ===== a record is moved; class; written by wip/gen/move.py ===== -/
/-- a version's value -/
def valB (c : Nat → Int8) (v : aV) : List Nat := sl c (v.2.2.1 + 8 + v.1.length) (v.2.2.2.1.getD 0)
/-- each value lies whole in a block of the log -/
def RecW (c : Nat → Int8) (lgs : List Nat) (v : aV) : Prop := ∀ n, v.2.2.2.1 = some n → (∃ kd, (kd = 1 ∨ kd = 4) ∧ sl c v.2.2.1 (9 + v.1.length + n) = encL (kd, v.1, n, v.2.1, valB c v)) ∧ v.2.2.1 % 2048 + 9 + v.1.length + n ≤ 2048 ∧ v.2.2.1 / 2048 ∈ lgs
theorem valB_len {c : Nat → Int8} {v : aV} {n : Nat} (h : v.2.2.2.1 = some n) : (valB c v).length = n := by
  unfold valB
  rw [sl_length, h]
  rfl
theorem RecW.at {c : Nat → Int8} {lgs : List Nat} {v : aV} {n : Nat} (h : RecW c lgs v) (hn : v.2.2.2.1 = some n) (hk : v.1.length ≤ 41) (hm : v.2.1 < 2 ^ 31) : RecAt c v.2.2.1 v.1 v.2.1 n := by
  obtain ⟨⟨kd, hkd, h1⟩, h2, h3⟩ := h n hn
  have hvl := valB_len (c := c) hn
  have hl : (encL (kd, v.1, n, v.2.1, valB c v)).length = 9 + v.1.length + n := by rw [encL_len]; show 9 + v.1.length + (valB c v).length = _; rw [hvl]
  obtain ⟨p1, p2, p3, p4, p5, p6, p7⟩ := encL_parts (r := (kd, v.1, n, v.2.1, valB c v)) (c := c) (a := v.2.2.1) (by rw [hl]; exact h1)
  refine ⟨by rw [p1]; exact hkd, p2, ?_, ?_, p5, ?_⟩
  · rw [p3]
    exact beN_beB0 (by show n < 256 ^ 2; omega)
  · rw [p4]
    exact beN_beB0 (by show v.2.1 < 256 ^ 4; omega)
  · rw [hl] at p7
    rw [← p7]
    congr 2
    omega
theorem mv_page {c pg : Nat → Int8} {s n kd l m : Nat} {k v : List Nat} (hn : n = 9 + k.length + v.length) (h : sl c s n = encL (kd, k, l, m, v)) : sl (numF (numF (cpy c s pg 0 n) 0 1 (nI 4) 1) (n - 1) 1 (nI 90) 1) 0 n = encL (4, k, l, m, v) := by
  have e : ∀ x, encL (x, k, l, m, v) = [x] ++ (([k.length] ++ (beB 2 l ++ (beB 4 m ++ (k ++ v)))) ++ [90]) := fun x => by
    unfold encL
    simp only [List.append_assoc]
  have hml : ([k.length] ++ (beB 2 l ++ (beB 4 m ++ (k ++ v)))).length = n - 2 := by
    rw [List.length_append, List.length_append, List.length_append, List.length_append, beB_len, beB_len, List.length_singleton]
    omega
  rw [e, show n = 1 + ((n - 2) + 1) by omega] at h
  obtain ⟨-, h⟩ := sl_split h rfl
  obtain ⟨h, -⟩ := sl_split h hml
  rw [e, show n - 1 = 0 + 1 + (n - 2) by omega]
  suffices hs : sl (numF (numF (cpy c s pg 0 n) 0 1 (nI 4) 1) (0 + 1 + (n - 2)) 1 (nI 90) 1) 0 (1 + ((n - 2) + 1)) = [4] ++ (([k.length] ++ (beB 2 l ++ (beB 4 m ++ (k ++ v)))) ++ [90]) by
    rw [show 1 + ((n - 2) + 1) = n by omega] at hs
    exact hs
  refine sl_join ?_ (sl_join ?_ ?_)
  · rw [sl_numF_out (by omega), sl_numF (by omega) (by omega), beB1 (by omega)]
  · rw [sl_numF_out (by omega), sl_numF_out (by omega), ← h]
    exact sl_congr (n - 2) (0 + 1) (s + 1) (fun q hq => by rw [show 0 + 1 + q = 0 + (1 + q) by omega, cpy_in (by omega), show s + (1 + q) = s + 1 + q by omega])
  · rw [sl_numF (by omega) (by omega), beB1 (by omega)]
set_option maxRecDepth 20000 in
theorem re_move {sc : Nat × (Nat → Int32)} {d p n mp hv : Nat} {H : aH} {N : Nat} {kf : Nat → Int8} {kl mo pl : Nat → Nat} {le : Nat → Option Nat} {al : Nat → Bool} {od sp : Nat → Nat} {sz ss ac : Nat} {B bb S P P1 : Nat} {rs : List aR} {lgs : List Nat} {wr : Bool} {tp : Nat} {cf : Nat → Int8} {gs : List aSg} {M : Nat} {ns : List Nat} {xs : List (Nat × aRd)} {lgs1 l1 : List Nat} {fr1 ff1 : Nat} {wr1 : Bool} {tp1 : Nat} {us1 : Nat → Bool} {c1 : Nat → Int8} {P2 : Nat} {gs1 : List aSg} (hA : VersAt H N kf kl mo pl le al od sp sz ss ac) (hW : VersWf N kf kl mo pl le al od sp sz ss ac) (hp : p < sz) (hn : le (od p) = some n) (hm31 : mo (od p) < 2 ^ 31) (hI : StI B bb S P P1 rs lgs wr tp cf gs M ((9 + kl (od p) + n) :: ns) xs H lgs1 l1 fr1 ff1 wr1 tp1 us1 c1 P2 gs1) (hw : wr1 = true ∧ 9 + kl (od p) + n ≤ 2048 - tp1) (hR : RecW c1 lgs1 (verO kf kl mo pl le al (od p))) (hG : H[190]? = some (kO 4 (logF mp hv))) (hB : B ≤ 128) (hbb : bb % 2 ^ 32 < 2 ^ 31) : RE sc (d + 3) mr_146 [.ref 191, .int (nI (od p)), .int (nI (9 + kl (od p) + n))] H (fun H' => ∃ b c2 gs2, 2 ≤ b ∧ b < B ∧ lgs1[lgs1.length - 1]? = some b ∧ StI B bb S P P1 rs lgs wr tp cf gs M ns (xs ++ [(b * 2048 + tp1, (4, sl kf (od p * 41) (kl (od p)), n, mo (od p), valB c1 (verO kf kl mo pl le al (od p))))]) H' lgs1 l1 fr1 ff1 wr1 (tp1 + (9 + kl (od p) + n)) us1 c2 P2 gs2 ∧ VersAt H' N kf kl mo (va_up pl (od p) (b * 2048 + tp1)) le (va_up al (od p) true) od sp sz ss (acUp (al (od p)) true ac) ∧ VersWf N kf kl mo (va_up pl (od p) (b * 2048 + tp1)) le (va_up al (od p) true) od sp sz ss (acUp (al (od p)) true ac) ∧ ∀ a, ¬ (71 ≤ a ∧ a < 84) → a ≠ 191 → H'[a]? = H[a]?) (fun H' => StB B bb S P P1 rs lgs wr tp cf gs M xs H' ∧ VersAt H' N kf kl mo pl le al od sp sz ss ac ∧ ∀ a, ¬ (71 ≤ a ∧ a < 84) → a ≠ 191 → H'[a]? = H[a]?) := by
  have hod := hW.1.2.2.2.1 p hp
  have hso := hW.1.2.2.2.2.2 _ hod
  have hN := hW.1.1
  have hI0 := hI
  obtain ⟨⟨ms, mt, sq, tu, lg, hY, hlg, hlc⟩, htp1, pg, hpg⟩ := hI.lay
  obtain ⟨⟨⟨fr0, ff0, gs0, ⟨tf, pq, -, -, -, -, -, hC, -⟩, -⟩, hO, -⟩, -⟩ := id hI
  obtain ⟨⟨kd, hkd, hrec⟩, hfit, hin⟩ := id (hR n hn)
  have hkl : (sl kf (od p * 41) (kl (od p))).length = kl (od p) := sl_length _ _ _
  have hrec : sl c1 (pl (od p)) (9 + (sl kf (od p * 41) (kl (od p))).length + n) = encL (kd, sl kf (od p * 41) (kl (od p)), n, mo (od p), valB c1 (verO kf kl mo pl le al (od p))) := hrec
  rw [hkl] at hrec
  have hfit : pl (od p) % 2048 + 9 + (sl kf (od p * 41) (kl (od p))).length + n ≤ 2048 := hfit
  rw [hkl] at hfit
  have hin : pl (od p) / 2048 ∈ lgs1 := hin
  have hblk := hO.1 _ hin
  have hRA := hR.at hn (by show (sl kf (od p * 41) (kl (od p))).length ≤ 41; rw [hkl]; exact hso.1) hm31
  have hRA : RecAt c1 (pl (od p)) (sl kf (od p * 41) (kl (od p))) (mo (od p)) n := hRA
  obtain ⟨j, hj⟩ := List.getElem?_of_mem hin
  have hjl := get_lt hj
  have hlg30 : ∀ j, j < lgs1.length → lg j < 2 ^ 30 := fun j hj => by
    obtain ⟨y, hy⟩ := lt_get hj
    rw [hlg j y hy]
    have := (hO.1 y (List.mem_of_getElem? hy)).2
    omega
  have hvl : (valB c1 (verO kf kl mo pl le al (od p))).length = n := valB_len hn
  refine RE.of ?_
  refine RQ.blk 2 (pc' := 2) (lv' := [(0, .ref 191), (1, .int (nI (od p))), (2, .int (nI (9 + kl (od p) + n)))]) (st' := [.int (nI (od p)), .ref 191]) (H' := _) (kc' := 0) (ks' := 0) rfl ?_
  refine RQ.call (v := none) (st' := []) rfl rfl rfl rfl rfl rfl (args_v [.int (nI (od p))] [] rfl rfl (Nat.le_of_ble_eq_true rfl) rfl hG (Nat.le_of_ble_eq_true rfl)) (rc_watch hA hW.1 hC hY hB hlc hlg30 hG hod hn hRA ⟨j, hjl, hlg j _ hj⟩ (by omega)) ?_
  refine RQ.blk 1 (pc' := 6) (lv' := [(0, .ref 191), (1, .int (nI (od p))), (2, .int (nI (9 + kl (od p) + n)))]) (st' := [.ref 191]) (H' := _) (kc' := 0) (ks' := 0) rfl ?_
  refine RQ.get (ci := 4) rfl hG rfl rfl ?_
  refine RQ.blk 1 (pc' := 10) (lv' := [(0, .ref 191), (1, .int (nI (od p))), (2, .int (nI (9 + kl (od p) + n)))]) (st' := [.ref 191, .ref 72]) (H' := _) (kc' := 0) (ks' := 0) rfl ?_
  refine RQ.get (ci := 4) rfl hG rfl rfl ?_
  refine RQ.get (ci := 10) rfl hA.1 rfl rfl ?_
  refine RQ.blk 1 (pc' := 17) (lv' := [(0, .ref 191), (1, .int (nI (od p))), (2, .int (nI (9 + kl (od p) + n)))]) (st' := [.int (nI (od p)), .ref 79, .ref 72]) (H' := _) (kc' := 0) (ks' := 0) rfl ?_
  refine RQ.ialdN (j := od p) rfl hA.2.2.2.2.1 (by omega) (by omega) ?_
  refine RQ.blk 1 (pc' := 19) (lv' := [(0, .ref 191), (1, .int (nI (od p))), (2, .int (nI (9 + kl (od p) + n)))]) (st' := [.ref 191, .int (nI (pl (od p))), .ref 72]) (H' := _) (kc' := 0) (ks' := 0) rfl ?_
  refine RQ.get (ci := 4) rfl hG rfl rfl ?_
  refine RQ.blk 2 (pc' := 24) (lv' := [(0, .ref 191), (1, .int (nI (od p))), (2, .int (nI (9 + kl (od p) + n)))]) (st' := [.int (nI (9 + kl (od p) + n)), .int 0, .ref 192, .int (nI (pl (od p))), .ref 72]) (H' := _) (kc' := 0) (ks' := 0) rfl ?_
  refine RQ.call (v := none) (st' := []) rfl rfl rfl rfl rfl rfl (args_v [.int (nI (9 + kl (od p) + n)), .int 0, .ref 192, .int (nI (pl (od p)))] [] rfl rfl (Nat.le_of_ble_eq_true rfl) rfl hC.1 (Nat.le_of_ble_eq_true rfl)) (rc_copyOut (a := 71) (b := 72) (c := 191) (i := pl (od p)) (j := 0) (k := 9 + kl (od p) + n) hC.1 rfl hC.2.1 (by omega) hpg (by decide) (by omega) (by omega)) ?_
  refine RQ.blk 1 (pc' := 28) (lv' := [(0, .ref 191), (1, .int (nI (od p))), (2, .int (nI (9 + kl (od p) + n)))]) (st' := [.ref 191]) (H' := _) (kc' := 0) (ks' := 0) rfl ?_
  refine RQ.get (ci := 4) rfl ((set_far (by decide)).trans hG) rfl rfl ?_
  refine RQ.blk 3 (pc' := 34) (lv' := [(0, .ref 191), (1, .int (nI (od p))), (2, .int (nI (9 + kl (od p) + n)))]) (st' := [.int 4, .int 1, .int 0, .ref 192]) (H' := _) (kc' := 0) (ks' := 0) rfl ?_
  refine RQ.call (v := none) (st' := []) rfl rfl rfl rfl rfl rfl rfl (rc_number (a := 191) (p := 0) (n := 1) (v := nI 4) (get_set hpg) (by decide) (by decide) (by decide)) ?_
  rw [set_set]
  have hI3 := hI.page (numF (cpy c1 (pl (od p)) pg 0 (9 + kl (od p) + n)) 0 1 (nI 4) 1)
  have hA3 := hA.far (H' := (H.set 191 (kB 2048 (numF (cpy c1 (pl (od p)) pg 0 (9 + kl (od p) + n)) 0 1 (nI 4) 1)))) (fun a a1 a2 => set_far (by omega))
  have f3 : ∀ a, a ≠ 191 → (H.set 191 (kB 2048 (numF (cpy c1 (pl (od p)) pg 0 (9 + kl (od p) + n)) 0 1 (nI 4) 1)))[a]? = H[a]? := fun a a1 => set_far a1
  have hp3 : (H.set 191 (kB 2048 (numF (cpy c1 (pl (od p)) pg 0 (9 + kl (od p) + n)) 0 1 (nI 4) 1)))[191]? = some (kB 2048 (numF (cpy c1 (pl (od p)) pg 0 (9 + kl (od p) + n)) 0 1 (nI 4) 1)) := get_set hpg
  show RQ _ _ _ _ _ _ (H.set 191 (kB 2048 (numF (cpy c1 (pl (od p)) pg 0 (9 + kl (od p) + n)) 0 1 (nI 4) 1))) _ _ _
  generalize (H.set 191 (kB 2048 (numF (cpy c1 (pl (od p)) pg 0 (9 + kl (od p) + n)) 0 1 (nI 4) 1))) = H3 at hI3 hA3 f3 hp3 ⊢
  obtain ⟨⟨ms3, mt3, sq3, tu3, lg3, hY3, hlg3, hlc3⟩, -, -⟩ := hI3.lay
  have hG3 := (f3 190 (by decide)).trans hG
  obtain ⟨b, hb1, hb2, hb3, hApp⟩ := re_appS (sc := sc) (d := d) (mp := mp) (hv := hv) (r := (4, sl kf (od p * 41) (kl (od p)), n, mo (od p), valB c1 (verO kf kl mo pl le al (od p)))) hI3 hw hG3 hB hbb hp3 ⟨by show 1 ≤ 4; omega, by show 4 ≤ 4; omega, by rw [hkl]; exact hso.1, by show n < 65536; omega, hm31, hvl, fun e => absurd e (by show ¬ 4 = 3; omega)⟩ (by rw [encL_len]; show 9 + kl (od p) + n = 9 + (sl kf (od p * 41) (kl (od p))).length + (valB c1 (verO kf kl mo pl le al (od p))).length; rw [hkl, hvl]) (mv_page (by rw [hkl, hvl]) hrec)
  have hlb : lg3 (lgs1.length - 1) = b := hlg3 _ _ hb1
  have hlen := get_lt hb1
  refine RQ.blk 1 (pc' := 38) (lv' := [(0, .ref 191), (1, .int (nI (od p))), (2, .int (nI (9 + kl (od p) + n)))]) (st' := [.ref 191]) (H' := _) (kc' := 0) (ks' := 0) rfl ?_
  refine RQ.get (ci := 4) rfl hG3 rfl rfl ?_
  refine RQ.call (v := some (.int (nI (lg3 (lgs1.length - 1) * 2048 + tp1)))) (st' := []) rfl rfl rfl rfl rfl rfl (args_v [] [] rfl rfl (Nat.le_of_ble_eq_true rfl) rfl hY3.1 (Nat.le_of_ble_eq_true rfl)) (rc_point hY3 hB (by omega) hlc3) ?_
  rw [hlb]
  refine RQ.blk 3 (pc' := 47) (lv' := [(3, .int (nI (b * 2048 + tp1))), (0, .ref 191), (1, .int (nI (od p))), (2, .int (nI (9 + kl (od p) + n)))]) (st' := [.int (nI (9 + kl (od p) + n)), .ref 191]) (H' := _) (kc' := 0) (ks' := 0) rfl ?_
  refine RQ.callT (st' := []) rfl rfl rfl rfl rfl rfl (args_v [.int (nI (9 + kl (od p) + n))] [] rfl rfl (Nat.le_of_ble_eq_true rfl) rfl hG3 (Nat.le_of_ble_eq_true rfl)) hApp rfl (fun H5 hx5 => ?_) (fun H9 hbad => Or.inr (by obtain ⟨z1, z2⟩ := hbad; exact ⟨_, rfl, z1, hA3.far (fun a a1 a2 => z2 a (by omega) (by omega)), fun a a1 a2 => (z2 a (by omega) a2).trans (f3 a a2)⟩))
  obtain ⟨c5, gs5, hS5, z5⟩ := hx5
  have hA5 := hA3.far (H' := H5) (fun a a1 a2 => z5 a (by omega) (by omega) (by omega))
  have hG5 := (z5 190 (by decide) (by decide) (by decide)).trans hG3
  refine RQ.blk 1 (pc' := 51) (lv' := [(3, .int (nI (b * 2048 + tp1))), (0, .ref 191), (1, .int (nI (od p))), (2, .int (nI (9 + kl (od p) + n)))]) (st' := [.ref 191]) (H' := _) (kc' := 0) (ks' := 0) rfl ?_
  refine RQ.get (ci := 4) rfl hG5 rfl rfl ?_
  refine RQ.blk 2 (pc' := 56) (lv' := [(3, .int (nI (b * 2048 + tp1))), (0, .ref 191), (1, .int (nI (od p))), (2, .int (nI (9 + kl (od p) + n)))]) (st' := [.int (nI (b * 2048 + tp1)), .int (nI (od p)), .ref 75]) (H' := _) (kc' := 0) (ks' := 0) rfl ?_
  refine RQ.callN (st' := []) rfl rfl rfl rfl rfl rfl (args_v [.int (nI (b * 2048 + tp1)), .int (nI (od p))] [] rfl rfl (Nat.le_of_ble_eq_true rfl) rfl hA5.1 (Nat.le_of_ble_eq_true rfl)) (rn_relocate (p := p) (pp := b * 2048 + tp1) hA5 hW hp (by omega)) (fun H6 hx6 => ?_)
  obtain ⟨hA6, hW6, f6⟩ := hx6
  exact RQ.done (c := 0) (s := 0) rfl rfl rfl rfl (Or.inl ⟨_, rfl, b, c5, gs5, hb2, hb3, hb1, hS5.far (fun a ha => f6 a (by omega)), hA6, hW6, fun a a1 a2 => (f6 a (by omega)).trans ((z5 a (by omega) a2 (by omega)).trans (f3 a a2))⟩)
