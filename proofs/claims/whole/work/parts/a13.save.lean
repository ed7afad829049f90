/-! ===== the state is saved; class; written by wip/gen/save.py ===== -/
/-- l is written at a, and nothing else -/
def WrP (c c' : Nat → Int8) (a : Nat) (l : List Nat) : Prop := sl c' a l.length = l ∧ ∀ q, q < a ∨ a + l.length ≤ q → c' q = c q
/-- the first n bytes of the block b are erased -/
def EraP (c c' : Nat → Int8) (b n : Nat) : Prop := c' = fun q => if b * 2048 ≤ q ∧ q < b * 2048 + n then -1 else c q
theorem sl_take {f : Nat → Int8} : ∀ (n k i : Nat), k ≤ n → (sl f i n).take k = sl f i k
  | _, 0, _, _ => by rw [List.take_zero]; rfl
  | 0, k + 1, _, h => absurd h (by omega)
  | n + 1, k + 1, i, h => by rw [sl, sl, List.take_succ_cons, sl_take n k (i + 1) (by omega)]
theorem wr_cpy {f c : Nat → Int8} {i a n k : Nat} {l : List Nat} (h : sl f i n = l) (hk : k ≤ n) : WrP c (cpy f i c a k) a (l.take k) := by
  have hl : (l.take k).length = k := by rw [← h, sl_take n k i hk, sl_length]
  refine ⟨?_, fun q hq => cpy_out (by rw [hl] at hq; omega)⟩
  rw [hl, sl_cpy, ← h, sl_take n k i hk]
theorem wr_full {f c : Nat → Int8} {i a n : Nat} {l : List Nat} (h : sl f i n = l) : WrP c (cpy f i c a n) a l := by
  have := wr_cpy (c := c) (a := a) h (Nat.le_refl n)
  rwa [List.take_of_length_le (by rw [← h, sl_length]; exact Nat.le_refl n)] at this
/-- the head of a block of states and the first state in it -/
def hdS (sq : Nat) (l : List Nat) : List Nat := beB 1 77 ++ (beB 4 sq ++ l)
theorem hdS_len {sq : Nat} {l : List Nat} : (hdS sq l).length = 5 + l.length := by
  unfold hdS
  rw [List.length_append, List.length_append, beB_len, beB_len]
  omega
theorem LayIs.page {H : aH} {B : Nat} {lgs : List Nat} {fr ff : Nat} {wr : Bool} {tp : Nat} {rs : List aR} {ms mt sq tu : Nat} {us : Nat → Bool} (h : LayIs H B lgs fr ff wr tp rs ms mt sq tu us) (c : aC) : LayIs (H.set 85 c) B lgs fr ff wr tp rs ms mt sq tu us := h.far (fun a a1 a2 a3 => set_far a3)
theorem LayIs.fields {H : aH} {B : Nat} {lgs : List Nat} {fr ff : Nat} {wr : Bool} {tp : Nat} {rs : List aR} {ms mt sq tu : Nat} {us : Nat → Bool} (h : LayIs H B lgs fr ff wr tp rs ms mt sq tu us) (ms' mt' sq' : Nat) : LayIs (H.set 83 (kO 3 (layF B lgs.length fr ff wr tp rs.length ms' mt' sq' tu 0 0))) B lgs fr ff wr tp rs ms' mt' sq' tu us := by
  obtain ⟨lg, pi, hY, hlg, hlc, hR⟩ := h
  exact ⟨lg, pi, ⟨get_set hY.1, (set_far (by decide)).trans hY.2.1, (set_far (by decide)).trans hY.2.2⟩, hlg, hlc, hR.far2 (set_far (by decide)) (fun a a1 a2 => set_far (by omega))⟩
theorem re_saveA {sc : Nat × (Nat → Int32)} {d P : Nat} {H : aH} {B : Nat} {lgs : List Nat} {fr ff : Nat} {wr : Bool} {tp : Nat} {rs : List aR} {ms mt sq tu : Nat} {us : Nat → Bool} {cf : Nat → Int8} {tf : Nat → Nat} {pq : Option Nat} {bb : Nat} {pg : Nat → Int8} (h : LayIs H B lgs fr ff wr tp rs ms mt sq tu us) (hB : B ≤ 128) (hpg : H[85]? = some (kB 2048 pg)) (hC : ChipAt H B cf tf pq bb 0) (hbb : bb % 2 ^ 32 < 2 ^ 31) (hpq : PQ bb pq) (hB2 : 2 ≤ B) (hP : P < 2 ^ 31) (hfr : fr < 256) (hff : ff < 65536) (hlB : ∀ x ∈ lgs, x < B) (hrs : ∀ x ∈ rs, x.1 < 256 ∧ x.2.1 < 2 ^ 24 ∧ x.2.2.1 < 65536 ∧ ∀ y ∈ x.2.2.2, y < B) (hlen : (encS P fr ff lgs rs).length ≤ 2043) (hms : ms < 2) (hfit : (encS P fr ff lgs rs).length ≤ 2048 - mt) (hmt : mt ≤ 2048) (htf : tf ms ≤ mt) : RE sc (d + 3) mr_115 [.ref 84, .int (nI P)] H (fun H' => (∃ c' tf' pq', ChipAt H' B c' tf' pq' bb 0 ∧ WrP cf c' (ms * 2048 + mt) (encS P fr ff lgs rs) ∧ (∀ j, ¬ j = ms → tf' j = tf j) ∧ tf' ms ≤ mt + (encS P fr ff lgs rs).length ∧ PQ bb pq') ∧ (∃ pg', H'[85]? = some (kB 2048 pg')) ∧ LayIs H' B lgs fr ff wr tp rs ms (mt + (encS P fr ff lgs rs).length) sq tu (fun b => if b < B then usedB lgs rs b else us b) ∧ ∀ a, ¬ (71 ≤ a ∧ a < 74) → a ≠ 83 → a ≠ 85 → a ≠ 86 → H'[a]? = H[a]?) (fun H' => (∃ c' tf', ChipDn H' B c' tf' bb ∧ ∃ k, k < (encS P fr ff lgs rs).length ∧ WrP cf c' (ms * 2048 + mt) ((encS P fr ff lgs rs).take k)) ∧ (∃ pg', H'[85]? = some (kB 2048 pg')) ∧ LayIs H' B lgs fr ff wr tp rs ms mt sq tu us ∧ ∀ a, ¬ (71 ≤ a ∧ a < 74) → a ≠ 83 → a ≠ 85 → H'[a]? = H[a]?) := by
  obtain ⟨lg, pi, hY, hlg, hlc, hRs⟩ := id h
  have hY1 := hY.1
  have hpq3 : ∀ n, grN pq bb n = n → 1 ≤ n → PQ bb (plUp pq) := fun n g h1 => plUp_lt g h1 hpq
  have hel := encS_len (P := P) (fr := fr) (ff := ff) (lgs := lgs) (rs := rs)
  refine RE.of ?_
  refine RQ.blk 2 (pc' := 2) (lv' := [(0, .ref 84), (1, .int (nI P))]) (st' := [.int (nI P), .ref 84]) (H' := _) (kc' := 0) (ks' := 0) rfl ?_
  refine RQ.callI (st' := []) rfl rfl rfl rfl rfl rfl (args_v [.int (nI P)] [] rfl rfl (Nat.le_of_ble_eq_true rfl) rfl hY1 (Nat.le_of_ble_eq_true rfl)) (ri_describe h hB hpg hP hfr hff hlB hrs hlen) (fun x H1 hx => ?_)
  obtain ⟨ex, pg1, eH, hs1⟩ := hx
  rw [ex, eH]
  generalize hn : (encS P fr ff lgs rs).length = n at hs1 hlen hfit hel ⊢
  have hY2 : (H.set 85 (kB 2048 pg1))[83]? = some (kO 3 (layF B lgs.length fr ff wr tp rs.length ms mt sq tu 0 0)) := (set_far (by decide)).trans hY1
  have hC2 : ChipAt (H.set 85 (kB 2048 pg1)) B cf tf pq bb 0 := hC.far (fun a a1 a2 => set_far (by omega))
  have hL2 := h.page (kB 2048 pg1)
  have hp2 : (H.set 85 (kB 2048 pg1))[85]? = some (kB 2048 pg1) := get_set hpg
  refine RQ.blk 4 (pc' := 11) (lv' := [(2, .int (nI n)), (0, .ref 84), (1, .int (nI P))]) (st' := [.ref 84, .int 2048, .int (nI n)]) (H' := _) (kc' := 0) (ks' := 0) rfl ?_
  refine RQ.get (ci := 3) rfl hY2 rfl rfl ?_
  refine RQ.blk 1 (pc' := 15) (lv' := [(2, .int (nI n)), (0, .ref 84), (1, .int (nI P))]) (st' := [.int (2048 - nI mt), .int (nI n)]) (H' := _) (kc' := 0) (ks' := 0) rfl ?_
  rw [show (2048 - nI mt : Int32) = nI (2048 - mt) from pk_sub (a := 2048) (b := mt) (by omega)]
  refine RQ.brF rfl rfl rfl (cF_gt n (2048 - mt)) ?_
  refine RQ.blk 1 (pc' := 19) (lv' := [(2, .int (nI n)), (0, .ref 84), (1, .int (nI P))]) (st' := [.ref 84]) (H' := _) (kc' := 0) (ks' := 0) rfl ?_
  refine RQ.get (ci := 3) rfl hY2 rfl rfl ?_
  refine RQ.blk 1 (pc' := 23) (lv' := [(2, .int (nI n)), (0, .ref 84), (1, .int (nI P))]) (st' := [.ref 84, .ref 72]) (H' := _) (kc' := 0) (ks' := 0) rfl ?_
  refine RQ.get (ci := 3) rfl hY2 rfl rfl ?_
  refine RQ.blk 2 (pc' := 30) (lv' := [(2, .int (nI n)), (0, .ref 84), (1, .int (nI P))]) (st' := [.int (nI ms * 2048), .ref 72]) (H' := _) (kc' := 0) (ks' := 0) rfl ?_
  rw [show (nI ms * 2048 : Int32) = nI (ms * 2048) from pk_mul ms 2048]
  refine RQ.blk 1 (pc' := 31) (lv' := [(2, .int (nI n)), (0, .ref 84), (1, .int (nI P))]) (st' := [.ref 84, .int (nI (ms * 2048)), .ref 72]) (H' := _) (kc' := 0) (ks' := 0) rfl ?_
  refine RQ.get (ci := 3) rfl hY2 rfl rfl ?_
  refine RQ.blk 1 (pc' := 35) (lv' := [(2, .int (nI n)), (0, .ref 84), (1, .int (nI P))]) (st' := [.int (nI (ms * 2048) + nI mt), .ref 72]) (H' := _) (kc' := 0) (ks' := 0) rfl ?_
  rw [show (nI (ms * 2048) + nI mt : Int32) = nI (ms * 2048 + mt) from nI_add (ms * 2048) mt]
  refine RQ.blk 1 (pc' := 36) (lv' := [(2, .int (nI n)), (0, .ref 84), (1, .int (nI P))]) (st' := [.ref 84, .int (nI (ms * 2048 + mt)), .ref 72]) (H' := _) (kc' := 0) (ks' := 0) rfl ?_
  refine RQ.get (ci := 3) rfl hY2 rfl rfl ?_
  refine RQ.blk 2 (pc' := 41) (lv' := [(2, .int (nI n)), (0, .ref 84), (1, .int (nI P))]) (st' := [.int (nI n), .int 5, .ref 86, .int (nI (ms * 2048 + mt)), .ref 72]) (H' := _) (kc' := 0) (ks' := 0) rfl ?_
  rcases rq_program (sc := sc) (d := d + 1) (a := 85) (A := ms * 2048 + mt) (i := 5) (n := n) hC2 hp2 (by decide) (by decide) hB (by omega) (by omega) (by omega) (by omega) (by rw [show (ms * 2048 + mt) / 2048 = ms by omega, show (ms * 2048 + mt) % 2048 = mt by omega]; exact htf) hbb hpq.1 with ⟨g3, H4, g4, hC4, hf4⟩ | ⟨g3, H4, g4, hC4, hf4⟩
  rotate_left
  · exact RQ.callP (st' := []) rfl rfl rfl rfl rfl rfl (args_v [.int (nI n), .int 5, .ref 86, .int (nI (ms * 2048 + mt))] [] rfl rfl (Nat.le_of_ble_eq_true rfl) rfl hC2.1 (Nat.le_of_ble_eq_true rfl)) g4 rfl (Or.inr ⟨_, rfl, ⟨_, _, pl_dn hpq g3 hC4, _, g3, wr_cpy hs1 (Nat.le_of_lt g3)⟩, ⟨_, (hf4 85 (by decide)).trans hp2⟩, hL2.far (fun a a1 a2 a3 => hf4 a (by omega)), fun a a1 a2 a3 => (hf4 a a1).trans (set_far a3)⟩)
  refine RQ.call (v := none) (st' := []) rfl rfl rfl rfl rfl rfl (args_v [.int (nI n), .int 5, .ref 86, .int (nI (ms * 2048 + mt))] [] rfl rfl (Nat.le_of_ble_eq_true rfl) rfl hC2.1 (Nat.le_of_ble_eq_true rfl)) g4 ?_
  rw [g3] at hC4
  have hY4 := (hf4 83 (by decide)).trans hY2
  refine RQ.blk 2 (pc' := 46) (lv' := [(2, .int (nI n)), (0, .ref 84), (1, .int (nI P))]) (st' := [.ref 84, .ref 84]) (H' := _) (kc' := 0) (ks' := 0) rfl ?_
  refine RQ.get (ci := 3) rfl hY4 rfl rfl ?_
  refine RQ.blk 2 (pc' := 51) (lv' := [(2, .int (nI n)), (0, .ref 84), (1, .int (nI P))]) (st' := [.int (nI mt + nI n), .ref 84]) (H' := _) (kc' := 0) (ks' := 0) rfl ?_
  rw [show (nI mt + nI n : Int32) = nI (mt + n) from nI_add mt n]
  refine RQ.put (ci := 3) rfl hY4 rfl rfl (Nat.le_of_ble_eq_true rfl) ?_
  refine RQ.blk 2 (pc' := 143) (lv' := [(2, .int (nI n)), (0, .ref 84), (1, .int (nI P))]) (st' := [.ref 84]) (H' := _) (kc' := 0) (ks' := 0) rfl ?_
  have hL5 := (hL2.far (H' := H4) (fun a a1 a2 a3 => hf4 a (by omega))).fields ms (mt + n) sq
  refine RQ.callN (st' := []) rfl rfl rfl rfl rfl rfl (args_v [] [] rfl rfl (Nat.le_of_ble_eq_true rfl) rfl (get_set hY4) (Nat.le_of_ble_eq_true rfl)) (rn_noteUse hL5 hB hlB (fun x hx => (hrs x hx).2.2.2)) (fun H6 hx6 => ?_)
  rw [hx6]
  exact RQ.done (c := 0) (s := 0) rfl rfl rfl rfl (Or.inl ⟨_, rfl, ⟨_, _, _, hC4.far (fun a a1 a2 => (set_far (by omega)).trans (set_far (by omega))), wr_full hs1, fun j hj => by rw [up_ne (by omega)], by rw [show (ms * 2048 + mt) / 2048 = ms by omega, up_at]; omega, hpq3 _ g3 (by omega)⟩, ⟨_, (set_far (by decide)).trans ((set_far (by decide)).trans ((hf4 85 (by decide)).trans hp2))⟩, hL5.used _, fun a a1 a2 a3 a4 => (set_far a4).trans ((set_far a2).trans ((hf4 a a1).trans (set_far a3)))⟩)
theorem re_saveB {sc : Nat × (Nat → Int32)} {d P : Nat} {H : aH} {B : Nat} {lgs : List Nat} {fr ff : Nat} {wr : Bool} {tp : Nat} {rs : List aR} {ms mt sq tu : Nat} {us : Nat → Bool} {cf : Nat → Int8} {tf : Nat → Nat} {pq : Option Nat} {bb : Nat} {pg : Nat → Int8} (h : LayIs H B lgs fr ff wr tp rs ms mt sq tu us) (hB : B ≤ 128) (hpg : H[85]? = some (kB 2048 pg)) (hC : ChipAt H B cf tf pq bb 0) (hbb : bb % 2 ^ 32 < 2 ^ 31) (hpq : PQ bb pq) (hB2 : 2 ≤ B) (hP : P < 2 ^ 31) (hfr : fr < 256) (hff : ff < 65536) (hlB : ∀ x ∈ lgs, x < B) (hrs : ∀ x ∈ rs, x.1 < 256 ∧ x.2.1 < 2 ^ 24 ∧ x.2.2.1 < 65536 ∧ ∀ y ∈ x.2.2.2, y < B) (hlen : (encS P fr ff lgs rs).length ≤ 2043) (hms : ms < 2) (hfit : 2048 - mt < (encS P fr ff lgs rs).length) (hmt : mt ≤ 2048) (hsq : sq + 1 < 2 ^ 31) : RE sc (d + 3) mr_115 [.ref 84, .int (nI P)] H (fun H' => (∃ c' tf' pq', ChipAt H' B c' tf' pq' bb 0 ∧ (∃ c1, EraP cf c1 (1 - ms) 2048 ∧ WrP c1 c' ((1 - ms) * 2048) (hdS (sq + 1) (encS P fr ff lgs rs))) ∧ (∀ j, ¬ j = 1 - ms → tf' j = tf j) ∧ tf' (1 - ms) ≤ 5 + (encS P fr ff lgs rs).length ∧ PQ bb pq') ∧ (∃ pg', H'[85]? = some (kB 2048 pg')) ∧ LayIs H' B lgs fr ff wr tp rs (1 - ms) (5 + (encS P fr ff lgs rs).length) (sq + 1) tu (fun b => if b < B then usedB lgs rs b else us b) ∧ ∀ a, ¬ (71 ≤ a ∧ a < 74) → a ≠ 83 → a ≠ 85 → a ≠ 86 → H'[a]? = H[a]?) (fun H' => (∃ c' tf', ChipDn H' B c' tf' bb ∧ ((∃ k, k < 2048 ∧ EraP cf c' (1 - ms) k) ∨ ∃ k c1, EraP cf c1 (1 - ms) 2048 ∧ k < (hdS (sq + 1) (encS P fr ff lgs rs)).length ∧ WrP c1 c' ((1 - ms) * 2048) ((hdS (sq + 1) (encS P fr ff lgs rs)).take k))) ∧ (∃ pg', H'[85]? = some (kB 2048 pg')) ∧ (∃ ms mt sq, LayIs H' B lgs fr ff wr tp rs ms mt sq tu us) ∧ ∀ a, ¬ (71 ≤ a ∧ a < 74) → a ≠ 83 → a ≠ 85 → H'[a]? = H[a]?) := by
  obtain ⟨lg, pi, hY, hlg, hlc, hRs⟩ := id h
  have hY1 := hY.1
  have hpq3 : grN pq bb 2048 = 2048 → PQ bb (plUp pq) := fun g => plUp_lt g (by decide) hpq
  have hel := encS_len (P := P) (fr := fr) (ff := ff) (lgs := lgs) (rs := rs)
  refine RE.of ?_
  refine RQ.blk 2 (pc' := 2) (lv' := [(0, .ref 84), (1, .int (nI P))]) (st' := [.int (nI P), .ref 84]) (H' := _) (kc' := 0) (ks' := 0) rfl ?_
  refine RQ.callI (st' := []) rfl rfl rfl rfl rfl rfl (args_v [.int (nI P)] [] rfl rfl (Nat.le_of_ble_eq_true rfl) rfl hY1 (Nat.le_of_ble_eq_true rfl)) (ri_describe h hB hpg hP hfr hff hlB hrs hlen) (fun x H1 hx => ?_)
  obtain ⟨ex, pg1, eH, hs1⟩ := hx
  rw [ex, eH]
  generalize hn : (encS P fr ff lgs rs).length = n at hs1 hlen hfit hel ⊢
  have hY2 : (H.set 85 (kB 2048 pg1))[83]? = some (kO 3 (layF B lgs.length fr ff wr tp rs.length ms mt sq tu 0 0)) := (set_far (by decide)).trans hY1
  have hC2 : ChipAt (H.set 85 (kB 2048 pg1)) B cf tf pq bb 0 := hC.far (fun a a1 a2 => set_far (by omega))
  have hL2 := h.page (kB 2048 pg1)
  have hp2 : (H.set 85 (kB 2048 pg1))[85]? = some (kB 2048 pg1) := get_set hpg
  refine RQ.blk 4 (pc' := 11) (lv' := [(2, .int (nI n)), (0, .ref 84), (1, .int (nI P))]) (st' := [.ref 84, .int 2048, .int (nI n)]) (H' := _) (kc' := 0) (ks' := 0) rfl ?_
  refine RQ.get (ci := 3) rfl hY2 rfl rfl ?_
  refine RQ.blk 1 (pc' := 15) (lv' := [(2, .int (nI n)), (0, .ref 84), (1, .int (nI P))]) (st' := [.int (2048 - nI mt), .int (nI n)]) (H' := _) (kc' := 0) (ks' := 0) rfl ?_
  rw [show (2048 - nI mt : Int32) = nI (2048 - mt) from pk_sub (a := 2048) (b := mt) (by omega)]
  refine RQ.brT rfl rfl rfl (cT_gt n (2048 - mt)) ?_
  refine RQ.blk 3 (pc' := 60) (lv' := [(2, .int (nI n)), (0, .ref 84), (1, .int (nI P))]) (st' := [.ref 84, .int 1, .ref 84]) (H' := _) (kc' := 0) (ks' := 0) rfl ?_
  refine RQ.get (ci := 3) rfl hY2 rfl rfl ?_
  refine RQ.blk 1 (pc' := 64) (lv' := [(2, .int (nI n)), (0, .ref 84), (1, .int (nI P))]) (st' := [.int (1 - nI ms), .ref 84]) (H' := _) (kc' := 0) (ks' := 0) rfl ?_
  rw [show (1 - nI ms : Int32) = nI (1 - ms) from pk_sub (a := 1) (b := ms) (by omega)]
  refine RQ.put (ci := 3) rfl hY2 rfl rfl (Nat.le_of_ble_eq_true rfl) ?_
  refine RQ.blk 2 (pc' := 69) (lv' := [(2, .int (nI n)), (0, .ref 84), (1, .int (nI P))]) (st' := [.ref 84, .ref 84]) (H' := _) (kc' := 0) (ks' := 0) rfl ?_
  refine RQ.get (ci := 3) rfl (get_set hY2) rfl rfl ?_
  refine RQ.blk 2 (pc' := 74) (lv' := [(2, .int (nI n)), (0, .ref 84), (1, .int (nI P))]) (st' := [.int (nI sq + 1), .ref 84]) (H' := _) (kc' := 0) (ks' := 0) rfl ?_
  rw [show (nI sq + 1 : Int32) = nI (sq + 1) from nI_add sq 1]
  refine RQ.put (ci := 3) rfl (get_set hY2) rfl rfl (Nat.le_of_ble_eq_true rfl) ?_
  rw [set_set]
  show RQ sc (d + 3) mr_115 77 [(2, .int (nI n)), (0, .ref 84), (1, .int (nI P))] [] ((H.set 85 (kB 2048 pg1)).set 83 (kO 3 (layF B lgs.length fr ff wr tp rs.length (1 - ms) mt (sq + 1) tu 0 0))) 0 0 _
  have hY3 : ((H.set 85 (kB 2048 pg1)).set 83 (kO 3 (layF B lgs.length fr ff wr tp rs.length (1 - ms) mt (sq + 1) tu 0 0)))[83]? = some (kO 3 (layF B lgs.length fr ff wr tp rs.length (1 - ms) mt (sq + 1) tu 0 0)) := get_set hY2
  have hp3 : ((H.set 85 (kB 2048 pg1)).set 83 (kO 3 (layF B lgs.length fr ff wr tp rs.length (1 - ms) mt (sq + 1) tu 0 0)))[85]? = some (kB 2048 pg1) := (set_far (by decide)).trans hp2
  have hL3 := hL2.fields (1 - ms) mt (sq + 1)
  have hC3 : ChipAt ((H.set 85 (kB 2048 pg1)).set 83 (kO 3 (layF B lgs.length fr ff wr tp rs.length (1 - ms) mt (sq + 1) tu 0 0))) B cf tf pq bb 0 := hC2.far (fun a a1 a2 => set_far (by omega))
  have far3 : ∀ a, a ≠ 83 → a ≠ 85 → ((H.set 85 (kB 2048 pg1)).set 83 (kO 3 (layF B lgs.length fr ff wr tp rs.length (1 - ms) mt (sq + 1) tu 0 0)))[a]? = H[a]? := fun a a1 a2 => (set_far a1).trans (set_far a2)
  generalize ((H.set 85 (kB 2048 pg1)).set 83 (kO 3 (layF B lgs.length fr ff wr tp rs.length (1 - ms) mt (sq + 1) tu 0 0))) = H3 at hY3 hp3 hL3 hC3 far3 ⊢
  refine RQ.blk 1 (pc' := 78) (lv' := [(2, .int (nI n)), (0, .ref 84), (1, .int (nI P))]) (st' := [.ref 84]) (H' := _) (kc' := 0) (ks' := 0) rfl ?_
  refine RQ.get (ci := 3) rfl hY3 rfl rfl ?_
  refine RQ.blk 3 (pc' := 85) (lv' := [(2, .int (nI n)), (0, .ref 84), (1, .int (nI P))]) (st' := [.int 77, .int 1, .int 0, .ref 86]) (H' := _) (kc' := 0) (ks' := 0) rfl ?_
  refine RQ.call (v := none) (st' := []) rfl rfl rfl rfl rfl rfl rfl (rc_number (a := 85) (m := 2048) (f := pg1) (p := 0) (n := 1) (v := nI 77) hp3 (by decide) (by decide) (by decide)) ?_
  refine RQ.blk 1 (pc' := 89) (lv' := [(2, .int (nI n)), (0, .ref 84), (1, .int (nI P))]) (st' := [.ref 84]) (H' := _) (kc' := 0) (ks' := 0) rfl ?_
  refine RQ.get (ci := 3) rfl ((set_far (by decide)).trans hY3) rfl rfl ?_
  refine RQ.blk 3 (pc' := 95) (lv' := [(2, .int (nI n)), (0, .ref 84), (1, .int (nI P))]) (st' := [.ref 84, .int 4, .int 1, .ref 86]) (H' := _) (kc' := 0) (ks' := 0) rfl ?_
  refine RQ.get (ci := 3) rfl ((set_far (by decide)).trans hY3) rfl rfl ?_
  refine RQ.call (v := none) (st' := []) rfl rfl rfl rfl rfl rfl rfl (rc_number (a := 85) (m := 2048) (f := numF pg1 0 1 (nI 77) 1) (p := 1) (n := 4) (v := nI (sq + 1)) (get_set hp3) (by decide) (by decide) (by decide)) ?_
  rw [set_set]
  have hs2 : sl (numF (numF pg1 0 1 (nI 77) 1) 1 4 (nI (sq + 1)) 4) 0 (5 + n) = hdS (sq + 1) (encS P fr ff lgs rs) := by
    unfold hdS
    rw [show 5 + n = 1 + (4 + n) by omega]
    refine sl_join ?_ (sl_join ?_ ?_)
    · rw [sl_numF_out (by omega), sl_numF (by decide) (by decide)]
    · rw [show 0 + 1 = 1 from rfl, sl_numF (by omega) (by decide)]
    · rw [sl_numF_out (by omega), sl_numF_out (by omega)]; exact hs1
  generalize (numF (numF pg1 0 1 (nI 77) 1) 1 4 (nI (sq + 1)) 4) = pg2 at hs2 ⊢
  have hY4 : (H3.set 85 (kB 2048 pg2))[83]? = some (kO 3 (layF B lgs.length fr ff wr tp rs.length (1 - ms) mt (sq + 1) tu 0 0)) := (set_far (by decide)).trans hY3
  have hp4 : (H3.set 85 (kB 2048 pg2))[85]? = some (kB 2048 pg2) := get_set hp3
  have hL4 := hL3.page (kB 2048 pg2)
  have hC4 : ChipAt (H3.set 85 (kB 2048 pg2)) B cf tf pq bb 0 := hC3.far (fun a a1 a2 => set_far (by omega))
  have far4 : ∀ a, a ≠ 83 → a ≠ 85 → (H3.set 85 (kB 2048 pg2))[a]? = H[a]? := fun a a1 a2 => (set_far a2).trans (far3 a a1 a2)
  generalize (H3.set 85 (kB 2048 pg2)) = H4 at hY4 hp4 hL4 hC4 far4 ⊢
  refine RQ.blk 1 (pc' := 102) (lv' := [(2, .int (nI n)), (0, .ref 84), (1, .int (nI P))]) (st' := [.ref 84]) (H' := _) (kc' := 0) (ks' := 0) rfl ?_
  refine RQ.get (ci := 3) rfl hY4 rfl rfl ?_
  refine RQ.blk 1 (pc' := 106) (lv' := [(2, .int (nI n)), (0, .ref 84), (1, .int (nI P))]) (st' := [.ref 84, .ref 72]) (H' := _) (kc' := 0) (ks' := 0) rfl ?_
  refine RQ.get (ci := 3) rfl hY4 rfl rfl ?_
  rcases rq_erase (sc := sc) (d := d) (b := 1 - ms) hC4 hB (by omega) hbb hpq.1 with ⟨g1, H5, g2, hC5, hf5⟩ | ⟨g1, H5, g2, hC5, hf5⟩
  rotate_left
  · exact RQ.callP (st' := []) rfl rfl rfl rfl rfl rfl (args_v [.int (nI (1 - ms))] [] rfl rfl (Nat.le_of_ble_eq_true rfl) rfl hC4.1 (Nat.le_of_ble_eq_true rfl)) g2 rfl (Or.inr ⟨_, rfl, ⟨_, _, pl_dn hpq g1 hC5, Or.inl ⟨_, g1, rfl⟩⟩, ⟨_, (hf5 85 (by decide)).trans hp4⟩, ⟨_, _, _, hL4.far (fun a a1 a2 a3 => hf5 a (by omega))⟩, fun a a1 a2 a3 => (hf5 a a1).trans (far4 a a2 a3)⟩)
  refine RQ.call (v := none) (st' := []) rfl rfl rfl rfl rfl rfl (args_v [.int (nI (1 - ms))] [] rfl rfl (Nat.le_of_ble_eq_true rfl) rfl hC4.1 (Nat.le_of_ble_eq_true rfl)) g2 ?_
  rw [g1] at hC5
  refine RQ.blk 1 (pc' := 113) (lv' := [(2, .int (nI n)), (0, .ref 84), (1, .int (nI P))]) (st' := [.ref 84]) (H' := _) (kc' := 0) (ks' := 0) rfl ?_
  refine RQ.get (ci := 3) rfl ((hf5 83 (by decide)).trans hY4) rfl rfl ?_
  refine RQ.blk 1 (pc' := 117) (lv' := [(2, .int (nI n)), (0, .ref 84), (1, .int (nI P))]) (st' := [.ref 84, .ref 72]) (H' := _) (kc' := 0) (ks' := 0) rfl ?_
  refine RQ.get (ci := 3) rfl ((hf5 83 (by decide)).trans hY4) rfl rfl ?_
  refine RQ.blk 2 (pc' := 124) (lv' := [(2, .int (nI n)), (0, .ref 84), (1, .int (nI P))]) (st' := [.int (nI (1 - ms) * 2048), .ref 72]) (H' := _) (kc' := 0) (ks' := 0) rfl ?_
  rw [show (nI (1 - ms) * 2048 : Int32) = nI ((1 - ms) * 2048) from pk_mul (1 - ms) 2048]
  refine RQ.blk 1 (pc' := 125) (lv' := [(2, .int (nI n)), (0, .ref 84), (1, .int (nI P))]) (st' := [.ref 84, .int (nI ((1 - ms) * 2048)), .ref 72]) (H' := _) (kc' := 0) (ks' := 0) rfl ?_
  refine RQ.get (ci := 3) rfl ((hf5 83 (by decide)).trans hY4) rfl rfl ?_
  refine RQ.blk 4 (pc' := 132) (lv' := [(2, .int (nI n)), (0, .ref 84), (1, .int (nI P))]) (st' := [.int (5 + nI n), .int 0, .ref 86, .int (nI ((1 - ms) * 2048)), .ref 72]) (H' := _) (kc' := 0) (ks' := 0) rfl ?_
  rw [show (5 + nI n : Int32) = nI (5 + n) from nI_add 5 n]
  rcases rq_program (sc := sc) (d := d + 1) (a := 85) (A := (1 - ms) * 2048) (i := 0) (n := 5 + n) hC5 ((hf5 85 (by decide)).trans hp4) (by decide) (by decide) hB (by omega) (by omega) (by omega) (by omega) (by rw [show (1 - ms) * 2048 / 2048 = 1 - ms by omega, up_at]; exact Nat.zero_le _) hbb (hpq3 g1).1 with ⟨g3, H6, g4, hC6, hf6⟩ | ⟨g3, H6, g4, hC6, hf6⟩
  rotate_left
  · exact RQ.callP (st' := []) rfl rfl rfl rfl rfl rfl (args_v [.int (nI (5 + n)), .int 0, .ref 86, .int (nI ((1 - ms) * 2048))] [] rfl rfl (Nat.le_of_ble_eq_true rfl) rfl hC5.1 (Nat.le_of_ble_eq_true rfl)) g4 rfl (Or.inr ⟨_, rfl, ⟨_, _, pl_dn (hpq3 g1) g3 hC6, Or.inr ⟨_, _, rfl, by rw [hdS_len, hn]; exact g3, wr_cpy hs2 (Nat.le_of_lt g3)⟩⟩, ⟨_, (hf6 85 (by decide)).trans ((hf5 85 (by decide)).trans hp4)⟩, ⟨_, _, _, hL4.far (fun a a1 a2 a3 => (hf6 a (by omega)).trans (hf5 a (by omega)))⟩, fun a a1 a2 a3 => (hf6 a a1).trans ((hf5 a a1).trans (far4 a a2 a3))⟩)
  refine RQ.call (v := none) (st' := []) rfl rfl rfl rfl rfl rfl (args_v [.int (nI (5 + n)), .int 0, .ref 86, .int (nI ((1 - ms) * 2048))] [] rfl rfl (Nat.le_of_ble_eq_true rfl) rfl hC5.1 (Nat.le_of_ble_eq_true rfl)) g4 ?_
  rw [g3] at hC6
  have hY6 := (hf6 83 (by decide)).trans ((hf5 83 (by decide)).trans hY4)
  refine RQ.blk 4 (pc' := 139) (lv' := [(2, .int (nI n)), (0, .ref 84), (1, .int (nI P))]) (st' := [.int (5 + nI n), .ref 84]) (H' := _) (kc' := 0) (ks' := 0) rfl ?_
  rw [show (5 + nI n : Int32) = nI (5 + n) from nI_add 5 n]
  refine RQ.put (ci := 3) rfl hY6 rfl rfl (Nat.le_of_ble_eq_true rfl) ?_
  refine RQ.blk 1 (pc' := 143) (lv' := [(2, .int (nI n)), (0, .ref 84), (1, .int (nI P))]) (st' := [.ref 84]) (H' := _) (kc' := 0) (ks' := 0) rfl ?_
  have hL7 := (hL4.far (H' := H6) (fun a a1 a2 a3 => (hf6 a (by omega)).trans (hf5 a (by omega)))).fields (1 - ms) (5 + n) (sq + 1)
  refine RQ.callN (st' := []) rfl rfl rfl rfl rfl rfl (args_v [] [] rfl rfl (Nat.le_of_ble_eq_true rfl) rfl (get_set hY6) (Nat.le_of_ble_eq_true rfl)) (rn_noteUse hL7 hB hlB (fun x hx => (hrs x hx).2.2.2)) (fun H8 hx8 => ?_)
  rw [hx8]
  exact RQ.done (c := 0) (s := 0) rfl rfl rfl rfl (Or.inl ⟨_, rfl, ⟨_, _, _, hC6.far (fun a a1 a2 => (set_far (by omega)).trans (set_far (by omega))), ⟨_, rfl, wr_full hs2⟩, fun j hj => by rw [up_ne (by omega), up_ne hj], by rw [show (1 - ms) * 2048 / 2048 = 1 - ms by omega, up_at, up_at]; omega, plUp_lt g3 (by omega) (hpq3 g1)⟩, ⟨_, (set_far (by decide)).trans ((set_far (by decide)).trans ((hf6 85 (by decide)).trans ((hf5 85 (by decide)).trans hp4)))⟩, hL7.used _, fun a a1 a2 a3 a4 => (set_far a4).trans ((set_far a2).trans ((hf6 a a1).trans ((hf5 a a1).trans (far4 a a2 a3))))⟩)
