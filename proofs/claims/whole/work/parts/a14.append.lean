/-! ===== a record comes to the log; class; written by wip/gen/append.py ===== -/
theorem LayIs.top {H : aH} {B : Nat} {lgs : List Nat} {fr ff : Nat} {wr : Bool} {tp : Nat} {rs : List aR} {ms mt sq tu : Nat} {us : Nat → Bool} (h : LayIs H B lgs fr ff wr tp rs ms mt sq tu us) (tp' : Nat) : LayIs (H.set 83 (kO 3 (layF B lgs.length fr ff wr tp' rs.length ms mt sq tu 0 0))) B lgs fr ff wr tp' rs ms mt sq tu us := by
  obtain ⟨lg, pi, hY, hlg, hlc, hR⟩ := h
  exact ⟨lg, pi, ⟨get_set hY.1, (set_far (by decide)).trans hY.2.1, (set_far (by decide)).trans hY.2.2⟩, hlg, hlc, hR.far2 (set_far (by decide)) (fun a a1 a2 => set_far (by omega))⟩
theorem re_append {sc : Nat × (Nat → Int32)} {d n b mp hv : Nat} {H : aH} {B : Nat} {lgs : List Nat} {fr ff : Nat} {wr : Bool} {tp : Nat} {rs : List aR} {ms mt sq tu : Nat} {us : Nat → Bool} {cf : Nat → Int8} {tf : Nat → Nat} {pq : Option Nat} {bb : Nat} {pg : Nat → Int8} {l : List Nat} (h : LayIs H B lgs fr ff wr tp rs ms mt sq tu us) (hB : B ≤ 128) (hG : H[190]? = some (kO 4 (logF mp hv))) (hpg : H[191]? = some (kB 2048 pg)) (hC : ChipAt H B cf tf pq bb 0) (hbb : bb % 2 ^ 32 < 2 ^ 31) (hpq : PQ bb pq) (hb : lgs[lgs.length - 1]? = some b) (hbB : b < B) (hn1 : 1 ≤ n) (hfit : tp + n ≤ 2048) (htf : tf b ≤ tp) (hl : sl (numF pg (n - 1) 1 (nI 90) 1) 0 n = l) : RE sc (d + 2) mr_148 [.ref 191, .int (nI n)] H (fun H' => (∃ c' tf' pq', ChipAt H' B c' tf' pq' bb 0 ∧ WrP cf c' (b * 2048 + tp) l ∧ (∀ j, ¬ j = b → tf' j = tf j) ∧ tf' b ≤ tp + n ∧ PQ (dk bb) pq') ∧ (∃ pg', H'[191]? = some (kB 2048 pg')) ∧ LayIs H' B lgs fr ff wr (tp + n) rs ms mt sq tu us ∧ ∀ a, ¬ (71 ≤ a ∧ a < 74) → a ≠ 191 → a ≠ 83 → H'[a]? = H[a]?) (fun H' => (∃ c' tf', ChipDn H' B c' tf' bb ∧ ∃ k, k < l.length ∧ WrP cf c' (b * 2048 + tp) (l.take k)) ∧ (∃ pg', H'[191]? = some (kB 2048 pg')) ∧ LayIs H' B lgs fr ff wr tp rs ms mt sq tu us ∧ ∀ a, ¬ (71 ≤ a ∧ a < 74) → a ≠ 191 → H'[a]? = H[a]?) := by
  obtain ⟨lg, pi, hY, hlg, hlc, hRs⟩ := id h
  have hY1 := hY.1
  have hlt := get_lt hb
  refine RE.of ?_
  refine RQ.blk 1 (pc' := 1) (lv' := [(0, .ref 191), (1, .int (nI n))]) (st' := [.ref 191]) (H' := _) (kc' := 0) (ks' := 0) rfl ?_
  refine RQ.get (ci := 4) rfl hG rfl rfl ?_
  refine RQ.blk 3 (pc' := 7) (lv' := [(0, .ref 191), (1, .int (nI n))]) (st' := [.int (nI n - 1), .ref 192]) (H' := _) (kc' := 0) (ks' := 0) rfl ?_
  rw [show (nI n - 1 : Int32) = nI (n - 1) from pk_sub (a := n) (b := 1) (by omega)]
  refine RQ.blk 2 (pc' := 10) (lv' := [(0, .ref 191), (1, .int (nI n))]) (st' := [.int 90, .int 1, .int (nI (n - 1)), .ref 192]) (H' := _) (kc' := 0) (ks' := 0) rfl ?_
  refine RQ.call (v := none) (st' := []) rfl rfl rfl rfl rfl rfl rfl (rc_number (a := 191) (m := 2048) (f := pg) (p := n - 1) (n := 1) (v := nI 90) hpg (by decide) (by omega) (by decide)) ?_
  have hL2 := h.far (H' := (H.set 191 (kB 2048 (numF pg (n - 1) 1 (nI 90) 1)))) (fun a a1 a2 a3 => set_far (by omega))
  have hC2 := hC.far (H' := (H.set 191 (kB 2048 (numF pg (n - 1) 1 (nI 90) 1)))) (fun a a1 a2 => set_far (by omega))
  have hp2 : (H.set 191 (kB 2048 (numF pg (n - 1) 1 (nI 90) 1)))[191]? = some (kB 2048 (numF pg (n - 1) 1 (nI 90) 1)) := get_set hpg
  have hG2 : (H.set 191 (kB 2048 (numF pg (n - 1) 1 (nI 90) 1)))[190]? = _ := (set_far (by decide)).trans hG
  have hY2 : (H.set 191 (kB 2048 (numF pg (n - 1) 1 (nI 90) 1)))[83]? = _ := (set_far (by decide)).trans hY1
  have far2 : ∀ a, a ≠ 191 → (H.set 191 (kB 2048 (numF pg (n - 1) 1 (nI 90) 1)))[a]? = H[a]? := fun a ha => set_far ha
  generalize (H.set 191 (kB 2048 (numF pg (n - 1) 1 (nI 90) 1))) = H2 at hL2 hC2 hp2 hG2 hY2 far2 ⊢
  refine RQ.blk 1 (pc' := 14) (lv' := [(0, .ref 191), (1, .int (nI n))]) (st' := [.ref 191]) (H' := _) (kc' := 0) (ks' := 0) rfl ?_
  refine RQ.get (ci := 4) rfl hG2 rfl rfl ?_
  refine RQ.blk 1 (pc' := 18) (lv' := [(0, .ref 191), (1, .int (nI n))]) (st' := [.ref 191, .ref 72]) (H' := _) (kc' := 0) (ks' := 0) rfl ?_
  refine RQ.get (ci := 4) rfl hG2 rfl rfl ?_
  obtain ⟨lg2, pi2, hY3, hlg3, -, -⟩ := id hL2
  have hpt := rc_point (sc := sc) (d := d + 1) hY3 hB (by omega) (by omega)
  rw [hlg3 (lgs.length - 1) b hb] at hpt
  refine RQ.call (v := some (.int (nI (b * 2048 + tp)))) (st' := [.ref 72]) rfl rfl rfl rfl rfl rfl (args_v [] [.ref 72] rfl rfl (Nat.le_of_ble_eq_true rfl) rfl hY2 (Nat.le_of_ble_eq_true rfl)) hpt ?_
  refine RQ.blk 1 (pc' := 25) (lv' := [(0, .ref 191), (1, .int (nI n))]) (st' := [.ref 191, .int (nI (b * 2048 + tp)), .ref 72]) (H' := _) (kc' := 0) (ks' := 0) rfl ?_
  refine RQ.get (ci := 4) rfl hG2 rfl rfl ?_
  refine RQ.blk 2 (pc' := 30) (lv' := [(0, .ref 191), (1, .int (nI n))]) (st' := [.int (nI n), .int 0, .ref 192, .int (nI (b * 2048 + tp)), .ref 72]) (H' := _) (kc' := 0) (ks' := 0) rfl ?_
  rcases rq_program (sc := sc) (d := d) (a := 191) (A := b * 2048 + tp) (i := 0) (n := n) hC2 hp2 (by decide) (by decide) hB (by omega) (by omega) (by omega) (by omega) (by rw [show (b * 2048 + tp) / 2048 = b by omega, show (b * 2048 + tp) % 2048 = tp by omega]; exact htf) hbb hpq.1 with ⟨g3, H4, g4, hC4, hf4⟩ | ⟨g3, H4, g4, hC4, hf4⟩
  rotate_left
  · exact RQ.callP (st' := []) rfl rfl rfl rfl rfl rfl (args_v [.int (nI n), .int 0, .ref 192, .int (nI (b * 2048 + tp))] [] rfl rfl (Nat.le_of_ble_eq_true rfl) rfl hC2.1 (Nat.le_of_ble_eq_true rfl)) g4 rfl (Or.inr ⟨_, rfl, ⟨_, _, pl_dn hpq g3 hC4, _, by rw [← hl, sl_length]; exact g3, wr_cpy hl (Nat.le_of_lt g3)⟩, ⟨_, (hf4 191 (by decide)).trans hp2⟩, hL2.far (fun a a1 a2 a3 => hf4 a (by omega)), fun a a1 a2 => (hf4 a a1).trans (far2 a a2)⟩)
  refine RQ.call (v := none) (st' := []) rfl rfl rfl rfl rfl rfl (args_v [.int (nI n), .int 0, .ref 192, .int (nI (b * 2048 + tp))] [] rfl rfl (Nat.le_of_ble_eq_true rfl) rfl hC2.1 (Nat.le_of_ble_eq_true rfl)) g4 ?_
  rw [g3] at hC4
  refine RQ.blk 1 (pc' := 34) (lv' := [(0, .ref 191), (1, .int (nI n))]) (st' := [.ref 191]) (H' := _) (kc' := 0) (ks' := 0) rfl ?_
  refine RQ.get (ci := 4) rfl ((hf4 190 (by decide)).trans hG2) rfl rfl ?_
  refine RQ.blk 1 (pc' := 38) (lv' := [(0, .ref 191), (1, .int (nI n))]) (st' := [.ref 84, .ref 84]) (H' := _) (kc' := 0) (ks' := 0) rfl ?_
  refine RQ.get (ci := 3) rfl ((hf4 83 (by decide)).trans hY2) rfl rfl ?_
  refine RQ.blk 2 (pc' := 43) (lv' := [(0, .ref 191), (1, .int (nI n))]) (st' := [.int (nI tp + nI n), .ref 84]) (H' := _) (kc' := 0) (ks' := 0) rfl ?_
  rw [show (nI tp + nI n : Int32) = nI (tp + n) from nI_add tp n]
  refine RQ.put (ci := 3) rfl ((hf4 83 (by decide)).trans hY2) rfl rfl (Nat.le_of_ble_eq_true rfl) ?_
  exact RQ.done (c := 0) (s := 0) rfl rfl rfl rfl (Or.inl ⟨_, rfl, ⟨_, _, _, hC4.far (fun a a1 a2 => set_far (by omega)), wr_full hl, fun j hj => by rw [up_ne (by omega)], by rw [show (b * 2048 + tp) / 2048 = b by omega, up_at]; omega, plUp_dk g3 (by omega) hpq⟩, ⟨_, (set_far (by decide)).trans ((hf4 191 (by decide)).trans hp2)⟩, (hL2.far (H' := H4) (fun a a1 a2 a3 => hf4 a (by omega))).top (tp + n), fun a a1 a2 a3 => (set_far a3).trans ((hf4 a a1).trans (far2 a a2))⟩)
