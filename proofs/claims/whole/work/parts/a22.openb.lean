/-! ===== a log block is opened; class; written by wip/gen/openb.py ===== -/
theorem LayIs.addLog {H : aH} {B : Nat} {lgs : List Nat} {fr ff : Nat} {wr : Bool} {tp : Nat} {rs : List aR} {ms mt sq tu : Nat} {us : Nat → Bool} {b : Nat} (h : LayIs H B lgs fr ff wr tp rs ms mt sq tu us) (hl : lgs.length < B) (hlg30 : True) : ∃ lg, LayAt H (layF B lgs.length fr ff wr tp rs.length ms mt sq tu 0 0) B us lg ∧ LayIs ((H.set 87 (kI B (va_up (fun j => nI (lg j)) lgs.length (nI b)))).set 83 (kO 3 (layF B (lgs.length + 1) (fr + 1) (if fr = 0 then 0 else ff) true 0 rs.length ms mt sq tu 0 0))) B (lgs ++ [b]) (fr + 1) (if fr = 0 then 0 else ff) true 0 rs ms mt sq tu us := by
  obtain ⟨lg, pi, hY, hlg, hlc, hR⟩ := h
  refine ⟨lg, hY, va_up lg lgs.length b, pi, ⟨?_, (set_far (by decide)).trans ((set_far (by decide)).trans hY.2.1), (set_far (by decide)).trans ((get_set hY.2.2).trans (congrArg (fun f => some (kI B f)) up_nI))⟩, fun i x hx => ?_, by rw [List.length_append]; exact hl, hR.far2 ((set_far (by decide)).trans (set_far (by decide))) (fun a a1 a2 => (set_far (by omega)).trans (set_far (by omega)))⟩
  · rw [List.length_append]
    exact get_set ((set_far (by decide)).trans hY.1)
  · by_cases hi : i < lgs.length
    · rw [List.getElem?_append_left hi] at hx
      rw [up_ne (by omega)]
      exact hlg i x hx
    · have h1 := get_lt hx
      rw [List.length_append] at h1
      have h1 : i < lgs.length + 1 := h1
      have e : i = lgs.length := by omega
      rw [e, List.getElem?_append_right (Nat.le_refl _), Nat.sub_self] at hx
      rw [e, up_at]
      exact Option.some.inj hx
set_option maxRecDepth 20000 in
theorem re_openN {sc : Nat × (Nat → Int32)} {d mp hv : Nat} {H : aH} {B : Nat} {lgs : List Nat} {fr ff : Nat} {wr : Bool} {tp : Nat} {rs : List aR} {ms mt sq tu : Nat} {us : Nat → Bool} {cf : Nat → Int8} {tf : Nat → Nat} {pq : Option Nat} {bb : Nat} (h : LayIs H B lgs fr ff wr tp rs ms mt sq tu us) (hB : B ≤ 128) (hG : H[190]? = some (kO 4 (logF mp hv))) (hC : ChipAt H B cf tf pq bb 0) (hbb : bb % 2 ^ 32 < 2 ^ 31) (hpq : PQ bb pq) (hB1 : 3 ≤ B) (htu : tu ≤ 128) (hfr1 : fr + 1 < 256) (hlB : ∀ x ∈ lgs, x < B) (hrs : ∀ x ∈ rs, ∀ y ∈ x.2.2.2, y < B) (hlgB : lgs.length < B) (hus2 : ∀ b, us b = false → 2 ≤ b) (hfr0 : ∀ b, b < B → us b = false → usesL lgs rs b = 0) (hex : ∃ b, b < B ∧ us b = false) : RE sc (d + 3) mr_144 [.ref 191] H (fun H' => ∃ b, b < B ∧ us b = false ∧ ChipAt H' B (fun q => if b * 2048 ≤ q ∧ q < b * 2048 + 2048 then -1 else cf q) (va_up tf b 0) (plUp pq) bb 0 ∧ PQ bb (plUp pq) ∧ LayIs H' B (lgs ++ [b]) (fr + 1) (if fr = 0 then 0 else ff) true 0 rs ms mt sq (b + 1) (va_up us b true) ∧ ∀ a, ¬ (71 ≤ a ∧ a < 74) → a ≠ 83 → a ≠ 86 → a ≠ 87 → H'[a]? = H[a]?) (fun H' => ∃ b c' tf', b < B ∧ us b = false ∧ ChipDn H' B c' tf' bb ∧ (∀ q, ¬ q / 2048 = b → c' q = cf q) ∧ (∃ lgs fr ff wr tp ms mt sq us, LayIs H' B lgs fr ff wr tp rs ms mt sq (b + 1) us) ∧ ∀ a, ¬ (71 ≤ a ∧ a < 74) → a ≠ 83 → a ≠ 86 → a ≠ 87 → H'[a]? = H[a]?) := by
  obtain ⟨yf, hY0⟩ : ∃ yf, H[83]? = some (kO 3 yf) := by obtain ⟨_, _, q1, _⟩ := h; exact ⟨_, q1.1⟩
  have hpq3 : grN pq bb 2048 = 2048 → PQ bb (plUp pq) := fun g => plUp_lt g (by decide) hpq
  have hl30 : ∀ x ∈ lgs, x < 2 ^ 30 := fun x hx => by have := hlB x hx; omega
  have hi30 : ∀ x ∈ rs, ∀ y ∈ x.2.2.2, y < 2 ^ 30 := fun x hx y hy => by have := hrs x hx y hy; omega
  have hB1' : 1 ≤ B := by omega
  refine RE.of ?_
  refine RQ.blk 1 (pc' := 1) (lv' := [(0, .ref 191)]) (st' := [.ref 191]) (H' := _) (kc' := 0) (ks' := 0) rfl ?_
  refine RQ.get (ci := 4) rfl hG rfl rfl ?_
  refine RQ.callI (st' := []) rfl rfl rfl rfl rfl rfl (args_v [] [] rfl rfl (Nat.le_of_ble_eq_true rfl) rfl hY0 (Nat.le_of_ble_eq_true rfl)) (ri_takeL h hB hB1' htu hl30 hi30 hfr0 hex) (fun y H2 hx => ?_)
  obtain ⟨b, ey, hb, hub, hL2, hf2⟩ := hx
  rw [ey]
  have hC2 := hC.far (H' := H2) (fun a a1 a2 => hf2 a (by omega) (by omega))
  have hb2 := hus2 b hub
  refine RQ.blk 2 (pc' := 9) (lv' := [(1, .int (nI b)), (0, .ref 191)]) (st' := [.ref 191]) (H' := _) (kc' := 0) (ks' := 0) rfl ?_
  refine RQ.get (ci := 4) rfl ((hf2 190 (by decide) (by decide)).trans hG) rfl rfl ?_
  refine RQ.blk 1 (pc' := 13) (lv' := [(1, .int (nI b)), (0, .ref 191)]) (st' := [.int (nI b), .ref 72]) (H' := _) (kc' := 0) (ks' := 0) rfl ?_
  rcases rq_erase (sc := sc) (d := d) (b := b) hC2 hB hb hbb hpq.1 with ⟨g1, H3, g2, hC3, hf3⟩ | ⟨g1, H3, g2, hC3, hf3⟩
  rotate_left
  · exact RQ.callP (st' := []) rfl rfl rfl rfl rfl rfl (args_v [.int (nI b)] [] rfl rfl (Nat.le_of_ble_eq_true rfl) rfl hC2.1 (Nat.le_of_ble_eq_true rfl)) g2 rfl (Or.inr ⟨_, rfl, b, _, _, hb, hub, pl_dn hpq g1 hC3, fun q q2 => if_neg (by omega), ⟨_, _, _, _, _, _, _, _, _, hL2.far (fun a a1 a2 a3 => hf3 a (by omega))⟩, fun a a1 a2 a3 a4 => (hf3 a a1).trans (hf2 a a2 a3)⟩)
  refine RQ.call (v := none) (st' := []) rfl rfl rfl rfl rfl rfl (args_v [.int (nI b)] [] rfl rfl (Nat.le_of_ble_eq_true rfl) rfl hC2.1 (Nat.le_of_ble_eq_true rfl)) g2 ?_
  rw [g1] at hC3
  have hL3 := hL2.far (H' := H3) (fun a a1 a2 a3 => hf3 a (by omega))
  obtain ⟨lg3, hY3, hL4⟩ := hL3.addLog (b := b) (by omega) trivial
  refine RQ.blk 1 (pc' := 17) (lv' := [(1, .int (nI b)), (0, .ref 191)]) (st' := [.ref 191]) (H' := _) (kc' := 0) (ks' := 0) rfl ?_
  refine RQ.get (ci := 4) rfl ((hf3 190 (by decide)).trans ((hf2 190 (by decide) (by decide)).trans hG)) rfl rfl ?_
  refine RQ.blk 1 (pc' := 21) (lv' := [(1, .int (nI b)), (0, .ref 191)]) (st' := [.int (nI b), .ref 84]) (H' := _) (kc' := 0) (ks' := 0) rfl ?_
  refine RQ.call (v := none) (st' := []) rfl rfl rfl rfl rfl rfl (args_v [.int (nI b)] [] rfl rfl (Nat.le_of_ble_eq_true rfl) rfl hY3.1 (Nat.le_of_ble_eq_true rfl)) (rc_addLog (b := b) hY3 hB (by omega) (by omega)) ?_
  have hf4 : ∀ a, a ≠ 83 → a ≠ 87 → ((H3.set 87 (kI B (va_up (fun j => nI (lg3 j)) lgs.length (nI b)))).set 83 (kO 3 (layF B (lgs.length + 1) (fr + 1) (if fr = 0 then 0 else ff) true 0 rs.length ms mt sq (b + 1) 0 0)))[a]? = H3[a]? := fun a a1 a2 => (set_far a1).trans (set_far a2)
  generalize ((H3.set 87 (kI B (va_up (fun j => nI (lg3 j)) lgs.length (nI b)))).set 83 (kO 3 (layF B (lgs.length + 1) (fr + 1) (if fr = 0 then 0 else ff) true 0 rs.length ms mt sq (b + 1) 0 0))) = H4 at hL4 hf4 ⊢
  have hC4 := hC3.far (H' := H4) (fun a a1 a2 => hf4 a (by omega) (by omega))
  exact RQ.done (c := 0) (s := 0) rfl rfl rfl rfl (Or.inl ⟨_, rfl, b, hb, hub, hC4, hpq3 g1, hL4, fun a a1 a2 a3 a4 => (hf4 a a2 a4).trans ((hf3 a a1).trans (hf2 a a2 a3))⟩)
/-- a block is opened, then the state is saved: two calls, one behind the other -/
def RO (sc : Nat × (Nat → Int32)) (d P : Nat) (H : aH) (ok bad : aH → Prop) : Prop := RE sc (d + 4) mr_144 [.ref 191] H (fun H2 => (∃ yf, H2[83]? = some (kO 3 yf)) ∧ (∀ a, ¬ (71 ≤ a ∧ a < 74) → ¬ (83 ≤ a ∧ a < 88) → H2[a]? = H[a]?) ∧ RE sc (d + 4) mr_115 [.ref 84, .int (nI P)] H2 ok bad) bad
theorem RO.mono {sc : Nat × (Nat → Int32)} {d P : Nat} {H : aH} {ok ok' bad bad' : aH → Prop} (h : RO sc d P H ok bad) (h1 : ∀ H', ok H' → ok' H') (h2 : ∀ H', bad H' → bad' H') : RO sc d P H ok' bad' := RE.mono h (fun _ q => ⟨q.1, q.2.1, q.2.2.mono h1 h2⟩) h2
theorem ro_openBlock {sc : Nat × (Nat → Int32)} {d P mp hv : Nat} {H : aH} {B : Nat} {lgs : List Nat} {fr ff : Nat} {wr : Bool} {tp : Nat} {rs : List aR} {ms mt sq tu : Nat} {us : Nat → Bool} {P0 fr0 ff0 : Nat} {lgs0 : List Nat} {rs0 : List aR} {cf : Nat → Int8} {tf : Nat → Nat} {pq : Option Nat} {bb : Nat} {pg : Nat → Int8} (h : LayIs H B lgs fr ff wr tp rs ms mt sq tu us) (hB : B ≤ 128) (hG : H[190]? = some (kO 4 (logF mp hv))) (hpg : H[85]? = some (kB 2048 pg)) (hC : ChipAt H B cf tf pq bb 0) (hbb : bb % 2 ^ 32 < 2 ^ 31) (hpq : PQ bb pq) (hB1 : 3 ≤ B) (htu : tu ≤ 128) (hP : P < 2 ^ 31) (hfr1 : fr + 1 < 256) (hff1 : (if fr = 0 then 0 else ff) < 65536) (hlB : ∀ x ∈ lgs, x < B) (hrs : ∀ x ∈ rs, x.1 < 256 ∧ x.2.1 < 2 ^ 24 ∧ x.2.2.1 < 65536 ∧ ∀ y ∈ x.2.2.2, y < B) (hlen1 : ∀ b, (encS P (fr + 1) (if fr = 0 then 0 else ff) (lgs ++ [b]) rs).length ≤ 2043) (hlgB : lgs.length < B) (hus2 : ∀ b, us b = false → 2 ≤ b) (hfr0 : ∀ b, b < B → us b = false → usesL lgs rs b = 0) (hex : ∃ b, b < B ∧ us b = false) (hM : Mast cf P0 fr0 ff0 lgs0 rs0 ms mt sq) (htf : mt < 2048 → tf ms ≤ mt) (hsq : sq + 1 < 2 ^ 31) : RO sc d P H (fun H' => ∃ b c' tf' pq' ms' mt' sq', b < B ∧ us b = false ∧ ChipAt H' B c' tf' pq' bb 0 ∧ Mast c' P (fr + 1) (if fr = 0 then 0 else ff) (lgs ++ [b]) rs ms' mt' sq' ∧ (∀ q, 4096 ≤ q → ¬ q / 2048 = b → c' q = cf q) ∧ (∀ q, b * 2048 ≤ q → q < b * 2048 + 2048 → c' q = -1) ∧ (∀ j, 2 ≤ j → ¬ j = b → tf' j = tf j) ∧ tf' b = 0 ∧ (mt' < 2048 → tf' ms' ≤ mt') ∧ sq' ≤ sq + 1 ∧ (PQ bb pq') ∧ (∃ pg', H'[85]? = some (kB 2048 pg')) ∧ LayIs H' B (lgs ++ [b]) (fr + 1) (if fr = 0 then 0 else ff) true 0 rs ms' mt' sq' (b + 1) (fun x => if x < B then usedB (lgs ++ [b]) rs x else va_up us b true x) ∧ ∀ a, ¬ (71 ≤ a ∧ a < 74) → ¬ (83 ≤ a ∧ a < 88) → H'[a]? = H[a]?) (fun H' => ∃ b c' tf', b < B ∧ us b = false ∧ ChipDn H' B c' tf' bb ∧ Mast c' P0 fr0 ff0 lgs0 rs0 ms 2048 sq ∧ (∀ q, 4096 ≤ q → ¬ q / 2048 = b → c' q = cf q) ∧ (∃ pg', H'[85]? = some (kB 2048 pg')) ∧ (∃ lgs fr ff wr tp ms mt sq us, LayIs H' B lgs fr ff wr tp rs ms mt sq (b + 1) us) ∧ ∀ a, ¬ (71 ≤ a ∧ a < 74) → ¬ (83 ≤ a ∧ a < 88) → H'[a]? = H[a]?) := by
  refine (re_openN (d := d + 1) h hB hG hC hbb hpq hB1 htu hfr1 hlB (fun x hx => (hrs x hx).2.2.2) hlgB hus2 hfr0 hex).mono ?_ ?_
  · rintro H4 ⟨b, hb, hub, hC4, hpq4, hL4, f4⟩
    have hb2 := hus2 b hub
    have hp4 := (f4 85 (by decide) (by decide) (by decide) (by decide)).trans hpg
    have hM4 : Mast (fun q => if b * 2048 ≤ q ∧ q < b * 2048 + 2048 then -1 else cf q) P0 fr0 ff0 lgs0 rs0 ms mt sq := hM.far (fun q hq => if_neg (by omega))
    refine ⟨by obtain ⟨_, _, q1, _⟩ := hL4; exact ⟨_, q1.1⟩, fun a a1 a2 => f4 a a1 (by omega) (by omega) (by omega), ?_⟩
    refine (re_saveM (d := d + 1) hL4 hB hp4 hC4 hbb hpq4 (by omega) hP hfr1 hff1 (fun x hx => (List.mem_append.mp hx).elim (hlB x) (fun e => by rw [List.mem_singleton.mp e]; exact hb)) hrs (hlen1 b) hM4 (fun e => by rw [up_ne (by have := hM.1.1; omega)]; exact htf e) hsq).mono ?_ ?_
    · rintro H5 ⟨c', tf', pq', ms', mt', sq', y1, y2, y3, y4, y5, y6, y7, y8, y9, y10⟩
      exact ⟨b, c', tf', pq', ms', mt', sq', hb, hub, y1, y2, fun q q1 q2 => (y3 q q1).trans (if_neg (by omega)), fun q q1 q2 => (y3 q (by omega)).trans (if_pos ⟨q1, q2⟩), fun j j1 j2 => (y4 j j1).trans (up_ne j2), (y4 b hb2).trans up_at, y5, y6, y7, y8, y9, fun a a1 a2 => (y10 a a1 (by omega) (by omega) (by omega)).trans (f4 a a1 (by omega) (by omega) (by omega))⟩
    · rintro H9 ⟨c', tf', z1, z2, z3, z4, ⟨ms', mt', sq', z5⟩, z6⟩
      exact ⟨b, c', tf', hb, hub, z1, z2, fun q q1 q2 => (z3 q q1).trans (if_neg (by omega)), z4, ⟨_, _, _, _, _, _, _, _, _, z5⟩, fun a a1 a2 => (z6 a a1 (by omega) (by omega)).trans (f4 a a1 (by omega) (by omega) (by omega))⟩
  · rintro H9 ⟨b, c', tf', hb, hub, z1, z3, z5, z6⟩
    have hb2 := hus2 b hub
    exact ⟨b, c', tf', hb, hub, z1, (hM.far (fun q hq => z3 q (by omega))).forget, fun q _ q2 => z3 q q2, ⟨_, (z6 85 (by decide) (by decide) (by decide) (by decide)).trans hpg⟩, z5, fun a a1 a2 => z6 a a1 (by omega) (by omega) (by omega)⟩
