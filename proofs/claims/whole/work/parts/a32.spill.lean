/-! ===== what is known in memory alone goes to a table; class; written by wip/gen/spill.py ===== -/
theorem RunOk.farC {c c' : Nat → Int8} {B : Nat} {x : aR} {es : List aT} (h : RunOk c B x es) (hc : ∀ q, q / 2048 ∈ x.2.2.2 → c' q = c q) : RunOk c' B x es := by
  obtain ⟨h1, h2, h3, h4, h5⟩ := h
  refine ⟨h1, h2, ?_, h4, h5⟩
  rw [← h3]
  have := strm_ext (ids' := []) h4 hc
  rwa [List.append_nil] at this
theorem mapE_T {vs : List aV} {p : Nat} {v : aV} (h : vs[p]? = some v) : (vs.take (p + 1)).map entV = (vs.take p).map entV ++ [entV v] := by
  rw [take_get h, List.map_append]
  rfl
theorem mapE_le {vs : List aV} {p : Nat} : (((vs.take p).map entV).flatMap encE).length ≤ ((vs.map entV).flatMap encE).length := by
  conv => rhs; rw [← List.take_append_drop p vs, List.map_append, List.flatMap_append, List.length_append]
  omega
theorem mapE_len {vs : List aV} : (vs.map entV).length ≤ vs.length := by
  rw [List.length_map]
  exact Nat.le_refl _
theorem mapE_ok {vs : List aV} (h : ∀ v ∈ vs, 1 ≤ v.1.length ∧ v.1.length ≤ 41 ∧ v.2.1 < 2 ^ 30 ∧ v.2.2.1 < 2 ^ 24 ∧ v.2.2.2.1.getD 0 ≤ 2048) : ∀ e ∈ vs.map entV, EOk e := by
  intro e he
  obtain ⟨v, hv, rfl⟩ := List.mem_map.mp he
  obtain ⟨a1, a2, a3, a4, a5⟩ := h v hv
  refine ⟨a1, a2, a3, ?_, a5, fun e => ?_⟩
  · show (if v.2.2.2.1 = none then 0 else v.2.2.1) < 2 ^ 24
    split <;> omega
  · exact if_pos e
set_option maxRecDepth 20000 in
theorem re_spill {sc : Nat × (Nat → Int32)} {d P N lm bf gm pr : Nat} {H : aH} {B : Nat} {lgs : List Nat} {fr ff : Nat} {wr : Bool} {tp : Nat} {rs : List aR} {ms mt sq tu : Nat} {us : Nat → Bool} {P0 fr0 ff0 : Nat} {lgs0 : List Nat} {rs0 : List aR} {cf : Nat → Int8} {tf : Nat → Nat} {pq : Option Nat} {bb : Nat} {pg pg8 : Nat → Int8} {vs : List aV} {op : Nat → Bool} {sm : Nat → Nat} (h : LayIs H B lgs fr ff wr tp rs ms mt sq tu us) (hB : B ≤ 128) (hT : H[136]? = some (kO 8 (tabF lm bf gm))) (hp : H[140]? = some (kB 2099 pg)) (hpg : H[85]? = some (kB 2048 pg8)) (hC : ChipAt H B cf tf pq bb 0) (hbb : bb % 2 ^ 32 < 2 ^ 31) (hpq : PQ bb pq) (hB1 : 3 ≤ B) (htu : tu ≤ 128) (hfr0 : ∀ b, b < B → us b = false → usesL lgs rs b = 0) (hus2 : ∀ b, us b = false → 2 ≤ b) (hrl : rs.length < 24) (hV : VersIs H N vs) (hvE : ∀ v ∈ vs, v.2.2.1 < 2 ^ 24 ∧ v.2.2.2.1.getD 0 ≤ 2048) (g : SightAt H op sm) (hsm : ∀ t, t < 8 → sm t < 2 ^ 31) (hpr : ∀ v ∈ vs, v.2.1 ≤ pr) (hT1 : ((aloneE vs).flatMap encE).length ≤ 2048 * freeN us B) (hT2 : ((aloneE vs).flatMap encE).length ≤ 131072) (hP : P < 2 ^ 31) (htp : tp < 65536) (hlB : ∀ x ∈ lgs, x < B) (hrs : ∀ x ∈ rs, x.1 < 256 ∧ x.2.1 < 2 ^ 24 ∧ x.2.2.1 < 65536 ∧ ∀ y ∈ x.2.2.2, y < B) (hlen : ∀ x : aR, x.2.2.2.length * 2048 < ((aloneE vs).flatMap encE).length + 2048 → (encS P (if wr then 1 else 0) (if wr then tp else 0) lgs ((if 0 < x.2.1 then [x] else []) ++ rs)).length ≤ 2043) (hM : Mast cf P0 fr0 ff0 lgs0 rs0 ms mt sq) (htf : mt < 2048 → tf ms ≤ mt) (hsq : sq + 1 < 2 ^ 31) : RE sc (d + 4) mr_97 [.ref 137, .int 0, .int (nI P)] H (fun H' => ∃ x c' tf' pq' ms' mt' sq' tu', RunOk c' B x (aloneE vs) ∧ x.1 = 0 ∧ x.2.2.2.Nodup ∧ (∀ b ∈ x.2.2.2, us b = false) ∧ x.2.2.2.length * 2048 < ((aloneE vs).flatMap encE).length + 2048 ∧ ChipAt H' B c' tf' pq' bb 0 ∧ (PQ bb pq') ∧ Mast c' P (if wr then 1 else 0) (if wr then tp else 0) lgs ((if 0 < x.2.1 then [x] else []) ++ rs) ms' mt' sq' ∧ (∀ q, 4096 ≤ q → ¬ q / 2048 ∈ x.2.2.2 → c' q = cf q) ∧ (∀ j, 2 ≤ j → ¬ j ∈ x.2.2.2 → tf' j = tf j) ∧ (mt' < 2048 → tf' ms' ≤ mt') ∧ sq' ≤ sq + 1 ∧ tu' ≤ 128 ∧ (∃ pg', H'[85]? = some (kB 2048 pg')) ∧ (∃ pg', H'[140]? = some (kB 2099 pg')) ∧ H'[136]? = some (kO 8 (tabF lm 0 gm)) ∧ (∃ us', LayIs H' B lgs (if wr then 1 else 0) (if wr then tp else 0) wr tp ((if 0 < x.2.1 then [x] else []) ++ rs) ms' mt' sq' tu' us' ∧ ∀ b, b < B → us' b = usedB lgs ((if 0 < x.2.1 then [x] else []) ++ rs) b) ∧ VersIs H' N ((vs.map toldV).filter (keepS op sm pr (kmV (vs.map toldV)))) ∧ ∀ a, ¬ (71 ≤ a ∧ a < 137) → a ≠ 140 → H'[a]? = H[a]?) (fun H' => ∃ c' tf', ChipDn H' B c' tf' bb ∧ Mast c' P0 fr0 ff0 lgs0 rs0 ms 2048 sq ∧ (∀ q, 4096 ≤ q → us (q / 2048) = true → c' q = cf q) ∧ (∃ pg', H'[85]? = some (kB 2048 pg')) ∧ (∃ pg', H'[140]? = some (kB 2099 pg')) ∧ (∃ bf', H'[136]? = some (kO 8 (tabF lm bf' gm))) ∧ (∃ fr ff rs ms mt sq tu us, tu ≤ 128 ∧ LayIs H' B lgs fr ff wr tp rs ms mt sq tu us) ∧ VersIs H' N vs ∧ ∀ a, ¬ (71 ≤ a ∧ a < 137) → a ≠ 140 → H'[a]? = H[a]?) := by
  obtain ⟨yf, hY0⟩ : ∃ yf, H[83]? = some (kO 3 yf) := by obtain ⟨_, _, q1, _⟩ := h; exact ⟨_, q1.1⟩
  have hl30 : ∀ x ∈ lgs, x < 2 ^ 30 := fun x hx => by have := hlB x hx; omega
  have hi30 : ∀ x ∈ rs, ∀ y ∈ x.2.2.2, y < 2 ^ 30 := fun x hx y hy => by have := (hrs x hx).2.2.2 y hy; omega
  have hV0 := hV
  obtain ⟨kf, kl, mo, pl, le, al, od, sp, sz, ss, ac, hA, hW, hvs⟩ := hV
  have hN := hW.1.1
  have hszN := hW.1.2.1
  have hsz : vs.length = sz := by rw [hvs]; unfold vsL; rw [List.length_map, List.length_range]
  have hvO : ∀ v ∈ vs, 1 ≤ v.1.length ∧ v.1.length ≤ 41 ∧ v.2.1 < 2 ^ 30 ∧ v.2.2.1 < 2 ^ 24 ∧ v.2.2.2.1.getD 0 ≤ 2048 := fun v hv => by
    have h9 := hvE v hv
    rw [hvs] at hv
    obtain ⟨q, hq, e⟩ := List.mem_map.mp hv
    have hq := List.mem_range.mp hq
    have b1 := hW.1.2.2.2.2.2 _ (hW.1.2.2.2.1 q hq)
    have b2 := hW.2.2.2.2.2.2.2.1 q hq
    rw [← e] at h9 ⊢
    exact ⟨by show 1 ≤ (sl kf (od q * 41) (kl (od q))).length; rw [sl_length]; exact b2, by show (sl kf (od q * 41) (kl (od q))).length ≤ 41; rw [sl_length]; exact b1.1, b1.2.1, h9.1, h9.2⟩
  obtain ⟨r, H1, Q, hd1, hQ, hQr, hr1, hr2, hR1, hL1, f1⟩ := rx_draft (sc := sc) (d := d + 2) (l := 0) h hB hrl
  refine RE.of ?_
  refine RQ.blk 1 (pc' := 1) (lv' := [(0, .ref 137), (1, .int 0), (2, .int (nI P))]) (st' := [.ref 137]) (H' := _) (kc' := 0) (ks' := 0) rfl ?_
  refine RQ.get (ci := 8) rfl hT rfl rfl ?_
  refine RQ.blk 1 (pc' := 5) (lv' := [(0, .ref 137), (1, .int 0), (2, .int (nI P))]) (st' := [.int 0, .ref 84]) (H' := _) (kc' := 0) (ks' := 0) rfl ?_
  refine RQ.brT rfl rfl rfl (by decide) ?_
  refine RQ.blk 1 (pc' := 13) (lv' := [(0, .ref 137), (1, .int 0), (2, .int (nI P))]) (st' := [.int 0, .ref 84]) (H' := _) (kc' := 0) (ks' := 0) rfl ?_
  refine RQ.call (v := some (.ref (r + 1))) (st' := []) rfl rfl rfl rfl rfl rfl (args_v [.int 0] [] rfl rfl (Nat.le_of_ble_eq_true rfl) rfl hY0 (Nat.le_of_ble_eq_true rfl)) hd1 ?_
  refine RQ.blk 3 (pc' := 19) (lv' := [(3, .ref (r + 1)), (0, .ref 137), (1, .int 0), (2, .int (nI P))]) (st' := [.int 0, .ref 137]) (H' := _) (kc' := 0) (ks' := 0) rfl ?_
  refine RQ.put (ci := 8) rfl ((f1 136 (by omega)).trans hT) rfl rfl (Nat.le_of_ble_eq_true rfl) ?_
  refine RQ.blk 2 (pc' := 25) (lv' := [(4, .int 0), (3, .ref (r + 1)), (0, .ref 137), (1, .int 0), (2, .int (nI P))]) (st' := []) (H' := _) (kc' := 0) (ks' := 0) rfl ?_
  refine RQ.while (S := Nat) (pc := 25) (fun p H' => ∃ us1 tu1 c tf1 pq1 x pg bf, p ≤ vs.length ∧ bf < 2048 ∧ DrI H' B lgs fr ff wr tp rs ms mt sq us cf tf bb r lm gm us1 tu1 c tf1 pq1 x pg bf (aloneE (vs.take p)) ∧ x.1 = 0 ∧ x.2.1 = x.2.2.2.length * 2048 ∧ ∀ a, ¬ (71 ≤ a ∧ a < 74) → a ≠ 83 → a ≠ 86 → a ≠ r → a ≠ r + 1 → ¬ (a = 136 ∨ a = 140) → H'[a]? = H[a]?) (fun p => [(4, .int (nI p)), (3, .ref (r + 1)), (0, .ref 137), (1, .int 0), (2, .int (nI P))]) (fun p => vs.length - p) ?_ 0 _ ⟨us, tu, cf, tf, pq, (0, 0, 0, []), pg, 0, Nat.zero_le _, by omega, ⟨DP.begin, hC.far (fun a a1 a2 => (set_far (by omega)).trans (f1 a (by omega))), hpq, fun _ _ => rfl, hR1.far (set_far (by omega)) (set_far (by omega)), hL1.far (fun a a1 a2 a3 => set_far (by omega)), htu, Nat.add_zero _, get_set ((f1 136 (by omega)).trans hT), (set_far (by decide)).trans ((f1 140 (by omega)).trans hp), Q, (set_far (by decide)).trans hQ, hQr⟩, rfl, rfl, fun a a1 a2 a3 a4 a5 a6 => (set_far (by omega)).trans (f1 a a4)⟩
  rintro p H2 ⟨us1, tu1, c, tf1, pq1, x, pg1, bf1, hpv, hbf1, hD, hx1, hxf, f2⟩ ih
  have hA2 := hA.far (H' := H2) (fun a a1 a2 => f2 a (by omega) (by omega) (by omega) (by omega) (by omega) (by omega))
  have hD0 := hD
  obtain ⟨d1, d2, d3, d4, d5, d6, d7, d8, d9, d10, Q2, d11, d12⟩ := hD
  have hle := aloneE_le (vs := vs) (p := p)
  by_cases hps : p < vs.length
  ·
    have hps2 : p < sz := by omega
    have hod := hW.1.2.2.2.1 p hps2
    have hso := hW.1.2.2.2.2.2 _ hod
    have hve : vs[p]? = some (verO kf kl mo pl le al (od p)) := by rw [hvs]; exact vsL_get hps2
    have hvm := hvO _ (List.mem_of_getElem? hve)
    have hpl24 : pl (od p) < 2 ^ 24 := hvm.2.2.2.1
    have hle48 : (le (od p)).getD 0 ≤ 2048 := hvm.2.2.2.2
    refine RQ.blk 2 (pc' := 28) (lv' := [(4, .int (nI p)), (3, .ref (r + 1)), (0, .ref 137), (1, .int 0), (2, .int (nI P))]) (st' := [.ref 137, .int (nI p)]) (H' := _) (kc' := 0) (ks' := 0) rfl ?_
    refine RQ.get (ci := 8) rfl d9 rfl rfl ?_
    refine RQ.get (ci := 10) rfl hA2.1 rfl rfl ?_
    refine RQ.brF rfl rfl rfl (cF_ge p sz) ?_
    refine RQ.blk 1 (pc' := 38) (lv' := [(4, .int (nI p)), (3, .ref (r + 1)), (0, .ref 137), (1, .int 0), (2, .int (nI P))]) (st' := [.ref 137]) (H' := _) (kc' := 0) (ks' := 0) rfl ?_
    refine RQ.get (ci := 8) rfl d9 rfl rfl ?_
    refine RQ.get (ci := 10) rfl hA2.1 rfl rfl ?_
    refine RQ.blk 1 (pc' := 46) (lv' := [(4, .int (nI p)), (3, .ref (r + 1)), (0, .ref 137), (1, .int 0), (2, .int (nI P))]) (st' := [.int (nI p), .ref 82]) (H' := _) (kc' := 0) (ks' := 0) rfl ?_
    refine RQ.ialdN (j := p) rfl hA2.2.2.2.2.2.2.2.1 (by omega) (by omega) ?_
    refine RQ.blk 2 (pc' := 50) (lv' := [(5, .int (nI (od p))), (4, .int (nI p)), (3, .ref (r + 1)), (0, .ref 137), (1, .int 0), (2, .int (nI P))]) (st' := [.int 0]) (H' := _) (kc' := 0) (ks' := 0) rfl ?_
    refine RQ.brF rfl rfl rfl (by decide) ?_
    refine RQ.blk 1 (pc' := 54) (lv' := [(5, .int (nI (od p))), (4, .int (nI p)), (3, .ref (r + 1)), (0, .ref 137), (1, .int 0), (2, .int (nI P))]) (st' := [.ref 137]) (H' := _) (kc' := 0) (ks' := 0) rfl ?_
    refine RQ.get (ci := 8) rfl d9 rfl rfl ?_
    refine RQ.get (ci := 10) rfl hA2.1 rfl rfl ?_
    refine RQ.blk 1 (pc' := 62) (lv' := [(5, .int (nI (od p))), (4, .int (nI p)), (3, .ref (r + 1)), (0, .ref 137), (1, .int 0), (2, .int (nI P))]) (st' := [.int (nI (od p)), .ref 81]) (H' := _) (kc' := 0) (ks' := 0) rfl ?_
    refine RQ.zaldN (j := od p) rfl hA2.2.2.2.2.2.2.1 (by omega) (by omega) ?_
    by_cases hal : al (od p) = true
    · rw [if_pos hal]
      refine RQ.brF rfl rfl rfl (by decide) ?_
      refine RQ.blk 2 (pc' := 68) (lv' := [(5, .int (nI (od p))), (4, .int (nI p)), (3, .ref (r + 1)), (0, .ref 137), (1, .int 0), (2, .int (nI P))]) (st' := [.ref 137, .ref 137]) (H' := _) (kc' := 0) (ks' := 0) rfl ?_
      refine RQ.get (ci := 8) rfl d9 rfl rfl ?_
      refine RQ.get (ci := 10) rfl hA2.1 rfl rfl ?_
      refine RQ.blk 3 (pc' := 79) (lv' := [(5, .int (nI (od p))), (4, .int (nI p)), (3, .ref (r + 1)), (0, .ref 137), (1, .int 0), (2, .int (nI P))]) (st' := [.int (nI (od p) * 41), .ref 76, .ref 137]) (H' := _) (kc' := 0) (ks' := 0) rfl ?_
      rw [show (nI (od p) * 41 : Int32) = nI ((od p) * 41) from pk_mul (od p) 41]
      refine RQ.blk 1 (pc' := 80) (lv' := [(5, .int (nI (od p))), (4, .int (nI p)), (3, .ref (r + 1)), (0, .ref 137), (1, .int 0), (2, .int (nI P))]) (st' := [.ref 137, .int (nI ((od p) * 41)), .ref 76, .ref 137]) (H' := _) (kc' := 0) (ks' := 0) rfl ?_
      refine RQ.get (ci := 8) rfl d9 rfl rfl ?_
      refine RQ.get (ci := 10) rfl hA2.1 rfl rfl ?_
      refine RQ.blk 1 (pc' := 88) (lv' := [(5, .int (nI (od p))), (4, .int (nI p)), (3, .ref (r + 1)), (0, .ref 137), (1, .int 0), (2, .int (nI P))]) (st' := [.int (nI (od p)), .ref 77, .int (nI ((od p) * 41)), .ref 76, .ref 137]) (H' := _) (kc' := 0) (ks' := 0) rfl ?_
      refine RQ.ialdN (j := od p) rfl hA2.2.2.1 (by omega) (by omega) ?_
      refine RQ.blk 1 (pc' := 90) (lv' := [(5, .int (nI (od p))), (4, .int (nI p)), (3, .ref (r + 1)), (0, .ref 137), (1, .int 0), (2, .int (nI P))]) (st' := [.ref 137, .int (nI (kl (od p))), .int (nI ((od p) * 41)), .ref 76, .ref 137]) (H' := _) (kc' := 0) (ks' := 0) rfl ?_
      refine RQ.get (ci := 8) rfl d9 rfl rfl ?_
      refine RQ.get (ci := 10) rfl hA2.1 rfl rfl ?_
      refine RQ.blk 1 (pc' := 98) (lv' := [(5, .int (nI (od p))), (4, .int (nI p)), (3, .ref (r + 1)), (0, .ref 137), (1, .int 0), (2, .int (nI P))]) (st' := [.int (nI (od p)), .ref 78, .int (nI (kl (od p))), .int (nI ((od p) * 41)), .ref 76, .ref 137]) (H' := _) (kc' := 0) (ks' := 0) rfl ?_
      refine RQ.ialdN (j := od p) rfl hA2.2.2.2.1 (by omega) (by omega) ?_
      refine RQ.blk 1 (pc' := 100) (lv' := [(5, .int (nI (od p))), (4, .int (nI p)), (3, .ref (r + 1)), (0, .ref 137), (1, .int 0), (2, .int (nI P))]) (st' := [.ref 137, .int (nI (mo (od p))), .int (nI (kl (od p))), .int (nI ((od p) * 41)), .ref 76, .ref 137]) (H' := _) (kc' := 0) (ks' := 0) rfl ?_
      refine RQ.get (ci := 8) rfl d9 rfl rfl ?_
      refine RQ.get (ci := 10) rfl hA2.1 rfl rfl ?_
      refine RQ.blk 1 (pc' := 108) (lv' := [(5, .int (nI (od p))), (4, .int (nI p)), (3, .ref (r + 1)), (0, .ref 137), (1, .int 0), (2, .int (nI P))]) (st' := [.int (nI (od p)), .ref 79, .int (nI (mo (od p))), .int (nI (kl (od p))), .int (nI ((od p) * 41)), .ref 76, .ref 137]) (H' := _) (kc' := 0) (ks' := 0) rfl ?_
      refine RQ.ialdN (j := od p) rfl hA2.2.2.2.2.1 (by omega) (by omega) ?_
      refine RQ.blk 1 (pc' := 110) (lv' := [(5, .int (nI (od p))), (4, .int (nI p)), (3, .ref (r + 1)), (0, .ref 137), (1, .int 0), (2, .int (nI P))]) (st' := [.ref 137, .int (nI (pl (od p))), .int (nI (mo (od p))), .int (nI (kl (od p))), .int (nI ((od p) * 41)), .ref 76, .ref 137]) (H' := _) (kc' := 0) (ks' := 0) rfl ?_
      refine RQ.get (ci := 8) rfl d9 rfl rfl ?_
      refine RQ.get (ci := 10) rfl hA2.1 rfl rfl ?_
      refine RQ.blk 1 (pc' := 118) (lv' := [(5, .int (nI (od p))), (4, .int (nI p)), (3, .ref (r + 1)), (0, .ref 137), (1, .int 0), (2, .int (nI P))]) (st' := [.int (nI (od p)), .ref 80, .int (nI (pl (od p))), .int (nI (mo (od p))), .int (nI (kl (od p))), .int (nI ((od p) * 41)), .ref 76, .ref 137]) (H' := _) (kc' := 0) (ks' := 0) rfl ?_
      refine RQ.ialdN (j := od p) rfl hA2.2.2.2.2.2.1 (by omega) (by omega) ?_
      refine RQ.callN (st' := []) rfl rfl rfl rfl rfl rfl (args_v [.int (lI (le (od p))), .int (nI (pl (od p))), .int (nI (mo (od p))), .int (nI (kl (od p))), .int (nI ((od p) * 41)), .ref 76] [] rfl rfl (Nat.le_of_ble_eq_true rfl) rfl d9 (Nat.le_of_ble_eq_true rfl)) (rn_emit (a := 75) (na := N * 41) (j := od p * 41) (n := kl (od p)) (m := mo (od p)) (pl := pl (od p)) (l := le (od p)) d9 d10 hA2.2.1 (by omega) (by decide) (by decide) (by have := hso.1; omega) (by have := hso.1; omega) hso.1 hso.2.1 hpl24 hle48) (fun H3 hx3 => ?_)
      obtain ⟨⟨pg3, e1, e2⟩, e3, f3⟩ := hx3
      have hR3 : RunIs H3 r x := d5.far (f3 _ (by omega) (by omega)) (f3 _ (by omega) (by omega))
      have hR4 := hR3.ent
      obtain ⟨rf, rk1, rk2, rk3, rk4⟩ := id hR3
      have hid64 : x.2.2.2.length ≤ 64 := rk4
      refine RQ.blk 2 (pc' := 124) (lv' := [(5, .int (nI (od p))), (4, .int (nI p)), (3, .ref (r + 1)), (0, .ref 137), (1, .int 0), (2, .int (nI P))]) (st' := [.ref (r + 1), .ref (r + 1)]) (H' := _) (kc' := 0) (ks' := 0) rfl ?_
      refine RQ.get (ci := 6) rfl rk1 rfl rfl ?_
      refine RQ.blk 2 (pc' := 129) (lv' := [(5, .int (nI (od p))), (4, .int (nI p)), (3, .ref (r + 1)), (0, .ref 137), (1, .int 0), (2, .int (nI P))]) (st' := [.int (nI x.2.2.1 + 1), .ref (r + 1)]) (H' := _) (kc' := 0) (ks' := 0) rfl ?_
      rw [show (nI x.2.2.1 + 1 : Int32) = nI (x.2.2.1 + 1) from nI_add x.2.2.1 1]
      refine RQ.put (ci := 6) rfl rk1 rfl rfl (Nat.le_of_ble_eq_true rfl) ?_
      have hbf4 : bf1 + (kl (od p) + 10) ≤ 2099 := by have := hso.1; omega
      have hD4 : DrI (H3.set r (kO 6 [.ref (r + 1 + 1), .int (nI x.2.2.2.length), .int (nI x.1), .int (nI x.2.1), .int (nI (x.2.2.1 + 1))])) B lgs fr ff wr tp rs ms mt sq us cf tf bb r lm gm us1 tu1 c tf1 pq1 (x.1, x.2.1, x.2.2.1 + 1, x.2.2.2) pg3 (bf1 + (kl (od p) + 10)) (aloneE (vs.take p) ++ [entV (verO kf kl mo pl le al (od p))]) := ⟨d1.emit hxf e2, d2.far (fun a a1 a2 => (set_far (by omega)).trans (f3 a (by omega) (by omega))), d3, d4, hR4, (d6.far (H' := H3) (fun a a1 a2 a3 => f3 a (by omega) (by omega))).draft ((f3 84 (by decide) (by decide)).trans d11) d12 hrl hR4 (fun a a1 a2 => set_far a1), d7, d8, (set_far (by omega)).trans e3, (set_far (by omega)).trans e1, Q2, (set_far (by omega)).trans ((f3 84 (by decide) (by decide)).trans d11), d12⟩
      rw [← aloneE_T hve hal] at hD4
      have f4 : ∀ a, ¬ (71 ≤ a ∧ a < 74) → a ≠ 83 → a ≠ 86 → a ≠ r → a ≠ r + 1 → ¬ (a = 136 ∨ a = 140) → (H3.set r (kO 6 [.ref (r + 1 + 1), .int (nI x.2.2.2.length), .int (nI x.1), .int (nI x.2.1), .int (nI (x.2.2.1 + 1))]))[a]? = H[a]? := fun a a1 a2 a3 a4 a5 a6 => (set_far a4).trans ((f3 a (by omega) (by omega)).trans (f2 a a1 a2 a3 a4 a5 a6))
      have h136 : (H3.set r (kO 6 [.ref (r + 1 + 1), .int (nI x.2.2.2.length), .int (nI x.1), .int (nI x.2.1), .int (nI (x.2.2.1 + 1))]))[136]? = _ := (set_far (by omega)).trans e3
      have hx4 : (x.1, x.2.1, x.2.2.1 + 1, x.2.2.2).2.1 = (x.1, x.2.1, x.2.2.1 + 1, x.2.2.2).2.2.2.length * 2048 := hxf
      have hx41 : (x.1, x.2.1, x.2.2.1 + 1, x.2.2.2).1 = 0 := hx1
      show RQ _ _ _ _ _ _ (H3.set r (kO 6 [.ref (r + 1 + 1), .int (nI x.2.2.2.length), .int (nI x.1), .int (nI x.2.1), .int (nI (x.2.2.1 + 1))])) _ _ _
      generalize (H3.set r (kO 6 [.ref (r + 1 + 1), .int (nI x.2.2.2.length), .int (nI x.1), .int (nI x.2.1), .int (nI (x.2.2.1 + 1))])) = H4 at hD4 f4 h136 ⊢
      generalize (x.1, x.2.1, x.2.2.1 + 1, x.2.2.2) = x4 at hD4 hx4 hx41
      refine RQ.blk 1 (pc' := 133) (lv' := [(5, .int (nI (od p))), (4, .int (nI p)), (3, .ref (r + 1)), (0, .ref 137), (1, .int 0), (2, .int (nI P))]) (st' := [.ref 137]) (H' := _) (kc' := 0) (ks' := 0) rfl ?_
      refine RQ.get (ci := 8) rfl h136 rfl rfl ?_
      refine RQ.blk 1 (pc' := 139) (lv' := [(5, .int (nI (od p))), (4, .int (nI p)), (3, .ref (r + 1)), (0, .ref 137), (1, .int 0), (2, .int (nI P))]) (st' := [.int 2048, .int (nI (bf1 + (kl (od p) + 10)))]) (H' := _) (kc' := 0) (ks' := 0) rfl ?_
      by_cases c8 : bf1 + (kl (od p) + 10) < 2048
      · refine RQ.brT rfl rfl rfl (cT_lt (bf1 + (kl (od p) + 10)) 2048) ?_
        refine RQ.blk 1 (pc' := 150) (lv' := [(4, .int (nI p + 1)), (5, .int (nI (od p))), (3, .ref (r + 1)), (0, .ref 137), (1, .int 0), (2, .int (nI P))]) (st' := []) (H' := _) (kc' := 0) (ks' := 0) rfl ?_
        rw [show (nI p + 1 : Int32) = nI (p + 1) from nI_add p 1]
        refine RQ.blk 1 (pc' := 25) (lv' := [(4, .int (nI (p + 1))), (5, .int (nI (od p))), (3, .ref (r + 1)), (0, .ref 137), (1, .int 0), (2, .int (nI P))]) (st' := []) (H' := _) (kc' := 0) (ks' := 0) rfl ?_
        refine RQ.pick (a := [(4, .int (nI (p + 1))), (3, .ref (r + 1)), (0, .ref 137), (1, .int 0), (2, .int (nI P))]) [0, 2, 3, 4, 5] [4, 5, 3, 0, 1, 2] rfl rfl (by decide) ?_
        exact ih (p + 1) _ ⟨_, _, _, _, _, _, _, _, by omega, by omega, hD4, hx41, hx4, f4⟩ (by omega)
      · refine RQ.brF rfl rfl rfl (cF_lt (bf1 + (kl (od p) + 10)) 2048) ?_
        refine RQ.blk 2 (pc' := 144) (lv' := [(5, .int (nI (od p))), (4, .int (nI p)), (3, .ref (r + 1)), (0, .ref 137), (1, .int 0), (2, .int (nI P))]) (st' := [.ref (r + 1), .ref 137]) (H' := _) (kc' := 0) (ks' := 0) rfl ?_
        have hleP := aloneE_le (vs := vs) (p := p + 1)
        have q136 := hD4.2.2.2.2.2.2.2.2.1
        have q140 := hD4.2.2.2.2.2.2.2.2.2.1
        refine RQ.callT (st' := []) rfl rfl rfl rfl rfl rfl (args_v [.ref (r + 1)] [] rfl rfl (Nat.le_of_ble_eq_true rfl) rfl q136 (Nat.le_of_ble_eq_true rfl)) (re_pageD (d := d) hD4 hB hbb (by omega) hl30 hi30 hfr0 hrl hr1 hr2 hbf4 (by omega) (by omega) (by have := hx4; omega)) rfl (fun H5 hx5 => ?_) (fun H9 hbad => Or.inr (by obtain ⟨c', tf', z1, z2, ⟨tu', us', z3, z4⟩, z5⟩ := hbad; exact ⟨_, rfl, c', tf', z1, (hM.far (fun q hq => z2 q (by cases e : us (q / 2048) with | true => rfl | false => have := hus2 _ e; omega))).forget, fun q _ hq => z2 q hq, ⟨_, (z5 85 (by decide) (by decide)).trans ((f4 85 (by decide) (by decide) (by decide) (by omega) (by omega) (by decide)).trans hpg)⟩, ⟨_, (z5 140 (by decide) (by decide)).trans q140⟩, ⟨_, (z5 136 (by decide) (by decide)).trans q136⟩, ⟨_, _, _, _, _, _, _, _, z3, z4⟩, hV0.far (fun a a1 a2 => (z5 a (by omega) (by omega)).trans (f4 a (by omega) (by omega) (by omega) (by omega) (by omega) (by omega))), fun a a1 a2 => (z5 a (by omega) (by omega)).trans (f4 a (by omega) (by omega) (by omega) (by omega) (by omega) (by omega))⟩))
        obtain ⟨us5, tu5, c5, tf5, pq5, x5, pg5, hD5, hx51, hx5f, -, f5⟩ := hx5
        refine RQ.blk 1 (pc' := 150) (lv' := [(4, .int (nI p + 1)), (5, .int (nI (od p))), (3, .ref (r + 1)), (0, .ref 137), (1, .int 0), (2, .int (nI P))]) (st' := []) (H' := _) (kc' := 0) (ks' := 0) rfl ?_
        rw [show (nI p + 1 : Int32) = nI (p + 1) from nI_add p 1]
        refine RQ.blk 1 (pc' := 25) (lv' := [(4, .int (nI (p + 1))), (5, .int (nI (od p))), (3, .ref (r + 1)), (0, .ref 137), (1, .int 0), (2, .int (nI P))]) (st' := []) (H' := _) (kc' := 0) (ks' := 0) rfl ?_
        refine RQ.pick (a := [(4, .int (nI (p + 1))), (3, .ref (r + 1)), (0, .ref 137), (1, .int 0), (2, .int (nI P))]) [0, 2, 3, 4, 5] [4, 5, 3, 0, 1, 2] rfl rfl (by decide) ?_
        exact ih (p + 1) _ ⟨_, _, _, _, _, _, _, _, by omega, (by omega), hD5, (hx51.trans hx41), (hx5f (by omega)), (fun a a1 a2 a3 a4 a5 a6 => (f5 a a1 a2 a3 a4 a5 a6).trans (f4 a a1 a2 a3 a4 a5 a6))⟩ (by omega)
    · rw [if_neg hal]
      rw [← aloneE_F hve hal] at hD0
      refine RQ.brT rfl rfl rfl (by decide) ?_
      refine RQ.blk 1 (pc' := 133) (lv' := [(5, .int (nI (od p))), (4, .int (nI p)), (3, .ref (r + 1)), (0, .ref 137), (1, .int 0), (2, .int (nI P))]) (st' := [.ref 137]) (H' := _) (kc' := 0) (ks' := 0) rfl ?_
      refine RQ.get (ci := 8) rfl d9 rfl rfl ?_
      refine RQ.blk 1 (pc' := 139) (lv' := [(5, .int (nI (od p))), (4, .int (nI p)), (3, .ref (r + 1)), (0, .ref 137), (1, .int 0), (2, .int (nI P))]) (st' := [.int 2048, .int (nI bf1)]) (H' := _) (kc' := 0) (ks' := 0) rfl ?_
      by_cases c9 : bf1 < 2048
      · refine RQ.brT rfl rfl rfl (cT_lt (bf1) 2048) ?_
        refine RQ.blk 1 (pc' := 150) (lv' := [(4, .int (nI p + 1)), (5, .int (nI (od p))), (3, .ref (r + 1)), (0, .ref 137), (1, .int 0), (2, .int (nI P))]) (st' := []) (H' := _) (kc' := 0) (ks' := 0) rfl ?_
        rw [show (nI p + 1 : Int32) = nI (p + 1) from nI_add p 1]
        refine RQ.blk 1 (pc' := 25) (lv' := [(4, .int (nI (p + 1))), (5, .int (nI (od p))), (3, .ref (r + 1)), (0, .ref 137), (1, .int 0), (2, .int (nI P))]) (st' := []) (H' := _) (kc' := 0) (ks' := 0) rfl ?_
        refine RQ.pick (a := [(4, .int (nI (p + 1))), (3, .ref (r + 1)), (0, .ref 137), (1, .int 0), (2, .int (nI P))]) [0, 2, 3, 4, 5] [4, 5, 3, 0, 1, 2] rfl rfl (by decide) ?_
        exact ih (p + 1) _ ⟨_, _, _, _, _, _, _, _, by omega, by omega, hD0, hx1, hxf, f2⟩ (by omega)
      · exact absurd hbf1 c9
  ·
    have hps3 : p = vs.length := by omega
    rw [hps3, List.take_of_length_le (Nat.le_refl _)] at hD0 d1 hle
    have hps2 : p = sz := by omega
    refine RQ.blk 2 (pc' := 28) (lv' := [(4, .int (nI p)), (3, .ref (r + 1)), (0, .ref 137), (1, .int 0), (2, .int (nI P))]) (st' := [.ref 137, .int (nI p)]) (H' := _) (kc' := 0) (ks' := 0) rfl ?_
    refine RQ.get (ci := 8) rfl d9 rfl rfl ?_
    refine RQ.get (ci := 10) rfl hA2.1 rfl rfl ?_
    refine RQ.brT rfl rfl rfl (cT_ge p sz) ?_
    refine RQ.blk 2 (pc' := 155) (lv' := [(4, .int (nI p)), (3, .ref (r + 1)), (0, .ref 137), (1, .int 0), (2, .int (nI P))]) (st' := [.ref (r + 1), .ref 137]) (H' := _) (kc' := 0) (ks' := 0) rfl ?_
    refine RQ.callT (st' := []) rfl rfl rfl rfl rfl rfl (args_v [.ref (r + 1)] [] rfl rfl (Nat.le_of_ble_eq_true rfl) rfl d9 (Nat.le_of_ble_eq_true rfl)) (re_pageD (d := d) hD0 hB hbb (by omega) hl30 hi30 hfr0 hrl hr1 hr2 (by omega) hT1 hT2 (by omega)) rfl (fun H5 hx5 => ?_) (fun H9 hbad => Or.inr (by obtain ⟨c', tf', z1, z2, ⟨tu', us', z3, z4⟩, z5⟩ := hbad; exact ⟨_, rfl, c', tf', z1, (hM.far (fun q hq => z2 q (by cases e : us (q / 2048) with | true => rfl | false => have := hus2 _ e; omega))).forget, fun q _ hq => z2 q hq, ⟨_, (z5 85 (by decide) (by decide)).trans ((f2 85 (by decide) (by decide) (by decide) (by omega) (by omega) (by decide)).trans hpg)⟩, ⟨_, (z5 140 (by decide) (by decide)).trans d10⟩, ⟨_, (z5 136 (by decide) (by decide)).trans d9⟩, ⟨_, _, _, _, _, _, _, _, z3, z4⟩, hV0.far (fun a a1 a2 => (z5 a (by omega) (by omega)).trans (f2 a (by omega) (by omega) (by omega) (by omega) (by omega) (by omega))), fun a a1 a2 => (z5 a (by omega) (by omega)).trans (f2 a (by omega) (by omega) (by omega) (by omega) (by omega) (by omega))⟩))
    obtain ⟨us5, tu5, c5, tf5, pq5, x5, pg5, hD5, hx51, -, hx5m, f5⟩ := hx5
    rw [show bf1 - min bf1 2048 = 0 by omega] at hD5
    obtain ⟨y1, y2, y3, y4, y5, y6, y7, y8, y9, y10, Q5, y11, y12⟩ := hD5
    have hby := y1.bytes
    have hid := y5.choose_spec.2.2.2
    have hRO := y1.done (aloneE_ok hvO) hid
    have f6 : ∀ a, ¬ (71 ≤ a ∧ a < 74) → a ≠ 83 → a ≠ 86 → a ≠ r → a ≠ r + 1 → ¬ (a = 136 ∨ a = 140) → H5[a]? = H[a]? := fun a a1 a2 a3 a4 a5 a6 => (f5 a a1 a2 a3 a4 a5 a6).trans (f2 a a1 a2 a3 a4 a5 a6)
    have hx5n : x5.2.2.2.length * 2048 < ((aloneE vs).flatMap encE).length + 2048 := by omega
    have hmem : ∀ b ∈ x5.2.2.2, 2 ≤ b := fun b hb => hus2 b (y1.2.2.2.2.2.1 b hb).2
    obtain ⟨yf5, hY5⟩ : ∃ yf, H5[83]? = some (kO 3 yf) := by obtain ⟨_, _, q1, _⟩ := y6; exact ⟨_, q1.1⟩
    obtain ⟨lgv5, piv5, hYv5, -⟩ := id y6
    refine RQ.blk 1 (pc' := 159) (lv' := [(4, .int (nI p)), (3, .ref (r + 1)), (0, .ref 137), (1, .int 0), (2, .int (nI P))]) (st' := [.ref 137]) (H' := _) (kc' := 0) (ks' := 0) rfl ?_
    refine RQ.get (ci := 8) rfl y9 rfl rfl ?_
    refine RQ.blk 2 (pc' := 164) (lv' := [(4, .int (nI p)), (3, .ref (r + 1)), (0, .ref 137), (1, .int 0), (2, .int (nI P))]) (st' := [.int 0, .int 0, .ref 84]) (H' := _) (kc' := 0) (ks' := 0) rfl ?_
    refine RQ.brT rfl rfl rfl (by decide) ?_
    refine RQ.blk 1 (pc' := 178) (lv' := [(4, .int (nI p)), (3, .ref (r + 1)), (0, .ref 137), (1, .int 0), (2, .int (nI P))]) (st' := [.int 0, .int 0, .ref 84]) (H' := _) (kc' := 0) (ks' := 0) rfl ?_
    refine RQ.callN (st' := []) rfl rfl rfl rfl rfl rfl (args_v [.int 0, .int 0] [] rfl rfl (Nat.le_of_ble_eq_true rfl) rfl hYv5.1 (Nat.le_of_ble_eq_true rfl)) (rn_putDraft (f := 0) (l := 0) y6 hB y11 y12 hrl y5 (by have := hRO.2.1; omega) (Nat.le_refl _) (Nat.zero_le _)) (fun H6 hx6 => ?_)
    obtain ⟨hL6, f7⟩ := hx6
    rw [List.take_zero, List.nil_append, List.drop_zero] at hL6
    obtain ⟨lg6, hY6, hL7⟩ := hL6.pass
    refine RQ.blk 1 (pc' := 182) (lv' := [(4, .int (nI p)), (3, .ref (r + 1)), (0, .ref 137), (1, .int 0), (2, .int (nI P))]) (st' := [.ref 137]) (H' := _) (kc' := 0) (ks' := 0) rfl ?_
    refine RQ.get (ci := 8) rfl ((f7 136 (by decide) (by decide)).trans y9) rfl rfl ?_
    refine RQ.call (v := none) (st' := []) rfl rfl rfl rfl rfl rfl (args_v [] [] rfl rfl (Nat.le_of_ble_eq_true rfl) rfl hY6.1 (Nat.le_of_ble_eq_true rfl)) (rc_passLog hY6 hB) ?_
    have f8 : ∀ a, a ≠ 83 → a ≠ 84 → (H6.set 83 (kO 3 (layF B lgs.length (if wr then 1 else 0) (if wr then tp else 0) wr tp ((if 0 < x5.2.1 then [x5] else []) ++ rs).length ms mt sq tu5 0 0)))[a]? = H5[a]? := fun a a1 a2 => (set_far a1).trans (f7 a a1 a2)
    generalize (H6.set 83 (kO 3 (layF B lgs.length (if wr then 1 else 0) (if wr then tp else 0) wr tp ((if 0 < x5.2.1 then [x5] else []) ++ rs).length ms mt sq tu5 0 0))) = H7 at hL7 f8 ⊢
    have hC7 := y2.far (H' := H7) (fun a a1 a2 => f8 a (by omega) (by omega))
    have hp7 := (f8 85 (by decide) (by decide)).trans ((f6 85 (by decide) (by decide) (by decide) (by omega) (by omega) (by decide)).trans hpg)
    obtain ⟨yf7, hY7⟩ : ∃ yf, H7[83]? = some (kO 3 yf) := by obtain ⟨_, _, q1, _⟩ := hL7; exact ⟨_, q1.1⟩
    have hM7 : Mast c5 P0 fr0 ff0 lgs0 rs0 ms mt sq := hM.far (fun q hq => y1.2.2.2.2.2.2.2 q (fun e => by have := hmem _ e; omega))
    have hms2 := hM.1.1
    have htf7 : mt < 2048 → tf5 ms ≤ mt := fun e => by rw [y4 ms (fun e2 => by have := hmem _ e2; omega)]; exact htf e
    have hrs7 : ∀ x ∈ ((if 0 < x5.2.1 then [x5] else []) ++ rs), x.1 < 256 ∧ x.2.1 < 2 ^ 24 ∧ x.2.2.1 < 65536 ∧ ∀ y ∈ x.2.2.2, y < B := fun x hx => by
      rcases List.mem_append.mp hx with e | e
      · split at e
        · rw [List.mem_singleton.mp e]
          have := hRO.1
          have := hRO.2.1
          have := len_fm (aloneE vs)
          exact ⟨by omega, by omega, by have := aloneE_len (vs := vs); omega, hRO.2.2.2.2.2.1⟩
        · exact absurd e List.not_mem_nil
      · exact hrs x e
    refine RQ.blk 1 (pc' := 189) (lv' := [(4, .int (nI p)), (3, .ref (r + 1)), (0, .ref 137), (1, .int 0), (2, .int (nI P))]) (st' := [.ref 137]) (H' := _) (kc' := 0) (ks' := 0) rfl ?_
    refine RQ.get (ci := 8) rfl ((f8 136 (by decide) (by decide)).trans y9) rfl rfl ?_
    refine RQ.blk 1 (pc' := 193) (lv' := [(4, .int (nI p)), (3, .ref (r + 1)), (0, .ref 137), (1, .int 0), (2, .int (nI P))]) (st' := [.int (nI P), .ref 84]) (H' := _) (kc' := 0) (ks' := 0) rfl ?_
    refine RQ.callT (st' := []) rfl rfl rfl rfl rfl rfl (args_v [.int (nI P)] [] rfl rfl (Nat.le_of_ble_eq_true rfl) rfl hY7 (Nat.le_of_ble_eq_true rfl)) (re_saveM (d := d) hL7 hB hp7 hC7 hbb y3 (by omega) hP (by split <;> omega) (by split <;> omega) hlB hrs7 (hlen x5 hx5n) hM7 htf7 hsq) rfl (fun H8 hx8 => ?_) (fun H9 hbad => Or.inr (by obtain ⟨c', tf', z1, z2, z3, z4, ⟨ms', mt', sq', z5⟩, z6⟩ := hbad; exact ⟨_, rfl, c', tf', z1, z2, fun q hq hu => (z3 q hq).trans (y1.old hu), z4, ⟨_, (z6 140 (by decide) (by decide) (by decide)).trans ((f8 140 (by decide) (by decide)).trans y10)⟩, ⟨_, (z6 136 (by decide) (by decide) (by decide)).trans ((f8 136 (by decide) (by decide)).trans y9)⟩, ⟨_, _, _, _, _, _, _, _, y7, z5⟩, hV0.far (fun a a1 a2 => (z6 a (by omega) (by omega) (by omega)).trans ((f8 a (by omega) (by omega)).trans (f6 a (by omega) (by omega) (by omega) (by omega) (by omega) (by omega)))), fun a a1 a2 => (z6 a (by omega) (by omega) (by omega)).trans ((f8 a (by omega) (by omega)).trans (f6 a (by omega) (by omega) (by omega) (by omega) (by omega) (by omega)))⟩))
    obtain ⟨c8, tf8, pq8, ms8, mt8, sq8, w1, w2, w3, w4, w5, w6, w7, w8, w9, w10⟩ := hx8
    have f10 : ∀ a, ¬ (71 ≤ a ∧ a < 74) → ¬ (83 ≤ a ∧ a < 137) → a ≠ 140 → H8[a]? = H[a]? := fun a a1 a2 a3 => (w10 a a1 (by omega) (by omega) (by omega)).trans ((f8 a (by omega) (by omega)).trans (f6 a (by omega) (by omega) (by omega) (by omega) (by omega) (by omega)))
    have hV8 := hV0.far (H' := H8) (fun a a1 a2 => f10 a (by omega) (by omega) (by omega))
    obtain ⟨vf8, hv8⟩ : ∃ vf, H8[74]? = some (kO 10 vf) := ⟨_, (f10 74 (by decide) (by decide) (by decide)).trans hA.1⟩
    have t8 : H8[136]? = some (kO 8 (tabF lm 0 gm)) := (w10 136 (by decide) (by decide) (by decide) (by decide)).trans ((f8 136 (by decide) (by decide)).trans y9)
    refine RQ.blk 1 (pc' := 197) (lv' := [(4, .int (nI p)), (3, .ref (r + 1)), (0, .ref 137), (1, .int 0), (2, .int (nI P))]) (st' := [.ref 137]) (H' := _) (kc' := 0) (ks' := 0) rfl ?_
    refine RQ.get (ci := 8) rfl t8 rfl rfl ?_
    refine RQ.callN (st' := []) rfl rfl rfl rfl rfl rfl (args_v [] [] rfl rfl (Nat.le_of_ble_eq_true rfl) rfl hv8 (Nat.le_of_ble_eq_true rfl)) (rn_allIn hV8) (fun H9 hx9 => ?_)
    obtain ⟨hV9, f11⟩ := hx9
    obtain ⟨vf9, hv9⟩ : ∃ vf, H9[74]? = some (kO 10 vf) := by obtain ⟨_, _, _, _, _, _, _, _, _, _, _, q1, _, _⟩ := id hV9; exact ⟨_, q1.1⟩
    have t9 := (f11 136 (by decide)).trans t8
    refine RQ.blk 1 (pc' := 204) (lv' := [(4, .int (nI p)), (3, .ref (r + 1)), (0, .ref 137), (1, .int 0), (2, .int (nI P))]) (st' := [.ref 137]) (H' := _) (kc' := 0) (ks' := 0) rfl ?_
    refine RQ.get (ci := 8) rfl t9 rfl rfl ?_
    refine RQ.callN (st' := []) rfl rfl rfl rfl rfl rfl (args_v [] [] rfl rfl (Nat.le_of_ble_eq_true rfl) rfl hv9 (Nat.le_of_ble_eq_true rfl)) (rn_purgeL (pr := pr) (g.far2 (fun a a1 a2 => (f11 a (by omega)).trans (f10 a (by omega) (by omega) (by omega)))) hsm hV9 (fun v hv => by obtain ⟨w, hw, e⟩ := List.mem_map.mp hv; rw [← e]; exact hpr w hw)) (fun HA hxA => ?_)
    obtain ⟨hVA, f12⟩ := hxA
    have f13 : ∀ a, ¬ (74 ≤ a ∧ a < 83) → HA[a]? = H8[a]? := fun a a1 => (f12 a a1).trans (f11 a a1)
    exact RQ.done (c := 0) (s := 0) rfl rfl rfl rfl (Or.inl ⟨_, rfl, x5, c8, tf8, pq8, ms8, mt8, sq8, tu5, hRO.farC (fun q hq => w3 q (by have := hmem _ hq; omega)), hx51.trans hx1, y1.2.2.2.2.1, fun b hb => (y1.2.2.2.2.2.1 b hb).2, hx5n, w1.far (fun a a1 a2 => f13 a (by omega)), w7, w2, fun q hq hn => (w3 q hq).trans (y1.2.2.2.2.2.2.2 q hn), fun j hj hn => (w4 j hj).trans (y4 j hn), w5, w6, y7, w8.imp (fun pg' e => (f13 85 (by decide)).trans e), ⟨_, (f13 140 (by decide)).trans ((w10 140 (by decide) (by decide) (by decide) (by decide)).trans ((f8 140 (by decide) (by decide)).trans y10))⟩, (f13 136 (by decide)).trans t8, ⟨_, w9.far (fun a a1 a2 a3 => f13 a (by omega)), fun b hb => if_pos hb⟩, hVA, fun a a1 a2 => (f13 a (by omega)).trans (f10 a (by omega) (by omega) a2)⟩)
set_option maxRecDepth 20000 in
theorem re_spillA {sc : Nat × (Nat → Int32)} {d P N lm bf gm pr : Nat} {H : aH} {B : Nat} {lgs : List Nat} {fr ff : Nat} {wr : Bool} {tp : Nat} {rs : List aR} {ms mt sq tu : Nat} {us : Nat → Bool} {P0 fr0 ff0 : Nat} {lgs0 : List Nat} {rs0 : List aR} {cf : Nat → Int8} {tf : Nat → Nat} {pq : Option Nat} {bb : Nat} {pg pg8 : Nat → Int8} {vs : List aV} {op : Nat → Bool} {sm : Nat → Nat} (h : LayIs H B lgs fr ff wr tp rs ms mt sq tu us) (hB : B ≤ 128) (hT : H[136]? = some (kO 8 (tabF lm bf gm))) (hp : H[140]? = some (kB 2099 pg)) (hpg : H[85]? = some (kB 2048 pg8)) (hC : ChipAt H B cf tf pq bb 0) (hbb : bb % 2 ^ 32 < 2 ^ 31) (hpq : PQ bb pq) (hB1 : 3 ≤ B) (htu : tu ≤ 128) (hfr0 : ∀ b, b < B → us b = false → usesL lgs rs b = 0) (hus2 : ∀ b, us b = false → 2 ≤ b) (hrl : rs.length < 24) (hV : VersIs H N vs) (hvE : ∀ v ∈ vs, v.2.2.1 < 2 ^ 24 ∧ v.2.2.2.1.getD 0 ≤ 2048) (g : SightAt H op sm) (hsm : ∀ t, t < 8 → sm t < 2 ^ 31) (hpr : ∀ v ∈ vs, v.2.1 ≤ pr) (hT1 : ((vs.map entV).flatMap encE).length ≤ 2048 * freeN us B) (hT2 : ((vs.map entV).flatMap encE).length ≤ 131072) (hP : P < 2 ^ 31) (htp : tp < 65536) (hlB : ∀ x ∈ lgs, x < B) (hrs : ∀ x ∈ rs, x.1 < 256 ∧ x.2.1 < 2 ^ 24 ∧ x.2.2.1 < 65536 ∧ ∀ y ∈ x.2.2.2, y < B) (hlen : ∀ x : aR, x.2.2.2.length * 2048 < ((vs.map entV).flatMap encE).length + 2048 → (encS P (if wr then 1 else 0) (if wr then tp else 0) lgs (if 0 < x.2.1 then [x] else [])).length ≤ 2043) (hM : Mast cf P0 fr0 ff0 lgs0 rs0 ms mt sq) (htf : mt < 2048 → tf ms ≤ mt) (hsq : sq + 1 < 2 ^ 31) : RE sc (d + 4) mr_97 [.ref 137, .int 1, .int (nI P)] H (fun H' => ∃ x c' tf' pq' ms' mt' sq' tu', RunOk c' B x (vs.map entV) ∧ x.1 = 3 ∧ x.2.2.2.Nodup ∧ (∀ b ∈ x.2.2.2, us b = false) ∧ x.2.2.2.length * 2048 < ((vs.map entV).flatMap encE).length + 2048 ∧ ChipAt H' B c' tf' pq' bb 0 ∧ (PQ bb pq') ∧ Mast c' P (if wr then 1 else 0) (if wr then tp else 0) lgs (if 0 < x.2.1 then [x] else []) ms' mt' sq' ∧ (∀ q, 4096 ≤ q → ¬ q / 2048 ∈ x.2.2.2 → c' q = cf q) ∧ (∀ j, 2 ≤ j → ¬ j ∈ x.2.2.2 → tf' j = tf j) ∧ (mt' < 2048 → tf' ms' ≤ mt') ∧ sq' ≤ sq + 1 ∧ tu' ≤ 128 ∧ (∃ pg', H'[85]? = some (kB 2048 pg')) ∧ (∃ pg', H'[140]? = some (kB 2099 pg')) ∧ H'[136]? = some (kO 8 (tabF lm 0 gm)) ∧ (∃ us', LayIs H' B lgs (if wr then 1 else 0) (if wr then tp else 0) wr tp (if 0 < x.2.1 then [x] else []) ms' mt' sq' tu' us' ∧ ∀ b, b < B → us' b = usedB lgs (if 0 < x.2.1 then [x] else []) b) ∧ VersIs H' N ((vs.map toldV).filter (keepS op sm pr (kmV (vs.map toldV)))) ∧ ∀ a, ¬ (71 ≤ a ∧ a < 137) → a ≠ 140 → H'[a]? = H[a]?) (fun H' => ∃ c' tf', ChipDn H' B c' tf' bb ∧ Mast c' P0 fr0 ff0 lgs0 rs0 ms 2048 sq ∧ (∀ q, 4096 ≤ q → us (q / 2048) = true → c' q = cf q) ∧ (∃ pg', H'[85]? = some (kB 2048 pg')) ∧ (∃ pg', H'[140]? = some (kB 2099 pg')) ∧ (∃ bf', H'[136]? = some (kO 8 (tabF lm bf' gm))) ∧ (∃ fr ff rs ms mt sq tu us, tu ≤ 128 ∧ LayIs H' B lgs fr ff wr tp rs ms mt sq tu us) ∧ VersIs H' N vs ∧ ∀ a, ¬ (71 ≤ a ∧ a < 137) → a ≠ 140 → H'[a]? = H[a]?) := by
  obtain ⟨yf, hY0⟩ : ∃ yf, H[83]? = some (kO 3 yf) := by obtain ⟨_, _, q1, _⟩ := h; exact ⟨_, q1.1⟩
  have hl30 : ∀ x ∈ lgs, x < 2 ^ 30 := fun x hx => by have := hlB x hx; omega
  have hi30 : ∀ x ∈ rs, ∀ y ∈ x.2.2.2, y < 2 ^ 30 := fun x hx y hy => by have := (hrs x hx).2.2.2 y hy; omega
  have hV0 := hV
  obtain ⟨kf, kl, mo, pl, le, al, od, sp, sz, ss, ac, hA, hW, hvs⟩ := hV
  have hN := hW.1.1
  have hszN := hW.1.2.1
  have hsz : vs.length = sz := by rw [hvs]; unfold vsL; rw [List.length_map, List.length_range]
  have hvO : ∀ v ∈ vs, 1 ≤ v.1.length ∧ v.1.length ≤ 41 ∧ v.2.1 < 2 ^ 30 ∧ v.2.2.1 < 2 ^ 24 ∧ v.2.2.2.1.getD 0 ≤ 2048 := fun v hv => by
    have h9 := hvE v hv
    rw [hvs] at hv
    obtain ⟨q, hq, e⟩ := List.mem_map.mp hv
    have hq := List.mem_range.mp hq
    have b1 := hW.1.2.2.2.2.2 _ (hW.1.2.2.2.1 q hq)
    have b2 := hW.2.2.2.2.2.2.2.1 q hq
    rw [← e] at h9 ⊢
    exact ⟨by show 1 ≤ (sl kf (od q * 41) (kl (od q))).length; rw [sl_length]; exact b2, by show (sl kf (od q * 41) (kl (od q))).length ≤ 41; rw [sl_length]; exact b1.1, b1.2.1, h9.1, h9.2⟩
  obtain ⟨r, H1, Q, hd1, hQ, hQr, hr1, hr2, hR1, hL1, f1⟩ := rx_draft (sc := sc) (d := d + 2) (l := 3) h hB hrl
  refine RE.of ?_
  refine RQ.blk 1 (pc' := 1) (lv' := [(0, .ref 137), (1, .int 1), (2, .int (nI P))]) (st' := [.ref 137]) (H' := _) (kc' := 0) (ks' := 0) rfl ?_
  refine RQ.get (ci := 8) rfl hT rfl rfl ?_
  refine RQ.blk 1 (pc' := 5) (lv' := [(0, .ref 137), (1, .int 1), (2, .int (nI P))]) (st' := [.int 1, .ref 84]) (H' := _) (kc' := 0) (ks' := 0) rfl ?_
  refine RQ.brF rfl rfl rfl (by decide) ?_
  refine RQ.blk 2 (pc' := 13) (lv' := [(0, .ref 137), (1, .int 1), (2, .int (nI P))]) (st' := [.int 3, .ref 84]) (H' := _) (kc' := 0) (ks' := 0) rfl ?_
  refine RQ.call (v := some (.ref (r + 1))) (st' := []) rfl rfl rfl rfl rfl rfl (args_v [.int 3] [] rfl rfl (Nat.le_of_ble_eq_true rfl) rfl hY0 (Nat.le_of_ble_eq_true rfl)) hd1 ?_
  refine RQ.blk 3 (pc' := 19) (lv' := [(3, .ref (r + 1)), (0, .ref 137), (1, .int 1), (2, .int (nI P))]) (st' := [.int 0, .ref 137]) (H' := _) (kc' := 0) (ks' := 0) rfl ?_
  refine RQ.put (ci := 8) rfl ((f1 136 (by omega)).trans hT) rfl rfl (Nat.le_of_ble_eq_true rfl) ?_
  refine RQ.blk 2 (pc' := 25) (lv' := [(4, .int 0), (3, .ref (r + 1)), (0, .ref 137), (1, .int 1), (2, .int (nI P))]) (st' := []) (H' := _) (kc' := 0) (ks' := 0) rfl ?_
  refine RQ.while (S := Nat) (pc := 25) (fun p H' => ∃ us1 tu1 c tf1 pq1 x pg bf, p ≤ vs.length ∧ bf < 2048 ∧ DrI H' B lgs fr ff wr tp rs ms mt sq us cf tf bb r lm gm us1 tu1 c tf1 pq1 x pg bf ((vs.take p).map entV) ∧ x.1 = 3 ∧ x.2.1 = x.2.2.2.length * 2048 ∧ ∀ a, ¬ (71 ≤ a ∧ a < 74) → a ≠ 83 → a ≠ 86 → a ≠ r → a ≠ r + 1 → ¬ (a = 136 ∨ a = 140) → H'[a]? = H[a]?) (fun p => [(4, .int (nI p)), (3, .ref (r + 1)), (0, .ref 137), (1, .int 1), (2, .int (nI P))]) (fun p => vs.length - p) ?_ 0 _ ⟨us, tu, cf, tf, pq, (3, 0, 0, []), pg, 0, Nat.zero_le _, by omega, ⟨DP.begin, hC.far (fun a a1 a2 => (set_far (by omega)).trans (f1 a (by omega))), hpq, fun _ _ => rfl, hR1.far (set_far (by omega)) (set_far (by omega)), hL1.far (fun a a1 a2 a3 => set_far (by omega)), htu, Nat.add_zero _, get_set ((f1 136 (by omega)).trans hT), (set_far (by decide)).trans ((f1 140 (by omega)).trans hp), Q, (set_far (by decide)).trans hQ, hQr⟩, rfl, rfl, fun a a1 a2 a3 a4 a5 a6 => (set_far (by omega)).trans (f1 a a4)⟩
  rintro p H2 ⟨us1, tu1, c, tf1, pq1, x, pg1, bf1, hpv, hbf1, hD, hx1, hxf, f2⟩ ih
  have hA2 := hA.far (H' := H2) (fun a a1 a2 => f2 a (by omega) (by omega) (by omega) (by omega) (by omega) (by omega))
  have hD0 := hD
  obtain ⟨d1, d2, d3, d4, d5, d6, d7, d8, d9, d10, Q2, d11, d12⟩ := hD
  have hle := mapE_le (vs := vs) (p := p)
  by_cases hps : p < vs.length
  ·
    have hps2 : p < sz := by omega
    have hod := hW.1.2.2.2.1 p hps2
    have hso := hW.1.2.2.2.2.2 _ hod
    have hve : vs[p]? = some (verO kf kl mo pl le al (od p)) := by rw [hvs]; exact vsL_get hps2
    have hvm := hvO _ (List.mem_of_getElem? hve)
    have hpl24 : pl (od p) < 2 ^ 24 := hvm.2.2.2.1
    have hle48 : (le (od p)).getD 0 ≤ 2048 := hvm.2.2.2.2
    refine RQ.blk 2 (pc' := 28) (lv' := [(4, .int (nI p)), (3, .ref (r + 1)), (0, .ref 137), (1, .int 1), (2, .int (nI P))]) (st' := [.ref 137, .int (nI p)]) (H' := _) (kc' := 0) (ks' := 0) rfl ?_
    refine RQ.get (ci := 8) rfl d9 rfl rfl ?_
    refine RQ.get (ci := 10) rfl hA2.1 rfl rfl ?_
    refine RQ.brF rfl rfl rfl (cF_ge p sz) ?_
    refine RQ.blk 1 (pc' := 38) (lv' := [(4, .int (nI p)), (3, .ref (r + 1)), (0, .ref 137), (1, .int 1), (2, .int (nI P))]) (st' := [.ref 137]) (H' := _) (kc' := 0) (ks' := 0) rfl ?_
    refine RQ.get (ci := 8) rfl d9 rfl rfl ?_
    refine RQ.get (ci := 10) rfl hA2.1 rfl rfl ?_
    refine RQ.blk 1 (pc' := 46) (lv' := [(4, .int (nI p)), (3, .ref (r + 1)), (0, .ref 137), (1, .int 1), (2, .int (nI P))]) (st' := [.int (nI p), .ref 82]) (H' := _) (kc' := 0) (ks' := 0) rfl ?_
    refine RQ.ialdN (j := p) rfl hA2.2.2.2.2.2.2.2.1 (by omega) (by omega) ?_
    refine RQ.blk 2 (pc' := 50) (lv' := [(5, .int (nI (od p))), (4, .int (nI p)), (3, .ref (r + 1)), (0, .ref 137), (1, .int 1), (2, .int (nI P))]) (st' := [.int 1]) (H' := _) (kc' := 0) (ks' := 0) rfl ?_
    refine RQ.brT rfl rfl rfl (by decide) ?_
    refine RQ.blk 2 (pc' := 68) (lv' := [(5, .int (nI (od p))), (4, .int (nI p)), (3, .ref (r + 1)), (0, .ref 137), (1, .int 1), (2, .int (nI P))]) (st' := [.ref 137, .ref 137]) (H' := _) (kc' := 0) (ks' := 0) rfl ?_
    refine RQ.get (ci := 8) rfl d9 rfl rfl ?_
    refine RQ.get (ci := 10) rfl hA2.1 rfl rfl ?_
    refine RQ.blk 3 (pc' := 79) (lv' := [(5, .int (nI (od p))), (4, .int (nI p)), (3, .ref (r + 1)), (0, .ref 137), (1, .int 1), (2, .int (nI P))]) (st' := [.int (nI (od p) * 41), .ref 76, .ref 137]) (H' := _) (kc' := 0) (ks' := 0) rfl ?_
    rw [show (nI (od p) * 41 : Int32) = nI ((od p) * 41) from pk_mul (od p) 41]
    refine RQ.blk 1 (pc' := 80) (lv' := [(5, .int (nI (od p))), (4, .int (nI p)), (3, .ref (r + 1)), (0, .ref 137), (1, .int 1), (2, .int (nI P))]) (st' := [.ref 137, .int (nI ((od p) * 41)), .ref 76, .ref 137]) (H' := _) (kc' := 0) (ks' := 0) rfl ?_
    refine RQ.get (ci := 8) rfl d9 rfl rfl ?_
    refine RQ.get (ci := 10) rfl hA2.1 rfl rfl ?_
    refine RQ.blk 1 (pc' := 88) (lv' := [(5, .int (nI (od p))), (4, .int (nI p)), (3, .ref (r + 1)), (0, .ref 137), (1, .int 1), (2, .int (nI P))]) (st' := [.int (nI (od p)), .ref 77, .int (nI ((od p) * 41)), .ref 76, .ref 137]) (H' := _) (kc' := 0) (ks' := 0) rfl ?_
    refine RQ.ialdN (j := od p) rfl hA2.2.2.1 (by omega) (by omega) ?_
    refine RQ.blk 1 (pc' := 90) (lv' := [(5, .int (nI (od p))), (4, .int (nI p)), (3, .ref (r + 1)), (0, .ref 137), (1, .int 1), (2, .int (nI P))]) (st' := [.ref 137, .int (nI (kl (od p))), .int (nI ((od p) * 41)), .ref 76, .ref 137]) (H' := _) (kc' := 0) (ks' := 0) rfl ?_
    refine RQ.get (ci := 8) rfl d9 rfl rfl ?_
    refine RQ.get (ci := 10) rfl hA2.1 rfl rfl ?_
    refine RQ.blk 1 (pc' := 98) (lv' := [(5, .int (nI (od p))), (4, .int (nI p)), (3, .ref (r + 1)), (0, .ref 137), (1, .int 1), (2, .int (nI P))]) (st' := [.int (nI (od p)), .ref 78, .int (nI (kl (od p))), .int (nI ((od p) * 41)), .ref 76, .ref 137]) (H' := _) (kc' := 0) (ks' := 0) rfl ?_
    refine RQ.ialdN (j := od p) rfl hA2.2.2.2.1 (by omega) (by omega) ?_
    refine RQ.blk 1 (pc' := 100) (lv' := [(5, .int (nI (od p))), (4, .int (nI p)), (3, .ref (r + 1)), (0, .ref 137), (1, .int 1), (2, .int (nI P))]) (st' := [.ref 137, .int (nI (mo (od p))), .int (nI (kl (od p))), .int (nI ((od p) * 41)), .ref 76, .ref 137]) (H' := _) (kc' := 0) (ks' := 0) rfl ?_
    refine RQ.get (ci := 8) rfl d9 rfl rfl ?_
    refine RQ.get (ci := 10) rfl hA2.1 rfl rfl ?_
    refine RQ.blk 1 (pc' := 108) (lv' := [(5, .int (nI (od p))), (4, .int (nI p)), (3, .ref (r + 1)), (0, .ref 137), (1, .int 1), (2, .int (nI P))]) (st' := [.int (nI (od p)), .ref 79, .int (nI (mo (od p))), .int (nI (kl (od p))), .int (nI ((od p) * 41)), .ref 76, .ref 137]) (H' := _) (kc' := 0) (ks' := 0) rfl ?_
    refine RQ.ialdN (j := od p) rfl hA2.2.2.2.2.1 (by omega) (by omega) ?_
    refine RQ.blk 1 (pc' := 110) (lv' := [(5, .int (nI (od p))), (4, .int (nI p)), (3, .ref (r + 1)), (0, .ref 137), (1, .int 1), (2, .int (nI P))]) (st' := [.ref 137, .int (nI (pl (od p))), .int (nI (mo (od p))), .int (nI (kl (od p))), .int (nI ((od p) * 41)), .ref 76, .ref 137]) (H' := _) (kc' := 0) (ks' := 0) rfl ?_
    refine RQ.get (ci := 8) rfl d9 rfl rfl ?_
    refine RQ.get (ci := 10) rfl hA2.1 rfl rfl ?_
    refine RQ.blk 1 (pc' := 118) (lv' := [(5, .int (nI (od p))), (4, .int (nI p)), (3, .ref (r + 1)), (0, .ref 137), (1, .int 1), (2, .int (nI P))]) (st' := [.int (nI (od p)), .ref 80, .int (nI (pl (od p))), .int (nI (mo (od p))), .int (nI (kl (od p))), .int (nI ((od p) * 41)), .ref 76, .ref 137]) (H' := _) (kc' := 0) (ks' := 0) rfl ?_
    refine RQ.ialdN (j := od p) rfl hA2.2.2.2.2.2.1 (by omega) (by omega) ?_
    refine RQ.callN (st' := []) rfl rfl rfl rfl rfl rfl (args_v [.int (lI (le (od p))), .int (nI (pl (od p))), .int (nI (mo (od p))), .int (nI (kl (od p))), .int (nI ((od p) * 41)), .ref 76] [] rfl rfl (Nat.le_of_ble_eq_true rfl) rfl d9 (Nat.le_of_ble_eq_true rfl)) (rn_emit (a := 75) (na := N * 41) (j := od p * 41) (n := kl (od p)) (m := mo (od p)) (pl := pl (od p)) (l := le (od p)) d9 d10 hA2.2.1 (by omega) (by decide) (by decide) (by have := hso.1; omega) (by have := hso.1; omega) hso.1 hso.2.1 hpl24 hle48) (fun H3 hx3 => ?_)
    obtain ⟨⟨pg3, e1, e2⟩, e3, f3⟩ := hx3
    have hR3 : RunIs H3 r x := d5.far (f3 _ (by omega) (by omega)) (f3 _ (by omega) (by omega))
    have hR4 := hR3.ent
    obtain ⟨rf, rk1, rk2, rk3, rk4⟩ := id hR3
    have hid64 : x.2.2.2.length ≤ 64 := rk4
    refine RQ.blk 2 (pc' := 124) (lv' := [(5, .int (nI (od p))), (4, .int (nI p)), (3, .ref (r + 1)), (0, .ref 137), (1, .int 1), (2, .int (nI P))]) (st' := [.ref (r + 1), .ref (r + 1)]) (H' := _) (kc' := 0) (ks' := 0) rfl ?_
    refine RQ.get (ci := 6) rfl rk1 rfl rfl ?_
    refine RQ.blk 2 (pc' := 129) (lv' := [(5, .int (nI (od p))), (4, .int (nI p)), (3, .ref (r + 1)), (0, .ref 137), (1, .int 1), (2, .int (nI P))]) (st' := [.int (nI x.2.2.1 + 1), .ref (r + 1)]) (H' := _) (kc' := 0) (ks' := 0) rfl ?_
    rw [show (nI x.2.2.1 + 1 : Int32) = nI (x.2.2.1 + 1) from nI_add x.2.2.1 1]
    refine RQ.put (ci := 6) rfl rk1 rfl rfl (Nat.le_of_ble_eq_true rfl) ?_
    have hbf4 : bf1 + (kl (od p) + 10) ≤ 2099 := by have := hso.1; omega
    have hD4 : DrI (H3.set r (kO 6 [.ref (r + 1 + 1), .int (nI x.2.2.2.length), .int (nI x.1), .int (nI x.2.1), .int (nI (x.2.2.1 + 1))])) B lgs fr ff wr tp rs ms mt sq us cf tf bb r lm gm us1 tu1 c tf1 pq1 (x.1, x.2.1, x.2.2.1 + 1, x.2.2.2) pg3 (bf1 + (kl (od p) + 10)) ((vs.take p).map entV ++ [entV (verO kf kl mo pl le al (od p))]) := ⟨d1.emit hxf e2, d2.far (fun a a1 a2 => (set_far (by omega)).trans (f3 a (by omega) (by omega))), d3, d4, hR4, (d6.far (H' := H3) (fun a a1 a2 a3 => f3 a (by omega) (by omega))).draft ((f3 84 (by decide) (by decide)).trans d11) d12 hrl hR4 (fun a a1 a2 => set_far a1), d7, d8, (set_far (by omega)).trans e3, (set_far (by omega)).trans e1, Q2, (set_far (by omega)).trans ((f3 84 (by decide) (by decide)).trans d11), d12⟩
    rw [← mapE_T hve] at hD4
    have f4 : ∀ a, ¬ (71 ≤ a ∧ a < 74) → a ≠ 83 → a ≠ 86 → a ≠ r → a ≠ r + 1 → ¬ (a = 136 ∨ a = 140) → (H3.set r (kO 6 [.ref (r + 1 + 1), .int (nI x.2.2.2.length), .int (nI x.1), .int (nI x.2.1), .int (nI (x.2.2.1 + 1))]))[a]? = H[a]? := fun a a1 a2 a3 a4 a5 a6 => (set_far a4).trans ((f3 a (by omega) (by omega)).trans (f2 a a1 a2 a3 a4 a5 a6))
    have h136 : (H3.set r (kO 6 [.ref (r + 1 + 1), .int (nI x.2.2.2.length), .int (nI x.1), .int (nI x.2.1), .int (nI (x.2.2.1 + 1))]))[136]? = _ := (set_far (by omega)).trans e3
    have hx4 : (x.1, x.2.1, x.2.2.1 + 1, x.2.2.2).2.1 = (x.1, x.2.1, x.2.2.1 + 1, x.2.2.2).2.2.2.length * 2048 := hxf
    have hx41 : (x.1, x.2.1, x.2.2.1 + 1, x.2.2.2).1 = 3 := hx1
    show RQ _ _ _ _ _ _ (H3.set r (kO 6 [.ref (r + 1 + 1), .int (nI x.2.2.2.length), .int (nI x.1), .int (nI x.2.1), .int (nI (x.2.2.1 + 1))])) _ _ _
    generalize (H3.set r (kO 6 [.ref (r + 1 + 1), .int (nI x.2.2.2.length), .int (nI x.1), .int (nI x.2.1), .int (nI (x.2.2.1 + 1))])) = H4 at hD4 f4 h136 ⊢
    generalize (x.1, x.2.1, x.2.2.1 + 1, x.2.2.2) = x4 at hD4 hx4 hx41
    refine RQ.blk 1 (pc' := 133) (lv' := [(5, .int (nI (od p))), (4, .int (nI p)), (3, .ref (r + 1)), (0, .ref 137), (1, .int 1), (2, .int (nI P))]) (st' := [.ref 137]) (H' := _) (kc' := 0) (ks' := 0) rfl ?_
    refine RQ.get (ci := 8) rfl h136 rfl rfl ?_
    refine RQ.blk 1 (pc' := 139) (lv' := [(5, .int (nI (od p))), (4, .int (nI p)), (3, .ref (r + 1)), (0, .ref 137), (1, .int 1), (2, .int (nI P))]) (st' := [.int 2048, .int (nI (bf1 + (kl (od p) + 10)))]) (H' := _) (kc' := 0) (ks' := 0) rfl ?_
    by_cases c10 : bf1 + (kl (od p) + 10) < 2048
    · refine RQ.brT rfl rfl rfl (cT_lt (bf1 + (kl (od p) + 10)) 2048) ?_
      refine RQ.blk 1 (pc' := 150) (lv' := [(4, .int (nI p + 1)), (5, .int (nI (od p))), (3, .ref (r + 1)), (0, .ref 137), (1, .int 1), (2, .int (nI P))]) (st' := []) (H' := _) (kc' := 0) (ks' := 0) rfl ?_
      rw [show (nI p + 1 : Int32) = nI (p + 1) from nI_add p 1]
      refine RQ.blk 1 (pc' := 25) (lv' := [(4, .int (nI (p + 1))), (5, .int (nI (od p))), (3, .ref (r + 1)), (0, .ref 137), (1, .int 1), (2, .int (nI P))]) (st' := []) (H' := _) (kc' := 0) (ks' := 0) rfl ?_
      refine RQ.pick (a := [(4, .int (nI (p + 1))), (3, .ref (r + 1)), (0, .ref 137), (1, .int 1), (2, .int (nI P))]) [0, 2, 3, 4, 5] [4, 5, 3, 0, 1, 2] rfl rfl (by decide) ?_
      exact ih (p + 1) _ ⟨_, _, _, _, _, _, _, _, by omega, by omega, hD4, hx41, hx4, f4⟩ (by omega)
    · refine RQ.brF rfl rfl rfl (cF_lt (bf1 + (kl (od p) + 10)) 2048) ?_
      refine RQ.blk 2 (pc' := 144) (lv' := [(5, .int (nI (od p))), (4, .int (nI p)), (3, .ref (r + 1)), (0, .ref 137), (1, .int 1), (2, .int (nI P))]) (st' := [.ref (r + 1), .ref 137]) (H' := _) (kc' := 0) (ks' := 0) rfl ?_
      have hleP := mapE_le (vs := vs) (p := p + 1)
      have q136 := hD4.2.2.2.2.2.2.2.2.1
      have q140 := hD4.2.2.2.2.2.2.2.2.2.1
      refine RQ.callT (st' := []) rfl rfl rfl rfl rfl rfl (args_v [.ref (r + 1)] [] rfl rfl (Nat.le_of_ble_eq_true rfl) rfl q136 (Nat.le_of_ble_eq_true rfl)) (re_pageD (d := d) hD4 hB hbb (by omega) hl30 hi30 hfr0 hrl hr1 hr2 hbf4 (by omega) (by omega) (by have := hx4; omega)) rfl (fun H5 hx5 => ?_) (fun H9 hbad => Or.inr (by obtain ⟨c', tf', z1, z2, ⟨tu', us', z3, z4⟩, z5⟩ := hbad; exact ⟨_, rfl, c', tf', z1, (hM.far (fun q hq => z2 q (by cases e : us (q / 2048) with | true => rfl | false => have := hus2 _ e; omega))).forget, fun q _ hq => z2 q hq, ⟨_, (z5 85 (by decide) (by decide)).trans ((f4 85 (by decide) (by decide) (by decide) (by omega) (by omega) (by decide)).trans hpg)⟩, ⟨_, (z5 140 (by decide) (by decide)).trans q140⟩, ⟨_, (z5 136 (by decide) (by decide)).trans q136⟩, ⟨_, _, _, _, _, _, _, _, z3, z4⟩, hV0.far (fun a a1 a2 => (z5 a (by omega) (by omega)).trans (f4 a (by omega) (by omega) (by omega) (by omega) (by omega) (by omega))), fun a a1 a2 => (z5 a (by omega) (by omega)).trans (f4 a (by omega) (by omega) (by omega) (by omega) (by omega) (by omega))⟩))
      obtain ⟨us5, tu5, c5, tf5, pq5, x5, pg5, hD5, hx51, hx5f, -, f5⟩ := hx5
      refine RQ.blk 1 (pc' := 150) (lv' := [(4, .int (nI p + 1)), (5, .int (nI (od p))), (3, .ref (r + 1)), (0, .ref 137), (1, .int 1), (2, .int (nI P))]) (st' := []) (H' := _) (kc' := 0) (ks' := 0) rfl ?_
      rw [show (nI p + 1 : Int32) = nI (p + 1) from nI_add p 1]
      refine RQ.blk 1 (pc' := 25) (lv' := [(4, .int (nI (p + 1))), (5, .int (nI (od p))), (3, .ref (r + 1)), (0, .ref 137), (1, .int 1), (2, .int (nI P))]) (st' := []) (H' := _) (kc' := 0) (ks' := 0) rfl ?_
      refine RQ.pick (a := [(4, .int (nI (p + 1))), (3, .ref (r + 1)), (0, .ref 137), (1, .int 1), (2, .int (nI P))]) [0, 2, 3, 4, 5] [4, 5, 3, 0, 1, 2] rfl rfl (by decide) ?_
      exact ih (p + 1) _ ⟨_, _, _, _, _, _, _, _, by omega, (by omega), hD5, (hx51.trans hx41), (hx5f (by omega)), (fun a a1 a2 a3 a4 a5 a6 => (f5 a a1 a2 a3 a4 a5 a6).trans (f4 a a1 a2 a3 a4 a5 a6))⟩ (by omega)
  ·
    have hps3 : p = vs.length := by omega
    rw [hps3, List.take_of_length_le (Nat.le_refl _)] at hD0 d1 hle
    have hps2 : p = sz := by omega
    refine RQ.blk 2 (pc' := 28) (lv' := [(4, .int (nI p)), (3, .ref (r + 1)), (0, .ref 137), (1, .int 1), (2, .int (nI P))]) (st' := [.ref 137, .int (nI p)]) (H' := _) (kc' := 0) (ks' := 0) rfl ?_
    refine RQ.get (ci := 8) rfl d9 rfl rfl ?_
    refine RQ.get (ci := 10) rfl hA2.1 rfl rfl ?_
    refine RQ.brT rfl rfl rfl (cT_ge p sz) ?_
    refine RQ.blk 2 (pc' := 155) (lv' := [(4, .int (nI p)), (3, .ref (r + 1)), (0, .ref 137), (1, .int 1), (2, .int (nI P))]) (st' := [.ref (r + 1), .ref 137]) (H' := _) (kc' := 0) (ks' := 0) rfl ?_
    refine RQ.callT (st' := []) rfl rfl rfl rfl rfl rfl (args_v [.ref (r + 1)] [] rfl rfl (Nat.le_of_ble_eq_true rfl) rfl d9 (Nat.le_of_ble_eq_true rfl)) (re_pageD (d := d) hD0 hB hbb (by omega) hl30 hi30 hfr0 hrl hr1 hr2 (by omega) hT1 hT2 (by omega)) rfl (fun H5 hx5 => ?_) (fun H9 hbad => Or.inr (by obtain ⟨c', tf', z1, z2, ⟨tu', us', z3, z4⟩, z5⟩ := hbad; exact ⟨_, rfl, c', tf', z1, (hM.far (fun q hq => z2 q (by cases e : us (q / 2048) with | true => rfl | false => have := hus2 _ e; omega))).forget, fun q _ hq => z2 q hq, ⟨_, (z5 85 (by decide) (by decide)).trans ((f2 85 (by decide) (by decide) (by decide) (by omega) (by omega) (by decide)).trans hpg)⟩, ⟨_, (z5 140 (by decide) (by decide)).trans d10⟩, ⟨_, (z5 136 (by decide) (by decide)).trans d9⟩, ⟨_, _, _, _, _, _, _, _, z3, z4⟩, hV0.far (fun a a1 a2 => (z5 a (by omega) (by omega)).trans (f2 a (by omega) (by omega) (by omega) (by omega) (by omega) (by omega))), fun a a1 a2 => (z5 a (by omega) (by omega)).trans (f2 a (by omega) (by omega) (by omega) (by omega) (by omega) (by omega))⟩))
    obtain ⟨us5, tu5, c5, tf5, pq5, x5, pg5, hD5, hx51, -, hx5m, f5⟩ := hx5
    rw [show bf1 - min bf1 2048 = 0 by omega] at hD5
    obtain ⟨y1, y2, y3, y4, y5, y6, y7, y8, y9, y10, Q5, y11, y12⟩ := hD5
    have hby := y1.bytes
    have hid := y5.choose_spec.2.2.2
    have hRO := y1.done (mapE_ok hvO) hid
    have f6 : ∀ a, ¬ (71 ≤ a ∧ a < 74) → a ≠ 83 → a ≠ 86 → a ≠ r → a ≠ r + 1 → ¬ (a = 136 ∨ a = 140) → H5[a]? = H[a]? := fun a a1 a2 a3 a4 a5 a6 => (f5 a a1 a2 a3 a4 a5 a6).trans (f2 a a1 a2 a3 a4 a5 a6)
    have hx5n : x5.2.2.2.length * 2048 < ((vs.map entV).flatMap encE).length + 2048 := by omega
    have hmem : ∀ b ∈ x5.2.2.2, 2 ≤ b := fun b hb => hus2 b (y1.2.2.2.2.2.1 b hb).2
    obtain ⟨yf5, hY5⟩ : ∃ yf, H5[83]? = some (kO 3 yf) := by obtain ⟨_, _, q1, _⟩ := y6; exact ⟨_, q1.1⟩
    obtain ⟨lgv5, piv5, hYv5, -⟩ := id y6
    refine RQ.blk 1 (pc' := 159) (lv' := [(4, .int (nI p)), (3, .ref (r + 1)), (0, .ref 137), (1, .int 1), (2, .int (nI P))]) (st' := [.ref 137]) (H' := _) (kc' := 0) (ks' := 0) rfl ?_
    refine RQ.get (ci := 8) rfl y9 rfl rfl ?_
    refine RQ.blk 2 (pc' := 164) (lv' := [(4, .int (nI p)), (3, .ref (r + 1)), (0, .ref 137), (1, .int 1), (2, .int (nI P))]) (st' := [.int 1, .int 0, .ref 84]) (H' := _) (kc' := 0) (ks' := 0) rfl ?_
    refine RQ.brF rfl rfl rfl (by decide) ?_
    refine RQ.blk 1 (pc' := 168) (lv' := [(4, .int (nI p)), (3, .ref (r + 1)), (0, .ref 137), (1, .int 1), (2, .int (nI P))]) (st' := [.ref 137, .int 0, .ref 84]) (H' := _) (kc' := 0) (ks' := 0) rfl ?_
    refine RQ.get (ci := 8) rfl y9 rfl rfl ?_
    refine RQ.get (ci := 3) rfl hYv5.1 rfl rfl ?_
    refine RQ.blk 1 (pc' := 178) (lv' := [(4, .int (nI p)), (3, .ref (r + 1)), (0, .ref 137), (1, .int 1), (2, .int (nI P))]) (st' := [.int (nI rs.length), .int 0, .ref 84]) (H' := _) (kc' := 0) (ks' := 0) rfl ?_
    refine RQ.callN (st' := []) rfl rfl rfl rfl rfl rfl (args_v [.int (nI rs.length), .int 0] [] rfl rfl (Nat.le_of_ble_eq_true rfl) rfl hYv5.1 (Nat.le_of_ble_eq_true rfl)) (rn_putDraft (f := 0) (l := rs.length) y6 hB y11 y12 hrl y5 (by have := hRO.2.1; omega) (Nat.zero_le _) (Nat.le_refl _)) (fun H6 hx6 => ?_)
    obtain ⟨hL6, f7⟩ := hx6
    rw [List.take_zero, List.nil_append, List.drop_length, List.append_nil] at hL6
    obtain ⟨lg6, hY6, hL7⟩ := hL6.pass
    refine RQ.blk 1 (pc' := 182) (lv' := [(4, .int (nI p)), (3, .ref (r + 1)), (0, .ref 137), (1, .int 1), (2, .int (nI P))]) (st' := [.ref 137]) (H' := _) (kc' := 0) (ks' := 0) rfl ?_
    refine RQ.get (ci := 8) rfl ((f7 136 (by decide) (by decide)).trans y9) rfl rfl ?_
    refine RQ.call (v := none) (st' := []) rfl rfl rfl rfl rfl rfl (args_v [] [] rfl rfl (Nat.le_of_ble_eq_true rfl) rfl hY6.1 (Nat.le_of_ble_eq_true rfl)) (rc_passLog hY6 hB) ?_
    have f8 : ∀ a, a ≠ 83 → a ≠ 84 → (H6.set 83 (kO 3 (layF B lgs.length (if wr then 1 else 0) (if wr then tp else 0) wr tp (if 0 < x5.2.1 then [x5] else []).length ms mt sq tu5 0 0)))[a]? = H5[a]? := fun a a1 a2 => (set_far a1).trans (f7 a a1 a2)
    generalize (H6.set 83 (kO 3 (layF B lgs.length (if wr then 1 else 0) (if wr then tp else 0) wr tp (if 0 < x5.2.1 then [x5] else []).length ms mt sq tu5 0 0))) = H7 at hL7 f8 ⊢
    have hC7 := y2.far (H' := H7) (fun a a1 a2 => f8 a (by omega) (by omega))
    have hp7 := (f8 85 (by decide) (by decide)).trans ((f6 85 (by decide) (by decide) (by decide) (by omega) (by omega) (by decide)).trans hpg)
    obtain ⟨yf7, hY7⟩ : ∃ yf, H7[83]? = some (kO 3 yf) := by obtain ⟨_, _, q1, _⟩ := hL7; exact ⟨_, q1.1⟩
    have hM7 : Mast c5 P0 fr0 ff0 lgs0 rs0 ms mt sq := hM.far (fun q hq => y1.2.2.2.2.2.2.2 q (fun e => by have := hmem _ e; omega))
    have hms2 := hM.1.1
    have htf7 : mt < 2048 → tf5 ms ≤ mt := fun e => by rw [y4 ms (fun e2 => by have := hmem _ e2; omega)]; exact htf e
    have hrs7 : ∀ x ∈ (if 0 < x5.2.1 then [x5] else []), x.1 < 256 ∧ x.2.1 < 2 ^ 24 ∧ x.2.2.1 < 65536 ∧ ∀ y ∈ x.2.2.2, y < B := fun x hx => by
      have e := hx
      split at e
      · rw [List.mem_singleton.mp e]
        have := hRO.1
        have := hRO.2.1
        have := len_fm (vs.map entV)
        exact ⟨by omega, by omega, by have := mapE_len (vs := vs); omega, hRO.2.2.2.2.2.1⟩
      · exact absurd e List.not_mem_nil

    refine RQ.blk 1 (pc' := 189) (lv' := [(4, .int (nI p)), (3, .ref (r + 1)), (0, .ref 137), (1, .int 1), (2, .int (nI P))]) (st' := [.ref 137]) (H' := _) (kc' := 0) (ks' := 0) rfl ?_
    refine RQ.get (ci := 8) rfl ((f8 136 (by decide) (by decide)).trans y9) rfl rfl ?_
    refine RQ.blk 1 (pc' := 193) (lv' := [(4, .int (nI p)), (3, .ref (r + 1)), (0, .ref 137), (1, .int 1), (2, .int (nI P))]) (st' := [.int (nI P), .ref 84]) (H' := _) (kc' := 0) (ks' := 0) rfl ?_
    refine RQ.callT (st' := []) rfl rfl rfl rfl rfl rfl (args_v [.int (nI P)] [] rfl rfl (Nat.le_of_ble_eq_true rfl) rfl hY7 (Nat.le_of_ble_eq_true rfl)) (re_saveM (d := d) hL7 hB hp7 hC7 hbb y3 (by omega) hP (by split <;> omega) (by split <;> omega) hlB hrs7 (hlen x5 hx5n) hM7 htf7 hsq) rfl (fun H8 hx8 => ?_) (fun H9 hbad => Or.inr (by obtain ⟨c', tf', z1, z2, z3, z4, ⟨ms', mt', sq', z5⟩, z6⟩ := hbad; exact ⟨_, rfl, c', tf', z1, z2, fun q hq hu => (z3 q hq).trans (y1.old hu), z4, ⟨_, (z6 140 (by decide) (by decide) (by decide)).trans ((f8 140 (by decide) (by decide)).trans y10)⟩, ⟨_, (z6 136 (by decide) (by decide) (by decide)).trans ((f8 136 (by decide) (by decide)).trans y9)⟩, ⟨_, _, _, _, _, _, _, _, y7, z5⟩, hV0.far (fun a a1 a2 => (z6 a (by omega) (by omega) (by omega)).trans ((f8 a (by omega) (by omega)).trans (f6 a (by omega) (by omega) (by omega) (by omega) (by omega) (by omega)))), fun a a1 a2 => (z6 a (by omega) (by omega) (by omega)).trans ((f8 a (by omega) (by omega)).trans (f6 a (by omega) (by omega) (by omega) (by omega) (by omega) (by omega)))⟩))
    obtain ⟨c8, tf8, pq8, ms8, mt8, sq8, w1, w2, w3, w4, w5, w6, w7, w8, w9, w10⟩ := hx8
    have f10 : ∀ a, ¬ (71 ≤ a ∧ a < 74) → ¬ (83 ≤ a ∧ a < 137) → a ≠ 140 → H8[a]? = H[a]? := fun a a1 a2 a3 => (w10 a a1 (by omega) (by omega) (by omega)).trans ((f8 a (by omega) (by omega)).trans (f6 a (by omega) (by omega) (by omega) (by omega) (by omega) (by omega)))
    have hV8 := hV0.far (H' := H8) (fun a a1 a2 => f10 a (by omega) (by omega) (by omega))
    obtain ⟨vf8, hv8⟩ : ∃ vf, H8[74]? = some (kO 10 vf) := ⟨_, (f10 74 (by decide) (by decide) (by decide)).trans hA.1⟩
    have t8 : H8[136]? = some (kO 8 (tabF lm 0 gm)) := (w10 136 (by decide) (by decide) (by decide) (by decide)).trans ((f8 136 (by decide) (by decide)).trans y9)
    refine RQ.blk 1 (pc' := 197) (lv' := [(4, .int (nI p)), (3, .ref (r + 1)), (0, .ref 137), (1, .int 1), (2, .int (nI P))]) (st' := [.ref 137]) (H' := _) (kc' := 0) (ks' := 0) rfl ?_
    refine RQ.get (ci := 8) rfl t8 rfl rfl ?_
    refine RQ.callN (st' := []) rfl rfl rfl rfl rfl rfl (args_v [] [] rfl rfl (Nat.le_of_ble_eq_true rfl) rfl hv8 (Nat.le_of_ble_eq_true rfl)) (rn_allIn hV8) (fun H9 hx9 => ?_)
    obtain ⟨hV9, f11⟩ := hx9
    obtain ⟨vf9, hv9⟩ : ∃ vf, H9[74]? = some (kO 10 vf) := by obtain ⟨_, _, _, _, _, _, _, _, _, _, _, q1, _, _⟩ := id hV9; exact ⟨_, q1.1⟩
    have t9 := (f11 136 (by decide)).trans t8
    refine RQ.blk 1 (pc' := 204) (lv' := [(4, .int (nI p)), (3, .ref (r + 1)), (0, .ref 137), (1, .int 1), (2, .int (nI P))]) (st' := [.ref 137]) (H' := _) (kc' := 0) (ks' := 0) rfl ?_
    refine RQ.get (ci := 8) rfl t9 rfl rfl ?_
    refine RQ.callN (st' := []) rfl rfl rfl rfl rfl rfl (args_v [] [] rfl rfl (Nat.le_of_ble_eq_true rfl) rfl hv9 (Nat.le_of_ble_eq_true rfl)) (rn_purgeL (pr := pr) (g.far2 (fun a a1 a2 => (f11 a (by omega)).trans (f10 a (by omega) (by omega) (by omega)))) hsm hV9 (fun v hv => by obtain ⟨w, hw, e⟩ := List.mem_map.mp hv; rw [← e]; exact hpr w hw)) (fun HA hxA => ?_)
    obtain ⟨hVA, f12⟩ := hxA
    have f13 : ∀ a, ¬ (74 ≤ a ∧ a < 83) → HA[a]? = H8[a]? := fun a a1 => (f12 a a1).trans (f11 a a1)
    exact RQ.done (c := 0) (s := 0) rfl rfl rfl rfl (Or.inl ⟨_, rfl, x5, c8, tf8, pq8, ms8, mt8, sq8, tu5, hRO.farC (fun q hq => w3 q (by have := hmem _ hq; omega)), hx51.trans hx1, y1.2.2.2.2.1, fun b hb => (y1.2.2.2.2.2.1 b hb).2, hx5n, w1.far (fun a a1 a2 => f13 a (by omega)), w7, w2, fun q hq hn => (w3 q hq).trans (y1.2.2.2.2.2.2.2 q hn), fun j hj hn => (w4 j hj).trans (y4 j hn), w5, w6, y7, w8.imp (fun pg' e => (f13 85 (by decide)).trans e), ⟨_, (f13 140 (by decide)).trans ((w10 140 (by decide) (by decide) (by decide) (by decide)).trans ((f8 140 (by decide) (by decide)).trans y10))⟩, (f13 136 (by decide)).trans t8, ⟨_, w9.far (fun a a1 a2 a3 => f13 a (by omega)), fun b hb => if_pos hb⟩, hVA, fun a a1 a2 => (f13 a (by omega)).trans (f10 a (by omega) (by omega) a2)⟩)
