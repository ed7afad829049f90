/-! ===== tables are merged; class; written by wip/gen/merge.py ===== -/
theorem kQ_inj {t n : Nat} {f g : Nat → Option Nat} (h : some (kQ t n f) = some (kQ t n g)) : f = g := by
  have this := Option.some.inj h
  injection this with this
  injection this with this
  injection this with this
  injection this with this
  injection this with this
  exact (Prod.mk.inj (Prod.mk.inj this).2).2
theorem DrI.lm {H H' : aH} {B : Nat} {lgs : List Nat} {fr ff : Nat} {wr : Bool} {tp : Nat} {rs : List aR} {ms mt sq : Nat} {us : Nat → Bool} {cf : Nat → Int8} {tf : Nat → Nat} {bb r lm gm : Nat} {lm' : Nat} {us1 : Nat → Bool} {tu1 : Nat} {c : Nat → Int8} {tf1 : Nat → Nat} {pq1 : Option Nat} {x : aR} {pg : Nat → Int8} {bf : Nat} {es : List aT} (h : DrI H B lgs fr ff wr tp rs ms mt sq us cf tf bb r lm gm us1 tu1 c tf1 pq1 x pg bf es) (hr : 88 ≤ r ∧ r < 135) (hs : ∀ a, 71 ≤ a → a < 136 → ¬ (74 ≤ a ∧ a < 83) → a ≠ 85 → H'[a]? = H[a]?) (h140 : H'[140]? = H[140]?) (h136 : H'[136]? = some (kO 8 (tabF lm' bf gm))) : DrI H' B lgs fr ff wr tp rs ms mt sq us cf tf bb r lm' gm us1 tu1 c tf1 pq1 x pg bf es := by
  obtain ⟨h1, h2, h3, h4, h5, h6, h7, h8, h9, h10, Q, h11, h12⟩ := h
  exact ⟨h1, h2.far (fun a a1 a2 => hs a (by omega) (by omega) (by omega) (by omega)), h3, h4, h5.far (hs _ (by omega) (by omega) (by omega) (by omega)) (hs _ (by omega) (by omega) (by omega) (by omega)), h6.far (fun a a1 a2 a3 => hs a (by omega) (by omega) (by omega) a3), h7, h8, h136, h140.trans h10, Q, (hs _ (by omega) (by omega) (by omega) (by omega)).trans h11, h12⟩
/-- a merge under way: where each cursor stands; the entry before: its key, its moment; what was given out -/
abbrev aMg : Type := (Nat → Nat) × List Nat × Nat × List aT
def mgHd (ess : Nat → List aT) (ix : Nat → Nat) (c : Nat) : Option aT := (ess c)[ix c]?
def mgKeep (vs : List aV) (wh : Bool) (lk : List Nat) (lm : Nat) (e : aT) : Bool := (tellsV vs e && !(decide (lk = e.1) && decide (lm = e.2.1))) || (!wh && (!decide (lk = e.1) && hidesV vs e))
def mgStep (vs : List aV) (wh : Bool) (ess : Nat → List aT) (f n : Nat) (s : aMg) : aMg :=
  match leastN (mgHd ess s.1) f n with
  | none => s
  | some p => (va_up s.1 p.1 (s.1 p.1 + 1), p.2.1, p.2.2.1, if mgKeep vs wh s.2.1 s.2.2.1 p.2 = true then s.2.2.2 ++ [p.2] else s.2.2.2)
def mgRun (vs : List aV) (wh : Bool) (ess : Nat → List aT) (f n : Nat) (s : aMg) : Nat → aMg
  | 0 => s
  | i + 1 => mgStep vs wh ess f n (mgRun vs wh ess f n s i)
theorem mgRun_end {vs : List aV} {wh : Bool} {ess : Nat → List aT} {f n : Nat} {s : aMg} {i : Nat} (h : leastN (mgHd ess (mgRun vs wh ess f n s i).1) f n = none) : ∀ k, mgRun vs wh ess f n s (i + k) = mgRun vs wh ess f n s i
  | 0 => rfl
  | k + 1 => by
    show mgStep vs wh ess f n (mgRun vs wh ess f n s (i + k)) = _
    rw [mgRun_end h k, mgStep, h]
set_option maxRecDepth 20000 in
theorem mg_exit {sc : Nat × (Nat → Int32)} {d P f en lev by7 : Nat} {H : aH} {P0 fr0 ff0 : Nat} {lgs0 : List Nat} {rs0 : List aR} {B : Nat} {lgs : List Nat} {fr ff : Nat} {wr : Bool} {tp : Nat} {rs : List aR} {ms mt sq : Nat} {us : Nat → Bool} {cf : Nat → Int8} {tf : Nat → Nat} {bb r lm gm : Nat} {us1 : Nat → Bool} {tu1 : Nat} {c : Nat → Int8} {tf1 : Nat → Nat} {pq1 : Option Nat} {x : aR} {pg : Nat → Int8} {bf : Nat} {es : List aT} {pg8 : Nat → Int8} (hD0 : DrI H B lgs fr ff wr tp rs ms mt sq us cf tf bb r lm gm us1 tu1 c tf1 pq1 x pg bf es) (hB : B ≤ 128) (hbb : bb % 2 ^ 32 < 2 ^ 31) (hB1 : 3 ≤ B) (hfr0 : ∀ b, b < B → us b = false → usesL lgs rs b = 0) (hus2 : ∀ b, us b = false → 2 ≤ b) (hrl : rs.length < 24) (hP : P < 2 ^ 31) (hfr : fr < 256) (hff : ff < 65536) (hlB : ∀ x ∈ lgs, x < B) (hrs : ∀ x ∈ rs, x.1 < 256 ∧ x.2.1 < 2 ^ 24 ∧ x.2.2.1 < 65536 ∧ ∀ y ∈ x.2.2.2, y < B) (hM : Mast cf P0 fr0 ff0 lgs0 rs0 ms mt sq) (htf : mt < 2048 → tf ms ≤ mt) (hsq : sq + 1 < 2 ^ 31) (hfe : f ≤ en) (her : en ≤ rs.length) (hlv : lev < 256) (hpg : H[85]? = some (kB 2048 pg8)) (hr1 : 88 ≤ r) (hr2 : r < 135) (hbf : bf < 2048) (hT1 : (es.flatMap encE).length ≤ 2048 * freeN us B) (hT2 : (es.flatMap encE).length ≤ 131072) (hEs : ∀ e ∈ es, EOk e) (hel : es.length < 65536) (hx1 : x.1 = lev) (hxf : x.2.1 = x.2.2.2.length * 2048) (hb7 : by7 < 2 ^ 31) (hlm0 : lm < 2 ^ 30) (hgr0 : (es.flatMap encE).length ≤ by7) (hlen : ∀ x : aR, x.2.2.2.length * 2048 < (es.flatMap encE).length + 2048 → (encS P fr ff lgs (rs.take f ++ (if 0 < x.2.1 then [x] else []) ++ rs.drop en)).length ≤ 2043) : RQ sc (d + 4) mr_120 294 [(0, .ref 137), (1, .int (nI f)), (2, .int (nI en)), (4, .int (nI P)), (6, .ref (r + 1)), (7, .int (nI by7))] [] H 0 0 (EQ (fun H' => (∃ x c' tf' pq' ms' mt' sq' tu' lm', lm' < 2 ^ 30 ∧ RunOk c' B x es ∧ x.1 = lev ∧ x.2.2.2.Nodup ∧ (∀ b ∈ x.2.2.2, us b = false) ∧ x.2.2.2.length * 2048 < (es.flatMap encE).length + 2048 ∧ ChipAt H' B c' tf' pq' bb 0 ∧ (PQ bb pq') ∧ Mast c' P fr ff lgs (rs.take f ++ (if 0 < x.2.1 then [x] else []) ++ rs.drop en) ms' mt' sq' ∧ (∀ q, 4096 ≤ q → ¬ q / 2048 ∈ x.2.2.2 → c' q = cf q) ∧ (∀ j, 2 ≤ j → ¬ j ∈ x.2.2.2 → tf' j = tf j) ∧ (mt' < 2048 → tf' ms' ≤ mt') ∧ sq' ≤ sq + 1 ∧ tu' ≤ 128 ∧ (∃ pg', H'[85]? = some (kB 2048 pg')) ∧ (∃ pg', H'[140]? = some (kB 2099 pg')) ∧ H'[136]? = some (kO 8 (tabF lm' 0 gm)) ∧ (∃ us', LayIs H' B lgs fr ff wr tp (rs.take f ++ (if 0 < x.2.1 then [x] else []) ++ rs.drop en) ms' mt' sq' tu' us' ∧ ∀ b, b < B → us' b = usedB lgs (rs.take f ++ (if 0 < x.2.1 then [x] else []) ++ rs.drop en) b)) ∧ ∀ a, ¬ (71 ≤ a ∧ a < 74) → ¬ (83 ≤ a ∧ a < 137) → a ≠ 140 → H'[a]? = H[a]?) (fun H' => (∃ c' tf', ChipDn H' B c' tf' bb ∧ Mast c' P0 fr0 ff0 lgs0 rs0 ms 2048 sq ∧ (∀ q, 4096 ≤ q → us (q / 2048) = true → c' q = cf q) ∧ (∃ pg', H'[85]? = some (kB 2048 pg')) ∧ (∃ pg', H'[140]? = some (kB 2099 pg')) ∧ (∃ lm' bf', lm' < 2 ^ 30 ∧ H'[136]? = some (kO 8 (tabF lm' bf' gm))) ∧ (∃ fr ff rs ms mt sq tu us, tu ≤ 128 ∧ LayIs H' B lgs fr ff wr tp rs ms mt sq tu us)) ∧ ∀ a, ¬ (71 ≤ a ∧ a < 74) → ¬ (83 ≤ a ∧ a < 137) → a ≠ 140 → H'[a]? = H[a]?)) := by
  have hl30 : ∀ x ∈ lgs, x < 2 ^ 30 := fun x hx => by have := hlB x hx; omega
  have hi30 : ∀ x ∈ rs, ∀ y ∈ x.2.2.2, y < 2 ^ 30 := fun x hx y hy => by have := (hrs x hx).2.2.2 y hy; omega
  obtain ⟨d1, d2, d3, d4, d5, d6, d7, d8, d9, d10, Q2, d11, d12⟩ := id hD0
  refine RQ.blk 2 (pc' := 297) (lv' := [(0, .ref 137), (1, .int (nI f)), (2, .int (nI en)), (4, .int (nI P)), (6, .ref (r + 1)), (7, .int (nI by7))]) (st' := [.ref (r + 1), .ref 137]) (H' := _) (kc' := 0) (ks' := 0) rfl ?_
  refine RQ.callT (st' := []) rfl rfl rfl rfl rfl rfl (args_v [.ref (r + 1)] [] rfl rfl (Nat.le_of_ble_eq_true rfl) rfl d9 (Nat.le_of_ble_eq_true rfl)) (re_pageD (d := d) hD0 hB hbb (by omega) hl30 hi30 hfr0 hrl hr1 hr2 (by omega) hT1 hT2 (by omega)) rfl (fun H5 hx5 => ?_) (fun H9 hbad => Or.inr (by obtain ⟨c', tf', z1, z2, ⟨tu', us', z3, z4⟩, z5⟩ := hbad; exact ⟨_, rfl, ⟨c', tf', z1, (hM.far (fun q hq => z2 q (by cases e : us (q / 2048) with | true => rfl | false => have := hus2 _ e; omega))).forget, fun q _ hq => z2 q hq, ⟨_, (z5 85 (by decide) (by decide)).trans hpg⟩, ⟨_, (z5 140 (by decide) (by decide)).trans d10⟩, ⟨_, _, hlm0, (z5 136 (by decide) (by decide)).trans d9⟩, ⟨_, _, _, _, _, _, _, _, z3, z4⟩⟩, fun a a1 a2 a3 => z5 a (by omega) (by omega)⟩))
  obtain ⟨us5, tu5, c5, tf5, pq5, x5, pg5, hD5, hx51, -, hx5m, f5⟩ := hx5
  rw [show bf - min bf 2048 = 0 by omega] at hD5
  obtain ⟨y1, y2, y3, y4, y5, y6, y7, y8, y9, y10, Q5, y11, y12⟩ := hD5
  have hby := y1.bytes
  have hid := y5.choose_spec.2.2.2
  have hRO := y1.done hEs hid
  have hx5n : x5.2.2.2.length * 2048 < (es.flatMap encE).length + 2048 := by omega
  have hmem : ∀ b ∈ x5.2.2.2, 2 ≤ b := fun b hb => hus2 b (y1.2.2.2.2.2.1 b hb).2
  obtain ⟨xf, rk1, rk2, rk3, rk4⟩ := id y5
  refine RQ.blk 2 (pc' := 302) (lv' := [(0, .ref 137), (1, .int (nI f)), (2, .int (nI en)), (4, .int (nI P)), (6, .ref (r + 1)), (7, .int (nI by7))]) (st' := [.ref 137, .ref 137]) (H' := _) (kc' := 0) (ks' := 0) rfl ?_
  refine RQ.get (ci := 8) rfl y9 rfl rfl ?_
  refine RQ.blk 1 (pc' := 307) (lv' := [(0, .ref 137), (1, .int (nI f)), (2, .int (nI en)), (4, .int (nI P)), (6, .ref (r + 1)), (7, .int (nI by7))]) (st' := [.ref (r + 1), .int (nI gm), .ref 137]) (H' := _) (kc' := 0) (ks' := 0) rfl ?_
  refine RQ.get (ci := 6) rfl rk1 rfl rfl ?_
  refine RQ.blk 1 (pc' := 312) (lv' := [(0, .ref 137), (1, .int (nI f)), (2, .int (nI en)), (4, .int (nI P)), (6, .ref (r + 1)), (7, .int (nI by7))]) (st' := [.int (nI by7), .int (nI x5.2.1), .int (nI gm), .ref 137]) (H' := _) (kc' := 0) (ks' := 0) rfl ?_
  refine RQ.brT rfl rfl rfl (cT_le x5.2.1 by7) ?_
  refine RQ.blk 2 (pc' := 321) (lv' := [(0, .ref 137), (1, .int (nI f)), (2, .int (nI en)), (4, .int (nI P)), (6, .ref (r + 1)), (7, .int (nI by7))]) (st' := [.int (nI gm + 0), .ref 137]) (H' := _) (kc' := 0) (ks' := 0) rfl ?_
  rw [show (nI gm + 0 : Int32) = nI (gm + 0) from nI_add gm 0]
  refine RQ.put (ci := 8) rfl y9 rfl rfl (Nat.le_of_ble_eq_true rfl) ?_
  show RQ _ _ _ _ _ _ (H5.set 136 (kO 8 (tabF lm 0 (gm + 0)))) _ _ _
  have g6 : ∀ a, a ≠ 136 → (H5.set 136 (kO 8 (tabF lm 0 (gm + 0))))[a]? = H5[a]? := fun a a1 => set_far a1
  have t6 : (H5.set 136 (kO 8 (tabF lm 0 (gm + 0))))[136]? = _ := get_set y9
  generalize (H5.set 136 (kO 8 (tabF lm 0 (gm + 0)))) = H6 at g6 t6 ⊢
  have y6' := y6.far (H' := H6) (fun a a1 a2 a3 => g6 a (by omega))
  have y5' : RunIs H6 r x5 := y5.far (g6 _ (by omega)) (g6 _ (by omega))
  have y11' := (g6 84 (by decide)).trans y11
  obtain ⟨yf5, hY5⟩ : ∃ yf, H6[83]? = some (kO 3 yf) := by obtain ⟨_, _, q1, _⟩ := y6'; exact ⟨_, q1.1⟩
  refine RQ.blk 1 (pc' := 325) (lv' := [(0, .ref 137), (1, .int (nI f)), (2, .int (nI en)), (4, .int (nI P)), (6, .ref (r + 1)), (7, .int (nI by7))]) (st' := [.ref 137]) (H' := _) (kc' := 0) (ks' := 0) rfl ?_
  refine RQ.get (ci := 8) rfl t6 rfl rfl ?_
  refine RQ.blk 2 (pc' := 330) (lv' := [(0, .ref 137), (1, .int (nI f)), (2, .int (nI en)), (4, .int (nI P)), (6, .ref (r + 1)), (7, .int (nI by7))]) (st' := [.int (nI en), .int (nI f), .ref 84]) (H' := _) (kc' := 0) (ks' := 0) rfl ?_
  refine RQ.callN (st' := []) rfl rfl rfl rfl rfl rfl (args_v [.int (nI en), .int (nI f)] [] rfl rfl (Nat.le_of_ble_eq_true rfl) rfl hY5 (Nat.le_of_ble_eq_true rfl)) (rn_putDraft (f := f) (l := en) y6' hB y11' y12 hrl y5' (by omega) hfe her) (fun H7 hx7 => ?_)
  obtain ⟨hL7, f7⟩ := hx7
  have f8 : ∀ a, ¬ (71 ≤ a ∧ a < 74) → ¬ (83 ≤ a ∧ a < 137 ∧ a ≠ 85) → a ≠ 140 → H7[a]? = H[a]? := fun a a1 a2 a3 => (f7 a (by omega) (by omega)).trans ((g6 a (by omega)).trans (f5 a a1 (by omega) (by omega) (by omega) (by omega) (by omega)))
  have hC7 := y2.far (H' := H7) (fun a a1 a2 => (f7 a (by omega) (by omega)).trans (g6 a (by omega)))
  have hp7 := (f8 85 (by decide) (by decide) (by decide)).trans hpg
  obtain ⟨yf7, hY7⟩ : ∃ yf, H7[83]? = some (kO 3 yf) := by obtain ⟨_, _, q1, _⟩ := hL7; exact ⟨_, q1.1⟩
  have t7 := (f7 136 (by decide) (by decide)).trans t6
  have p7 := (f7 140 (by decide) (by decide)).trans ((g6 140 (by decide)).trans y10)
  have hM7 : Mast c5 P0 fr0 ff0 lgs0 rs0 ms mt sq := hM.far (fun q hq => y1.2.2.2.2.2.2.2 q (fun e => by have := hmem _ e; omega))
  have hms2 := hM.1.1
  have htf7 : mt < 2048 → tf5 ms ≤ mt := fun e => by rw [y4 ms (fun e2 => by have := hmem _ e2; omega)]; exact htf e
  have hrs7 : ∀ x ∈ (rs.take f ++ (if 0 < x5.2.1 then [x5] else []) ++ rs.drop en), x.1 < 256 ∧ x.2.1 < 2 ^ 24 ∧ x.2.2.1 < 65536 ∧ ∀ y ∈ x.2.2.2, y < B := fun x hx => by
        rcases List.mem_append.mp hx with e | e
        · rcases List.mem_append.mp e with e | e
          · exact hrs x (List.mem_of_mem_take e)
          · split at e
            · rw [List.mem_singleton.mp e]
              have := hRO.1
              have := hRO.2.1
              exact ⟨by omega, by omega, by omega, hRO.2.2.2.2.2.1⟩
            · exact absurd e List.not_mem_nil
        · exact hrs x (List.mem_of_mem_drop e)
  refine RQ.blk 1 (pc' := 334) (lv' := [(0, .ref 137), (1, .int (nI f)), (2, .int (nI en)), (4, .int (nI P)), (6, .ref (r + 1)), (7, .int (nI by7))]) (st' := [.ref 137]) (H' := _) (kc' := 0) (ks' := 0) rfl ?_
  refine RQ.get (ci := 8) rfl t7 rfl rfl ?_
  refine RQ.blk 1 (pc' := 339) (lv' := [(0, .ref 137), (1, .int (nI f)), (2, .int (nI en)), (4, .int (nI P)), (6, .ref (r + 1)), (7, .int (nI by7))]) (st' := [.int (nI P), .ref 84]) (H' := _) (kc' := 0) (ks' := 0) rfl ?_
  refine RQ.callT (st' := []) rfl rfl rfl rfl rfl rfl (args_v [.int (nI P)] [] rfl rfl (Nat.le_of_ble_eq_true rfl) rfl hY7 (Nat.le_of_ble_eq_true rfl)) (re_saveM (d := d) hL7 hB hp7 hC7 hbb y3 (by omega) hP hfr hff hlB hrs7 (hlen x5 hx5n) hM7 htf7 hsq) rfl (fun H8 hx8 => ?_) (fun H9 hbad => Or.inr (by obtain ⟨c', tf', z1, z2, z3, z4, ⟨ms', mt', sq', z5⟩, z6⟩ := hbad; exact ⟨_, rfl, ⟨c', tf', z1, z2, fun q hq hu => (z3 q hq).trans (y1.old hu), z4, ⟨_, (z6 140 (by decide) (by decide) (by decide)).trans p7⟩, ⟨_, _, hlm0, (z6 136 (by decide) (by decide) (by decide)).trans t7⟩, ⟨_, _, _, _, _, _, _, _, y7, z5⟩⟩, fun a a1 a2 a3 => (z6 a (by omega) (by omega) (by omega)).trans (f8 a a1 (by omega) a3)⟩))
  obtain ⟨c8, tf8, pq8, ms8, mt8, sq8, w1, w2, w3, w4, w5, w6, w7, w8, w9, w10⟩ := hx8
  exact RQ.done (c := 0) (s := 0) rfl rfl rfl rfl (Or.inl ⟨_, rfl, ⟨x5, c8, tf8, pq8, ms8, mt8, sq8, tu5, lm, hlm0, hRO.farC (fun q hq => w3 q (by have := hmem _ hq; omega)), hx51.trans hx1, y1.2.2.2.2.1, fun b hb => (y1.2.2.2.2.2.1 b hb).2, hx5n, w1, w7, w2, fun q hq hn => (w3 q hq).trans (y1.2.2.2.2.2.2.2 q hn), fun j hj hn => (w4 j hj).trans (y4 j hn), w5, w6, y7, w8, ⟨_, (w10 140 (by decide) (by decide) (by decide) (by decide)).trans p7⟩, (w10 136 (by decide) (by decide) (by decide) (by decide)).trans t7, ⟨_, w9, fun b hb => if_pos hb⟩⟩, fun a a1 a2 a3 => (w10 a a1 (by omega) (by omega) (by omega)).trans (f8 a a1 (by omega) a3)⟩)
