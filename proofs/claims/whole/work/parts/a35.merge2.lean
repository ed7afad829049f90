/-! ===== the loop of a merge; class; written by wip/gen/merge2.py ===== -/
theorem RQ.mono {sc : Nat × (Nat → Int32)} {d : Nat} {M : aM} {pc : Nat} {lv : aL} {st : List Value} {H : aH} {kc ks : Nat} {Q Q' : tO × aH × Nat × Nat → Prop} (h : RQ sc d M pc lv st H kc ks Q) (hq : ∀ r, Q r → Q' r) : RQ sc d M pc lv st H kc ks Q' := by
  obtain ⟨r, h1, h2⟩ := h
  exact ⟨r, h1, hq r h2⟩
theorem EQ.mono {ok bad ok' bad' : aH → Prop} (h1 : ∀ H, ok H → ok' H) (h2 : ∀ H, bad H → bad' H) : ∀ r, EQ ok bad r → EQ ok' bad' r := by
  rintro r (⟨H', e, h3⟩ | ⟨H', e, h3⟩)
  · exact Or.inl ⟨H', e, h1 H' h3⟩
  · exact Or.inr ⟨H', e, h2 H' h3⟩
/-- the cursors as they may be -/
def CursA (H : aH) : Prop := ∀ c, c < 24 → CurA H (142 + 2 * c)
/-- the entry before, as it may be -/
def LastA (H : aH) : Prop := ∃ ln lb, ln ≤ 41 ∧ H[138]? = some (kO 5 [.ref 140, .int (nI ln)]) ∧ H[139]? = some (kB 41 lb)
theorem CurA.far {H H' : aH} {q : Nat} (h : CurA H q) (h0 : H'[q]? = H[q]?) (h1 : H'[q + 1]? = H[q + 1]?) : CurA H' q := by
  obtain ⟨g, rn, o, kl, mo, pl, le, en, a, b⟩ := h
  exact ⟨g, rn, o, kl, mo, pl, le, en, h1.trans a, h0.trans b⟩
theorem CursA.far {H H' : aH} (h : CursA H) (hs : ∀ a, 142 ≤ a → a < 190 → H'[a]? = H[a]?) : CursA H' := fun c hc => (h c hc).far (hs _ (by omega) (by omega)) (hs _ (by omega) (by omega))
theorem LastA.far {H H' : aH} (h : LastA H) (h0 : H'[138]? = H[138]?) (h1 : H'[139]? = H[139]?) : LastA H' := by
  obtain ⟨ln, lb, a, b, c⟩ := h
  exact ⟨ln, lb, a, h0.trans b, h1.trans c⟩
theorem ent_same {e : aT} (h : EOk e) : ((e.1, e.2.1, (if e.2.2.2 = none then 0 else e.2.2.1), e.2.2.2) : aT) = e := by
  obtain ⟨a, b, c, d⟩ := e
  by_cases hd : d = none
  · have : c = 0 := h.2.2.2.2.2 hd
    show (a, b, (if d = none then 0 else c), d) = (a, b, c, d)
    rw [if_pos hd, this]
  · show (a, b, (if d = none then 0 else c), d) = (a, b, c, d)
    rw [if_neg hd]
set_option maxRecDepth 20000 in
theorem mg_loop {sc : Nat × (Nat → Int32)} {d N P f en lev by7 E : Nat} {wh : Bool} {vs : List aV} {ess : Nat → List aT} {pi : Nat → Nat} {cu : Nat → Option Nat} {pg8 : Nat → Int8} {H : aH} {P0 fr0 ff0 : Nat} {lgs0 : List Nat} {rs0 : List aR} {B : Nat} {lgs : List Nat} {fr ff : Nat} {wr : Bool} {tp : Nat} {rs : List aR} {ms mt sq : Nat} {us : Nat → Bool} {cf : Nat → Int8} {tf : Nat → Nat} {bb r lm gm : Nat} (hB : B ≤ 128) (hbb : bb % 2 ^ 32 < 2 ^ 31) (hB1 : 3 ≤ B) (hfr0 : ∀ b, b < B → us b = false → usesL lgs rs b = 0) (hus2 : ∀ b, us b = false → 2 ≤ b) (hrl : rs.length < 24) (hP : P < 2 ^ 31) (hfr : fr < 256) (hff : ff < 65536) (hlB : ∀ x ∈ lgs, x < B) (hrs : ∀ x ∈ rs, x.1 < 256 ∧ x.2.1 < 2 ^ 24 ∧ x.2.2.1 < 65536 ∧ ∀ y ∈ x.2.2.2, y < B) (hM : Mast cf P0 fr0 ff0 lgs0 rs0 ms mt sq) (htf : mt < 2048 → tf ms ≤ mt) (hsq : sq + 1 < 2 ^ 31) (hfe : f ≤ en) (her : en ≤ rs.length) (hlv : lev < 256) (hpg : H[85]? = some (kB 2048 pg8)) (hV : VersIs H N vs) (hCu : H[137]? = some (kQ 6 24 cu)) (hcu : ∀ c, c < 24 → cu c = some (142 + 2 * c)) (hpiR : ∀ c y, rs[c]? = some y → RunIs H (pi c) y) (hpi : ∀ c, c < rs.length → 88 ≤ pi c ∧ pi c < 135 ∧ pi c ≠ r ∧ pi c + 1 ≠ r ∧ pi c ≠ r + 1) (hok : ∀ c y, f ≤ c → c < en → rs[c]? = some y → RunOk cf B y (ess c)) (hused : ∀ x ∈ rs, ∀ b ∈ x.2.2.2, us b = true) (hr1 : 88 ≤ r) (hr2 : r < 135) (hT1 : ∀ i, ((mgRun vs wh ess f (en - f) (fun _ => 0, [], lm, []) i).2.2.2.flatMap encE).length ≤ 2048 * freeN us B) (hT2 : ∀ i, ((mgRun vs wh ess f (en - f) (fun _ => 0, [], lm, []) i).2.2.2.flatMap encE).length ≤ 131072) (hel : ∀ i, (mgRun vs wh ess f (en - f) (fun _ => 0, [], lm, []) i).2.2.2.length < 65536) (hb7 : by7 < 2 ^ 31) (hgr : ((mgRun vs wh ess f (en - f) (fun _ => 0, [], lm, []) E).2.2.2.flatMap encE).length ≤ by7) (hE31 : E < 2 ^ 31) (hlen : ∀ x : aR, x.2.2.2.length * 2048 < ((mgRun vs wh ess f (en - f) (fun _ => 0, [], lm, []) E).2.2.2.flatMap encE).length + 2048 → (encS P fr ff lgs (rs.take f ++ (if 0 < x.2.1 then [x] else []) ++ rs.drop en)).length ≤ 2043) (i0 : Nat) (H0 : aH) (h0 : (fun i H' => ∃ s us1 tu1 c tf1 pq1 x pg bf lb, s = (mgRun vs wh ess f (en - f) (fun _ => 0, [], lm, []) i) ∧ i ≤ E ∧ bf < 2048 ∧ DrI H' B lgs fr ff wr tp rs ms mt sq us cf tf bb r s.2.2.1 gm us1 tu1 c tf1 pq1 x pg bf s.2.2.2 ∧ x.1 = lev ∧ x.2.1 = x.2.2.2.length * 2048 ∧ (∀ c y, f ≤ c → c < en → rs[c]? = some y → CurI H' (142 + 2 * c) (pi c) y (ess c) (s.1 c)) ∧ H'[139]? = some (kB 41 lb) ∧ H'[138]? = some (kO 5 [.ref 140, .int (nI s.2.1.length)]) ∧ sl lb 0 s.2.1.length = s.2.1 ∧ s.2.1.length ≤ 41 ∧ (∀ e ∈ s.2.2.2, EOk e) ∧ s.2.2.1 < 2 ^ 30 ∧ CursA H' ∧ ∀ a, ¬ (71 ≤ a ∧ a < 74) → a ≠ 83 → a ≠ 86 → a ≠ r → a ≠ r + 1 → ¬ (a = 136 ∨ a = 140) → ¬ (138 ≤ a ∧ a < 140) → ¬ (142 ≤ a ∧ a < 190) → H'[a]? = H[a]?) i0 H0) : RQ sc (d + 4) mr_120 135 [(9, .int (nI i0)), (0, .ref 137), (1, .int (nI f)), (2, .int (nI en)), (4, .int (nI P)), (5, .int (if wh then 1 else 0)), (6, .ref (r + 1)), (7, .int (nI by7)), (8, .int (nI E))] [] H0 0 0 (EQ (fun H' => (∃ x c' tf' pq' ms' mt' sq' tu' lm', lm' < 2 ^ 30 ∧ RunOk c' B x (mgRun vs wh ess f (en - f) (fun _ => 0, [], lm, []) E).2.2.2 ∧ x.1 = lev ∧ x.2.2.2.Nodup ∧ (∀ b ∈ x.2.2.2, us b = false) ∧ x.2.2.2.length * 2048 < ((mgRun vs wh ess f (en - f) (fun _ => 0, [], lm, []) E).2.2.2.flatMap encE).length + 2048 ∧ ChipAt H' B c' tf' pq' bb 0 ∧ (PQ bb pq') ∧ Mast c' P fr ff lgs (rs.take f ++ (if 0 < x.2.1 then [x] else []) ++ rs.drop en) ms' mt' sq' ∧ (∀ q, 4096 ≤ q → ¬ q / 2048 ∈ x.2.2.2 → c' q = cf q) ∧ (∀ j, 2 ≤ j → ¬ j ∈ x.2.2.2 → tf' j = tf j) ∧ (mt' < 2048 → tf' ms' ≤ mt') ∧ sq' ≤ sq + 1 ∧ tu' ≤ 128 ∧ (∃ pg', H'[85]? = some (kB 2048 pg')) ∧ (∃ pg', H'[140]? = some (kB 2099 pg')) ∧ H'[136]? = some (kO 8 (tabF lm' 0 gm)) ∧ (∃ us', LayIs H' B lgs fr ff wr tp (rs.take f ++ (if 0 < x.2.1 then [x] else []) ++ rs.drop en) ms' mt' sq' tu' us' ∧ ∀ b, b < B → us' b = usedB lgs (rs.take f ++ (if 0 < x.2.1 then [x] else []) ++ rs.drop en) b)) ∧ CursA H' ∧ LastA H' ∧ ∀ a, ¬ (71 ≤ a ∧ a < 74) → ¬ (83 ≤ a ∧ a < 137) → ¬ (138 ≤ a ∧ a < 141) → ¬ (142 ≤ a ∧ a < 190) → H'[a]? = H[a]?) (fun H' => (∃ c' tf', ChipDn H' B c' tf' bb ∧ Mast c' P0 fr0 ff0 lgs0 rs0 ms 2048 sq ∧ (∀ q, 4096 ≤ q → us (q / 2048) = true → c' q = cf q) ∧ (∃ pg', H'[85]? = some (kB 2048 pg')) ∧ (∃ pg', H'[140]? = some (kB 2099 pg')) ∧ (∃ lm' bf', lm' < 2 ^ 30 ∧ H'[136]? = some (kO 8 (tabF lm' bf' gm))) ∧ (∃ fr ff rs ms mt sq tu us, tu ≤ 128 ∧ LayIs H' B lgs fr ff wr tp rs ms mt sq tu us)) ∧ CursA H' ∧ LastA H' ∧ ∀ a, ¬ (71 ≤ a ∧ a < 74) → ¬ (83 ≤ a ∧ a < 137) → ¬ (138 ≤ a ∧ a < 141) → ¬ (142 ≤ a ∧ a < 190) → H'[a]? = H[a]?)) := by
  refine RQ.while (S := Nat) (pc := 135) (fun i H' => ∃ s us1 tu1 c tf1 pq1 x pg bf lb, s = (mgRun vs wh ess f (en - f) (fun _ => 0, [], lm, []) i) ∧ i ≤ E ∧ bf < 2048 ∧ DrI H' B lgs fr ff wr tp rs ms mt sq us cf tf bb r s.2.2.1 gm us1 tu1 c tf1 pq1 x pg bf s.2.2.2 ∧ x.1 = lev ∧ x.2.1 = x.2.2.2.length * 2048 ∧ (∀ c y, f ≤ c → c < en → rs[c]? = some y → CurI H' (142 + 2 * c) (pi c) y (ess c) (s.1 c)) ∧ H'[139]? = some (kB 41 lb) ∧ H'[138]? = some (kO 5 [.ref 140, .int (nI s.2.1.length)]) ∧ sl lb 0 s.2.1.length = s.2.1 ∧ s.2.1.length ≤ 41 ∧ (∀ e ∈ s.2.2.2, EOk e) ∧ s.2.2.1 < 2 ^ 30 ∧ CursA H' ∧ ∀ a, ¬ (71 ≤ a ∧ a < 74) → a ≠ 83 → a ≠ 86 → a ≠ r → a ≠ r + 1 → ¬ (a = 136 ∨ a = 140) → ¬ (138 ≤ a ∧ a < 140) → ¬ (142 ≤ a ∧ a < 190) → H'[a]? = H[a]?) (fun i => [(9, .int (nI i)), (0, .ref 137), (1, .int (nI f)), (2, .int (nI en)), (4, .int (nI P)), (5, .int (if wh then 1 else 0)), (6, .ref (r + 1)), (7, .int (nI by7)), (8, .int (nI E))]) (fun i => E - i) ?_ i0 H0 h0
  rintro i H2 ⟨s, us1, tu1, c, tf1, pq1, x, pg1, bf1, lb, hs, hiE0, hbf1, hD0, hx1, hxf, hcur, hb, hL, hlb, hln, hEs, hlm30, hCA, f2⟩ ih
  obtain ⟨d1, d2, d3, d4, d5, d6, d7, d8, d9, d10, Q2, d11, d12⟩ := id hD0
  have hT1i := hT1 i
  have hT2i := hT2 i
  have heli := hel i
  rw [← hs] at hT1i hT2i heli
  have hl30 : ∀ x ∈ lgs, x < 2 ^ 30 := fun x hx => by have := hlB x hx; omega
  have hi30 : ∀ x ∈ rs, ∀ y ∈ x.2.2.2, y < 2 ^ 30 := fun x hx y hy => by have := (hrs x hx).2.2.2 y hy; omega
  have hV2 := hV.far (H' := H2) (fun a a1 a2 => (f2 a (by omega) (by omega) (by omega) (by omega) (by omega) (by omega) (by omega) (by omega)))
  have hpg2 := (f2 85 (by decide) (by decide) (by decide) (by omega) (by omega) (by decide) (by decide) (by decide)).trans hpg
  have exitL : (mgRun vs wh ess f (en - f) (fun _ => 0, [], lm, []) E) = s → RQ sc (d + 4) mr_120 294 [(0, .ref 137), (1, .int (nI f)), (2, .int (nI en)), (4, .int (nI P)), (6, .ref (r + 1)), (7, .int (nI by7))] [] H2 0 0 (EQ (fun H' => (∃ x c' tf' pq' ms' mt' sq' tu' lm', lm' < 2 ^ 30 ∧ RunOk c' B x (mgRun vs wh ess f (en - f) (fun _ => 0, [], lm, []) E).2.2.2 ∧ x.1 = lev ∧ x.2.2.2.Nodup ∧ (∀ b ∈ x.2.2.2, us b = false) ∧ x.2.2.2.length * 2048 < ((mgRun vs wh ess f (en - f) (fun _ => 0, [], lm, []) E).2.2.2.flatMap encE).length + 2048 ∧ ChipAt H' B c' tf' pq' bb 0 ∧ (PQ bb pq') ∧ Mast c' P fr ff lgs (rs.take f ++ (if 0 < x.2.1 then [x] else []) ++ rs.drop en) ms' mt' sq' ∧ (∀ q, 4096 ≤ q → ¬ q / 2048 ∈ x.2.2.2 → c' q = cf q) ∧ (∀ j, 2 ≤ j → ¬ j ∈ x.2.2.2 → tf' j = tf j) ∧ (mt' < 2048 → tf' ms' ≤ mt') ∧ sq' ≤ sq + 1 ∧ tu' ≤ 128 ∧ (∃ pg', H'[85]? = some (kB 2048 pg')) ∧ (∃ pg', H'[140]? = some (kB 2099 pg')) ∧ H'[136]? = some (kO 8 (tabF lm' 0 gm)) ∧ (∃ us', LayIs H' B lgs fr ff wr tp (rs.take f ++ (if 0 < x.2.1 then [x] else []) ++ rs.drop en) ms' mt' sq' tu' us' ∧ ∀ b, b < B → us' b = usedB lgs (rs.take f ++ (if 0 < x.2.1 then [x] else []) ++ rs.drop en) b)) ∧ CursA H' ∧ LastA H' ∧ ∀ a, ¬ (71 ≤ a ∧ a < 74) → ¬ (83 ≤ a ∧ a < 137) → ¬ (138 ≤ a ∧ a < 141) → ¬ (142 ≤ a ∧ a < 190) → H'[a]? = H[a]?) (fun H' => (∃ c' tf', ChipDn H' B c' tf' bb ∧ Mast c' P0 fr0 ff0 lgs0 rs0 ms 2048 sq ∧ (∀ q, 4096 ≤ q → us (q / 2048) = true → c' q = cf q) ∧ (∃ pg', H'[85]? = some (kB 2048 pg')) ∧ (∃ pg', H'[140]? = some (kB 2099 pg')) ∧ (∃ lm' bf', lm' < 2 ^ 30 ∧ H'[136]? = some (kO 8 (tabF lm' bf' gm))) ∧ (∃ fr ff rs ms mt sq tu us, tu ≤ 128 ∧ LayIs H' B lgs fr ff wr tp rs ms mt sq tu us)) ∧ CursA H' ∧ LastA H' ∧ ∀ a, ¬ (71 ≤ a ∧ a < 74) → ¬ (83 ≤ a ∧ a < 137) → ¬ (138 ≤ a ∧ a < 141) → ¬ (142 ≤ a ∧ a < 190) → H'[a]? = H[a]?)) := fun es => by
    refine (mg_exit (d := d) (lm := s.2.2.1) (es := s.2.2.2) hD0 hB hbb hB1 hfr0 hus2 hrl hP hfr hff hlB hrs hM htf hsq hfe her hlv hpg2 hr1 hr2 hbf1 hT1i hT2i hEs heli hx1 hxf hb7 hlm30 (by have h9 := hgr; rw [es] at h9; exact h9) (fun x hx => hlen x (by rw [es]; exact hx))).mono (EQ.mono (fun H' hh => ⟨by rw [es]; exact hh.1, hCA.far (fun a a1 a2 => hh.2 a (by omega) (by omega) (by omega)), ?_, fun a a1 a2 a3 a4 => (hh.2 a a1 a2 (by omega)).trans (f2 a (by omega) (by omega) (by omega) (by omega) (by omega) (by omega) (by omega) (by omega))⟩) (fun H' hh => ⟨hh.1, hCA.far (fun a a1 a2 => hh.2 a (by omega) (by omega) (by omega)), ?_, fun a a1 a2 a3 a4 => (hh.2 a a1 a2 (by omega)).trans (f2 a (by omega) (by omega) (by omega) (by omega) (by omega) (by omega) (by omega) (by omega))⟩))
    · exact ⟨_, lb, hln, (hh.2 138 (by decide) (by decide) (by decide)).trans hL, (hh.2 139 (by decide) (by decide) (by decide)).trans hb⟩
    · exact ⟨_, lb, hln, (hh.2 138 (by decide) (by decide) (by decide)).trans hL, (hh.2 139 (by decide) (by decide) (by decide)).trans hb⟩
  by_cases hiE : i < E
  ·
    refine RQ.blk 2 (pc' := 139) (lv' := [(9, .int (nI i)), (0, .ref 137), (1, .int (nI f)), (2, .int (nI en)), (4, .int (nI P)), (5, .int (if wh then 1 else 0)), (6, .ref (r + 1)), (7, .int (nI by7)), (8, .int (nI E))]) (st' := [.int (nI E), .int (nI i)]) (H' := _) (kc' := 0) (ks' := 0) rfl ?_
    refine RQ.brF rfl rfl rfl (cF_ge i E) ?_
    refine RQ.blk 3 (pc' := 145) (lv' := [(9, .int (nI i)), (0, .ref 137), (1, .int (nI f)), (2, .int (nI en)), (4, .int (nI P)), (5, .int (if wh then 1 else 0)), (6, .ref (r + 1)), (7, .int (nI by7)), (8, .int (nI E))]) (st' := [.int (nI en), .int (nI f), .ref 137]) (H' := _) (kc' := 0) (ks' := 0) rfl ?_
    refine RQ.call (v := some (.int (lI ((leastN (mgHd ess s.1) f (en - f)).map (fun p => p.1))))) (st' := []) rfl rfl rfl rfl rfl rfl (args_v [.int (nI en), .int (nI f)] [] rfl rfl (Nat.le_of_ble_eq_true rfl) rfl d9 (Nat.le_of_ble_eq_true rfl)) (rc_least (hd := mgHd ess s.1) d9 ((f2 137 (by decide) (by decide) (by decide) (by omega) (by omega) (by decide) (by decide) (by decide)).trans hCu) hcu hfe (by omega) (fun c c1 c2 => by obtain ⟨y, hy⟩ := lt_get (show c < rs.length by omega); exact (hcur c y c1 c2 hy).head) (fun c e c1 c2 he => by obtain ⟨y, hy⟩ := lt_get (show c < rs.length by omega); exact ((hok c y c1 c2 hy).at he).2.2)) ?_
    refine RQ.blk 2 (pc' := 152) (lv' := [(10, .int (lI ((leastN (mgHd ess s.1) f (en - f)).map (fun p => p.1)))), (9, .int (nI i)), (0, .ref 137), (1, .int (nI f)), (2, .int (nI en)), (4, .int (nI P)), (5, .int (if wh then 1 else 0)), (6, .ref (r + 1)), (7, .int (nI by7)), (8, .int (nI E))]) (st' := [.int (lI ((leastN (mgHd ess s.1) f (en - f)).map (fun p => p.1)))]) (H' := _) (kc' := 0) (ks' := 0) rfl ?_
    cases hl : leastN (mgHd ess s.1) f (en - f) with
    | none =>
      rw [show lI ((none : Option (Nat × aT)).map (fun p => p.1)) = -1 from rfl]
      refine RQ.brF rfl rfl rfl (by decide) ?_
      refine RQ.blk 1 (pc' := 294) (lv' := [(10, .int (-1)), (9, .int (nI i)), (0, .ref 137), (1, .int (nI f)), (2, .int (nI en)), (4, .int (nI P)), (5, .int (if wh then 1 else 0)), (6, .ref (r + 1)), (7, .int (nI by7)), (8, .int (nI E))]) (st' := []) (H' := _) (kc' := 0) (ks' := 0) rfl ?_
      refine RQ.pick (a := [(0, .ref 137), (1, .int (nI f)), (2, .int (nI en)), (4, .int (nI P)), (6, .ref (r + 1)), (7, .int (nI by7))]) [2, 3, 4, 5, 7, 8] [10, 9, 0, 1, 2, 4, 5, 6, 7, 8] rfl rfl (by decide) ?_
      exact exitL (by have h9 := mgRun_end (vs := vs) (wh := wh) (ess := ess) (f := f) (n := en - f) (s := (fun _ => 0, [], lm, [])) (i := i) (by rw [← hs]; exact hl) (E - i); rw [show i + (E - i) = E by omega] at h9; rw [h9, hs])
    | some p =>
      rw [show lI ((some p).map (fun p => p.1)) = nI p.1 from rfl]
      obtain ⟨m1, m2, m3⟩ := least_mem hl
      have m4 : p.1 < en := by omega
      obtain ⟨y, hy⟩ := lt_get (show p.1 < rs.length by omega)
      have hI := hcur p.1 y m1 m4 hy
      have m5 : (ess p.1)[s.1 p.1]? = some p.2 := m3
      have hOky := (hok p.1 y m1 m4 hy).farC (c' := c) (fun q hq => d1.old (hused y (List.mem_of_getElem? hy) _ hq))
      have hEp := ((hok p.1 y m1 m4 hy).at m5).2.2
      have hil := get_lt m5
      obtain ⟨g, hg, hEE⟩ := id hI
      obtain ⟨e', he', hq, hk⟩ := hEE.resolve_right (fun e9 => by have := e9.1; omega)
      have he'' : e' = p.2 := Option.some.inj (he'.symm.trans m5)
      subst he''
      have hpp := hpi p.1 (by omega)
      have b30 : p.2.2.2.1 < 2 ^ 30 := by have := hEp.2.2.2.1; omega
      have l30 : p.2.2.2.2.getD 0 < 2 ^ 30 := by have := hEp.2.2.2.2.1; omega
      refine RQ.brT rfl rfl rfl (cT_ge p.1 0) ?_
      refine RQ.blk 1 (pc' := 159) (lv' := [(10, .int (nI p.1)), (9, .int (nI i)), (0, .ref 137), (1, .int (nI f)), (2, .int (nI en)), (4, .int (nI P)), (5, .int (if wh then 1 else 0)), (6, .ref (r + 1)), (7, .int (nI by7)), (8, .int (nI E))]) (st' := [.ref 137]) (H' := _) (kc' := 0) (ks' := 0) rfl ?_
      refine RQ.get (ci := 8) rfl d9 rfl rfl ?_
      refine RQ.blk 1 (pc' := 164) (lv' := [(10, .int (nI p.1)), (9, .int (nI i)), (0, .ref 137), (1, .int (nI f)), (2, .int (nI en)), (4, .int (nI P)), (5, .int (if wh then 1 else 0)), (6, .ref (r + 1)), (7, .int (nI by7)), (8, .int (nI E))]) (st' := [.int (nI p.1), .ref 138]) (H' := _) (kc' := 0) (ks' := 0) rfl ?_
      refine RQ.aaldN (j := p.1) rfl ((f2 137 (by decide) (by decide) (by decide) (by omega) (by omega) (by decide) (by decide) (by decide)).trans hCu) (by omega) (by decide) (by decide) (hcu p.1 (by omega)) ?_
      refine RQ.blk 3 (pc' := 170) (lv' := [(11, .ref ((142 + 2 * p.1) + 1)), (10, .int (nI p.1)), (9, .int (nI i)), (0, .ref 137), (1, .int (nI f)), (2, .int (nI en)), (4, .int (nI P)), (5, .int (if wh then 1 else 0)), (6, .ref (r + 1)), (7, .int (nI by7)), (8, .int (nI E))]) (st' := [.ref ((142 + 2 * p.1) + 1), .ref 137]) (H' := _) (kc' := 0) (ks' := 0) rfl ?_
      refine RQ.call (v := some (.int (if sl lb 0 s.2.1.length = sl g 0 p.2.1.length then 1 else 0))) (st' := []) rfl rfl rfl rfl rfl rfl (args_v [.ref ((142 + 2 * p.1) + 1)] [] rfl rfl (Nat.le_of_ble_eq_true rfl) rfl d9 (Nat.le_of_ble_eq_true rfl)) (rc_isAgain (n := p.2.1.length) (m := p.2.2.1) (pp := p.2.2.2.1) (l := p.2.2.2.2) d9 hL hb hln hq hg hEp.2.1 hEp.2.2.1 b30 l30) ?_
      rw [hlb, hk]
      by_cases ag : s.2.1 = p.2.1
      · rw [if_pos ag]
        refine RQ.blk 3 (pc' := 178) (lv' := [(12, .int 1), (11, .ref ((142 + 2 * p.1) + 1)), (10, .int (nI p.1)), (9, .int (nI i)), (0, .ref 137), (1, .int (nI f)), (2, .int (nI en)), (4, .int (nI P)), (5, .int (if wh then 1 else 0)), (6, .ref (r + 1)), (7, .int (nI by7)), (8, .int (nI E))]) (st' := [.ref ((142 + 2 * p.1) + 1), .ref 137]) (H' := _) (kc' := 0) (ks' := 0) rfl ?_
        refine RQ.call (v := some (.int (if tellsV vs (sl g 0 p.2.1.length, p.2.2.1, p.2.2.2.1, p.2.2.2.2) = true then 1 else 0))) (st' := []) rfl rfl rfl rfl rfl rfl (args_v [.ref ((142 + 2 * p.1) + 1)] [] rfl rfl (Nat.le_of_ble_eq_true rfl) rfl d9 (Nat.le_of_ble_eq_true rfl)) (rc_tells (n := p.2.1.length) (m := p.2.2.1) (pp := p.2.2.2.1) (l := p.2.2.2.2) hV2 d9 hq hg hEp.2.1 hEp.2.2.1 b30 l30) ?_
        rw [show ((sl g 0 p.2.1.length, p.2.2.1, p.2.2.2.1, p.2.2.2.2) : aT) = p.2 by rw [hk]]
        by_cases ht : tellsV vs p.2 = true
        · rw [if_pos ht]
          refine RQ.brF rfl rfl rfl (by decide) ?_
          refine RQ.blk 1 (pc' := 186) (lv' := [(12, .int 1), (11, .ref ((142 + 2 * p.1) + 1)), (10, .int (nI p.1)), (9, .int (nI i)), (0, .ref 137), (1, .int (nI f)), (2, .int (nI en)), (4, .int (nI P)), (5, .int (if wh then 1 else 0)), (6, .ref (r + 1)), (7, .int (nI by7)), (8, .int (nI E))]) (st' := [.int 1]) (H' := _) (kc' := 0) (ks' := 0) rfl ?_
          refine RQ.brF rfl rfl rfl (by decide) ?_
          refine RQ.blk 1 (pc' := 190) (lv' := [(12, .int 1), (11, .ref ((142 + 2 * p.1) + 1)), (10, .int (nI p.1)), (9, .int (nI i)), (0, .ref 137), (1, .int (nI f)), (2, .int (nI en)), (4, .int (nI P)), (5, .int (if wh then 1 else 0)), (6, .ref (r + 1)), (7, .int (nI by7)), (8, .int (nI E))]) (st' := [.ref 137]) (H' := _) (kc' := 0) (ks' := 0) rfl ?_
          refine RQ.get (ci := 8) rfl d9 rfl rfl ?_
          refine RQ.blk 1 (pc' := 195) (lv' := [(12, .int 1), (11, .ref ((142 + 2 * p.1) + 1)), (10, .int (nI p.1)), (9, .int (nI i)), (0, .ref 137), (1, .int (nI f)), (2, .int (nI en)), (4, .int (nI P)), (5, .int (if wh then 1 else 0)), (6, .ref (r + 1)), (7, .int (nI by7)), (8, .int (nI E))]) (st' := [.ref ((142 + 2 * p.1) + 1), .int (nI s.2.2.1)]) (H' := _) (kc' := 0) (ks' := 0) rfl ?_
          refine RQ.get (ci := 2) rfl hq rfl rfl ?_
          by_cases hlm : s.2.2.1 = p.2.2.1
          · refine RQ.brF rfl rfl rfl (cF_ne s.2.2.1 p.2.2.1) ?_
            refine RQ.blk 1 (pc' := 203) (lv' := [(12, .int 1), (11, .ref ((142 + 2 * p.1) + 1)), (10, .int (nI p.1)), (9, .int (nI i)), (0, .ref 137), (1, .int (nI f)), (2, .int (nI en)), (4, .int (nI P)), (5, .int (if wh then 1 else 0)), (6, .ref (r + 1)), (7, .int (nI by7)), (8, .int (nI E))]) (st' := [.int (if wh then 1 else 0)]) (H' := _) (kc' := 0) (ks' := 0) rfl ?_
            by_cases hw : wh = true
            · refine RQ.brT rfl rfl rfl (by rw [if_pos hw]; decide) ?_
              have hkp : mgKeep vs wh s.2.1 s.2.2.1 p.2 = false := by unfold mgKeep; simp [ag, ht, hlm, hw]
              have hbf4 : bf1 ≤ 2099 := by omega
              have hD4 := hD0
              have g4 : ∀ a, a ≠ 136 → a ≠ 140 → a ≠ r → H2[a]? = H2[a]? := fun a a1 a2 a3 => rfl
              have t4 := d9
              have hx4 := hxf
              have hx41 := hx1
              have hO4 : s.2.2.2 = (if mgKeep vs wh s.2.1 s.2.2.1 p.2 = true then s.2.2.2 ++ [p.2] else s.2.2.2) := by rw [if_neg (by rw [hkp]; decide)]
              have hEs4 := hEs
              refine RQ.blk 2 (pc' := 264) (lv' := [(12, .int 1), (11, .ref ((142 + 2 * p.1) + 1)), (10, .int (nI p.1)), (9, .int (nI i)), (0, .ref 137), (1, .int (nI f)), (2, .int (nI en)), (4, .int (nI P)), (5, .int (if wh then 1 else 0)), (6, .ref (r + 1)), (7, .int (nI by7)), (8, .int (nI E))]) (st' := [.ref ((142 + 2 * p.1) + 1), .ref 137]) (H' := _) (kc' := 0) (ks' := 0) rfl ?_
              refine RQ.callN (st' := []) rfl rfl rfl rfl rfl rfl (args_v [.ref ((142 + 2 * p.1) + 1)] [] rfl rfl (Nat.le_of_ble_eq_true rfl) rfl t4 (Nat.le_of_ble_eq_true rfl)) (rn_remember (q := 142 + 2 * p.1) (n := p.2.1.length) (m := p.2.2.1) (pp := p.2.2.2.1) (l := p.2.2.2.2) t4 ((g4 138 (by decide) (by decide) (by omega)).trans hL) ((g4 139 (by decide) (by decide) (by omega)).trans hb) hln ((g4 _ (by omega) (by omega) (by omega)).trans hq) ((g4 _ (by omega) (by omega) (by omega)).trans hg) hEp.2.1 hEp.2.2.1 b30 l30 (by omega)) (fun H6 hx6 => ?_)
              obtain ⟨⟨lb6, r1, r2⟩, r3, r4, f6⟩ := hx6
              rw [hk] at r2
              have g6 : ∀ a, a ≠ 136 → a ≠ 140 → a ≠ r → a ≠ 138 → a ≠ 139 → H6[a]? = H2[a]? := fun a a1 a2 a3 a4 a5 => (f6 a a1 a4 a5).trans (g4 a a1 a2 a3)
              have hD6 := hD4.lm (H' := H6) (lm' := p.2.2.1) ⟨hr1, hr2⟩ (fun a a1 a2 a3 a4 => f6 a (by omega) (by omega) (by omega)) (f6 140 (by decide) (by decide) (by decide)) r4
              refine RQ.blk 1 (pc' := 269) (lv' := [(12, .int 1), (11, .ref ((142 + 2 * p.1) + 1)), (10, .int (nI p.1)), (9, .int (nI i)), (0, .ref 137), (1, .int (nI f)), (2, .int (nI en)), (4, .int (nI P)), (5, .int (if wh then 1 else 0)), (6, .ref (r + 1)), (7, .int (nI by7)), (8, .int (nI E))]) (st' := [.ref ((142 + 2 * p.1) + 1)]) (H' := _) (kc' := 0) (ks' := 0) rfl ?_
              refine RQ.callN (st' := []) rfl rfl rfl rfl rfl rfl (args_v [] [] rfl rfl (Nat.le_of_ble_eq_true rfl) rfl ((g6 _ (by omega) (by omega) (by omega) (by omega) (by omega)).trans hq) (Nat.le_of_ble_eq_true rfl)) (rn_cadvI (q := 142 + 2 * p.1) (r := pi p.1) (x := y) (es := ess p.1) (i := s.1 p.1) (hI.far (g6 _ (by omega) (by omega) (by omega) (by omega) (by omega)) (g6 _ (by omega) (by omega) (by omega) (by omega) (by omega))) ((hpiR p.1 y hy).far ((g6 _ (by omega) (by omega) (by omega) (by omega) (by omega)).trans (f2 _ (by omega) (by omega) (by omega) (by omega) (by omega) (by omega) (by omega) (by omega))) ((g6 _ (by omega) (by omega) (by omega) (by omega) (by omega)).trans (f2 _ (by omega) (by omega) (by omega) (by omega) (by omega) (by omega) (by omega) (by omega)))) hOky hD6.2.1 hB (by omega) (by omega) hil) (fun H7 hx7 => ?_)
              obtain ⟨hI7, f7⟩ := hx7
              have hD7 := hD6.far (H' := H7) ⟨hr1, hr2⟩ (fun a a1 a2 a3 a4 => f7 a (by omega) (by omega)) (f7 140 (by omega) (by omega))
              have f8 : ∀ a, ¬ (71 ≤ a ∧ a < 74) → a ≠ 83 → a ≠ 86 → a ≠ r → a ≠ r + 1 → ¬ (a = 136 ∨ a = 140) → ¬ (138 ≤ a ∧ a < 140) → ¬ (142 ≤ a ∧ a < 190) → H7[a]? = H[a]? := fun a a1 a2 a3 a4 a5 a6 a7 a8 => (f7 a (by omega) (by omega)).trans ((g6 a (by omega) (by omega) a4 (by omega) (by omega)).trans (f2 a a1 a2 a3 a4 a5 a6 a7 a8))
              have hcur7 : ∀ c z, f ≤ c → c < en → rs[c]? = some z → CurI H7 (142 + 2 * c) (pi c) z (ess c) (va_up s.1 p.1 (s.1 p.1 + 1) c) := fun c z c1 c2 hz => by
                by_cases ec : c = p.1
                · subst ec
                  rw [up_at, ← Option.some.inj (hy.symm.trans hz)]
                  exact hI7
                · rw [up_ne ec]
                  exact (hcur c z c1 c2 hz).far ((f7 _ (by omega) (by omega)).trans (g6 _ (by omega) (by omega) (by omega) (by omega) (by omega))) ((f7 _ (by omega) (by omega)).trans (g6 _ (by omega) (by omega) (by omega) (by omega) (by omega)))
              have hCA7 : CursA H7 := fun c hc => by
                by_cases ec : c = p.1
                · rw [ec]; exact hI7.any
                · exact (hCA c hc).far ((f7 _ (by omega) (by omega)).trans (g6 _ (by omega) (by omega) (by omega) (by omega) (by omega))) ((f7 _ (by omega) (by omega)).trans (g6 _ (by omega) (by omega) (by omega) (by omega) (by omega)))
              have r1' := (f7 139 (by omega) (by omega)).trans r1
              have r3' := (f7 138 (by omega) (by omega)).trans r3
              have t7 := hD7.2.2.2.2.2.2.2.2.1
              have q7 := hD7.2.2.2.2.2.2.2.2.2.1
              have hs7 : ((va_up s.1 p.1 (s.1 p.1 + 1), p.2.1, p.2.2.1, s.2.2.2) : aMg) = (mgRun vs wh ess f (en - f) (fun _ => 0, [], lm, []) (i + 1)) := by
                show _ = mgStep vs wh ess f (en - f) (mgRun vs wh ess f (en - f) (fun _ => 0, [], lm, []) i)
                rw [← hs, mgStep, hl]
                dsimp only
                rw [← hO4]
              have hT1j := hT1 (i + 1)
              have hT2j := hT2 (i + 1)
              rw [← hs7] at hT1j hT2j
              refine RQ.blk 1 (pc' := 273) (lv' := [(12, .int 1), (11, .ref ((142 + 2 * p.1) + 1)), (10, .int (nI p.1)), (9, .int (nI i)), (0, .ref 137), (1, .int (nI f)), (2, .int (nI en)), (4, .int (nI P)), (5, .int (if wh then 1 else 0)), (6, .ref (r + 1)), (7, .int (nI by7)), (8, .int (nI E))]) (st' := [.ref 137]) (H' := _) (kc' := 0) (ks' := 0) rfl ?_
              refine RQ.get (ci := 8) rfl t7 rfl rfl ?_
              refine RQ.blk 1 (pc' := 279) (lv' := [(12, .int 1), (11, .ref ((142 + 2 * p.1) + 1)), (10, .int (nI p.1)), (9, .int (nI i)), (0, .ref 137), (1, .int (nI f)), (2, .int (nI en)), (4, .int (nI P)), (5, .int (if wh then 1 else 0)), (6, .ref (r + 1)), (7, .int (nI by7)), (8, .int (nI E))]) (st' := [.int 2048, .int (nI bf1)]) (H' := _) (kc' := 0) (ks' := 0) rfl ?_
              by_cases c8 : bf1 < 2048
              · refine RQ.brT rfl rfl rfl (cT_lt (bf1) 2048) ?_
                refine RQ.blk 1 (pc' := 291) (lv' := [(9, .int (nI i + 1)), (12, .int 1), (11, .ref ((142 + 2 * p.1) + 1)), (10, .int (nI p.1)), (0, .ref 137), (1, .int (nI f)), (2, .int (nI en)), (4, .int (nI P)), (5, .int (if wh then 1 else 0)), (6, .ref (r + 1)), (7, .int (nI by7)), (8, .int (nI E))]) (st' := []) (H' := _) (kc' := 0) (ks' := 0) rfl ?_
                rw [show (nI i + 1 : Int32) = nI (i + 1) from nI_add i 1]
                refine RQ.blk 1 (pc' := 135) (lv' := [(9, .int (nI (i + 1))), (12, .int 1), (11, .ref ((142 + 2 * p.1) + 1)), (10, .int (nI p.1)), (0, .ref 137), (1, .int (nI f)), (2, .int (nI en)), (4, .int (nI P)), (5, .int (if wh then 1 else 0)), (6, .ref (r + 1)), (7, .int (nI by7)), (8, .int (nI E))]) (st' := []) (H' := _) (kc' := 0) (ks' := 0) rfl ?_
                refine RQ.pick (a := [(9, .int (nI (i + 1))), (0, .ref 137), (1, .int (nI f)), (2, .int (nI en)), (4, .int (nI P)), (5, .int (if wh then 1 else 0)), (6, .ref (r + 1)), (7, .int (nI by7)), (8, .int (nI E))]) [0, 4, 5, 6, 7, 8, 9, 10, 11] [9, 12, 11, 10, 0, 1, 2, 4, 5, 6, 7, 8] rfl rfl (by decide) ?_
                exact ih (i + 1) _ ⟨_, _, _, _, _, _, _, _, _, lb6, hs7, by omega, by omega, hD7, hx41, hx4, hcur7, r1', r3', r2, hEp.2.1, hEs4, hEp.2.2.1, hCA7, f8⟩ (by omega)
              · exact absurd hbf1 c8
            · refine RQ.brF rfl rfl rfl (by rw [if_neg hw]; decide) ?_
              refine RQ.blk 1 (pc' := 208) (lv' := [(12, .int 1), (11, .ref ((142 + 2 * p.1) + 1)), (10, .int (nI p.1)), (9, .int (nI i)), (0, .ref 137), (1, .int (nI f)), (2, .int (nI en)), (4, .int (nI P)), (5, .int (if wh then 1 else 0)), (6, .ref (r + 1)), (7, .int (nI by7)), (8, .int (nI E))]) (st' := [.int 1]) (H' := _) (kc' := 0) (ks' := 0) rfl ?_
              refine RQ.brT rfl rfl rfl (by decide) ?_
              have hkp : mgKeep vs wh s.2.1 s.2.2.1 p.2 = false := by unfold mgKeep; simp [ag, ht, hlm, hw]
              have hbf4 : bf1 ≤ 2099 := by omega
              have hD4 := hD0
              have g4 : ∀ a, a ≠ 136 → a ≠ 140 → a ≠ r → H2[a]? = H2[a]? := fun a a1 a2 a3 => rfl
              have t4 := d9
              have hx4 := hxf
              have hx41 := hx1
              have hO4 : s.2.2.2 = (if mgKeep vs wh s.2.1 s.2.2.1 p.2 = true then s.2.2.2 ++ [p.2] else s.2.2.2) := by rw [if_neg (by rw [hkp]; decide)]
              have hEs4 := hEs
              refine RQ.blk 2 (pc' := 264) (lv' := [(12, .int 1), (11, .ref ((142 + 2 * p.1) + 1)), (10, .int (nI p.1)), (9, .int (nI i)), (0, .ref 137), (1, .int (nI f)), (2, .int (nI en)), (4, .int (nI P)), (5, .int (if wh then 1 else 0)), (6, .ref (r + 1)), (7, .int (nI by7)), (8, .int (nI E))]) (st' := [.ref ((142 + 2 * p.1) + 1), .ref 137]) (H' := _) (kc' := 0) (ks' := 0) rfl ?_
              refine RQ.callN (st' := []) rfl rfl rfl rfl rfl rfl (args_v [.ref ((142 + 2 * p.1) + 1)] [] rfl rfl (Nat.le_of_ble_eq_true rfl) rfl t4 (Nat.le_of_ble_eq_true rfl)) (rn_remember (q := 142 + 2 * p.1) (n := p.2.1.length) (m := p.2.2.1) (pp := p.2.2.2.1) (l := p.2.2.2.2) t4 ((g4 138 (by decide) (by decide) (by omega)).trans hL) ((g4 139 (by decide) (by decide) (by omega)).trans hb) hln ((g4 _ (by omega) (by omega) (by omega)).trans hq) ((g4 _ (by omega) (by omega) (by omega)).trans hg) hEp.2.1 hEp.2.2.1 b30 l30 (by omega)) (fun H6 hx6 => ?_)
              obtain ⟨⟨lb6, r1, r2⟩, r3, r4, f6⟩ := hx6
              rw [hk] at r2
              have g6 : ∀ a, a ≠ 136 → a ≠ 140 → a ≠ r → a ≠ 138 → a ≠ 139 → H6[a]? = H2[a]? := fun a a1 a2 a3 a4 a5 => (f6 a a1 a4 a5).trans (g4 a a1 a2 a3)
              have hD6 := hD4.lm (H' := H6) (lm' := p.2.2.1) ⟨hr1, hr2⟩ (fun a a1 a2 a3 a4 => f6 a (by omega) (by omega) (by omega)) (f6 140 (by decide) (by decide) (by decide)) r4
              refine RQ.blk 1 (pc' := 269) (lv' := [(12, .int 1), (11, .ref ((142 + 2 * p.1) + 1)), (10, .int (nI p.1)), (9, .int (nI i)), (0, .ref 137), (1, .int (nI f)), (2, .int (nI en)), (4, .int (nI P)), (5, .int (if wh then 1 else 0)), (6, .ref (r + 1)), (7, .int (nI by7)), (8, .int (nI E))]) (st' := [.ref ((142 + 2 * p.1) + 1)]) (H' := _) (kc' := 0) (ks' := 0) rfl ?_
              refine RQ.callN (st' := []) rfl rfl rfl rfl rfl rfl (args_v [] [] rfl rfl (Nat.le_of_ble_eq_true rfl) rfl ((g6 _ (by omega) (by omega) (by omega) (by omega) (by omega)).trans hq) (Nat.le_of_ble_eq_true rfl)) (rn_cadvI (q := 142 + 2 * p.1) (r := pi p.1) (x := y) (es := ess p.1) (i := s.1 p.1) (hI.far (g6 _ (by omega) (by omega) (by omega) (by omega) (by omega)) (g6 _ (by omega) (by omega) (by omega) (by omega) (by omega))) ((hpiR p.1 y hy).far ((g6 _ (by omega) (by omega) (by omega) (by omega) (by omega)).trans (f2 _ (by omega) (by omega) (by omega) (by omega) (by omega) (by omega) (by omega) (by omega))) ((g6 _ (by omega) (by omega) (by omega) (by omega) (by omega)).trans (f2 _ (by omega) (by omega) (by omega) (by omega) (by omega) (by omega) (by omega) (by omega)))) hOky hD6.2.1 hB (by omega) (by omega) hil) (fun H7 hx7 => ?_)
              obtain ⟨hI7, f7⟩ := hx7
              have hD7 := hD6.far (H' := H7) ⟨hr1, hr2⟩ (fun a a1 a2 a3 a4 => f7 a (by omega) (by omega)) (f7 140 (by omega) (by omega))
              have f8 : ∀ a, ¬ (71 ≤ a ∧ a < 74) → a ≠ 83 → a ≠ 86 → a ≠ r → a ≠ r + 1 → ¬ (a = 136 ∨ a = 140) → ¬ (138 ≤ a ∧ a < 140) → ¬ (142 ≤ a ∧ a < 190) → H7[a]? = H[a]? := fun a a1 a2 a3 a4 a5 a6 a7 a8 => (f7 a (by omega) (by omega)).trans ((g6 a (by omega) (by omega) a4 (by omega) (by omega)).trans (f2 a a1 a2 a3 a4 a5 a6 a7 a8))
              have hcur7 : ∀ c z, f ≤ c → c < en → rs[c]? = some z → CurI H7 (142 + 2 * c) (pi c) z (ess c) (va_up s.1 p.1 (s.1 p.1 + 1) c) := fun c z c1 c2 hz => by
                by_cases ec : c = p.1
                · subst ec
                  rw [up_at, ← Option.some.inj (hy.symm.trans hz)]
                  exact hI7
                · rw [up_ne ec]
                  exact (hcur c z c1 c2 hz).far ((f7 _ (by omega) (by omega)).trans (g6 _ (by omega) (by omega) (by omega) (by omega) (by omega))) ((f7 _ (by omega) (by omega)).trans (g6 _ (by omega) (by omega) (by omega) (by omega) (by omega)))
              have hCA7 : CursA H7 := fun c hc => by
                by_cases ec : c = p.1
                · rw [ec]; exact hI7.any
                · exact (hCA c hc).far ((f7 _ (by omega) (by omega)).trans (g6 _ (by omega) (by omega) (by omega) (by omega) (by omega))) ((f7 _ (by omega) (by omega)).trans (g6 _ (by omega) (by omega) (by omega) (by omega) (by omega)))
              have r1' := (f7 139 (by omega) (by omega)).trans r1
              have r3' := (f7 138 (by omega) (by omega)).trans r3
              have t7 := hD7.2.2.2.2.2.2.2.2.1
              have q7 := hD7.2.2.2.2.2.2.2.2.2.1
              have hs7 : ((va_up s.1 p.1 (s.1 p.1 + 1), p.2.1, p.2.2.1, s.2.2.2) : aMg) = (mgRun vs wh ess f (en - f) (fun _ => 0, [], lm, []) (i + 1)) := by
                show _ = mgStep vs wh ess f (en - f) (mgRun vs wh ess f (en - f) (fun _ => 0, [], lm, []) i)
                rw [← hs, mgStep, hl]
                dsimp only
                rw [← hO4]
              have hT1j := hT1 (i + 1)
              have hT2j := hT2 (i + 1)
              rw [← hs7] at hT1j hT2j
              refine RQ.blk 1 (pc' := 273) (lv' := [(12, .int 1), (11, .ref ((142 + 2 * p.1) + 1)), (10, .int (nI p.1)), (9, .int (nI i)), (0, .ref 137), (1, .int (nI f)), (2, .int (nI en)), (4, .int (nI P)), (5, .int (if wh then 1 else 0)), (6, .ref (r + 1)), (7, .int (nI by7)), (8, .int (nI E))]) (st' := [.ref 137]) (H' := _) (kc' := 0) (ks' := 0) rfl ?_
              refine RQ.get (ci := 8) rfl t7 rfl rfl ?_
              refine RQ.blk 1 (pc' := 279) (lv' := [(12, .int 1), (11, .ref ((142 + 2 * p.1) + 1)), (10, .int (nI p.1)), (9, .int (nI i)), (0, .ref 137), (1, .int (nI f)), (2, .int (nI en)), (4, .int (nI P)), (5, .int (if wh then 1 else 0)), (6, .ref (r + 1)), (7, .int (nI by7)), (8, .int (nI E))]) (st' := [.int 2048, .int (nI bf1)]) (H' := _) (kc' := 0) (ks' := 0) rfl ?_
              by_cases c9 : bf1 < 2048
              · refine RQ.brT rfl rfl rfl (cT_lt (bf1) 2048) ?_
                refine RQ.blk 1 (pc' := 291) (lv' := [(9, .int (nI i + 1)), (12, .int 1), (11, .ref ((142 + 2 * p.1) + 1)), (10, .int (nI p.1)), (0, .ref 137), (1, .int (nI f)), (2, .int (nI en)), (4, .int (nI P)), (5, .int (if wh then 1 else 0)), (6, .ref (r + 1)), (7, .int (nI by7)), (8, .int (nI E))]) (st' := []) (H' := _) (kc' := 0) (ks' := 0) rfl ?_
                rw [show (nI i + 1 : Int32) = nI (i + 1) from nI_add i 1]
                refine RQ.blk 1 (pc' := 135) (lv' := [(9, .int (nI (i + 1))), (12, .int 1), (11, .ref ((142 + 2 * p.1) + 1)), (10, .int (nI p.1)), (0, .ref 137), (1, .int (nI f)), (2, .int (nI en)), (4, .int (nI P)), (5, .int (if wh then 1 else 0)), (6, .ref (r + 1)), (7, .int (nI by7)), (8, .int (nI E))]) (st' := []) (H' := _) (kc' := 0) (ks' := 0) rfl ?_
                refine RQ.pick (a := [(9, .int (nI (i + 1))), (0, .ref 137), (1, .int (nI f)), (2, .int (nI en)), (4, .int (nI P)), (5, .int (if wh then 1 else 0)), (6, .ref (r + 1)), (7, .int (nI by7)), (8, .int (nI E))]) [0, 4, 5, 6, 7, 8, 9, 10, 11] [9, 12, 11, 10, 0, 1, 2, 4, 5, 6, 7, 8] rfl rfl (by decide) ?_
                exact ih (i + 1) _ ⟨_, _, _, _, _, _, _, _, _, lb6, hs7, by omega, by omega, hD7, hx41, hx4, hcur7, r1', r3', r2, hEp.2.1, hEs4, hEp.2.2.1, hCA7, f8⟩ (by omega)
              · exact absurd hbf1 c9
          · have hm30 := hEp.2.2.1
            refine RQ.brT rfl rfl rfl (cT_ne s.2.2.1 p.2.2.1) ?_
            have hkp : mgKeep vs wh s.2.1 s.2.2.1 p.2 = true := by unfold mgKeep; simp [ag, ht, hlm]
            refine RQ.blk 2 (pc' := 223) (lv' := [(12, .int 1), (11, .ref ((142 + 2 * p.1) + 1)), (10, .int (nI p.1)), (9, .int (nI i)), (0, .ref 137), (1, .int (nI f)), (2, .int (nI en)), (4, .int (nI P)), (5, .int (if wh then 1 else 0)), (6, .ref (r + 1)), (7, .int (nI by7)), (8, .int (nI E))]) (st' := [.ref ((142 + 2 * p.1) + 1), .ref 137]) (H' := _) (kc' := 0) (ks' := 0) rfl ?_
            refine RQ.get (ci := 2) rfl hq rfl rfl ?_
            refine RQ.blk 2 (pc' := 229) (lv' := [(12, .int 1), (11, .ref ((142 + 2 * p.1) + 1)), (10, .int (nI p.1)), (9, .int (nI i)), (0, .ref 137), (1, .int (nI f)), (2, .int (nI en)), (4, .int (nI P)), (5, .int (if wh then 1 else 0)), (6, .ref (r + 1)), (7, .int (nI by7)), (8, .int (nI E))]) (st' := [.ref ((142 + 2 * p.1) + 1), .int 0, .ref ((142 + 2 * p.1 + 1) + 1), .ref 137]) (H' := _) (kc' := 0) (ks' := 0) rfl ?_
            refine RQ.get (ci := 2) rfl hq rfl rfl ?_
            refine RQ.blk 1 (pc' := 234) (lv' := [(12, .int 1), (11, .ref ((142 + 2 * p.1) + 1)), (10, .int (nI p.1)), (9, .int (nI i)), (0, .ref 137), (1, .int (nI f)), (2, .int (nI en)), (4, .int (nI P)), (5, .int (if wh then 1 else 0)), (6, .ref (r + 1)), (7, .int (nI by7)), (8, .int (nI E))]) (st' := [.ref ((142 + 2 * p.1) + 1), .int (nI p.2.1.length), .int 0, .ref ((142 + 2 * p.1 + 1) + 1), .ref 137]) (H' := _) (kc' := 0) (ks' := 0) rfl ?_
            refine RQ.get (ci := 2) rfl hq rfl rfl ?_
            refine RQ.blk 1 (pc' := 239) (lv' := [(12, .int 1), (11, .ref ((142 + 2 * p.1) + 1)), (10, .int (nI p.1)), (9, .int (nI i)), (0, .ref 137), (1, .int (nI f)), (2, .int (nI en)), (4, .int (nI P)), (5, .int (if wh then 1 else 0)), (6, .ref (r + 1)), (7, .int (nI by7)), (8, .int (nI E))]) (st' := [.ref ((142 + 2 * p.1) + 1), .int (nI p.2.2.1), .int (nI p.2.1.length), .int 0, .ref ((142 + 2 * p.1 + 1) + 1), .ref 137]) (H' := _) (kc' := 0) (ks' := 0) rfl ?_
            refine RQ.get (ci := 2) rfl hq rfl rfl ?_
            refine RQ.blk 1 (pc' := 244) (lv' := [(12, .int 1), (11, .ref ((142 + 2 * p.1) + 1)), (10, .int (nI p.1)), (9, .int (nI i)), (0, .ref 137), (1, .int (nI f)), (2, .int (nI en)), (4, .int (nI P)), (5, .int (if wh then 1 else 0)), (6, .ref (r + 1)), (7, .int (nI by7)), (8, .int (nI E))]) (st' := [.ref ((142 + 2 * p.1) + 1), .int (nI p.2.2.2.1), .int (nI p.2.2.1), .int (nI p.2.1.length), .int 0, .ref ((142 + 2 * p.1 + 1) + 1), .ref 137]) (H' := _) (kc' := 0) (ks' := 0) rfl ?_
            refine RQ.get (ci := 2) rfl hq rfl rfl ?_
            refine RQ.callN (st' := []) rfl rfl rfl rfl rfl rfl (args_v [.int (lI p.2.2.2.2), .int (nI p.2.2.2.1), .int (nI p.2.2.1), .int (nI p.2.1.length), .int 0, .ref ((142 + 2 * p.1 + 1) + 1)] [] rfl rfl (Nat.le_of_ble_eq_true rfl) rfl d9 (Nat.le_of_ble_eq_true rfl)) (rn_emit (a := 142 + 2 * p.1 + 1) (na := 41) (j := 0) (n := p.2.1.length) (m := p.2.2.1) (pl := p.2.2.2.1) (l := p.2.2.2.2) d9 d10 hg (by decide) (by omega) (by omega) (by have := hEp.2.1; omega) (by have := hEp.2.1; omega) hEp.2.1 hEp.2.2.1 hEp.2.2.2.1 hEp.2.2.2.2.1) (fun H3 hx3 => ?_)
            obtain ⟨⟨pg3, e1, e2⟩, e3, f3⟩ := hx3
            rw [hk, ent_same hEp] at e2
            have hR3 : RunIs H3 r x := d5.far (f3 _ (by omega) (by omega)) (f3 _ (by omega) (by omega))
            have hR4 := hR3.ent
            obtain ⟨rf, rk1, rk2, rk3, rk4⟩ := id hR3
            refine RQ.blk 2 (pc' := 253) (lv' := [(12, .int 1), (11, .ref ((142 + 2 * p.1) + 1)), (10, .int (nI p.1)), (9, .int (nI i)), (0, .ref 137), (1, .int (nI f)), (2, .int (nI en)), (4, .int (nI P)), (5, .int (if wh then 1 else 0)), (6, .ref (r + 1)), (7, .int (nI by7)), (8, .int (nI E))]) (st' := [.ref (r + 1), .ref (r + 1)]) (H' := _) (kc' := 0) (ks' := 0) rfl ?_
            refine RQ.get (ci := 6) rfl rk1 rfl rfl ?_
            refine RQ.blk 2 (pc' := 258) (lv' := [(12, .int 1), (11, .ref ((142 + 2 * p.1) + 1)), (10, .int (nI p.1)), (9, .int (nI i)), (0, .ref 137), (1, .int (nI f)), (2, .int (nI en)), (4, .int (nI P)), (5, .int (if wh then 1 else 0)), (6, .ref (r + 1)), (7, .int (nI by7)), (8, .int (nI E))]) (st' := [.int (nI x.2.2.1 + 1), .ref (r + 1)]) (H' := _) (kc' := 0) (ks' := 0) rfl ?_
            rw [show (nI x.2.2.1 + 1 : Int32) = nI (x.2.2.1 + 1) from nI_add x.2.2.1 1]
            refine RQ.put (ci := 6) rfl rk1 rfl rfl (Nat.le_of_ble_eq_true rfl) ?_
            have hbf4 : bf1 + (p.2.1.length + 10) ≤ 2099 := by have := hEp.2.1; omega
            have hD4 : DrI (H3.set r (kO 6 [.ref (r + 1 + 1), .int (nI x.2.2.2.length), .int (nI x.1), .int (nI x.2.1), .int (nI (x.2.2.1 + 1))])) B lgs fr ff wr tp rs ms mt sq us cf tf bb r s.2.2.1 gm us1 tu1 c tf1 pq1 (x.1, x.2.1, x.2.2.1 + 1, x.2.2.2) pg3 (bf1 + (p.2.1.length + 10)) (s.2.2.2 ++ [p.2]) := ⟨d1.emit hxf e2, d2.far (fun a a1 a2 => (set_far (by omega)).trans (f3 a (by omega) (by omega))), d3, d4, hR4, (d6.far (H' := H3) (fun a a1 a2 a3 => f3 a (by omega) (by omega))).draft ((f3 84 (by decide) (by decide)).trans d11) d12 hrl hR4 (fun a a1 a2 => set_far a1), d7, d8, (set_far (by omega)).trans e3, (set_far (by omega)).trans e1, Q2, (set_far (by omega)).trans ((f3 84 (by decide) (by decide)).trans d11), d12⟩
            have g4 : ∀ a, a ≠ 136 → a ≠ 140 → a ≠ r → (H3.set r (kO 6 [.ref (r + 1 + 1), .int (nI x.2.2.2.length), .int (nI x.1), .int (nI x.2.1), .int (nI (x.2.2.1 + 1))]))[a]? = H2[a]? := fun a a1 a2 a3 => (set_far a3).trans (f3 a a2 a1)
            have t4 : (H3.set r (kO 6 [.ref (r + 1 + 1), .int (nI x.2.2.2.length), .int (nI x.1), .int (nI x.2.1), .int (nI (x.2.2.1 + 1))]))[136]? = _ := (set_far (by omega)).trans e3
            have hx4 : (x.1, x.2.1, x.2.2.1 + 1, x.2.2.2).2.1 = (x.1, x.2.1, x.2.2.1 + 1, x.2.2.2).2.2.2.length * 2048 := hxf
            have hx41 : (x.1, x.2.1, x.2.2.1 + 1, x.2.2.2).1 = lev := hx1
            show RQ _ _ _ _ _ _ (H3.set r (kO 6 [.ref (r + 1 + 1), .int (nI x.2.2.2.length), .int (nI x.1), .int (nI x.2.1), .int (nI (x.2.2.1 + 1))])) _ _ _
            generalize (H3.set r (kO 6 [.ref (r + 1 + 1), .int (nI x.2.2.2.length), .int (nI x.1), .int (nI x.2.1), .int (nI (x.2.2.1 + 1))])) = H4 at hD4 g4 t4 ⊢
            generalize (x.1, x.2.1, x.2.2.1 + 1, x.2.2.2) = x4 at hD4 hx4 hx41
            have hO4 : s.2.2.2 ++ [p.2] = (if mgKeep vs wh s.2.1 s.2.2.1 p.2 = true then s.2.2.2 ++ [p.2] else s.2.2.2) := by rw [if_pos hkp]
            have hEs4 : ∀ e ∈ s.2.2.2 ++ [p.2], EOk e := fun e he => (List.mem_append.mp he).elim (hEs e) (fun h9 => by rw [List.mem_singleton.mp h9]; exact hEp)
            refine RQ.blk 2 (pc' := 264) (lv' := [(12, .int 1), (11, .ref ((142 + 2 * p.1) + 1)), (10, .int (nI p.1)), (9, .int (nI i)), (0, .ref 137), (1, .int (nI f)), (2, .int (nI en)), (4, .int (nI P)), (5, .int (if wh then 1 else 0)), (6, .ref (r + 1)), (7, .int (nI by7)), (8, .int (nI E))]) (st' := [.ref ((142 + 2 * p.1) + 1), .ref 137]) (H' := _) (kc' := 0) (ks' := 0) rfl ?_
            refine RQ.callN (st' := []) rfl rfl rfl rfl rfl rfl (args_v [.ref ((142 + 2 * p.1) + 1)] [] rfl rfl (Nat.le_of_ble_eq_true rfl) rfl t4 (Nat.le_of_ble_eq_true rfl)) (rn_remember (q := 142 + 2 * p.1) (n := p.2.1.length) (m := p.2.2.1) (pp := p.2.2.2.1) (l := p.2.2.2.2) t4 ((g4 138 (by decide) (by decide) (by omega)).trans hL) ((g4 139 (by decide) (by decide) (by omega)).trans hb) hln ((g4 _ (by omega) (by omega) (by omega)).trans hq) ((g4 _ (by omega) (by omega) (by omega)).trans hg) hEp.2.1 hEp.2.2.1 b30 l30 (by omega)) (fun H6 hx6 => ?_)
            obtain ⟨⟨lb6, r1, r2⟩, r3, r4, f6⟩ := hx6
            rw [hk] at r2
            have g6 : ∀ a, a ≠ 136 → a ≠ 140 → a ≠ r → a ≠ 138 → a ≠ 139 → H6[a]? = H2[a]? := fun a a1 a2 a3 a4 a5 => (f6 a a1 a4 a5).trans (g4 a a1 a2 a3)
            have hD6 := hD4.lm (H' := H6) (lm' := p.2.2.1) ⟨hr1, hr2⟩ (fun a a1 a2 a3 a4 => f6 a (by omega) (by omega) (by omega)) (f6 140 (by decide) (by decide) (by decide)) r4
            refine RQ.blk 1 (pc' := 269) (lv' := [(12, .int 1), (11, .ref ((142 + 2 * p.1) + 1)), (10, .int (nI p.1)), (9, .int (nI i)), (0, .ref 137), (1, .int (nI f)), (2, .int (nI en)), (4, .int (nI P)), (5, .int (if wh then 1 else 0)), (6, .ref (r + 1)), (7, .int (nI by7)), (8, .int (nI E))]) (st' := [.ref ((142 + 2 * p.1) + 1)]) (H' := _) (kc' := 0) (ks' := 0) rfl ?_
            refine RQ.callN (st' := []) rfl rfl rfl rfl rfl rfl (args_v [] [] rfl rfl (Nat.le_of_ble_eq_true rfl) rfl ((g6 _ (by omega) (by omega) (by omega) (by omega) (by omega)).trans hq) (Nat.le_of_ble_eq_true rfl)) (rn_cadvI (q := 142 + 2 * p.1) (r := pi p.1) (x := y) (es := ess p.1) (i := s.1 p.1) (hI.far (g6 _ (by omega) (by omega) (by omega) (by omega) (by omega)) (g6 _ (by omega) (by omega) (by omega) (by omega) (by omega))) ((hpiR p.1 y hy).far ((g6 _ (by omega) (by omega) (by omega) (by omega) (by omega)).trans (f2 _ (by omega) (by omega) (by omega) (by omega) (by omega) (by omega) (by omega) (by omega))) ((g6 _ (by omega) (by omega) (by omega) (by omega) (by omega)).trans (f2 _ (by omega) (by omega) (by omega) (by omega) (by omega) (by omega) (by omega) (by omega)))) hOky hD6.2.1 hB (by omega) (by omega) hil) (fun H7 hx7 => ?_)
            obtain ⟨hI7, f7⟩ := hx7
            have hD7 := hD6.far (H' := H7) ⟨hr1, hr2⟩ (fun a a1 a2 a3 a4 => f7 a (by omega) (by omega)) (f7 140 (by omega) (by omega))
            have f8 : ∀ a, ¬ (71 ≤ a ∧ a < 74) → a ≠ 83 → a ≠ 86 → a ≠ r → a ≠ r + 1 → ¬ (a = 136 ∨ a = 140) → ¬ (138 ≤ a ∧ a < 140) → ¬ (142 ≤ a ∧ a < 190) → H7[a]? = H[a]? := fun a a1 a2 a3 a4 a5 a6 a7 a8 => (f7 a (by omega) (by omega)).trans ((g6 a (by omega) (by omega) a4 (by omega) (by omega)).trans (f2 a a1 a2 a3 a4 a5 a6 a7 a8))
            have hcur7 : ∀ c z, f ≤ c → c < en → rs[c]? = some z → CurI H7 (142 + 2 * c) (pi c) z (ess c) (va_up s.1 p.1 (s.1 p.1 + 1) c) := fun c z c1 c2 hz => by
              by_cases ec : c = p.1
              · subst ec
                rw [up_at, ← Option.some.inj (hy.symm.trans hz)]
                exact hI7
              · rw [up_ne ec]
                exact (hcur c z c1 c2 hz).far ((f7 _ (by omega) (by omega)).trans (g6 _ (by omega) (by omega) (by omega) (by omega) (by omega))) ((f7 _ (by omega) (by omega)).trans (g6 _ (by omega) (by omega) (by omega) (by omega) (by omega)))
            have hCA7 : CursA H7 := fun c hc => by
              by_cases ec : c = p.1
              · rw [ec]; exact hI7.any
              · exact (hCA c hc).far ((f7 _ (by omega) (by omega)).trans (g6 _ (by omega) (by omega) (by omega) (by omega) (by omega))) ((f7 _ (by omega) (by omega)).trans (g6 _ (by omega) (by omega) (by omega) (by omega) (by omega)))
            have r1' := (f7 139 (by omega) (by omega)).trans r1
            have r3' := (f7 138 (by omega) (by omega)).trans r3
            have t7 := hD7.2.2.2.2.2.2.2.2.1
            have q7 := hD7.2.2.2.2.2.2.2.2.2.1
            have hs7 : ((va_up s.1 p.1 (s.1 p.1 + 1), p.2.1, p.2.2.1, (s.2.2.2 ++ [p.2])) : aMg) = (mgRun vs wh ess f (en - f) (fun _ => 0, [], lm, []) (i + 1)) := by
              show _ = mgStep vs wh ess f (en - f) (mgRun vs wh ess f (en - f) (fun _ => 0, [], lm, []) i)
              rw [← hs, mgStep, hl]
              dsimp only
              rw [← hO4]
            have hT1j := hT1 (i + 1)
            have hT2j := hT2 (i + 1)
            rw [← hs7] at hT1j hT2j
            refine RQ.blk 1 (pc' := 273) (lv' := [(12, .int 1), (11, .ref ((142 + 2 * p.1) + 1)), (10, .int (nI p.1)), (9, .int (nI i)), (0, .ref 137), (1, .int (nI f)), (2, .int (nI en)), (4, .int (nI P)), (5, .int (if wh then 1 else 0)), (6, .ref (r + 1)), (7, .int (nI by7)), (8, .int (nI E))]) (st' := [.ref 137]) (H' := _) (kc' := 0) (ks' := 0) rfl ?_
            refine RQ.get (ci := 8) rfl t7 rfl rfl ?_
            refine RQ.blk 1 (pc' := 279) (lv' := [(12, .int 1), (11, .ref ((142 + 2 * p.1) + 1)), (10, .int (nI p.1)), (9, .int (nI i)), (0, .ref 137), (1, .int (nI f)), (2, .int (nI en)), (4, .int (nI P)), (5, .int (if wh then 1 else 0)), (6, .ref (r + 1)), (7, .int (nI by7)), (8, .int (nI E))]) (st' := [.int 2048, .int (nI (bf1 + (p.2.1.length + 10)))]) (H' := _) (kc' := 0) (ks' := 0) rfl ?_
            by_cases c10 : bf1 + (p.2.1.length + 10) < 2048
            · refine RQ.brT rfl rfl rfl (cT_lt (bf1 + (p.2.1.length + 10)) 2048) ?_
              refine RQ.blk 1 (pc' := 291) (lv' := [(9, .int (nI i + 1)), (12, .int 1), (11, .ref ((142 + 2 * p.1) + 1)), (10, .int (nI p.1)), (0, .ref 137), (1, .int (nI f)), (2, .int (nI en)), (4, .int (nI P)), (5, .int (if wh then 1 else 0)), (6, .ref (r + 1)), (7, .int (nI by7)), (8, .int (nI E))]) (st' := []) (H' := _) (kc' := 0) (ks' := 0) rfl ?_
              rw [show (nI i + 1 : Int32) = nI (i + 1) from nI_add i 1]
              refine RQ.blk 1 (pc' := 135) (lv' := [(9, .int (nI (i + 1))), (12, .int 1), (11, .ref ((142 + 2 * p.1) + 1)), (10, .int (nI p.1)), (0, .ref 137), (1, .int (nI f)), (2, .int (nI en)), (4, .int (nI P)), (5, .int (if wh then 1 else 0)), (6, .ref (r + 1)), (7, .int (nI by7)), (8, .int (nI E))]) (st' := []) (H' := _) (kc' := 0) (ks' := 0) rfl ?_
              refine RQ.pick (a := [(9, .int (nI (i + 1))), (0, .ref 137), (1, .int (nI f)), (2, .int (nI en)), (4, .int (nI P)), (5, .int (if wh then 1 else 0)), (6, .ref (r + 1)), (7, .int (nI by7)), (8, .int (nI E))]) [0, 4, 5, 6, 7, 8, 9, 10, 11] [9, 12, 11, 10, 0, 1, 2, 4, 5, 6, 7, 8] rfl rfl (by decide) ?_
              exact ih (i + 1) _ ⟨_, _, _, _, _, _, _, _, _, lb6, hs7, by omega, by omega, hD7, hx41, hx4, hcur7, r1', r3', r2, hEp.2.1, hEs4, hEp.2.2.1, hCA7, f8⟩ (by omega)
            · refine RQ.brF rfl rfl rfl (cF_lt (bf1 + (p.2.1.length + 10)) 2048) ?_
              refine RQ.blk 2 (pc' := 285) (lv' := [(12, .int 1), (11, .ref ((142 + 2 * p.1) + 1)), (10, .int (nI p.1)), (9, .int (nI i)), (0, .ref 137), (1, .int (nI f)), (2, .int (nI en)), (4, .int (nI P)), (5, .int (if wh then 1 else 0)), (6, .ref (r + 1)), (7, .int (nI by7)), (8, .int (nI E))]) (st' := [.ref (r + 1), .ref 137]) (H' := _) (kc' := 0) (ks' := 0) rfl ?_
              refine RQ.callT (st' := []) rfl rfl rfl rfl rfl rfl (args_v [.ref (r + 1)] [] rfl rfl (Nat.le_of_ble_eq_true rfl) rfl t7 (Nat.le_of_ble_eq_true rfl)) (re_pageD (d := d) hD7 hB hbb (by omega) hl30 hi30 hfr0 hrl hr1 hr2 hbf4 hT1j hT2j (by omega)) rfl (fun H9 hx9 => ?_) (fun H9 hbad => Or.inr (by obtain ⟨c', tf', z1, z2, ⟨tu', us', z3, z4⟩, z5⟩ := hbad; exact ⟨_, rfl, ⟨c', tf', z1, (hM.far (fun q hq => z2 q (by cases e : us (q / 2048) with | true => rfl | false => have := hus2 _ e; omega))).forget, fun q _ hq => z2 q hq, ⟨_, (z5 85 (by decide) (by decide)).trans ((f8 85 (by decide) (by decide) (by decide) (by omega) (by omega) (by decide) (by decide) (by decide)).trans hpg)⟩, ⟨_, (z5 140 (by decide) (by decide)).trans q7⟩, ⟨_, _, hEp.2.2.1, (z5 136 (by decide) (by decide)).trans t7⟩, ⟨_, _, _, _, _, _, _, _, z3, z4⟩⟩, hCA7.far (fun a a1 a2 => z5 a (by omega) (by omega)), ⟨_, _, hEp.2.1, (z5 138 (by decide) (by decide)).trans r3', (z5 139 (by decide) (by decide)).trans r1'⟩, fun a a1 a2 a3 a4 => (z5 a (by omega) (by omega)).trans (f8 a (by omega) (by omega) (by omega) (by omega) (by omega) (by omega) (by omega) (by omega))⟩))
              obtain ⟨us9, tu9, c9, tf9, pq9, x9, pg9, hD9, hx91, hx9f, -, f9⟩ := hx9
              have g9 : ∀ a, 137 ≤ a → a ≠ 140 → H9[a]? = H7[a]? := fun a a1 a2 => f9 a (by omega) (by omega) (by omega) (by omega) (by omega) (by omega)
              refine RQ.blk 1 (pc' := 291) (lv' := [(9, .int (nI i + 1)), (12, .int 1), (11, .ref ((142 + 2 * p.1) + 1)), (10, .int (nI p.1)), (0, .ref 137), (1, .int (nI f)), (2, .int (nI en)), (4, .int (nI P)), (5, .int (if wh then 1 else 0)), (6, .ref (r + 1)), (7, .int (nI by7)), (8, .int (nI E))]) (st' := []) (H' := _) (kc' := 0) (ks' := 0) rfl ?_
              rw [show (nI i + 1 : Int32) = nI (i + 1) from nI_add i 1]
              refine RQ.blk 1 (pc' := 135) (lv' := [(9, .int (nI (i + 1))), (12, .int 1), (11, .ref ((142 + 2 * p.1) + 1)), (10, .int (nI p.1)), (0, .ref 137), (1, .int (nI f)), (2, .int (nI en)), (4, .int (nI P)), (5, .int (if wh then 1 else 0)), (6, .ref (r + 1)), (7, .int (nI by7)), (8, .int (nI E))]) (st' := []) (H' := _) (kc' := 0) (ks' := 0) rfl ?_
              refine RQ.pick (a := [(9, .int (nI (i + 1))), (0, .ref 137), (1, .int (nI f)), (2, .int (nI en)), (4, .int (nI P)), (5, .int (if wh then 1 else 0)), (6, .ref (r + 1)), (7, .int (nI by7)), (8, .int (nI E))]) [0, 4, 5, 6, 7, 8, 9, 10, 11] [9, 12, 11, 10, 0, 1, 2, 4, 5, 6, 7, 8] rfl rfl (by decide) ?_
              exact ih (i + 1) _ ⟨_, _, _, _, _, _, _, _, _, lb6, hs7, by omega, by omega, hD9, hx91.trans hx41, hx9f (by omega), fun c z c1 c2 hz => (hcur7 c z c1 c2 hz).far (g9 _ (by omega) (by omega)) (g9 _ (by omega) (by omega)), (g9 139 (by decide) (by decide)).trans r1', (g9 138 (by decide) (by decide)).trans r3', r2, hEp.2.1, hEs4, hEp.2.2.1, hCA7.far (fun a a1 a2 => g9 a (by omega) (by omega)), fun a a1 a2 a3 a4 a5 a6 a7 a8 => (f9 a a1 a2 a3 a4 a5 a6).trans (f8 a a1 a2 a3 a4 a5 a6 a7 a8)⟩ (by omega)
        · rw [if_neg ht]
          refine RQ.brT rfl rfl rfl (by decide) ?_
          refine RQ.blk 1 (pc' := 203) (lv' := [(12, .int 1), (11, .ref ((142 + 2 * p.1) + 1)), (10, .int (nI p.1)), (9, .int (nI i)), (0, .ref 137), (1, .int (nI f)), (2, .int (nI en)), (4, .int (nI P)), (5, .int (if wh then 1 else 0)), (6, .ref (r + 1)), (7, .int (nI by7)), (8, .int (nI E))]) (st' := [.int (if wh then 1 else 0)]) (H' := _) (kc' := 0) (ks' := 0) rfl ?_
          by_cases hw : wh = true
          · refine RQ.brT rfl rfl rfl (by rw [if_pos hw]; decide) ?_
            have hkp : mgKeep vs wh s.2.1 s.2.2.1 p.2 = false := by unfold mgKeep; simp [ag, ht, hw]
            have hbf4 : bf1 ≤ 2099 := by omega
            have hD4 := hD0
            have g4 : ∀ a, a ≠ 136 → a ≠ 140 → a ≠ r → H2[a]? = H2[a]? := fun a a1 a2 a3 => rfl
            have t4 := d9
            have hx4 := hxf
            have hx41 := hx1
            have hO4 : s.2.2.2 = (if mgKeep vs wh s.2.1 s.2.2.1 p.2 = true then s.2.2.2 ++ [p.2] else s.2.2.2) := by rw [if_neg (by rw [hkp]; decide)]
            have hEs4 := hEs
            refine RQ.blk 2 (pc' := 264) (lv' := [(12, .int 1), (11, .ref ((142 + 2 * p.1) + 1)), (10, .int (nI p.1)), (9, .int (nI i)), (0, .ref 137), (1, .int (nI f)), (2, .int (nI en)), (4, .int (nI P)), (5, .int (if wh then 1 else 0)), (6, .ref (r + 1)), (7, .int (nI by7)), (8, .int (nI E))]) (st' := [.ref ((142 + 2 * p.1) + 1), .ref 137]) (H' := _) (kc' := 0) (ks' := 0) rfl ?_
            refine RQ.callN (st' := []) rfl rfl rfl rfl rfl rfl (args_v [.ref ((142 + 2 * p.1) + 1)] [] rfl rfl (Nat.le_of_ble_eq_true rfl) rfl t4 (Nat.le_of_ble_eq_true rfl)) (rn_remember (q := 142 + 2 * p.1) (n := p.2.1.length) (m := p.2.2.1) (pp := p.2.2.2.1) (l := p.2.2.2.2) t4 ((g4 138 (by decide) (by decide) (by omega)).trans hL) ((g4 139 (by decide) (by decide) (by omega)).trans hb) hln ((g4 _ (by omega) (by omega) (by omega)).trans hq) ((g4 _ (by omega) (by omega) (by omega)).trans hg) hEp.2.1 hEp.2.2.1 b30 l30 (by omega)) (fun H6 hx6 => ?_)
            obtain ⟨⟨lb6, r1, r2⟩, r3, r4, f6⟩ := hx6
            rw [hk] at r2
            have g6 : ∀ a, a ≠ 136 → a ≠ 140 → a ≠ r → a ≠ 138 → a ≠ 139 → H6[a]? = H2[a]? := fun a a1 a2 a3 a4 a5 => (f6 a a1 a4 a5).trans (g4 a a1 a2 a3)
            have hD6 := hD4.lm (H' := H6) (lm' := p.2.2.1) ⟨hr1, hr2⟩ (fun a a1 a2 a3 a4 => f6 a (by omega) (by omega) (by omega)) (f6 140 (by decide) (by decide) (by decide)) r4
            refine RQ.blk 1 (pc' := 269) (lv' := [(12, .int 1), (11, .ref ((142 + 2 * p.1) + 1)), (10, .int (nI p.1)), (9, .int (nI i)), (0, .ref 137), (1, .int (nI f)), (2, .int (nI en)), (4, .int (nI P)), (5, .int (if wh then 1 else 0)), (6, .ref (r + 1)), (7, .int (nI by7)), (8, .int (nI E))]) (st' := [.ref ((142 + 2 * p.1) + 1)]) (H' := _) (kc' := 0) (ks' := 0) rfl ?_
            refine RQ.callN (st' := []) rfl rfl rfl rfl rfl rfl (args_v [] [] rfl rfl (Nat.le_of_ble_eq_true rfl) rfl ((g6 _ (by omega) (by omega) (by omega) (by omega) (by omega)).trans hq) (Nat.le_of_ble_eq_true rfl)) (rn_cadvI (q := 142 + 2 * p.1) (r := pi p.1) (x := y) (es := ess p.1) (i := s.1 p.1) (hI.far (g6 _ (by omega) (by omega) (by omega) (by omega) (by omega)) (g6 _ (by omega) (by omega) (by omega) (by omega) (by omega))) ((hpiR p.1 y hy).far ((g6 _ (by omega) (by omega) (by omega) (by omega) (by omega)).trans (f2 _ (by omega) (by omega) (by omega) (by omega) (by omega) (by omega) (by omega) (by omega))) ((g6 _ (by omega) (by omega) (by omega) (by omega) (by omega)).trans (f2 _ (by omega) (by omega) (by omega) (by omega) (by omega) (by omega) (by omega) (by omega)))) hOky hD6.2.1 hB (by omega) (by omega) hil) (fun H7 hx7 => ?_)
            obtain ⟨hI7, f7⟩ := hx7
            have hD7 := hD6.far (H' := H7) ⟨hr1, hr2⟩ (fun a a1 a2 a3 a4 => f7 a (by omega) (by omega)) (f7 140 (by omega) (by omega))
            have f8 : ∀ a, ¬ (71 ≤ a ∧ a < 74) → a ≠ 83 → a ≠ 86 → a ≠ r → a ≠ r + 1 → ¬ (a = 136 ∨ a = 140) → ¬ (138 ≤ a ∧ a < 140) → ¬ (142 ≤ a ∧ a < 190) → H7[a]? = H[a]? := fun a a1 a2 a3 a4 a5 a6 a7 a8 => (f7 a (by omega) (by omega)).trans ((g6 a (by omega) (by omega) a4 (by omega) (by omega)).trans (f2 a a1 a2 a3 a4 a5 a6 a7 a8))
            have hcur7 : ∀ c z, f ≤ c → c < en → rs[c]? = some z → CurI H7 (142 + 2 * c) (pi c) z (ess c) (va_up s.1 p.1 (s.1 p.1 + 1) c) := fun c z c1 c2 hz => by
              by_cases ec : c = p.1
              · subst ec
                rw [up_at, ← Option.some.inj (hy.symm.trans hz)]
                exact hI7
              · rw [up_ne ec]
                exact (hcur c z c1 c2 hz).far ((f7 _ (by omega) (by omega)).trans (g6 _ (by omega) (by omega) (by omega) (by omega) (by omega))) ((f7 _ (by omega) (by omega)).trans (g6 _ (by omega) (by omega) (by omega) (by omega) (by omega)))
            have hCA7 : CursA H7 := fun c hc => by
              by_cases ec : c = p.1
              · rw [ec]; exact hI7.any
              · exact (hCA c hc).far ((f7 _ (by omega) (by omega)).trans (g6 _ (by omega) (by omega) (by omega) (by omega) (by omega))) ((f7 _ (by omega) (by omega)).trans (g6 _ (by omega) (by omega) (by omega) (by omega) (by omega)))
            have r1' := (f7 139 (by omega) (by omega)).trans r1
            have r3' := (f7 138 (by omega) (by omega)).trans r3
            have t7 := hD7.2.2.2.2.2.2.2.2.1
            have q7 := hD7.2.2.2.2.2.2.2.2.2.1
            have hs7 : ((va_up s.1 p.1 (s.1 p.1 + 1), p.2.1, p.2.2.1, s.2.2.2) : aMg) = (mgRun vs wh ess f (en - f) (fun _ => 0, [], lm, []) (i + 1)) := by
              show _ = mgStep vs wh ess f (en - f) (mgRun vs wh ess f (en - f) (fun _ => 0, [], lm, []) i)
              rw [← hs, mgStep, hl]
              dsimp only
              rw [← hO4]
            have hT1j := hT1 (i + 1)
            have hT2j := hT2 (i + 1)
            rw [← hs7] at hT1j hT2j
            refine RQ.blk 1 (pc' := 273) (lv' := [(12, .int 1), (11, .ref ((142 + 2 * p.1) + 1)), (10, .int (nI p.1)), (9, .int (nI i)), (0, .ref 137), (1, .int (nI f)), (2, .int (nI en)), (4, .int (nI P)), (5, .int (if wh then 1 else 0)), (6, .ref (r + 1)), (7, .int (nI by7)), (8, .int (nI E))]) (st' := [.ref 137]) (H' := _) (kc' := 0) (ks' := 0) rfl ?_
            refine RQ.get (ci := 8) rfl t7 rfl rfl ?_
            refine RQ.blk 1 (pc' := 279) (lv' := [(12, .int 1), (11, .ref ((142 + 2 * p.1) + 1)), (10, .int (nI p.1)), (9, .int (nI i)), (0, .ref 137), (1, .int (nI f)), (2, .int (nI en)), (4, .int (nI P)), (5, .int (if wh then 1 else 0)), (6, .ref (r + 1)), (7, .int (nI by7)), (8, .int (nI E))]) (st' := [.int 2048, .int (nI bf1)]) (H' := _) (kc' := 0) (ks' := 0) rfl ?_
            by_cases c11 : bf1 < 2048
            · refine RQ.brT rfl rfl rfl (cT_lt (bf1) 2048) ?_
              refine RQ.blk 1 (pc' := 291) (lv' := [(9, .int (nI i + 1)), (12, .int 1), (11, .ref ((142 + 2 * p.1) + 1)), (10, .int (nI p.1)), (0, .ref 137), (1, .int (nI f)), (2, .int (nI en)), (4, .int (nI P)), (5, .int (if wh then 1 else 0)), (6, .ref (r + 1)), (7, .int (nI by7)), (8, .int (nI E))]) (st' := []) (H' := _) (kc' := 0) (ks' := 0) rfl ?_
              rw [show (nI i + 1 : Int32) = nI (i + 1) from nI_add i 1]
              refine RQ.blk 1 (pc' := 135) (lv' := [(9, .int (nI (i + 1))), (12, .int 1), (11, .ref ((142 + 2 * p.1) + 1)), (10, .int (nI p.1)), (0, .ref 137), (1, .int (nI f)), (2, .int (nI en)), (4, .int (nI P)), (5, .int (if wh then 1 else 0)), (6, .ref (r + 1)), (7, .int (nI by7)), (8, .int (nI E))]) (st' := []) (H' := _) (kc' := 0) (ks' := 0) rfl ?_
              refine RQ.pick (a := [(9, .int (nI (i + 1))), (0, .ref 137), (1, .int (nI f)), (2, .int (nI en)), (4, .int (nI P)), (5, .int (if wh then 1 else 0)), (6, .ref (r + 1)), (7, .int (nI by7)), (8, .int (nI E))]) [0, 4, 5, 6, 7, 8, 9, 10, 11] [9, 12, 11, 10, 0, 1, 2, 4, 5, 6, 7, 8] rfl rfl (by decide) ?_
              exact ih (i + 1) _ ⟨_, _, _, _, _, _, _, _, _, lb6, hs7, by omega, by omega, hD7, hx41, hx4, hcur7, r1', r3', r2, hEp.2.1, hEs4, hEp.2.2.1, hCA7, f8⟩ (by omega)
            · exact absurd hbf1 c11
          · refine RQ.brF rfl rfl rfl (by rw [if_neg hw]; decide) ?_
            refine RQ.blk 1 (pc' := 208) (lv' := [(12, .int 1), (11, .ref ((142 + 2 * p.1) + 1)), (10, .int (nI p.1)), (9, .int (nI i)), (0, .ref 137), (1, .int (nI f)), (2, .int (nI en)), (4, .int (nI P)), (5, .int (if wh then 1 else 0)), (6, .ref (r + 1)), (7, .int (nI by7)), (8, .int (nI E))]) (st' := [.int 1]) (H' := _) (kc' := 0) (ks' := 0) rfl ?_
            refine RQ.brT rfl rfl rfl (by decide) ?_
            have hkp : mgKeep vs wh s.2.1 s.2.2.1 p.2 = false := by unfold mgKeep; simp [ag, ht, hw]
            have hbf4 : bf1 ≤ 2099 := by omega
            have hD4 := hD0
            have g4 : ∀ a, a ≠ 136 → a ≠ 140 → a ≠ r → H2[a]? = H2[a]? := fun a a1 a2 a3 => rfl
            have t4 := d9
            have hx4 := hxf
            have hx41 := hx1
            have hO4 : s.2.2.2 = (if mgKeep vs wh s.2.1 s.2.2.1 p.2 = true then s.2.2.2 ++ [p.2] else s.2.2.2) := by rw [if_neg (by rw [hkp]; decide)]
            have hEs4 := hEs
            refine RQ.blk 2 (pc' := 264) (lv' := [(12, .int 1), (11, .ref ((142 + 2 * p.1) + 1)), (10, .int (nI p.1)), (9, .int (nI i)), (0, .ref 137), (1, .int (nI f)), (2, .int (nI en)), (4, .int (nI P)), (5, .int (if wh then 1 else 0)), (6, .ref (r + 1)), (7, .int (nI by7)), (8, .int (nI E))]) (st' := [.ref ((142 + 2 * p.1) + 1), .ref 137]) (H' := _) (kc' := 0) (ks' := 0) rfl ?_
            refine RQ.callN (st' := []) rfl rfl rfl rfl rfl rfl (args_v [.ref ((142 + 2 * p.1) + 1)] [] rfl rfl (Nat.le_of_ble_eq_true rfl) rfl t4 (Nat.le_of_ble_eq_true rfl)) (rn_remember (q := 142 + 2 * p.1) (n := p.2.1.length) (m := p.2.2.1) (pp := p.2.2.2.1) (l := p.2.2.2.2) t4 ((g4 138 (by decide) (by decide) (by omega)).trans hL) ((g4 139 (by decide) (by decide) (by omega)).trans hb) hln ((g4 _ (by omega) (by omega) (by omega)).trans hq) ((g4 _ (by omega) (by omega) (by omega)).trans hg) hEp.2.1 hEp.2.2.1 b30 l30 (by omega)) (fun H6 hx6 => ?_)
            obtain ⟨⟨lb6, r1, r2⟩, r3, r4, f6⟩ := hx6
            rw [hk] at r2
            have g6 : ∀ a, a ≠ 136 → a ≠ 140 → a ≠ r → a ≠ 138 → a ≠ 139 → H6[a]? = H2[a]? := fun a a1 a2 a3 a4 a5 => (f6 a a1 a4 a5).trans (g4 a a1 a2 a3)
            have hD6 := hD4.lm (H' := H6) (lm' := p.2.2.1) ⟨hr1, hr2⟩ (fun a a1 a2 a3 a4 => f6 a (by omega) (by omega) (by omega)) (f6 140 (by decide) (by decide) (by decide)) r4
            refine RQ.blk 1 (pc' := 269) (lv' := [(12, .int 1), (11, .ref ((142 + 2 * p.1) + 1)), (10, .int (nI p.1)), (9, .int (nI i)), (0, .ref 137), (1, .int (nI f)), (2, .int (nI en)), (4, .int (nI P)), (5, .int (if wh then 1 else 0)), (6, .ref (r + 1)), (7, .int (nI by7)), (8, .int (nI E))]) (st' := [.ref ((142 + 2 * p.1) + 1)]) (H' := _) (kc' := 0) (ks' := 0) rfl ?_
            refine RQ.callN (st' := []) rfl rfl rfl rfl rfl rfl (args_v [] [] rfl rfl (Nat.le_of_ble_eq_true rfl) rfl ((g6 _ (by omega) (by omega) (by omega) (by omega) (by omega)).trans hq) (Nat.le_of_ble_eq_true rfl)) (rn_cadvI (q := 142 + 2 * p.1) (r := pi p.1) (x := y) (es := ess p.1) (i := s.1 p.1) (hI.far (g6 _ (by omega) (by omega) (by omega) (by omega) (by omega)) (g6 _ (by omega) (by omega) (by omega) (by omega) (by omega))) ((hpiR p.1 y hy).far ((g6 _ (by omega) (by omega) (by omega) (by omega) (by omega)).trans (f2 _ (by omega) (by omega) (by omega) (by omega) (by omega) (by omega) (by omega) (by omega))) ((g6 _ (by omega) (by omega) (by omega) (by omega) (by omega)).trans (f2 _ (by omega) (by omega) (by omega) (by omega) (by omega) (by omega) (by omega) (by omega)))) hOky hD6.2.1 hB (by omega) (by omega) hil) (fun H7 hx7 => ?_)
            obtain ⟨hI7, f7⟩ := hx7
            have hD7 := hD6.far (H' := H7) ⟨hr1, hr2⟩ (fun a a1 a2 a3 a4 => f7 a (by omega) (by omega)) (f7 140 (by omega) (by omega))
            have f8 : ∀ a, ¬ (71 ≤ a ∧ a < 74) → a ≠ 83 → a ≠ 86 → a ≠ r → a ≠ r + 1 → ¬ (a = 136 ∨ a = 140) → ¬ (138 ≤ a ∧ a < 140) → ¬ (142 ≤ a ∧ a < 190) → H7[a]? = H[a]? := fun a a1 a2 a3 a4 a5 a6 a7 a8 => (f7 a (by omega) (by omega)).trans ((g6 a (by omega) (by omega) a4 (by omega) (by omega)).trans (f2 a a1 a2 a3 a4 a5 a6 a7 a8))
            have hcur7 : ∀ c z, f ≤ c → c < en → rs[c]? = some z → CurI H7 (142 + 2 * c) (pi c) z (ess c) (va_up s.1 p.1 (s.1 p.1 + 1) c) := fun c z c1 c2 hz => by
              by_cases ec : c = p.1
              · subst ec
                rw [up_at, ← Option.some.inj (hy.symm.trans hz)]
                exact hI7
              · rw [up_ne ec]
                exact (hcur c z c1 c2 hz).far ((f7 _ (by omega) (by omega)).trans (g6 _ (by omega) (by omega) (by omega) (by omega) (by omega))) ((f7 _ (by omega) (by omega)).trans (g6 _ (by omega) (by omega) (by omega) (by omega) (by omega)))
            have hCA7 : CursA H7 := fun c hc => by
              by_cases ec : c = p.1
              · rw [ec]; exact hI7.any
              · exact (hCA c hc).far ((f7 _ (by omega) (by omega)).trans (g6 _ (by omega) (by omega) (by omega) (by omega) (by omega))) ((f7 _ (by omega) (by omega)).trans (g6 _ (by omega) (by omega) (by omega) (by omega) (by omega)))
            have r1' := (f7 139 (by omega) (by omega)).trans r1
            have r3' := (f7 138 (by omega) (by omega)).trans r3
            have t7 := hD7.2.2.2.2.2.2.2.2.1
            have q7 := hD7.2.2.2.2.2.2.2.2.2.1
            have hs7 : ((va_up s.1 p.1 (s.1 p.1 + 1), p.2.1, p.2.2.1, s.2.2.2) : aMg) = (mgRun vs wh ess f (en - f) (fun _ => 0, [], lm, []) (i + 1)) := by
              show _ = mgStep vs wh ess f (en - f) (mgRun vs wh ess f (en - f) (fun _ => 0, [], lm, []) i)
              rw [← hs, mgStep, hl]
              dsimp only
              rw [← hO4]
            have hT1j := hT1 (i + 1)
            have hT2j := hT2 (i + 1)
            rw [← hs7] at hT1j hT2j
            refine RQ.blk 1 (pc' := 273) (lv' := [(12, .int 1), (11, .ref ((142 + 2 * p.1) + 1)), (10, .int (nI p.1)), (9, .int (nI i)), (0, .ref 137), (1, .int (nI f)), (2, .int (nI en)), (4, .int (nI P)), (5, .int (if wh then 1 else 0)), (6, .ref (r + 1)), (7, .int (nI by7)), (8, .int (nI E))]) (st' := [.ref 137]) (H' := _) (kc' := 0) (ks' := 0) rfl ?_
            refine RQ.get (ci := 8) rfl t7 rfl rfl ?_
            refine RQ.blk 1 (pc' := 279) (lv' := [(12, .int 1), (11, .ref ((142 + 2 * p.1) + 1)), (10, .int (nI p.1)), (9, .int (nI i)), (0, .ref 137), (1, .int (nI f)), (2, .int (nI en)), (4, .int (nI P)), (5, .int (if wh then 1 else 0)), (6, .ref (r + 1)), (7, .int (nI by7)), (8, .int (nI E))]) (st' := [.int 2048, .int (nI bf1)]) (H' := _) (kc' := 0) (ks' := 0) rfl ?_
            by_cases c12 : bf1 < 2048
            · refine RQ.brT rfl rfl rfl (cT_lt (bf1) 2048) ?_
              refine RQ.blk 1 (pc' := 291) (lv' := [(9, .int (nI i + 1)), (12, .int 1), (11, .ref ((142 + 2 * p.1) + 1)), (10, .int (nI p.1)), (0, .ref 137), (1, .int (nI f)), (2, .int (nI en)), (4, .int (nI P)), (5, .int (if wh then 1 else 0)), (6, .ref (r + 1)), (7, .int (nI by7)), (8, .int (nI E))]) (st' := []) (H' := _) (kc' := 0) (ks' := 0) rfl ?_
              rw [show (nI i + 1 : Int32) = nI (i + 1) from nI_add i 1]
              refine RQ.blk 1 (pc' := 135) (lv' := [(9, .int (nI (i + 1))), (12, .int 1), (11, .ref ((142 + 2 * p.1) + 1)), (10, .int (nI p.1)), (0, .ref 137), (1, .int (nI f)), (2, .int (nI en)), (4, .int (nI P)), (5, .int (if wh then 1 else 0)), (6, .ref (r + 1)), (7, .int (nI by7)), (8, .int (nI E))]) (st' := []) (H' := _) (kc' := 0) (ks' := 0) rfl ?_
              refine RQ.pick (a := [(9, .int (nI (i + 1))), (0, .ref 137), (1, .int (nI f)), (2, .int (nI en)), (4, .int (nI P)), (5, .int (if wh then 1 else 0)), (6, .ref (r + 1)), (7, .int (nI by7)), (8, .int (nI E))]) [0, 4, 5, 6, 7, 8, 9, 10, 11] [9, 12, 11, 10, 0, 1, 2, 4, 5, 6, 7, 8] rfl rfl (by decide) ?_
              exact ih (i + 1) _ ⟨_, _, _, _, _, _, _, _, _, lb6, hs7, by omega, by omega, hD7, hx41, hx4, hcur7, r1', r3', r2, hEp.2.1, hEs4, hEp.2.2.1, hCA7, f8⟩ (by omega)
            · exact absurd hbf1 c12
      · rw [if_neg ag]
        refine RQ.blk 3 (pc' := 178) (lv' := [(12, .int 0), (11, .ref ((142 + 2 * p.1) + 1)), (10, .int (nI p.1)), (9, .int (nI i)), (0, .ref 137), (1, .int (nI f)), (2, .int (nI en)), (4, .int (nI P)), (5, .int (if wh then 1 else 0)), (6, .ref (r + 1)), (7, .int (nI by7)), (8, .int (nI E))]) (st' := [.ref ((142 + 2 * p.1) + 1), .ref 137]) (H' := _) (kc' := 0) (ks' := 0) rfl ?_
        refine RQ.call (v := some (.int (if tellsV vs (sl g 0 p.2.1.length, p.2.2.1, p.2.2.2.1, p.2.2.2.2) = true then 1 else 0))) (st' := []) rfl rfl rfl rfl rfl rfl (args_v [.ref ((142 + 2 * p.1) + 1)] [] rfl rfl (Nat.le_of_ble_eq_true rfl) rfl d9 (Nat.le_of_ble_eq_true rfl)) (rc_tells (n := p.2.1.length) (m := p.2.2.1) (pp := p.2.2.2.1) (l := p.2.2.2.2) hV2 d9 hq hg hEp.2.1 hEp.2.2.1 b30 l30) ?_
        rw [show ((sl g 0 p.2.1.length, p.2.2.1, p.2.2.2.1, p.2.2.2.2) : aT) = p.2 by rw [hk]]
        by_cases ht : tellsV vs p.2 = true
        · rw [if_pos ht]
          refine RQ.brF rfl rfl rfl (by decide) ?_
          refine RQ.blk 1 (pc' := 186) (lv' := [(12, .int 0), (11, .ref ((142 + 2 * p.1) + 1)), (10, .int (nI p.1)), (9, .int (nI i)), (0, .ref 137), (1, .int (nI f)), (2, .int (nI en)), (4, .int (nI P)), (5, .int (if wh then 1 else 0)), (6, .ref (r + 1)), (7, .int (nI by7)), (8, .int (nI E))]) (st' := [.int 0]) (H' := _) (kc' := 0) (ks' := 0) rfl ?_
          refine RQ.brT rfl rfl rfl (by decide) ?_
          have hkp : mgKeep vs wh s.2.1 s.2.2.1 p.2 = true := by unfold mgKeep; simp [ag, ht]
          refine RQ.blk 2 (pc' := 223) (lv' := [(12, .int 0), (11, .ref ((142 + 2 * p.1) + 1)), (10, .int (nI p.1)), (9, .int (nI i)), (0, .ref 137), (1, .int (nI f)), (2, .int (nI en)), (4, .int (nI P)), (5, .int (if wh then 1 else 0)), (6, .ref (r + 1)), (7, .int (nI by7)), (8, .int (nI E))]) (st' := [.ref ((142 + 2 * p.1) + 1), .ref 137]) (H' := _) (kc' := 0) (ks' := 0) rfl ?_
          refine RQ.get (ci := 2) rfl hq rfl rfl ?_
          refine RQ.blk 2 (pc' := 229) (lv' := [(12, .int 0), (11, .ref ((142 + 2 * p.1) + 1)), (10, .int (nI p.1)), (9, .int (nI i)), (0, .ref 137), (1, .int (nI f)), (2, .int (nI en)), (4, .int (nI P)), (5, .int (if wh then 1 else 0)), (6, .ref (r + 1)), (7, .int (nI by7)), (8, .int (nI E))]) (st' := [.ref ((142 + 2 * p.1) + 1), .int 0, .ref ((142 + 2 * p.1 + 1) + 1), .ref 137]) (H' := _) (kc' := 0) (ks' := 0) rfl ?_
          refine RQ.get (ci := 2) rfl hq rfl rfl ?_
          refine RQ.blk 1 (pc' := 234) (lv' := [(12, .int 0), (11, .ref ((142 + 2 * p.1) + 1)), (10, .int (nI p.1)), (9, .int (nI i)), (0, .ref 137), (1, .int (nI f)), (2, .int (nI en)), (4, .int (nI P)), (5, .int (if wh then 1 else 0)), (6, .ref (r + 1)), (7, .int (nI by7)), (8, .int (nI E))]) (st' := [.ref ((142 + 2 * p.1) + 1), .int (nI p.2.1.length), .int 0, .ref ((142 + 2 * p.1 + 1) + 1), .ref 137]) (H' := _) (kc' := 0) (ks' := 0) rfl ?_
          refine RQ.get (ci := 2) rfl hq rfl rfl ?_
          refine RQ.blk 1 (pc' := 239) (lv' := [(12, .int 0), (11, .ref ((142 + 2 * p.1) + 1)), (10, .int (nI p.1)), (9, .int (nI i)), (0, .ref 137), (1, .int (nI f)), (2, .int (nI en)), (4, .int (nI P)), (5, .int (if wh then 1 else 0)), (6, .ref (r + 1)), (7, .int (nI by7)), (8, .int (nI E))]) (st' := [.ref ((142 + 2 * p.1) + 1), .int (nI p.2.2.1), .int (nI p.2.1.length), .int 0, .ref ((142 + 2 * p.1 + 1) + 1), .ref 137]) (H' := _) (kc' := 0) (ks' := 0) rfl ?_
          refine RQ.get (ci := 2) rfl hq rfl rfl ?_
          refine RQ.blk 1 (pc' := 244) (lv' := [(12, .int 0), (11, .ref ((142 + 2 * p.1) + 1)), (10, .int (nI p.1)), (9, .int (nI i)), (0, .ref 137), (1, .int (nI f)), (2, .int (nI en)), (4, .int (nI P)), (5, .int (if wh then 1 else 0)), (6, .ref (r + 1)), (7, .int (nI by7)), (8, .int (nI E))]) (st' := [.ref ((142 + 2 * p.1) + 1), .int (nI p.2.2.2.1), .int (nI p.2.2.1), .int (nI p.2.1.length), .int 0, .ref ((142 + 2 * p.1 + 1) + 1), .ref 137]) (H' := _) (kc' := 0) (ks' := 0) rfl ?_
          refine RQ.get (ci := 2) rfl hq rfl rfl ?_
          refine RQ.callN (st' := []) rfl rfl rfl rfl rfl rfl (args_v [.int (lI p.2.2.2.2), .int (nI p.2.2.2.1), .int (nI p.2.2.1), .int (nI p.2.1.length), .int 0, .ref ((142 + 2 * p.1 + 1) + 1)] [] rfl rfl (Nat.le_of_ble_eq_true rfl) rfl d9 (Nat.le_of_ble_eq_true rfl)) (rn_emit (a := 142 + 2 * p.1 + 1) (na := 41) (j := 0) (n := p.2.1.length) (m := p.2.2.1) (pl := p.2.2.2.1) (l := p.2.2.2.2) d9 d10 hg (by decide) (by omega) (by omega) (by have := hEp.2.1; omega) (by have := hEp.2.1; omega) hEp.2.1 hEp.2.2.1 hEp.2.2.2.1 hEp.2.2.2.2.1) (fun H3 hx3 => ?_)
          obtain ⟨⟨pg3, e1, e2⟩, e3, f3⟩ := hx3
          rw [hk, ent_same hEp] at e2
          have hR3 : RunIs H3 r x := d5.far (f3 _ (by omega) (by omega)) (f3 _ (by omega) (by omega))
          have hR4 := hR3.ent
          obtain ⟨rf, rk1, rk2, rk3, rk4⟩ := id hR3
          refine RQ.blk 2 (pc' := 253) (lv' := [(12, .int 0), (11, .ref ((142 + 2 * p.1) + 1)), (10, .int (nI p.1)), (9, .int (nI i)), (0, .ref 137), (1, .int (nI f)), (2, .int (nI en)), (4, .int (nI P)), (5, .int (if wh then 1 else 0)), (6, .ref (r + 1)), (7, .int (nI by7)), (8, .int (nI E))]) (st' := [.ref (r + 1), .ref (r + 1)]) (H' := _) (kc' := 0) (ks' := 0) rfl ?_
          refine RQ.get (ci := 6) rfl rk1 rfl rfl ?_
          refine RQ.blk 2 (pc' := 258) (lv' := [(12, .int 0), (11, .ref ((142 + 2 * p.1) + 1)), (10, .int (nI p.1)), (9, .int (nI i)), (0, .ref 137), (1, .int (nI f)), (2, .int (nI en)), (4, .int (nI P)), (5, .int (if wh then 1 else 0)), (6, .ref (r + 1)), (7, .int (nI by7)), (8, .int (nI E))]) (st' := [.int (nI x.2.2.1 + 1), .ref (r + 1)]) (H' := _) (kc' := 0) (ks' := 0) rfl ?_
          rw [show (nI x.2.2.1 + 1 : Int32) = nI (x.2.2.1 + 1) from nI_add x.2.2.1 1]
          refine RQ.put (ci := 6) rfl rk1 rfl rfl (Nat.le_of_ble_eq_true rfl) ?_
          have hbf4 : bf1 + (p.2.1.length + 10) ≤ 2099 := by have := hEp.2.1; omega
          have hD4 : DrI (H3.set r (kO 6 [.ref (r + 1 + 1), .int (nI x.2.2.2.length), .int (nI x.1), .int (nI x.2.1), .int (nI (x.2.2.1 + 1))])) B lgs fr ff wr tp rs ms mt sq us cf tf bb r s.2.2.1 gm us1 tu1 c tf1 pq1 (x.1, x.2.1, x.2.2.1 + 1, x.2.2.2) pg3 (bf1 + (p.2.1.length + 10)) (s.2.2.2 ++ [p.2]) := ⟨d1.emit hxf e2, d2.far (fun a a1 a2 => (set_far (by omega)).trans (f3 a (by omega) (by omega))), d3, d4, hR4, (d6.far (H' := H3) (fun a a1 a2 a3 => f3 a (by omega) (by omega))).draft ((f3 84 (by decide) (by decide)).trans d11) d12 hrl hR4 (fun a a1 a2 => set_far a1), d7, d8, (set_far (by omega)).trans e3, (set_far (by omega)).trans e1, Q2, (set_far (by omega)).trans ((f3 84 (by decide) (by decide)).trans d11), d12⟩
          have g4 : ∀ a, a ≠ 136 → a ≠ 140 → a ≠ r → (H3.set r (kO 6 [.ref (r + 1 + 1), .int (nI x.2.2.2.length), .int (nI x.1), .int (nI x.2.1), .int (nI (x.2.2.1 + 1))]))[a]? = H2[a]? := fun a a1 a2 a3 => (set_far a3).trans (f3 a a2 a1)
          have t4 : (H3.set r (kO 6 [.ref (r + 1 + 1), .int (nI x.2.2.2.length), .int (nI x.1), .int (nI x.2.1), .int (nI (x.2.2.1 + 1))]))[136]? = _ := (set_far (by omega)).trans e3
          have hx4 : (x.1, x.2.1, x.2.2.1 + 1, x.2.2.2).2.1 = (x.1, x.2.1, x.2.2.1 + 1, x.2.2.2).2.2.2.length * 2048 := hxf
          have hx41 : (x.1, x.2.1, x.2.2.1 + 1, x.2.2.2).1 = lev := hx1
          show RQ _ _ _ _ _ _ (H3.set r (kO 6 [.ref (r + 1 + 1), .int (nI x.2.2.2.length), .int (nI x.1), .int (nI x.2.1), .int (nI (x.2.2.1 + 1))])) _ _ _
          generalize (H3.set r (kO 6 [.ref (r + 1 + 1), .int (nI x.2.2.2.length), .int (nI x.1), .int (nI x.2.1), .int (nI (x.2.2.1 + 1))])) = H4 at hD4 g4 t4 ⊢
          generalize (x.1, x.2.1, x.2.2.1 + 1, x.2.2.2) = x4 at hD4 hx4 hx41
          have hO4 : s.2.2.2 ++ [p.2] = (if mgKeep vs wh s.2.1 s.2.2.1 p.2 = true then s.2.2.2 ++ [p.2] else s.2.2.2) := by rw [if_pos hkp]
          have hEs4 : ∀ e ∈ s.2.2.2 ++ [p.2], EOk e := fun e he => (List.mem_append.mp he).elim (hEs e) (fun h9 => by rw [List.mem_singleton.mp h9]; exact hEp)
          refine RQ.blk 2 (pc' := 264) (lv' := [(12, .int 0), (11, .ref ((142 + 2 * p.1) + 1)), (10, .int (nI p.1)), (9, .int (nI i)), (0, .ref 137), (1, .int (nI f)), (2, .int (nI en)), (4, .int (nI P)), (5, .int (if wh then 1 else 0)), (6, .ref (r + 1)), (7, .int (nI by7)), (8, .int (nI E))]) (st' := [.ref ((142 + 2 * p.1) + 1), .ref 137]) (H' := _) (kc' := 0) (ks' := 0) rfl ?_
          refine RQ.callN (st' := []) rfl rfl rfl rfl rfl rfl (args_v [.ref ((142 + 2 * p.1) + 1)] [] rfl rfl (Nat.le_of_ble_eq_true rfl) rfl t4 (Nat.le_of_ble_eq_true rfl)) (rn_remember (q := 142 + 2 * p.1) (n := p.2.1.length) (m := p.2.2.1) (pp := p.2.2.2.1) (l := p.2.2.2.2) t4 ((g4 138 (by decide) (by decide) (by omega)).trans hL) ((g4 139 (by decide) (by decide) (by omega)).trans hb) hln ((g4 _ (by omega) (by omega) (by omega)).trans hq) ((g4 _ (by omega) (by omega) (by omega)).trans hg) hEp.2.1 hEp.2.2.1 b30 l30 (by omega)) (fun H6 hx6 => ?_)
          obtain ⟨⟨lb6, r1, r2⟩, r3, r4, f6⟩ := hx6
          rw [hk] at r2
          have g6 : ∀ a, a ≠ 136 → a ≠ 140 → a ≠ r → a ≠ 138 → a ≠ 139 → H6[a]? = H2[a]? := fun a a1 a2 a3 a4 a5 => (f6 a a1 a4 a5).trans (g4 a a1 a2 a3)
          have hD6 := hD4.lm (H' := H6) (lm' := p.2.2.1) ⟨hr1, hr2⟩ (fun a a1 a2 a3 a4 => f6 a (by omega) (by omega) (by omega)) (f6 140 (by decide) (by decide) (by decide)) r4
          refine RQ.blk 1 (pc' := 269) (lv' := [(12, .int 0), (11, .ref ((142 + 2 * p.1) + 1)), (10, .int (nI p.1)), (9, .int (nI i)), (0, .ref 137), (1, .int (nI f)), (2, .int (nI en)), (4, .int (nI P)), (5, .int (if wh then 1 else 0)), (6, .ref (r + 1)), (7, .int (nI by7)), (8, .int (nI E))]) (st' := [.ref ((142 + 2 * p.1) + 1)]) (H' := _) (kc' := 0) (ks' := 0) rfl ?_
          refine RQ.callN (st' := []) rfl rfl rfl rfl rfl rfl (args_v [] [] rfl rfl (Nat.le_of_ble_eq_true rfl) rfl ((g6 _ (by omega) (by omega) (by omega) (by omega) (by omega)).trans hq) (Nat.le_of_ble_eq_true rfl)) (rn_cadvI (q := 142 + 2 * p.1) (r := pi p.1) (x := y) (es := ess p.1) (i := s.1 p.1) (hI.far (g6 _ (by omega) (by omega) (by omega) (by omega) (by omega)) (g6 _ (by omega) (by omega) (by omega) (by omega) (by omega))) ((hpiR p.1 y hy).far ((g6 _ (by omega) (by omega) (by omega) (by omega) (by omega)).trans (f2 _ (by omega) (by omega) (by omega) (by omega) (by omega) (by omega) (by omega) (by omega))) ((g6 _ (by omega) (by omega) (by omega) (by omega) (by omega)).trans (f2 _ (by omega) (by omega) (by omega) (by omega) (by omega) (by omega) (by omega) (by omega)))) hOky hD6.2.1 hB (by omega) (by omega) hil) (fun H7 hx7 => ?_)
          obtain ⟨hI7, f7⟩ := hx7
          have hD7 := hD6.far (H' := H7) ⟨hr1, hr2⟩ (fun a a1 a2 a3 a4 => f7 a (by omega) (by omega)) (f7 140 (by omega) (by omega))
          have f8 : ∀ a, ¬ (71 ≤ a ∧ a < 74) → a ≠ 83 → a ≠ 86 → a ≠ r → a ≠ r + 1 → ¬ (a = 136 ∨ a = 140) → ¬ (138 ≤ a ∧ a < 140) → ¬ (142 ≤ a ∧ a < 190) → H7[a]? = H[a]? := fun a a1 a2 a3 a4 a5 a6 a7 a8 => (f7 a (by omega) (by omega)).trans ((g6 a (by omega) (by omega) a4 (by omega) (by omega)).trans (f2 a a1 a2 a3 a4 a5 a6 a7 a8))
          have hcur7 : ∀ c z, f ≤ c → c < en → rs[c]? = some z → CurI H7 (142 + 2 * c) (pi c) z (ess c) (va_up s.1 p.1 (s.1 p.1 + 1) c) := fun c z c1 c2 hz => by
            by_cases ec : c = p.1
            · subst ec
              rw [up_at, ← Option.some.inj (hy.symm.trans hz)]
              exact hI7
            · rw [up_ne ec]
              exact (hcur c z c1 c2 hz).far ((f7 _ (by omega) (by omega)).trans (g6 _ (by omega) (by omega) (by omega) (by omega) (by omega))) ((f7 _ (by omega) (by omega)).trans (g6 _ (by omega) (by omega) (by omega) (by omega) (by omega)))
          have hCA7 : CursA H7 := fun c hc => by
            by_cases ec : c = p.1
            · rw [ec]; exact hI7.any
            · exact (hCA c hc).far ((f7 _ (by omega) (by omega)).trans (g6 _ (by omega) (by omega) (by omega) (by omega) (by omega))) ((f7 _ (by omega) (by omega)).trans (g6 _ (by omega) (by omega) (by omega) (by omega) (by omega)))
          have r1' := (f7 139 (by omega) (by omega)).trans r1
          have r3' := (f7 138 (by omega) (by omega)).trans r3
          have t7 := hD7.2.2.2.2.2.2.2.2.1
          have q7 := hD7.2.2.2.2.2.2.2.2.2.1
          have hs7 : ((va_up s.1 p.1 (s.1 p.1 + 1), p.2.1, p.2.2.1, (s.2.2.2 ++ [p.2])) : aMg) = (mgRun vs wh ess f (en - f) (fun _ => 0, [], lm, []) (i + 1)) := by
            show _ = mgStep vs wh ess f (en - f) (mgRun vs wh ess f (en - f) (fun _ => 0, [], lm, []) i)
            rw [← hs, mgStep, hl]
            dsimp only
            rw [← hO4]
          have hT1j := hT1 (i + 1)
          have hT2j := hT2 (i + 1)
          rw [← hs7] at hT1j hT2j
          refine RQ.blk 1 (pc' := 273) (lv' := [(12, .int 0), (11, .ref ((142 + 2 * p.1) + 1)), (10, .int (nI p.1)), (9, .int (nI i)), (0, .ref 137), (1, .int (nI f)), (2, .int (nI en)), (4, .int (nI P)), (5, .int (if wh then 1 else 0)), (6, .ref (r + 1)), (7, .int (nI by7)), (8, .int (nI E))]) (st' := [.ref 137]) (H' := _) (kc' := 0) (ks' := 0) rfl ?_
          refine RQ.get (ci := 8) rfl t7 rfl rfl ?_
          refine RQ.blk 1 (pc' := 279) (lv' := [(12, .int 0), (11, .ref ((142 + 2 * p.1) + 1)), (10, .int (nI p.1)), (9, .int (nI i)), (0, .ref 137), (1, .int (nI f)), (2, .int (nI en)), (4, .int (nI P)), (5, .int (if wh then 1 else 0)), (6, .ref (r + 1)), (7, .int (nI by7)), (8, .int (nI E))]) (st' := [.int 2048, .int (nI (bf1 + (p.2.1.length + 10)))]) (H' := _) (kc' := 0) (ks' := 0) rfl ?_
          by_cases c13 : bf1 + (p.2.1.length + 10) < 2048
          · refine RQ.brT rfl rfl rfl (cT_lt (bf1 + (p.2.1.length + 10)) 2048) ?_
            refine RQ.blk 1 (pc' := 291) (lv' := [(9, .int (nI i + 1)), (12, .int 0), (11, .ref ((142 + 2 * p.1) + 1)), (10, .int (nI p.1)), (0, .ref 137), (1, .int (nI f)), (2, .int (nI en)), (4, .int (nI P)), (5, .int (if wh then 1 else 0)), (6, .ref (r + 1)), (7, .int (nI by7)), (8, .int (nI E))]) (st' := []) (H' := _) (kc' := 0) (ks' := 0) rfl ?_
            rw [show (nI i + 1 : Int32) = nI (i + 1) from nI_add i 1]
            refine RQ.blk 1 (pc' := 135) (lv' := [(9, .int (nI (i + 1))), (12, .int 0), (11, .ref ((142 + 2 * p.1) + 1)), (10, .int (nI p.1)), (0, .ref 137), (1, .int (nI f)), (2, .int (nI en)), (4, .int (nI P)), (5, .int (if wh then 1 else 0)), (6, .ref (r + 1)), (7, .int (nI by7)), (8, .int (nI E))]) (st' := []) (H' := _) (kc' := 0) (ks' := 0) rfl ?_
            refine RQ.pick (a := [(9, .int (nI (i + 1))), (0, .ref 137), (1, .int (nI f)), (2, .int (nI en)), (4, .int (nI P)), (5, .int (if wh then 1 else 0)), (6, .ref (r + 1)), (7, .int (nI by7)), (8, .int (nI E))]) [0, 4, 5, 6, 7, 8, 9, 10, 11] [9, 12, 11, 10, 0, 1, 2, 4, 5, 6, 7, 8] rfl rfl (by decide) ?_
            exact ih (i + 1) _ ⟨_, _, _, _, _, _, _, _, _, lb6, hs7, by omega, by omega, hD7, hx41, hx4, hcur7, r1', r3', r2, hEp.2.1, hEs4, hEp.2.2.1, hCA7, f8⟩ (by omega)
          · refine RQ.brF rfl rfl rfl (cF_lt (bf1 + (p.2.1.length + 10)) 2048) ?_
            refine RQ.blk 2 (pc' := 285) (lv' := [(12, .int 0), (11, .ref ((142 + 2 * p.1) + 1)), (10, .int (nI p.1)), (9, .int (nI i)), (0, .ref 137), (1, .int (nI f)), (2, .int (nI en)), (4, .int (nI P)), (5, .int (if wh then 1 else 0)), (6, .ref (r + 1)), (7, .int (nI by7)), (8, .int (nI E))]) (st' := [.ref (r + 1), .ref 137]) (H' := _) (kc' := 0) (ks' := 0) rfl ?_
            refine RQ.callT (st' := []) rfl rfl rfl rfl rfl rfl (args_v [.ref (r + 1)] [] rfl rfl (Nat.le_of_ble_eq_true rfl) rfl t7 (Nat.le_of_ble_eq_true rfl)) (re_pageD (d := d) hD7 hB hbb (by omega) hl30 hi30 hfr0 hrl hr1 hr2 hbf4 hT1j hT2j (by omega)) rfl (fun H9 hx9 => ?_) (fun H9 hbad => Or.inr (by obtain ⟨c', tf', z1, z2, ⟨tu', us', z3, z4⟩, z5⟩ := hbad; exact ⟨_, rfl, ⟨c', tf', z1, (hM.far (fun q hq => z2 q (by cases e : us (q / 2048) with | true => rfl | false => have := hus2 _ e; omega))).forget, fun q _ hq => z2 q hq, ⟨_, (z5 85 (by decide) (by decide)).trans ((f8 85 (by decide) (by decide) (by decide) (by omega) (by omega) (by decide) (by decide) (by decide)).trans hpg)⟩, ⟨_, (z5 140 (by decide) (by decide)).trans q7⟩, ⟨_, _, hEp.2.2.1, (z5 136 (by decide) (by decide)).trans t7⟩, ⟨_, _, _, _, _, _, _, _, z3, z4⟩⟩, hCA7.far (fun a a1 a2 => z5 a (by omega) (by omega)), ⟨_, _, hEp.2.1, (z5 138 (by decide) (by decide)).trans r3', (z5 139 (by decide) (by decide)).trans r1'⟩, fun a a1 a2 a3 a4 => (z5 a (by omega) (by omega)).trans (f8 a (by omega) (by omega) (by omega) (by omega) (by omega) (by omega) (by omega) (by omega))⟩))
            obtain ⟨us9, tu9, c9, tf9, pq9, x9, pg9, hD9, hx91, hx9f, -, f9⟩ := hx9
            have g9 : ∀ a, 137 ≤ a → a ≠ 140 → H9[a]? = H7[a]? := fun a a1 a2 => f9 a (by omega) (by omega) (by omega) (by omega) (by omega) (by omega)
            refine RQ.blk 1 (pc' := 291) (lv' := [(9, .int (nI i + 1)), (12, .int 0), (11, .ref ((142 + 2 * p.1) + 1)), (10, .int (nI p.1)), (0, .ref 137), (1, .int (nI f)), (2, .int (nI en)), (4, .int (nI P)), (5, .int (if wh then 1 else 0)), (6, .ref (r + 1)), (7, .int (nI by7)), (8, .int (nI E))]) (st' := []) (H' := _) (kc' := 0) (ks' := 0) rfl ?_
            rw [show (nI i + 1 : Int32) = nI (i + 1) from nI_add i 1]
            refine RQ.blk 1 (pc' := 135) (lv' := [(9, .int (nI (i + 1))), (12, .int 0), (11, .ref ((142 + 2 * p.1) + 1)), (10, .int (nI p.1)), (0, .ref 137), (1, .int (nI f)), (2, .int (nI en)), (4, .int (nI P)), (5, .int (if wh then 1 else 0)), (6, .ref (r + 1)), (7, .int (nI by7)), (8, .int (nI E))]) (st' := []) (H' := _) (kc' := 0) (ks' := 0) rfl ?_
            refine RQ.pick (a := [(9, .int (nI (i + 1))), (0, .ref 137), (1, .int (nI f)), (2, .int (nI en)), (4, .int (nI P)), (5, .int (if wh then 1 else 0)), (6, .ref (r + 1)), (7, .int (nI by7)), (8, .int (nI E))]) [0, 4, 5, 6, 7, 8, 9, 10, 11] [9, 12, 11, 10, 0, 1, 2, 4, 5, 6, 7, 8] rfl rfl (by decide) ?_
            exact ih (i + 1) _ ⟨_, _, _, _, _, _, _, _, _, lb6, hs7, by omega, by omega, hD9, hx91.trans hx41, hx9f (by omega), fun c z c1 c2 hz => (hcur7 c z c1 c2 hz).far (g9 _ (by omega) (by omega)) (g9 _ (by omega) (by omega)), (g9 139 (by decide) (by decide)).trans r1', (g9 138 (by decide) (by decide)).trans r3', r2, hEp.2.1, hEs4, hEp.2.2.1, hCA7.far (fun a a1 a2 => g9 a (by omega) (by omega)), fun a a1 a2 a3 a4 a5 a6 a7 a8 => (f9 a a1 a2 a3 a4 a5 a6).trans (f8 a a1 a2 a3 a4 a5 a6 a7 a8)⟩ (by omega)
        · rw [if_neg ht]
          refine RQ.brT rfl rfl rfl (by decide) ?_
          refine RQ.blk 1 (pc' := 203) (lv' := [(12, .int 0), (11, .ref ((142 + 2 * p.1) + 1)), (10, .int (nI p.1)), (9, .int (nI i)), (0, .ref 137), (1, .int (nI f)), (2, .int (nI en)), (4, .int (nI P)), (5, .int (if wh then 1 else 0)), (6, .ref (r + 1)), (7, .int (nI by7)), (8, .int (nI E))]) (st' := [.int (if wh then 1 else 0)]) (H' := _) (kc' := 0) (ks' := 0) rfl ?_
          by_cases hw : wh = true
          · refine RQ.brT rfl rfl rfl (by rw [if_pos hw]; decide) ?_
            have hkp : mgKeep vs wh s.2.1 s.2.2.1 p.2 = false := by unfold mgKeep; simp [ag, ht, hw]
            have hbf4 : bf1 ≤ 2099 := by omega
            have hD4 := hD0
            have g4 : ∀ a, a ≠ 136 → a ≠ 140 → a ≠ r → H2[a]? = H2[a]? := fun a a1 a2 a3 => rfl
            have t4 := d9
            have hx4 := hxf
            have hx41 := hx1
            have hO4 : s.2.2.2 = (if mgKeep vs wh s.2.1 s.2.2.1 p.2 = true then s.2.2.2 ++ [p.2] else s.2.2.2) := by rw [if_neg (by rw [hkp]; decide)]
            have hEs4 := hEs
            refine RQ.blk 2 (pc' := 264) (lv' := [(12, .int 0), (11, .ref ((142 + 2 * p.1) + 1)), (10, .int (nI p.1)), (9, .int (nI i)), (0, .ref 137), (1, .int (nI f)), (2, .int (nI en)), (4, .int (nI P)), (5, .int (if wh then 1 else 0)), (6, .ref (r + 1)), (7, .int (nI by7)), (8, .int (nI E))]) (st' := [.ref ((142 + 2 * p.1) + 1), .ref 137]) (H' := _) (kc' := 0) (ks' := 0) rfl ?_
            refine RQ.callN (st' := []) rfl rfl rfl rfl rfl rfl (args_v [.ref ((142 + 2 * p.1) + 1)] [] rfl rfl (Nat.le_of_ble_eq_true rfl) rfl t4 (Nat.le_of_ble_eq_true rfl)) (rn_remember (q := 142 + 2 * p.1) (n := p.2.1.length) (m := p.2.2.1) (pp := p.2.2.2.1) (l := p.2.2.2.2) t4 ((g4 138 (by decide) (by decide) (by omega)).trans hL) ((g4 139 (by decide) (by decide) (by omega)).trans hb) hln ((g4 _ (by omega) (by omega) (by omega)).trans hq) ((g4 _ (by omega) (by omega) (by omega)).trans hg) hEp.2.1 hEp.2.2.1 b30 l30 (by omega)) (fun H6 hx6 => ?_)
            obtain ⟨⟨lb6, r1, r2⟩, r3, r4, f6⟩ := hx6
            rw [hk] at r2
            have g6 : ∀ a, a ≠ 136 → a ≠ 140 → a ≠ r → a ≠ 138 → a ≠ 139 → H6[a]? = H2[a]? := fun a a1 a2 a3 a4 a5 => (f6 a a1 a4 a5).trans (g4 a a1 a2 a3)
            have hD6 := hD4.lm (H' := H6) (lm' := p.2.2.1) ⟨hr1, hr2⟩ (fun a a1 a2 a3 a4 => f6 a (by omega) (by omega) (by omega)) (f6 140 (by decide) (by decide) (by decide)) r4
            refine RQ.blk 1 (pc' := 269) (lv' := [(12, .int 0), (11, .ref ((142 + 2 * p.1) + 1)), (10, .int (nI p.1)), (9, .int (nI i)), (0, .ref 137), (1, .int (nI f)), (2, .int (nI en)), (4, .int (nI P)), (5, .int (if wh then 1 else 0)), (6, .ref (r + 1)), (7, .int (nI by7)), (8, .int (nI E))]) (st' := [.ref ((142 + 2 * p.1) + 1)]) (H' := _) (kc' := 0) (ks' := 0) rfl ?_
            refine RQ.callN (st' := []) rfl rfl rfl rfl rfl rfl (args_v [] [] rfl rfl (Nat.le_of_ble_eq_true rfl) rfl ((g6 _ (by omega) (by omega) (by omega) (by omega) (by omega)).trans hq) (Nat.le_of_ble_eq_true rfl)) (rn_cadvI (q := 142 + 2 * p.1) (r := pi p.1) (x := y) (es := ess p.1) (i := s.1 p.1) (hI.far (g6 _ (by omega) (by omega) (by omega) (by omega) (by omega)) (g6 _ (by omega) (by omega) (by omega) (by omega) (by omega))) ((hpiR p.1 y hy).far ((g6 _ (by omega) (by omega) (by omega) (by omega) (by omega)).trans (f2 _ (by omega) (by omega) (by omega) (by omega) (by omega) (by omega) (by omega) (by omega))) ((g6 _ (by omega) (by omega) (by omega) (by omega) (by omega)).trans (f2 _ (by omega) (by omega) (by omega) (by omega) (by omega) (by omega) (by omega) (by omega)))) hOky hD6.2.1 hB (by omega) (by omega) hil) (fun H7 hx7 => ?_)
            obtain ⟨hI7, f7⟩ := hx7
            have hD7 := hD6.far (H' := H7) ⟨hr1, hr2⟩ (fun a a1 a2 a3 a4 => f7 a (by omega) (by omega)) (f7 140 (by omega) (by omega))
            have f8 : ∀ a, ¬ (71 ≤ a ∧ a < 74) → a ≠ 83 → a ≠ 86 → a ≠ r → a ≠ r + 1 → ¬ (a = 136 ∨ a = 140) → ¬ (138 ≤ a ∧ a < 140) → ¬ (142 ≤ a ∧ a < 190) → H7[a]? = H[a]? := fun a a1 a2 a3 a4 a5 a6 a7 a8 => (f7 a (by omega) (by omega)).trans ((g6 a (by omega) (by omega) a4 (by omega) (by omega)).trans (f2 a a1 a2 a3 a4 a5 a6 a7 a8))
            have hcur7 : ∀ c z, f ≤ c → c < en → rs[c]? = some z → CurI H7 (142 + 2 * c) (pi c) z (ess c) (va_up s.1 p.1 (s.1 p.1 + 1) c) := fun c z c1 c2 hz => by
              by_cases ec : c = p.1
              · subst ec
                rw [up_at, ← Option.some.inj (hy.symm.trans hz)]
                exact hI7
              · rw [up_ne ec]
                exact (hcur c z c1 c2 hz).far ((f7 _ (by omega) (by omega)).trans (g6 _ (by omega) (by omega) (by omega) (by omega) (by omega))) ((f7 _ (by omega) (by omega)).trans (g6 _ (by omega) (by omega) (by omega) (by omega) (by omega)))
            have hCA7 : CursA H7 := fun c hc => by
              by_cases ec : c = p.1
              · rw [ec]; exact hI7.any
              · exact (hCA c hc).far ((f7 _ (by omega) (by omega)).trans (g6 _ (by omega) (by omega) (by omega) (by omega) (by omega))) ((f7 _ (by omega) (by omega)).trans (g6 _ (by omega) (by omega) (by omega) (by omega) (by omega)))
            have r1' := (f7 139 (by omega) (by omega)).trans r1
            have r3' := (f7 138 (by omega) (by omega)).trans r3
            have t7 := hD7.2.2.2.2.2.2.2.2.1
            have q7 := hD7.2.2.2.2.2.2.2.2.2.1
            have hs7 : ((va_up s.1 p.1 (s.1 p.1 + 1), p.2.1, p.2.2.1, s.2.2.2) : aMg) = (mgRun vs wh ess f (en - f) (fun _ => 0, [], lm, []) (i + 1)) := by
              show _ = mgStep vs wh ess f (en - f) (mgRun vs wh ess f (en - f) (fun _ => 0, [], lm, []) i)
              rw [← hs, mgStep, hl]
              dsimp only
              rw [← hO4]
            have hT1j := hT1 (i + 1)
            have hT2j := hT2 (i + 1)
            rw [← hs7] at hT1j hT2j
            refine RQ.blk 1 (pc' := 273) (lv' := [(12, .int 0), (11, .ref ((142 + 2 * p.1) + 1)), (10, .int (nI p.1)), (9, .int (nI i)), (0, .ref 137), (1, .int (nI f)), (2, .int (nI en)), (4, .int (nI P)), (5, .int (if wh then 1 else 0)), (6, .ref (r + 1)), (7, .int (nI by7)), (8, .int (nI E))]) (st' := [.ref 137]) (H' := _) (kc' := 0) (ks' := 0) rfl ?_
            refine RQ.get (ci := 8) rfl t7 rfl rfl ?_
            refine RQ.blk 1 (pc' := 279) (lv' := [(12, .int 0), (11, .ref ((142 + 2 * p.1) + 1)), (10, .int (nI p.1)), (9, .int (nI i)), (0, .ref 137), (1, .int (nI f)), (2, .int (nI en)), (4, .int (nI P)), (5, .int (if wh then 1 else 0)), (6, .ref (r + 1)), (7, .int (nI by7)), (8, .int (nI E))]) (st' := [.int 2048, .int (nI bf1)]) (H' := _) (kc' := 0) (ks' := 0) rfl ?_
            by_cases c14 : bf1 < 2048
            · refine RQ.brT rfl rfl rfl (cT_lt (bf1) 2048) ?_
              refine RQ.blk 1 (pc' := 291) (lv' := [(9, .int (nI i + 1)), (12, .int 0), (11, .ref ((142 + 2 * p.1) + 1)), (10, .int (nI p.1)), (0, .ref 137), (1, .int (nI f)), (2, .int (nI en)), (4, .int (nI P)), (5, .int (if wh then 1 else 0)), (6, .ref (r + 1)), (7, .int (nI by7)), (8, .int (nI E))]) (st' := []) (H' := _) (kc' := 0) (ks' := 0) rfl ?_
              rw [show (nI i + 1 : Int32) = nI (i + 1) from nI_add i 1]
              refine RQ.blk 1 (pc' := 135) (lv' := [(9, .int (nI (i + 1))), (12, .int 0), (11, .ref ((142 + 2 * p.1) + 1)), (10, .int (nI p.1)), (0, .ref 137), (1, .int (nI f)), (2, .int (nI en)), (4, .int (nI P)), (5, .int (if wh then 1 else 0)), (6, .ref (r + 1)), (7, .int (nI by7)), (8, .int (nI E))]) (st' := []) (H' := _) (kc' := 0) (ks' := 0) rfl ?_
              refine RQ.pick (a := [(9, .int (nI (i + 1))), (0, .ref 137), (1, .int (nI f)), (2, .int (nI en)), (4, .int (nI P)), (5, .int (if wh then 1 else 0)), (6, .ref (r + 1)), (7, .int (nI by7)), (8, .int (nI E))]) [0, 4, 5, 6, 7, 8, 9, 10, 11] [9, 12, 11, 10, 0, 1, 2, 4, 5, 6, 7, 8] rfl rfl (by decide) ?_
              exact ih (i + 1) _ ⟨_, _, _, _, _, _, _, _, _, lb6, hs7, by omega, by omega, hD7, hx41, hx4, hcur7, r1', r3', r2, hEp.2.1, hEs4, hEp.2.2.1, hCA7, f8⟩ (by omega)
            · exact absurd hbf1 c14
          · refine RQ.brF rfl rfl rfl (by rw [if_neg hw]; decide) ?_
            refine RQ.blk 1 (pc' := 208) (lv' := [(12, .int 0), (11, .ref ((142 + 2 * p.1) + 1)), (10, .int (nI p.1)), (9, .int (nI i)), (0, .ref 137), (1, .int (nI f)), (2, .int (nI en)), (4, .int (nI P)), (5, .int (if wh then 1 else 0)), (6, .ref (r + 1)), (7, .int (nI by7)), (8, .int (nI E))]) (st' := [.int 0]) (H' := _) (kc' := 0) (ks' := 0) rfl ?_
            refine RQ.brF rfl rfl rfl (by decide) ?_
            refine RQ.blk 2 (pc' := 214) (lv' := [(12, .int 0), (11, .ref ((142 + 2 * p.1) + 1)), (10, .int (nI p.1)), (9, .int (nI i)), (0, .ref 137), (1, .int (nI f)), (2, .int (nI en)), (4, .int (nI P)), (5, .int (if wh then 1 else 0)), (6, .ref (r + 1)), (7, .int (nI by7)), (8, .int (nI E))]) (st' := [.ref ((142 + 2 * p.1) + 1), .ref 137]) (H' := _) (kc' := 0) (ks' := 0) rfl ?_
            refine RQ.call (v := some (.int (if hidesV vs (sl g 0 p.2.1.length, p.2.2.1, p.2.2.2.1, p.2.2.2.2) = true then 1 else 0))) (st' := []) rfl rfl rfl rfl rfl rfl (args_v [.ref ((142 + 2 * p.1) + 1)] [] rfl rfl (Nat.le_of_ble_eq_true rfl) rfl d9 (Nat.le_of_ble_eq_true rfl)) (rc_hides (n := p.2.1.length) (m := p.2.2.1) (pp := p.2.2.2.1) (l := p.2.2.2.2) hV2 d9 hq hg hEp.2.1 hEp.2.2.1 b30 l30) ?_
            rw [show ((sl g 0 p.2.1.length, p.2.2.1, p.2.2.2.1, p.2.2.2.2) : aT) = p.2 by rw [hk]]
            by_cases hh : hidesV vs p.2 = true
            · rw [if_pos hh]
              refine RQ.brF rfl rfl rfl (by decide) ?_
              have hkp : mgKeep vs wh s.2.1 s.2.2.1 p.2 = true := by unfold mgKeep; simp [ag, ht, hw, hh]
              refine RQ.blk 2 (pc' := 223) (lv' := [(12, .int 0), (11, .ref ((142 + 2 * p.1) + 1)), (10, .int (nI p.1)), (9, .int (nI i)), (0, .ref 137), (1, .int (nI f)), (2, .int (nI en)), (4, .int (nI P)), (5, .int (if wh then 1 else 0)), (6, .ref (r + 1)), (7, .int (nI by7)), (8, .int (nI E))]) (st' := [.ref ((142 + 2 * p.1) + 1), .ref 137]) (H' := _) (kc' := 0) (ks' := 0) rfl ?_
              refine RQ.get (ci := 2) rfl hq rfl rfl ?_
              refine RQ.blk 2 (pc' := 229) (lv' := [(12, .int 0), (11, .ref ((142 + 2 * p.1) + 1)), (10, .int (nI p.1)), (9, .int (nI i)), (0, .ref 137), (1, .int (nI f)), (2, .int (nI en)), (4, .int (nI P)), (5, .int (if wh then 1 else 0)), (6, .ref (r + 1)), (7, .int (nI by7)), (8, .int (nI E))]) (st' := [.ref ((142 + 2 * p.1) + 1), .int 0, .ref ((142 + 2 * p.1 + 1) + 1), .ref 137]) (H' := _) (kc' := 0) (ks' := 0) rfl ?_
              refine RQ.get (ci := 2) rfl hq rfl rfl ?_
              refine RQ.blk 1 (pc' := 234) (lv' := [(12, .int 0), (11, .ref ((142 + 2 * p.1) + 1)), (10, .int (nI p.1)), (9, .int (nI i)), (0, .ref 137), (1, .int (nI f)), (2, .int (nI en)), (4, .int (nI P)), (5, .int (if wh then 1 else 0)), (6, .ref (r + 1)), (7, .int (nI by7)), (8, .int (nI E))]) (st' := [.ref ((142 + 2 * p.1) + 1), .int (nI p.2.1.length), .int 0, .ref ((142 + 2 * p.1 + 1) + 1), .ref 137]) (H' := _) (kc' := 0) (ks' := 0) rfl ?_
              refine RQ.get (ci := 2) rfl hq rfl rfl ?_
              refine RQ.blk 1 (pc' := 239) (lv' := [(12, .int 0), (11, .ref ((142 + 2 * p.1) + 1)), (10, .int (nI p.1)), (9, .int (nI i)), (0, .ref 137), (1, .int (nI f)), (2, .int (nI en)), (4, .int (nI P)), (5, .int (if wh then 1 else 0)), (6, .ref (r + 1)), (7, .int (nI by7)), (8, .int (nI E))]) (st' := [.ref ((142 + 2 * p.1) + 1), .int (nI p.2.2.1), .int (nI p.2.1.length), .int 0, .ref ((142 + 2 * p.1 + 1) + 1), .ref 137]) (H' := _) (kc' := 0) (ks' := 0) rfl ?_
              refine RQ.get (ci := 2) rfl hq rfl rfl ?_
              refine RQ.blk 1 (pc' := 244) (lv' := [(12, .int 0), (11, .ref ((142 + 2 * p.1) + 1)), (10, .int (nI p.1)), (9, .int (nI i)), (0, .ref 137), (1, .int (nI f)), (2, .int (nI en)), (4, .int (nI P)), (5, .int (if wh then 1 else 0)), (6, .ref (r + 1)), (7, .int (nI by7)), (8, .int (nI E))]) (st' := [.ref ((142 + 2 * p.1) + 1), .int (nI p.2.2.2.1), .int (nI p.2.2.1), .int (nI p.2.1.length), .int 0, .ref ((142 + 2 * p.1 + 1) + 1), .ref 137]) (H' := _) (kc' := 0) (ks' := 0) rfl ?_
              refine RQ.get (ci := 2) rfl hq rfl rfl ?_
              refine RQ.callN (st' := []) rfl rfl rfl rfl rfl rfl (args_v [.int (lI p.2.2.2.2), .int (nI p.2.2.2.1), .int (nI p.2.2.1), .int (nI p.2.1.length), .int 0, .ref ((142 + 2 * p.1 + 1) + 1)] [] rfl rfl (Nat.le_of_ble_eq_true rfl) rfl d9 (Nat.le_of_ble_eq_true rfl)) (rn_emit (a := 142 + 2 * p.1 + 1) (na := 41) (j := 0) (n := p.2.1.length) (m := p.2.2.1) (pl := p.2.2.2.1) (l := p.2.2.2.2) d9 d10 hg (by decide) (by omega) (by omega) (by have := hEp.2.1; omega) (by have := hEp.2.1; omega) hEp.2.1 hEp.2.2.1 hEp.2.2.2.1 hEp.2.2.2.2.1) (fun H3 hx3 => ?_)
              obtain ⟨⟨pg3, e1, e2⟩, e3, f3⟩ := hx3
              rw [hk, ent_same hEp] at e2
              have hR3 : RunIs H3 r x := d5.far (f3 _ (by omega) (by omega)) (f3 _ (by omega) (by omega))
              have hR4 := hR3.ent
              obtain ⟨rf, rk1, rk2, rk3, rk4⟩ := id hR3
              refine RQ.blk 2 (pc' := 253) (lv' := [(12, .int 0), (11, .ref ((142 + 2 * p.1) + 1)), (10, .int (nI p.1)), (9, .int (nI i)), (0, .ref 137), (1, .int (nI f)), (2, .int (nI en)), (4, .int (nI P)), (5, .int (if wh then 1 else 0)), (6, .ref (r + 1)), (7, .int (nI by7)), (8, .int (nI E))]) (st' := [.ref (r + 1), .ref (r + 1)]) (H' := _) (kc' := 0) (ks' := 0) rfl ?_
              refine RQ.get (ci := 6) rfl rk1 rfl rfl ?_
              refine RQ.blk 2 (pc' := 258) (lv' := [(12, .int 0), (11, .ref ((142 + 2 * p.1) + 1)), (10, .int (nI p.1)), (9, .int (nI i)), (0, .ref 137), (1, .int (nI f)), (2, .int (nI en)), (4, .int (nI P)), (5, .int (if wh then 1 else 0)), (6, .ref (r + 1)), (7, .int (nI by7)), (8, .int (nI E))]) (st' := [.int (nI x.2.2.1 + 1), .ref (r + 1)]) (H' := _) (kc' := 0) (ks' := 0) rfl ?_
              rw [show (nI x.2.2.1 + 1 : Int32) = nI (x.2.2.1 + 1) from nI_add x.2.2.1 1]
              refine RQ.put (ci := 6) rfl rk1 rfl rfl (Nat.le_of_ble_eq_true rfl) ?_
              have hbf4 : bf1 + (p.2.1.length + 10) ≤ 2099 := by have := hEp.2.1; omega
              have hD4 : DrI (H3.set r (kO 6 [.ref (r + 1 + 1), .int (nI x.2.2.2.length), .int (nI x.1), .int (nI x.2.1), .int (nI (x.2.2.1 + 1))])) B lgs fr ff wr tp rs ms mt sq us cf tf bb r s.2.2.1 gm us1 tu1 c tf1 pq1 (x.1, x.2.1, x.2.2.1 + 1, x.2.2.2) pg3 (bf1 + (p.2.1.length + 10)) (s.2.2.2 ++ [p.2]) := ⟨d1.emit hxf e2, d2.far (fun a a1 a2 => (set_far (by omega)).trans (f3 a (by omega) (by omega))), d3, d4, hR4, (d6.far (H' := H3) (fun a a1 a2 a3 => f3 a (by omega) (by omega))).draft ((f3 84 (by decide) (by decide)).trans d11) d12 hrl hR4 (fun a a1 a2 => set_far a1), d7, d8, (set_far (by omega)).trans e3, (set_far (by omega)).trans e1, Q2, (set_far (by omega)).trans ((f3 84 (by decide) (by decide)).trans d11), d12⟩
              have g4 : ∀ a, a ≠ 136 → a ≠ 140 → a ≠ r → (H3.set r (kO 6 [.ref (r + 1 + 1), .int (nI x.2.2.2.length), .int (nI x.1), .int (nI x.2.1), .int (nI (x.2.2.1 + 1))]))[a]? = H2[a]? := fun a a1 a2 a3 => (set_far a3).trans (f3 a a2 a1)
              have t4 : (H3.set r (kO 6 [.ref (r + 1 + 1), .int (nI x.2.2.2.length), .int (nI x.1), .int (nI x.2.1), .int (nI (x.2.2.1 + 1))]))[136]? = _ := (set_far (by omega)).trans e3
              have hx4 : (x.1, x.2.1, x.2.2.1 + 1, x.2.2.2).2.1 = (x.1, x.2.1, x.2.2.1 + 1, x.2.2.2).2.2.2.length * 2048 := hxf
              have hx41 : (x.1, x.2.1, x.2.2.1 + 1, x.2.2.2).1 = lev := hx1
              show RQ _ _ _ _ _ _ (H3.set r (kO 6 [.ref (r + 1 + 1), .int (nI x.2.2.2.length), .int (nI x.1), .int (nI x.2.1), .int (nI (x.2.2.1 + 1))])) _ _ _
              generalize (H3.set r (kO 6 [.ref (r + 1 + 1), .int (nI x.2.2.2.length), .int (nI x.1), .int (nI x.2.1), .int (nI (x.2.2.1 + 1))])) = H4 at hD4 g4 t4 ⊢
              generalize (x.1, x.2.1, x.2.2.1 + 1, x.2.2.2) = x4 at hD4 hx4 hx41
              have hO4 : s.2.2.2 ++ [p.2] = (if mgKeep vs wh s.2.1 s.2.2.1 p.2 = true then s.2.2.2 ++ [p.2] else s.2.2.2) := by rw [if_pos hkp]
              have hEs4 : ∀ e ∈ s.2.2.2 ++ [p.2], EOk e := fun e he => (List.mem_append.mp he).elim (hEs e) (fun h9 => by rw [List.mem_singleton.mp h9]; exact hEp)
              refine RQ.blk 2 (pc' := 264) (lv' := [(12, .int 0), (11, .ref ((142 + 2 * p.1) + 1)), (10, .int (nI p.1)), (9, .int (nI i)), (0, .ref 137), (1, .int (nI f)), (2, .int (nI en)), (4, .int (nI P)), (5, .int (if wh then 1 else 0)), (6, .ref (r + 1)), (7, .int (nI by7)), (8, .int (nI E))]) (st' := [.ref ((142 + 2 * p.1) + 1), .ref 137]) (H' := _) (kc' := 0) (ks' := 0) rfl ?_
              refine RQ.callN (st' := []) rfl rfl rfl rfl rfl rfl (args_v [.ref ((142 + 2 * p.1) + 1)] [] rfl rfl (Nat.le_of_ble_eq_true rfl) rfl t4 (Nat.le_of_ble_eq_true rfl)) (rn_remember (q := 142 + 2 * p.1) (n := p.2.1.length) (m := p.2.2.1) (pp := p.2.2.2.1) (l := p.2.2.2.2) t4 ((g4 138 (by decide) (by decide) (by omega)).trans hL) ((g4 139 (by decide) (by decide) (by omega)).trans hb) hln ((g4 _ (by omega) (by omega) (by omega)).trans hq) ((g4 _ (by omega) (by omega) (by omega)).trans hg) hEp.2.1 hEp.2.2.1 b30 l30 (by omega)) (fun H6 hx6 => ?_)
              obtain ⟨⟨lb6, r1, r2⟩, r3, r4, f6⟩ := hx6
              rw [hk] at r2
              have g6 : ∀ a, a ≠ 136 → a ≠ 140 → a ≠ r → a ≠ 138 → a ≠ 139 → H6[a]? = H2[a]? := fun a a1 a2 a3 a4 a5 => (f6 a a1 a4 a5).trans (g4 a a1 a2 a3)
              have hD6 := hD4.lm (H' := H6) (lm' := p.2.2.1) ⟨hr1, hr2⟩ (fun a a1 a2 a3 a4 => f6 a (by omega) (by omega) (by omega)) (f6 140 (by decide) (by decide) (by decide)) r4
              refine RQ.blk 1 (pc' := 269) (lv' := [(12, .int 0), (11, .ref ((142 + 2 * p.1) + 1)), (10, .int (nI p.1)), (9, .int (nI i)), (0, .ref 137), (1, .int (nI f)), (2, .int (nI en)), (4, .int (nI P)), (5, .int (if wh then 1 else 0)), (6, .ref (r + 1)), (7, .int (nI by7)), (8, .int (nI E))]) (st' := [.ref ((142 + 2 * p.1) + 1)]) (H' := _) (kc' := 0) (ks' := 0) rfl ?_
              refine RQ.callN (st' := []) rfl rfl rfl rfl rfl rfl (args_v [] [] rfl rfl (Nat.le_of_ble_eq_true rfl) rfl ((g6 _ (by omega) (by omega) (by omega) (by omega) (by omega)).trans hq) (Nat.le_of_ble_eq_true rfl)) (rn_cadvI (q := 142 + 2 * p.1) (r := pi p.1) (x := y) (es := ess p.1) (i := s.1 p.1) (hI.far (g6 _ (by omega) (by omega) (by omega) (by omega) (by omega)) (g6 _ (by omega) (by omega) (by omega) (by omega) (by omega))) ((hpiR p.1 y hy).far ((g6 _ (by omega) (by omega) (by omega) (by omega) (by omega)).trans (f2 _ (by omega) (by omega) (by omega) (by omega) (by omega) (by omega) (by omega) (by omega))) ((g6 _ (by omega) (by omega) (by omega) (by omega) (by omega)).trans (f2 _ (by omega) (by omega) (by omega) (by omega) (by omega) (by omega) (by omega) (by omega)))) hOky hD6.2.1 hB (by omega) (by omega) hil) (fun H7 hx7 => ?_)
              obtain ⟨hI7, f7⟩ := hx7
              have hD7 := hD6.far (H' := H7) ⟨hr1, hr2⟩ (fun a a1 a2 a3 a4 => f7 a (by omega) (by omega)) (f7 140 (by omega) (by omega))
              have f8 : ∀ a, ¬ (71 ≤ a ∧ a < 74) → a ≠ 83 → a ≠ 86 → a ≠ r → a ≠ r + 1 → ¬ (a = 136 ∨ a = 140) → ¬ (138 ≤ a ∧ a < 140) → ¬ (142 ≤ a ∧ a < 190) → H7[a]? = H[a]? := fun a a1 a2 a3 a4 a5 a6 a7 a8 => (f7 a (by omega) (by omega)).trans ((g6 a (by omega) (by omega) a4 (by omega) (by omega)).trans (f2 a a1 a2 a3 a4 a5 a6 a7 a8))
              have hcur7 : ∀ c z, f ≤ c → c < en → rs[c]? = some z → CurI H7 (142 + 2 * c) (pi c) z (ess c) (va_up s.1 p.1 (s.1 p.1 + 1) c) := fun c z c1 c2 hz => by
                by_cases ec : c = p.1
                · subst ec
                  rw [up_at, ← Option.some.inj (hy.symm.trans hz)]
                  exact hI7
                · rw [up_ne ec]
                  exact (hcur c z c1 c2 hz).far ((f7 _ (by omega) (by omega)).trans (g6 _ (by omega) (by omega) (by omega) (by omega) (by omega))) ((f7 _ (by omega) (by omega)).trans (g6 _ (by omega) (by omega) (by omega) (by omega) (by omega)))
              have hCA7 : CursA H7 := fun c hc => by
                by_cases ec : c = p.1
                · rw [ec]; exact hI7.any
                · exact (hCA c hc).far ((f7 _ (by omega) (by omega)).trans (g6 _ (by omega) (by omega) (by omega) (by omega) (by omega))) ((f7 _ (by omega) (by omega)).trans (g6 _ (by omega) (by omega) (by omega) (by omega) (by omega)))
              have r1' := (f7 139 (by omega) (by omega)).trans r1
              have r3' := (f7 138 (by omega) (by omega)).trans r3
              have t7 := hD7.2.2.2.2.2.2.2.2.1
              have q7 := hD7.2.2.2.2.2.2.2.2.2.1
              have hs7 : ((va_up s.1 p.1 (s.1 p.1 + 1), p.2.1, p.2.2.1, (s.2.2.2 ++ [p.2])) : aMg) = (mgRun vs wh ess f (en - f) (fun _ => 0, [], lm, []) (i + 1)) := by
                show _ = mgStep vs wh ess f (en - f) (mgRun vs wh ess f (en - f) (fun _ => 0, [], lm, []) i)
                rw [← hs, mgStep, hl]
                dsimp only
                rw [← hO4]
              have hT1j := hT1 (i + 1)
              have hT2j := hT2 (i + 1)
              rw [← hs7] at hT1j hT2j
              refine RQ.blk 1 (pc' := 273) (lv' := [(12, .int 0), (11, .ref ((142 + 2 * p.1) + 1)), (10, .int (nI p.1)), (9, .int (nI i)), (0, .ref 137), (1, .int (nI f)), (2, .int (nI en)), (4, .int (nI P)), (5, .int (if wh then 1 else 0)), (6, .ref (r + 1)), (7, .int (nI by7)), (8, .int (nI E))]) (st' := [.ref 137]) (H' := _) (kc' := 0) (ks' := 0) rfl ?_
              refine RQ.get (ci := 8) rfl t7 rfl rfl ?_
              refine RQ.blk 1 (pc' := 279) (lv' := [(12, .int 0), (11, .ref ((142 + 2 * p.1) + 1)), (10, .int (nI p.1)), (9, .int (nI i)), (0, .ref 137), (1, .int (nI f)), (2, .int (nI en)), (4, .int (nI P)), (5, .int (if wh then 1 else 0)), (6, .ref (r + 1)), (7, .int (nI by7)), (8, .int (nI E))]) (st' := [.int 2048, .int (nI (bf1 + (p.2.1.length + 10)))]) (H' := _) (kc' := 0) (ks' := 0) rfl ?_
              by_cases c15 : bf1 + (p.2.1.length + 10) < 2048
              · refine RQ.brT rfl rfl rfl (cT_lt (bf1 + (p.2.1.length + 10)) 2048) ?_
                refine RQ.blk 1 (pc' := 291) (lv' := [(9, .int (nI i + 1)), (12, .int 0), (11, .ref ((142 + 2 * p.1) + 1)), (10, .int (nI p.1)), (0, .ref 137), (1, .int (nI f)), (2, .int (nI en)), (4, .int (nI P)), (5, .int (if wh then 1 else 0)), (6, .ref (r + 1)), (7, .int (nI by7)), (8, .int (nI E))]) (st' := []) (H' := _) (kc' := 0) (ks' := 0) rfl ?_
                rw [show (nI i + 1 : Int32) = nI (i + 1) from nI_add i 1]
                refine RQ.blk 1 (pc' := 135) (lv' := [(9, .int (nI (i + 1))), (12, .int 0), (11, .ref ((142 + 2 * p.1) + 1)), (10, .int (nI p.1)), (0, .ref 137), (1, .int (nI f)), (2, .int (nI en)), (4, .int (nI P)), (5, .int (if wh then 1 else 0)), (6, .ref (r + 1)), (7, .int (nI by7)), (8, .int (nI E))]) (st' := []) (H' := _) (kc' := 0) (ks' := 0) rfl ?_
                refine RQ.pick (a := [(9, .int (nI (i + 1))), (0, .ref 137), (1, .int (nI f)), (2, .int (nI en)), (4, .int (nI P)), (5, .int (if wh then 1 else 0)), (6, .ref (r + 1)), (7, .int (nI by7)), (8, .int (nI E))]) [0, 4, 5, 6, 7, 8, 9, 10, 11] [9, 12, 11, 10, 0, 1, 2, 4, 5, 6, 7, 8] rfl rfl (by decide) ?_
                exact ih (i + 1) _ ⟨_, _, _, _, _, _, _, _, _, lb6, hs7, by omega, by omega, hD7, hx41, hx4, hcur7, r1', r3', r2, hEp.2.1, hEs4, hEp.2.2.1, hCA7, f8⟩ (by omega)
              · refine RQ.brF rfl rfl rfl (cF_lt (bf1 + (p.2.1.length + 10)) 2048) ?_
                refine RQ.blk 2 (pc' := 285) (lv' := [(12, .int 0), (11, .ref ((142 + 2 * p.1) + 1)), (10, .int (nI p.1)), (9, .int (nI i)), (0, .ref 137), (1, .int (nI f)), (2, .int (nI en)), (4, .int (nI P)), (5, .int (if wh then 1 else 0)), (6, .ref (r + 1)), (7, .int (nI by7)), (8, .int (nI E))]) (st' := [.ref (r + 1), .ref 137]) (H' := _) (kc' := 0) (ks' := 0) rfl ?_
                refine RQ.callT (st' := []) rfl rfl rfl rfl rfl rfl (args_v [.ref (r + 1)] [] rfl rfl (Nat.le_of_ble_eq_true rfl) rfl t7 (Nat.le_of_ble_eq_true rfl)) (re_pageD (d := d) hD7 hB hbb (by omega) hl30 hi30 hfr0 hrl hr1 hr2 hbf4 hT1j hT2j (by omega)) rfl (fun H9 hx9 => ?_) (fun H9 hbad => Or.inr (by obtain ⟨c', tf', z1, z2, ⟨tu', us', z3, z4⟩, z5⟩ := hbad; exact ⟨_, rfl, ⟨c', tf', z1, (hM.far (fun q hq => z2 q (by cases e : us (q / 2048) with | true => rfl | false => have := hus2 _ e; omega))).forget, fun q _ hq => z2 q hq, ⟨_, (z5 85 (by decide) (by decide)).trans ((f8 85 (by decide) (by decide) (by decide) (by omega) (by omega) (by decide) (by decide) (by decide)).trans hpg)⟩, ⟨_, (z5 140 (by decide) (by decide)).trans q7⟩, ⟨_, _, hEp.2.2.1, (z5 136 (by decide) (by decide)).trans t7⟩, ⟨_, _, _, _, _, _, _, _, z3, z4⟩⟩, hCA7.far (fun a a1 a2 => z5 a (by omega) (by omega)), ⟨_, _, hEp.2.1, (z5 138 (by decide) (by decide)).trans r3', (z5 139 (by decide) (by decide)).trans r1'⟩, fun a a1 a2 a3 a4 => (z5 a (by omega) (by omega)).trans (f8 a (by omega) (by omega) (by omega) (by omega) (by omega) (by omega) (by omega) (by omega))⟩))
                obtain ⟨us9, tu9, c9, tf9, pq9, x9, pg9, hD9, hx91, hx9f, -, f9⟩ := hx9
                have g9 : ∀ a, 137 ≤ a → a ≠ 140 → H9[a]? = H7[a]? := fun a a1 a2 => f9 a (by omega) (by omega) (by omega) (by omega) (by omega) (by omega)
                refine RQ.blk 1 (pc' := 291) (lv' := [(9, .int (nI i + 1)), (12, .int 0), (11, .ref ((142 + 2 * p.1) + 1)), (10, .int (nI p.1)), (0, .ref 137), (1, .int (nI f)), (2, .int (nI en)), (4, .int (nI P)), (5, .int (if wh then 1 else 0)), (6, .ref (r + 1)), (7, .int (nI by7)), (8, .int (nI E))]) (st' := []) (H' := _) (kc' := 0) (ks' := 0) rfl ?_
                rw [show (nI i + 1 : Int32) = nI (i + 1) from nI_add i 1]
                refine RQ.blk 1 (pc' := 135) (lv' := [(9, .int (nI (i + 1))), (12, .int 0), (11, .ref ((142 + 2 * p.1) + 1)), (10, .int (nI p.1)), (0, .ref 137), (1, .int (nI f)), (2, .int (nI en)), (4, .int (nI P)), (5, .int (if wh then 1 else 0)), (6, .ref (r + 1)), (7, .int (nI by7)), (8, .int (nI E))]) (st' := []) (H' := _) (kc' := 0) (ks' := 0) rfl ?_
                refine RQ.pick (a := [(9, .int (nI (i + 1))), (0, .ref 137), (1, .int (nI f)), (2, .int (nI en)), (4, .int (nI P)), (5, .int (if wh then 1 else 0)), (6, .ref (r + 1)), (7, .int (nI by7)), (8, .int (nI E))]) [0, 4, 5, 6, 7, 8, 9, 10, 11] [9, 12, 11, 10, 0, 1, 2, 4, 5, 6, 7, 8] rfl rfl (by decide) ?_
                exact ih (i + 1) _ ⟨_, _, _, _, _, _, _, _, _, lb6, hs7, by omega, by omega, hD9, hx91.trans hx41, hx9f (by omega), fun c z c1 c2 hz => (hcur7 c z c1 c2 hz).far (g9 _ (by omega) (by omega)) (g9 _ (by omega) (by omega)), (g9 139 (by decide) (by decide)).trans r1', (g9 138 (by decide) (by decide)).trans r3', r2, hEp.2.1, hEs4, hEp.2.2.1, hCA7.far (fun a a1 a2 => g9 a (by omega) (by omega)), fun a a1 a2 a3 a4 a5 a6 a7 a8 => (f9 a a1 a2 a3 a4 a5 a6).trans (f8 a a1 a2 a3 a4 a5 a6 a7 a8)⟩ (by omega)
            · rw [if_neg hh]
              refine RQ.brT rfl rfl rfl (by decide) ?_
              have hkp : mgKeep vs wh s.2.1 s.2.2.1 p.2 = false := by unfold mgKeep; simp [ag, ht, hw, hh]
              have hbf4 : bf1 ≤ 2099 := by omega
              have hD4 := hD0
              have g4 : ∀ a, a ≠ 136 → a ≠ 140 → a ≠ r → H2[a]? = H2[a]? := fun a a1 a2 a3 => rfl
              have t4 := d9
              have hx4 := hxf
              have hx41 := hx1
              have hO4 : s.2.2.2 = (if mgKeep vs wh s.2.1 s.2.2.1 p.2 = true then s.2.2.2 ++ [p.2] else s.2.2.2) := by rw [if_neg (by rw [hkp]; decide)]
              have hEs4 := hEs
              refine RQ.blk 2 (pc' := 264) (lv' := [(12, .int 0), (11, .ref ((142 + 2 * p.1) + 1)), (10, .int (nI p.1)), (9, .int (nI i)), (0, .ref 137), (1, .int (nI f)), (2, .int (nI en)), (4, .int (nI P)), (5, .int (if wh then 1 else 0)), (6, .ref (r + 1)), (7, .int (nI by7)), (8, .int (nI E))]) (st' := [.ref ((142 + 2 * p.1) + 1), .ref 137]) (H' := _) (kc' := 0) (ks' := 0) rfl ?_
              refine RQ.callN (st' := []) rfl rfl rfl rfl rfl rfl (args_v [.ref ((142 + 2 * p.1) + 1)] [] rfl rfl (Nat.le_of_ble_eq_true rfl) rfl t4 (Nat.le_of_ble_eq_true rfl)) (rn_remember (q := 142 + 2 * p.1) (n := p.2.1.length) (m := p.2.2.1) (pp := p.2.2.2.1) (l := p.2.2.2.2) t4 ((g4 138 (by decide) (by decide) (by omega)).trans hL) ((g4 139 (by decide) (by decide) (by omega)).trans hb) hln ((g4 _ (by omega) (by omega) (by omega)).trans hq) ((g4 _ (by omega) (by omega) (by omega)).trans hg) hEp.2.1 hEp.2.2.1 b30 l30 (by omega)) (fun H6 hx6 => ?_)
              obtain ⟨⟨lb6, r1, r2⟩, r3, r4, f6⟩ := hx6
              rw [hk] at r2
              have g6 : ∀ a, a ≠ 136 → a ≠ 140 → a ≠ r → a ≠ 138 → a ≠ 139 → H6[a]? = H2[a]? := fun a a1 a2 a3 a4 a5 => (f6 a a1 a4 a5).trans (g4 a a1 a2 a3)
              have hD6 := hD4.lm (H' := H6) (lm' := p.2.2.1) ⟨hr1, hr2⟩ (fun a a1 a2 a3 a4 => f6 a (by omega) (by omega) (by omega)) (f6 140 (by decide) (by decide) (by decide)) r4
              refine RQ.blk 1 (pc' := 269) (lv' := [(12, .int 0), (11, .ref ((142 + 2 * p.1) + 1)), (10, .int (nI p.1)), (9, .int (nI i)), (0, .ref 137), (1, .int (nI f)), (2, .int (nI en)), (4, .int (nI P)), (5, .int (if wh then 1 else 0)), (6, .ref (r + 1)), (7, .int (nI by7)), (8, .int (nI E))]) (st' := [.ref ((142 + 2 * p.1) + 1)]) (H' := _) (kc' := 0) (ks' := 0) rfl ?_
              refine RQ.callN (st' := []) rfl rfl rfl rfl rfl rfl (args_v [] [] rfl rfl (Nat.le_of_ble_eq_true rfl) rfl ((g6 _ (by omega) (by omega) (by omega) (by omega) (by omega)).trans hq) (Nat.le_of_ble_eq_true rfl)) (rn_cadvI (q := 142 + 2 * p.1) (r := pi p.1) (x := y) (es := ess p.1) (i := s.1 p.1) (hI.far (g6 _ (by omega) (by omega) (by omega) (by omega) (by omega)) (g6 _ (by omega) (by omega) (by omega) (by omega) (by omega))) ((hpiR p.1 y hy).far ((g6 _ (by omega) (by omega) (by omega) (by omega) (by omega)).trans (f2 _ (by omega) (by omega) (by omega) (by omega) (by omega) (by omega) (by omega) (by omega))) ((g6 _ (by omega) (by omega) (by omega) (by omega) (by omega)).trans (f2 _ (by omega) (by omega) (by omega) (by omega) (by omega) (by omega) (by omega) (by omega)))) hOky hD6.2.1 hB (by omega) (by omega) hil) (fun H7 hx7 => ?_)
              obtain ⟨hI7, f7⟩ := hx7
              have hD7 := hD6.far (H' := H7) ⟨hr1, hr2⟩ (fun a a1 a2 a3 a4 => f7 a (by omega) (by omega)) (f7 140 (by omega) (by omega))
              have f8 : ∀ a, ¬ (71 ≤ a ∧ a < 74) → a ≠ 83 → a ≠ 86 → a ≠ r → a ≠ r + 1 → ¬ (a = 136 ∨ a = 140) → ¬ (138 ≤ a ∧ a < 140) → ¬ (142 ≤ a ∧ a < 190) → H7[a]? = H[a]? := fun a a1 a2 a3 a4 a5 a6 a7 a8 => (f7 a (by omega) (by omega)).trans ((g6 a (by omega) (by omega) a4 (by omega) (by omega)).trans (f2 a a1 a2 a3 a4 a5 a6 a7 a8))
              have hcur7 : ∀ c z, f ≤ c → c < en → rs[c]? = some z → CurI H7 (142 + 2 * c) (pi c) z (ess c) (va_up s.1 p.1 (s.1 p.1 + 1) c) := fun c z c1 c2 hz => by
                by_cases ec : c = p.1
                · subst ec
                  rw [up_at, ← Option.some.inj (hy.symm.trans hz)]
                  exact hI7
                · rw [up_ne ec]
                  exact (hcur c z c1 c2 hz).far ((f7 _ (by omega) (by omega)).trans (g6 _ (by omega) (by omega) (by omega) (by omega) (by omega))) ((f7 _ (by omega) (by omega)).trans (g6 _ (by omega) (by omega) (by omega) (by omega) (by omega)))
              have hCA7 : CursA H7 := fun c hc => by
                by_cases ec : c = p.1
                · rw [ec]; exact hI7.any
                · exact (hCA c hc).far ((f7 _ (by omega) (by omega)).trans (g6 _ (by omega) (by omega) (by omega) (by omega) (by omega))) ((f7 _ (by omega) (by omega)).trans (g6 _ (by omega) (by omega) (by omega) (by omega) (by omega)))
              have r1' := (f7 139 (by omega) (by omega)).trans r1
              have r3' := (f7 138 (by omega) (by omega)).trans r3
              have t7 := hD7.2.2.2.2.2.2.2.2.1
              have q7 := hD7.2.2.2.2.2.2.2.2.2.1
              have hs7 : ((va_up s.1 p.1 (s.1 p.1 + 1), p.2.1, p.2.2.1, s.2.2.2) : aMg) = (mgRun vs wh ess f (en - f) (fun _ => 0, [], lm, []) (i + 1)) := by
                show _ = mgStep vs wh ess f (en - f) (mgRun vs wh ess f (en - f) (fun _ => 0, [], lm, []) i)
                rw [← hs, mgStep, hl]
                dsimp only
                rw [← hO4]
              have hT1j := hT1 (i + 1)
              have hT2j := hT2 (i + 1)
              rw [← hs7] at hT1j hT2j
              refine RQ.blk 1 (pc' := 273) (lv' := [(12, .int 0), (11, .ref ((142 + 2 * p.1) + 1)), (10, .int (nI p.1)), (9, .int (nI i)), (0, .ref 137), (1, .int (nI f)), (2, .int (nI en)), (4, .int (nI P)), (5, .int (if wh then 1 else 0)), (6, .ref (r + 1)), (7, .int (nI by7)), (8, .int (nI E))]) (st' := [.ref 137]) (H' := _) (kc' := 0) (ks' := 0) rfl ?_
              refine RQ.get (ci := 8) rfl t7 rfl rfl ?_
              refine RQ.blk 1 (pc' := 279) (lv' := [(12, .int 0), (11, .ref ((142 + 2 * p.1) + 1)), (10, .int (nI p.1)), (9, .int (nI i)), (0, .ref 137), (1, .int (nI f)), (2, .int (nI en)), (4, .int (nI P)), (5, .int (if wh then 1 else 0)), (6, .ref (r + 1)), (7, .int (nI by7)), (8, .int (nI E))]) (st' := [.int 2048, .int (nI bf1)]) (H' := _) (kc' := 0) (ks' := 0) rfl ?_
              by_cases c16 : bf1 < 2048
              · refine RQ.brT rfl rfl rfl (cT_lt (bf1) 2048) ?_
                refine RQ.blk 1 (pc' := 291) (lv' := [(9, .int (nI i + 1)), (12, .int 0), (11, .ref ((142 + 2 * p.1) + 1)), (10, .int (nI p.1)), (0, .ref 137), (1, .int (nI f)), (2, .int (nI en)), (4, .int (nI P)), (5, .int (if wh then 1 else 0)), (6, .ref (r + 1)), (7, .int (nI by7)), (8, .int (nI E))]) (st' := []) (H' := _) (kc' := 0) (ks' := 0) rfl ?_
                rw [show (nI i + 1 : Int32) = nI (i + 1) from nI_add i 1]
                refine RQ.blk 1 (pc' := 135) (lv' := [(9, .int (nI (i + 1))), (12, .int 0), (11, .ref ((142 + 2 * p.1) + 1)), (10, .int (nI p.1)), (0, .ref 137), (1, .int (nI f)), (2, .int (nI en)), (4, .int (nI P)), (5, .int (if wh then 1 else 0)), (6, .ref (r + 1)), (7, .int (nI by7)), (8, .int (nI E))]) (st' := []) (H' := _) (kc' := 0) (ks' := 0) rfl ?_
                refine RQ.pick (a := [(9, .int (nI (i + 1))), (0, .ref 137), (1, .int (nI f)), (2, .int (nI en)), (4, .int (nI P)), (5, .int (if wh then 1 else 0)), (6, .ref (r + 1)), (7, .int (nI by7)), (8, .int (nI E))]) [0, 4, 5, 6, 7, 8, 9, 10, 11] [9, 12, 11, 10, 0, 1, 2, 4, 5, 6, 7, 8] rfl rfl (by decide) ?_
                exact ih (i + 1) _ ⟨_, _, _, _, _, _, _, _, _, lb6, hs7, by omega, by omega, hD7, hx41, hx4, hcur7, r1', r3', r2, hEp.2.1, hEs4, hEp.2.2.1, hCA7, f8⟩ (by omega)
              · exact absurd hbf1 c16
  ·
    refine RQ.blk 2 (pc' := 139) (lv' := [(9, .int (nI i)), (0, .ref 137), (1, .int (nI f)), (2, .int (nI en)), (4, .int (nI P)), (5, .int (if wh then 1 else 0)), (6, .ref (r + 1)), (7, .int (nI by7)), (8, .int (nI E))]) (st' := [.int (nI E), .int (nI i)]) (H' := _) (kc' := 0) (ks' := 0) rfl ?_
    refine RQ.brT rfl rfl rfl (cT_ge i E) ?_
    refine RQ.pick (a := [(0, .ref 137), (1, .int (nI f)), (2, .int (nI en)), (4, .int (nI P)), (6, .ref (r + 1)), (7, .int (nI by7))]) [1, 2, 3, 4, 6, 7] [9, 0, 1, 2, 4, 5, 6, 7, 8] rfl rfl (by decide) ?_
    exact exitL (by rw [show E = i by omega, hs])
