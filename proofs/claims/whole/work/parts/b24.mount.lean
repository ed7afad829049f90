/-! ===== the steps of a mount, from what the chip holds to memory; class; by hand ===== -/
/-- the store while it is mended: the layout is the chip's, memory has vs -/
def MtS (H : aH) (B N bb S : Nat) (op : Nat → Bool) (sm : Nat → Nat) (lgs : List Nat) (fr ff : Nat) (rs : List aR) (us : Nat → Bool) (c : Nat → Int8) (P0 : Nat) (gs : List aSg) (vs : List aV) : Prop := Dk H B bb S lgs fr ff false 0 rs us c P0 fr ff lgs rs ∧ LsOk B lgs rs ∧ (∀ b, b < B → us b = usedB lgs rs b) ∧ FrC c lgs fr ff gs ∧ ff ≤ 2048 ∧ VersIs H N vs ∧ SightAt H op sm ∧ AuxA H B N
/-- fallen, and perhaps a cut is armed anew -/
def DnA (H : aH) (B N bb S : Nat) (op : Nat → Bool) (sm : Nat → Nat) (c : Nat → Int8) (P0 fr0 ff0 : Nat) (lgs0 : List Nat) (rs0 : List aR) (gs0 : List aSg) : Prop := (∃ tf pq ms sq, ChipAt H B c tf pq bb 0 ∧ PQ bb pq ∧ Mast c P0 fr0 ff0 lgs0 rs0 ms 2048 sq ∧ sq ≤ S ∧ (∃ lgs fr ff wr tp rs ms mt sq tu us, tu ≤ 128 ∧ LayIs H B lgs fr ff wr tp rs ms mt sq tu us) ∧ (∃ pg, H[85]? = some (kB 2048 pg)) ∧ (∃ pg, H[140]? = some (kB 2099 pg)) ∧ ∃ pg, H[191]? = some (kB 2048 pg)) ∧ LsOk B lgs0 rs0 ∧ FrC c lgs0 fr0 ff0 gs0 ∧ ff0 ≤ 2048 ∧ VersIs H N [] ∧ SightAt H op sm ∧ AuxA H B N
theorem last_lt {c : Nat → Int8} {m a : Nat} : ∀ (k o : Nat) (l : Option Nat), lastF c m k o l = some a → l = some a ∨ a < m * 2048 + 2048
  | 0, _, _, h => Or.inl h
  | k + 1, o, l, h => by
    rw [lastF] at h
    split at h
    · rename_i hw
      rcases last_lt k _ _ h with q | q
      · have := (wholeS_iff.mp hw.2).1
        have : m * 2048 + o = a := Option.some.inj q
        exact Or.inr (by omega)
      · exact Or.inr q
    · exact Or.inl h
theorem Mast.hq {c : Nat → Int8} {P fr ff : Nat} {lgs : List Nat} {rs : List aR} {ms mt sq : Nat} (h : Mast c P fr ff lgs rs ms mt sq) (hsq : sq < 2 ^ 31) : ∀ m, m < 2 → ∀ a, lastF c m 2048 5 none = some a → sqN c m < 2 ^ 31 ∧ a < 2 ^ 30 := fun m hm a ha => by
  have hlt : a < 2 ^ 30 := by
    rcases last_lt _ _ _ ha with q | q
    · exact (Option.some_ne_none a q.symm).elim
    · omega
  refine ⟨?_, hlt⟩
  obtain ⟨⟨h1, -, h3⟩, -⟩ := h
  rcases h3 with ⟨e1, e2, -⟩ | ⟨a', e1, e2, -, -, -, e6, -⟩
  · rcases Nat.lt_or_ge m 1 with q | q
    · rw [show m = 0 by omega, e1] at ha; exact (Option.some_ne_none a ha.symm).elim
    · rw [show m = 1 by omega, e2] at ha; exact (Option.some_ne_none a ha.symm).elim
  · by_cases q : m = ms
    · rw [q, e2]; exact hsq
    · have q2 : m = 1 - ms := by omega
      rcases e6 with r | r
      · rw [q2, r] at ha; exact (Option.some_ne_none a ha.symm).elim
      · rw [q2]; omega
theorem nd_len {l : List Nat} {B : Nat} (h : l.Nodup) (hb : ∀ x ∈ l, x < B) : l.length ≤ B := by
  have := len_sub l (List.range B) h (fun x hx => List.mem_range.mpr (hb x hx))
  rw [List.length_range] at this
  exact this
theorem ri_loadM {sc : Nat × (Nat → Int32)} {d N P0 fr0 ff0 : Nat} {H : aH} {B bb S : Nat} {op : Nat → Bool} {sm : Nat → Nat} {c : Nat → Int8} {lgs0 : List Nat} {rs0 : List aR} {gs0 : List aSg} {tss : List (List aT)} (h : DnA H B N bb S op sm c P0 fr0 ff0 lgs0 rs0 gs0) (hR : RsOk c B rs0 tss) (hB : B ≤ 128) (hB3 : 3 ≤ B) (hS : S < 2 ^ 31) (hP : P0 < 2 ^ 31) (hrl : rs0.length ≤ 23) : RI sc (d + 3) mr_180 [.ref 84] H (fun x H' => x = nI P0 ∧ (∃ us, MtS H' B N bb S op sm lgs0 fr0 ff0 rs0 us c P0 gs0 []) ∧ ∀ a, ¬ (83 ≤ a ∧ a < 136) → H'[a]? = H[a]?) := by
  obtain ⟨⟨tf, pq, ms, sq, d1, d2, d3, d4, ⟨lgs, fr, ff, wr, tp, rs, ms', mt', sq', tu, us, d5, d6⟩, ⟨g1, d7⟩, ⟨g2, d8⟩, ⟨g3, d9⟩⟩, hO, hF, hff, hV, hs, hA⟩ := h
  have hq := d3.hq (by omega)
  have hll := nd_len hO.logs (fun x hx => (hO.1 x hx).2)
  have hfr : fr0 ≤ lgs0.length := hF.2.1
  have hms := d3.1.1
  rcases d3.pick with ⟨p1, p2, p3, p4, p5, p6, p7, p8⟩ | ⟨a, p1, p2, p3⟩
  · obtain ⟨x, H', k1, k2, k3, k4⟩ := ri_load0 (sc := sc) (d := d) d6 hB d1 hB3 hq p1
    rw [← p8] at k3
    rw [← p7] at k3
    rw [p8] at k3
    rw [p7] at k3
    have f2 : ∀ a, ¬ (83 ≤ a ∧ a < 136) → H'[a]? = H[a]? := fun a ha => k4 a (by omega)
    rw [p2, p3] at d3
    have k3' : LayIs H' B lgs0 fr0 ff0 false 0 rs0 0 2048 0 tu (fun b => if b < B then usedB lgs0 rs0 b else us b) := by rw [p5, p6, p7, p8]; exact k3
    refine ⟨x, H', k1, by rw [k2, p4]; rfl, ⟨_, ⟨⟨tf, pq, 0, 2048, 0, tu, k3', d1.far (fun a a1 a2 => f2 a (by omega)), d2, d5, d3, fun e => absurd e (by omega), Nat.zero_le _, fun e => Bool.noConfusion e, ⟨g1, (k4 85 (by decide)).trans d7⟩, ⟨g2, (f2 140 (by decide)).trans d8⟩, ⟨g3, (f2 191 (by decide)).trans d9⟩⟩, hO, fun b hb => if_pos hb, hF, hff, hV.far (fun a a1 a2 => f2 a (by omega)), hs.far2 (fun a a1 a2 => f2 a (by omega)), hA.keep (fun a a1 a2 => f2 a (by omega))⟩⟩, f2⟩
  · obtain ⟨x, H', k1, k2, k3, k4⟩ := ri_load1 (sc := sc) (d := d) d6 hB d1 hB3 hq p1 p2 (by omega) hP (by omega) (by omega) (fun x hx => (hO.1 x hx).2) hll hrl (fun x hx => by
      obtain ⟨i, hi⟩ := List.getElem?_of_mem hx
      obtain ⟨t, ht⟩ := lt_get (l := tss) (i := i) (by have := get_lt hi; have := hR.1; omega)
      have h64 := (hR.2 i x t hi ht).2.2.2.2.2.2
      have := hO.runs x hx
      exact ⟨this.1, this.2.1, this.2.2.1, h64, this.2.2.2⟩)
    have f2 : ∀ a, ¬ (83 ≤ a ∧ a < 136) → H'[a]? = H[a]? := fun a ha => k4 a (by omega)
    exact ⟨x, H', k1, k2, ⟨_, ⟨⟨tf, pq, ms, 2048, sq, tu, k3, d1.far (fun a a1 a2 => f2 a (by omega)), d2, d5, d3, fun e => absurd e (by omega), d4, fun e => Bool.noConfusion e, ⟨g1, (k4 85 (by decide)).trans d7⟩, ⟨g2, (f2 140 (by decide)).trans d8⟩, ⟨g3, (f2 191 (by decide)).trans d9⟩⟩, hO, fun b hb => if_pos hb, hF, hff, hV.far (fun a a1 a2 => f2 a (by omega)), hs.far2 (fun a a1 a2 => f2 a (by omega)), hA.keep (fun a a1 a2 => f2 a (by omega))⟩⟩, f2⟩
/-- only memory, a cursor and the log's rows change -/
theorem MtS.vers {H H' : aH} {B N bb S : Nat} {op : Nat → Bool} {sm : Nat → Nat} {lgs : List Nat} {fr ff : Nat} {rs : List aR} {us : Nat → Bool} {c : Nat → Int8} {P0 : Nat} {gs : List aSg} {vs vs' : List aV} (h : MtS H B N bb S op sm lgs fr ff rs us c P0 gs vs) (hV : VersIs H' N vs') (hA : AuxA H' B N) (hf : ∀ a, (7 ≤ a ∧ a < 10) ∨ (71 ≤ a ∧ a < 74) ∨ (83 ≤ a ∧ a < 136) ∨ a = 140 ∨ a = 191 → H'[a]? = H[a]?) : MtS H' B N bb S op sm lgs fr ff rs us c P0 gs vs' := by
  obtain ⟨h1, h2, h3, h4, h5, -, h7, -⟩ := h
  exact ⟨h1.far (fun a ha => hf a (by omega)), h2, h3, h4, h5, hV, h7.far2 (fun a a1 a2 => hf a (by omega)), hA⟩
theorem rn_loadM {sc : Nat × (Nat → Int32)} {d N : Nat} {H : aH} {B bb S : Nat} {op : Nat → Bool} {sm : Nat → Nat} {lgs : List Nat} {fr ff : Nat} {rs : List aR} {us : Nat → Bool} {c : Nat → Int8} {P0 : Nat} {gs : List aSg} {tss : List (List aT)} {KS : List (List Nat)} (h : MtS H B N bb S op sm lgs fr ff rs us c P0 gs []) (hR : RsOk c B rs tss) (hB : B ≤ 128) (hK : ∀ e ∈ tss.flatten, e.1 ∈ KS) (hKN : KS.length ≤ N) : RN sc (d + 3) mr_183 [.ref 137] H (fun H' => MtS H' B N bb S op sm lgs fr ff rs us c P0 gs (tss.flatten.foldl meetE []) ∧ ∀ a, ¬ (74 ≤ a ∧ a < 83) → a ≠ 142 → a ≠ 143 → H'[a]? = H[a]?) := by
  obtain ⟨hD, hO, hus, hF, hff, hV, hs, hA⟩ := id h
  obtain ⟨tf, pq, ms, mt, sq, tu, d1, d2, d3, d4⟩ := id hD
  obtain ⟨A1, ⟨lm, bf, A2, A3⟩, A4, A5, A6, ⟨cu, A7, A7'⟩, A8, A9, A10⟩ := id hA
  obtain ⟨H', k1, k2, k3, k4⟩ := rn_loadAllK (sc := sc) (d := d) d1 hB A3 A7 (A7' 0 (by decide)) (A8 0 (by decide)) d2 hV List.Pairwise.nil hR.1.symm hR.2 (fun v hv => absurd hv List.not_mem_nil) hK hKN
  have hcu : CursA H' := fun cc hcc => by
    by_cases e0 : cc = 0
    · rw [e0]; exact k3
    · exact (A8 cc hcc).far (k4 _ (by omega) (by omega) (by omega)) (k4 _ (by omega) (by omega) (by omega))
  exact ⟨H', k1, h.vers k2 ⟨(k4 190 (by decide) (by decide) (by decide)).trans A1, ⟨lm, bf, A2, (k4 136 (by decide) (by decide) (by decide)).trans A3⟩, A4.imp (fun g hg => (k4 192 (by decide) (by decide) (by decide)).trans hg), A5.imp (fun g hg => (k4 193 (by decide) (by decide) (by decide)).trans hg), A6.imp (fun g hg => (k4 194 (by decide) (by decide) (by decide)).trans hg), ⟨cu, (k4 137 (by decide) (by decide) (by decide)).trans A7, A7'⟩, hcu, A9.far (k4 138 (by decide) (by decide) (by decide)) (k4 139 (by decide) (by decide) (by decide)), A10.imp (fun g hg => (k4 141 (by decide) (by decide) (by decide)).trans hg)⟩ (fun a ha => k4 a (by omega) (by omega) (by omega)), k4⟩
/-- the replay gives what the chip tells, and the moment -/
theorem rp_dur {es : List aT} {L : List aCh} {jk xs : List (Nat × aRd)} {P0 P : Nat} (hx : xs = L.flatMap chX ++ jk) (hj : ∀ m0 vs0, (jk.foldl rpS ([], m0, vs0)).2 = (m0, vs0)) (h40 : ∀ x ∈ L, x.2.2.1.length ≤ 40) (hP : L.foldl (fun _ x => x.1) P0 = P) : (xs.foldl rpS ([], P0, es.foldl meetE [])).2 = (P, durV es L) := by
  rw [hx, List.foldl_append, rp_chs L P0 _ h40, hj, hP]
  rfl
theorem ri_replayM {sc : Nat × (Nat → Int32)} {d N P : Nat} {H : aH} {B bb S : Nat} {op : Nat → Bool} {sm : Nat → Nat} {lgs : List Nat} {fr ff : Nat} {rs : List aR} {us : Nat → Bool} {c : Nat → Int8} {P0 : Nat} {gs : List aSg} {es : List aT} {L : List aCh} {jk : List (Nat × aRd)} {KS : List (List Nat)} (h : MtS H B N bb S op sm lgs fr ff rs us c P0 gs (es.foldl meetE [])) (hB : B ≤ 128) (hP0 : P0 < 2 ^ 31) (hx : gs.flatMap flG = L.flatMap chX ++ jk) (hj : ∀ m0 vs0, (jk.foldl rpS ([], m0, vs0)).2 = (m0, vs0)) (h40 : ∀ x ∈ L, x.2.2.1.length ≤ 40) (hP : L.foldl (fun _ x => x.1) P0 = P) (hRd : ∀ x ∈ gs.flatMap flG, (x.2.1 ≠ 4 → x.2.2.2.2.1 < 2 ^ 30) ∧ (x.2.1 ≠ 3 → x.2.1 ≠ 4 → 1 ≤ x.2.2.1.length ∧ x.2.2.1 ∈ KS)) (hK : ∀ e ∈ es, e.1 ∈ KS) (hKN : KS.length ≤ N) : RI sc (d + 4) mr_185 [.ref 191, .int (nI P0)] H (fun x H' => x = nI P ∧ MtS H' B N bb S op sm lgs fr ff rs us c P0 gs (durV es L) ∧ ∀ a, ¬ (74 ≤ a ∧ a < 83) → a ≠ 192 → a ≠ 193 → H'[a]? = H[a]?) := by
  obtain ⟨hD, hO, hus, hF, hff, hV, hs, hA⟩ := id h
  obtain ⟨tf, pq, ms, mt, sq, tu, d1, d2, d3, d4⟩ := id hD
  obtain ⟨A1, ⟨lm, bf, A2, A3⟩, A4, A5, A6, A7, A8, A9, A10⟩ := id hA
  obtain ⟨x, H', k1, k2, k3, k4, k5, k6⟩ := ri_replay (sc := sc) (d := d) (KS := KS) (P := P0) d1 hB A1 d2 hV (foldE_ss List.Pairwise.nil es) A4 A5 hF (fun x hx => by
    obtain ⟨m1, m2, m3, m4, m5, -⟩ := fr_mem hF hO hx
    exact ⟨m1, m2, by omega, (hRd x hx).1, (hRd x hx).2⟩) (fun x hx => (hO.1 x hx).2) hff hP0 (fun v hv => by
    rcases foldE_keys es hv with q | ⟨e, q1, q2⟩
    · exact absurd q List.not_mem_nil
    · rw [q2]; exact hK e q1) hKN
  have hdur := rp_dur (es := es) (xs := gs.flatMap flG) hx hj h40 hP
  rw [hdur] at k2 k3
  exact ⟨x, H', k1, k2, h.vers k3 ⟨(k6 190 (by decide) (by decide) (by decide)).trans A1, ⟨lm, bf, A2, (k6 136 (by decide) (by decide) (by decide)).trans A3⟩, k4, k5, A6.imp (fun g hg => (k6 194 (by decide) (by decide) (by decide)).trans hg), A7.imp (fun g hg => ⟨(k6 137 (by decide) (by decide) (by decide)).trans hg.1, hg.2⟩), A8.far (fun a a1 a2 => k6 a (by omega) (by omega) (by omega)), A9.far (k6 138 (by decide) (by decide) (by decide)) (k6 139 (by decide) (by decide) (by decide)), A10.imp (fun g hg => (k6 141 (by decide) (by decide) (by decide)).trans hg)⟩ (fun a ha => k6 a (by omega) (by omega) (by omega)), k6⟩
theorem rn_purgeM {sc : Nat × (Nat → Int32)} {d N P : Nat} {H : aH} {B bb S : Nat} {op : Nat → Bool} {sm : Nat → Nat} {lgs : List Nat} {fr ff : Nat} {rs : List aR} {us : Nat → Bool} {c : Nat → Int8} {P0 : Nat} {gs : List aSg} {vs : List aV} (h : MtS H B N bb S op sm lgs fr ff rs us c P0 gs vs) (hsm : ∀ t, t < 8 → sm t < 2 ^ 31) (hpr : ∀ v ∈ vs, v.2.1 ≤ P) : RN sc (d + 2) mr_80 [.ref 75] H (fun H' => MtS H' B N bb S op sm lgs fr ff rs us c P0 gs (vs.filter (keepS op sm P (kmV vs))) ∧ ∀ a, ¬ (74 ≤ a ∧ a < 83) → H'[a]? = H[a]?) := by
  obtain ⟨hD, hO, hus, hF, hff, hV, hs, hA⟩ := id h
  obtain ⟨H', k1, k2, k3⟩ := rn_purgeL (sc := sc) (d := d) (pr := P) hs hsm hV hpr
  exact ⟨H', k1, h.vers k2 (hA.keep (fun a a1 a2 => k3 a (by omega))) (fun a ha => k3 a (by omega)), k3⟩
