/-! ===== what a mount has in memory; sweep and spill in it; class; by hand ===== -/
theorem opA_closed {op : Nat → Bool} (h : ∀ t, t < 8 → op t = false) (x : Int32) (P : Nat → Bool) : opA op x P 8 = false := by
  cases e : opA op x P 8 with
  | false => rfl
  | true =>
    obtain ⟨t, t1, t2, -⟩ := opA_ex.mp e
    rw [h t t1] at t2
    exact Bool.noConfusion t2
/-- with no transaction open: values that are the newest, and what was taken out while memory alone says so -/
theorem keep_closed {op : Nat → Bool} {sm : Nat → Nat} {pr : Nat} {vs : List aV} {v : aV} (h : ∀ t, t < 8 → op t = false) (hk : keepS op sm pr (kmV vs) v = true) : stK (kmV vs) v.1 v.2.1 pr = true ∧ (v.2.2.2.1 = none → v.2.2.2.2 = true) := by
  unfold keepS needS at hk
  rw [opA_closed h, opA_closed h, Bool.or_false, Bool.or_false] at hk
  have hst : stK (kmV vs) v.1 v.2.1 pr = true := by
    cases e : stK (kmV vs) v.1 v.2.1 pr with
    | true => rfl
    | false =>
      rw [e] at hk
      generalize usV v = a at hk
      generalize ouV v = b at hk
      generalize v.2.2.2.2 = w at hk
      cases a <;> cases b <;> cases w <;> exact absurd hk (by decide)
  refine ⟨hst, fun hn => ?_⟩
  have ho : ouV v = true := decide_eq_true hn
  rw [hst, ho] at hk
  cases hb : v.2.2.2.2 with
  | true => rfl
  | false =>
    rw [hb] at hk
    generalize usV v = a at hk
    cases a <;> exact absurd hk (by decide)
theorem mt_nw {op : Nat → Bool} {sm : Nat → Nat} {P : Nat} {vg : List aV} {es : List aT} {L : List aCh} (ho : ∀ t, t < 8 → op t = false) (hT : WTab vg es) (hL : WLog vg es L) (h1 : OneV vg) {v : aV} (hv : v ∈ (durV es L).filter (keepS op sm P (kmV (durV es L)))) : ∃ a, NwV vg (v.1, v.2.1, v.2.2.1, v.2.2.2.1, a) := by
  obtain ⟨h2, h3⟩ := List.mem_filter.mp hv
  obtain ⟨k, m, p, l, b⟩ := v
  cases l with
  | some n => exact (dur_val hT hL h1).mp ⟨b, h2⟩
  | none =>
    have hb : b = true := (keep_closed ho h3).2 rfl
    subst hb
    rcases (durV_mem hL).mp h2 with ⟨⟨e, e1, e2⟩, -⟩ | ⟨q1, q2⟩
    · exact Bool.noConfusion (congrArg (fun z : aV => z.2.2.2.2) e2)
    · exact ⟨true, hL.2.2.2.1 _ q1 q2⟩
theorem RecW.same {c : Nat → Int8} {lgs : List Nat} {v w : aV} (h : RecW c lgs v) (h1 : w.1 = v.1) (h2 : w.2.1 = v.2.1) (h3 : w.2.2.1 = v.2.2.1) (h4 : w.2.2.2.1 = v.2.2.2.1) : RecW c lgs w := (h.far h1 h2 h3 h4 (fun _ _ => rfl) (fun _ hx => hx)).1
theorem KeyV.wg {v : aV} (h : KeyV v) : 1 ≤ wgV v := by
  unfold wgV wgt
  rcases h with ⟨k, h1, h2, -⟩ | ⟨f, h1, -⟩ | ⟨f, i, h1, -⟩
  · rw [h1, if_pos (show (0 :: k).headD 0 = 0 from rfl), List.length_cons]
    omega
  · rw [h1, if_neg (show ¬ ([1, f] : List Nat).headD 0 = 0 from fun e => absurd (show (1 : Nat) = 0 from e) (by decide)), if_pos (show ([1, f] : List Nat).headD 0 = 1 from rfl)]
    omega
  · rw [h1, if_neg (show ¬ ([2, f, i] : List Nat).headD 0 = 0 from fun e => absurd (show (2 : Nat) = 0 from e) (by decide)), if_neg (show ¬ ([2, f, i] : List Nat).headD 0 = 1 from fun e => absurd (show (2 : Nat) = 1 from e) (by decide))]
    omega
theorem ld_pos {vs : List aV} {v : aV} (hv : v ∈ vs) (hn : v.2.2.2.1 ≠ none) (hw : 1 ≤ wgV v) : ldN vs (v.2.2.1 / 2048) ≠ 0 := by
  unfold ldN
  induction vs with
  | nil => exact absurd hv List.not_mem_nil
  | cons u t ih =>
    rw [List.map_cons, List.sum_cons]
    rcases List.mem_cons.mp hv with q | q
    · rw [← q, if_pos ⟨hn, rfl⟩]; omega
    · have := ih q; omega
theorem sw_keep {vs : List aV} {lgs : List Nat} {v : aV} (hv : v ∈ vs) (hn : v.2.2.2.1 ≠ none) (hw : 1 ≤ wgV v) (hl : v.2.2.1 / 2048 ∈ lgs) : v.2.2.1 / 2048 ∈ swL (ldN vs) false lgs := by
  unfold swL
  refine List.mem_filter.mpr ⟨hl, ?_⟩
  unfold swK
  rw [decide_eq_false (ld_pos hv hn hw)]
  rfl
theorem LsOk.sub {B : Nat} {lgs lgs' : List Nat} {rs : List aR} (h : LsOk B lgs rs) (hs : lgs'.Sublist lgs) : LsOk B lgs' rs := ⟨fun x hx => h.1 x (hs.subset hx), h.2.1, h.2.2.sublist (hs.append (List.Sublist.refl _))⟩
theorem usedB_logs {lgs lgs' : List Nat} {rs : List aR} {b : Nat} (hs : ∀ x ∈ lgs', x ∈ lgs) (h : usedB lgs rs b = false) : usedB lgs' rs b = false := by
  cases e : usedB lgs' rs b with
  | false => rfl
  | true =>
    rcases usedB_iff.mp e with q | q | q
    · rw [usedB_iff.mpr (Or.inl q)] at h; exact h
    · rw [usedB_iff.mpr (Or.inr (Or.inl (hs b q)))] at h; exact h
    · rw [usedB_iff.mpr (Or.inr (Or.inr q))] at h; exact h
/-- every value is where it is said to be -/
theorem rc_watchM {ky : List (List Nat)} {sc : Nat × (Nat → Int32)} {d N P : Nat} {H : aH} {B bb S : Nat} {op : Nat → Bool} {sm : Nat → Nat} {lgs : List Nat} {fr ff : Nat} {rs : List aR} {us : Nat → Bool} {c : Nat → Int8} {P0 : Nat} {gs : List aSg} {vs : List aV} (h : MtS H B N bb S op sm lgs fr ff rs us c P0 gs vs) (hR : ∀ v ∈ vs, RecW c lgs v) (hK : ∀ v ∈ vs, VOk ky P v) (hB : B ≤ 128) (hP : P < 2 ^ 30) : RC sc (d + 3) mr_189 [.ref 191] H (.inl none) H 0 0 := by
  obtain ⟨hD, hO, hus, hF, hff, hV, hs, hA⟩ := id h
  obtain ⟨tf, pq, ms, mt, sq, tu, d1, d2, d3, d4⟩ := id hD
  obtain ⟨lg, pi, hY, hlg, hlc, hRs⟩ := id d1
  obtain ⟨kf, kl, mo, pl, le, al, od, sp, sz, ss, ac, hVA, hVW, hvs⟩ := id hV
  exact rc_watchAll hVA hVW hvs d2 hY hB hlc (fun j hj => by
    obtain ⟨b, hb⟩ := lt_get hj
    rw [hlg j b hb]
    have := (hO.1 b (List.mem_of_getElem? hb)).2
    omega) hA.1 (recs_ok (wr := false) (tp := 0) hlg hO (fun v hv => ⟨hR v hv, fun e => Bool.noConfusion e⟩) hK hP)
/-- while it is mended, logs without anything needed go -/
def MtW (H : aH) (B N bb S : Nat) (op : Nat → Bool) (sm : Nat → Nat) (lgs' lgs : List Nat) (fr ff : Nat) (rs : List aR) (us : Nat → Bool) (c : Nat → Int8) (P0 : Nat) (gs : List aSg) (vs : List aV) : Prop := Dk H B bb S lgs' fr ff false 0 rs us c P0 fr ff lgs rs ∧ LsOk B lgs rs ∧ lgs'.Sublist lgs ∧ (∀ b, b < B → us b = usedB lgs rs b) ∧ FrC c lgs fr ff gs ∧ ff ≤ 2048 ∧ VersIs H N vs ∧ SightAt H op sm ∧ AuxA H B N
theorem rn_sweepM {sc : Nat × (Nat → Int32)} {d N P : Nat} {H : aH} {B bb S : Nat} {op : Nat → Bool} {sm : Nat → Nat} {lgs : List Nat} {fr ff : Nat} {rs : List aR} {us : Nat → Bool} {c : Nat → Int8} {P0 : Nat} {gs : List aSg} {vs : List aV} (h : MtS H B N bb S op sm lgs fr ff rs us c P0 gs vs) (hR : ∀ v ∈ vs, RecW c lgs v) (hB : B ≤ 128) (hld : ∀ b, ldN vs b < 2 ^ 31) : RN sc (d + 3) mr_134 [.ref 191] H (fun H' => MtW H' B N bb S op sm (swL (ldN vs) false lgs) lgs fr ff rs us c P0 gs vs ∧ ∀ a, a ≠ 83 → a ≠ 87 → a ≠ 194 → H'[a]? = H[a]?) := by
  obtain ⟨hD, hO, hus, hF, hff, hV, hs, hA⟩ := id h
  obtain ⟨tf, pq, ms, mt, sq, tu, d1, d2, d3, d4, d5, d6, d7, d8, ⟨g1, d9⟩, ⟨g2, d10⟩, ⟨g3, d11⟩⟩ := id hD
  obtain ⟨A1, ⟨lm, bf, A2, A3⟩, A4, A5, ⟨f0, A6⟩, A7, A8, A9, A10⟩ := id hA
  obtain ⟨H', k1, k3, k4, k5⟩ := rn_sweep (sc := sc) (d := d) hV d1 hB A1 A6 (fun v hv hn => by
    cases e : v.2.2.2.1 with
    | none => exact absurd e hn
    | some n => exact (hO.1 _ (hR v hv n e).2.2).2) (fun x hx => (hO.1 x hx).2) hO.logs hld
  refine ⟨H', k1, ⟨⟨tf, pq, ms, mt, sq, tu, k4, d2.far (fun a a1 a2 => k5 a (by omega) (by omega) (by omega)), d3, d4, d5, d6, d7, fun e => Bool.noConfusion e, ⟨g1, (k5 85 (by decide) (by decide) (by decide)).trans d9⟩, ⟨g2, (k5 140 (by decide) (by decide) (by decide)).trans d10⟩, ⟨g3, (k5 191 (by decide) (by decide) (by decide)).trans d11⟩⟩, hO, List.filter_sublist, hus, hF, hff, hV.far (fun a a1 a2 => k5 a (by omega) (by omega) (by omega)), hs.far2 (fun a a1 a2 => k5 a (by omega) (by omega) (by omega)), ?_⟩, k5⟩
  exact ⟨(k5 190 (by decide) (by decide) (by decide)).trans A1, ⟨lm, bf, A2, (k5 136 (by decide) (by decide) (by decide)).trans A3⟩, A4.imp (fun g hg => (k5 192 (by decide) (by decide) (by decide)).trans hg), A5.imp (fun g hg => (k5 193 (by decide) (by decide) (by decide)).trans hg), k3, A7.imp (fun g hg => ⟨(k5 137 (by decide) (by decide) (by decide)).trans hg.1, hg.2⟩), A8.far (fun a a1 a2 => k5 a (by omega) (by omega) (by omega)), A9.far (k5 138 (by decide) (by decide) (by decide)) (k5 139 (by decide) (by decide) (by decide)), A10.imp (fun g hg => (k5 141 (by decide) (by decide) (by decide)).trans hg)⟩
set_option maxRecDepth 20000 in
/-- the spill of a mount: the store agrees with the chip again -/
theorem re_spillM {ky : List (List Nat)} {sc : Nat × (Nat → Int32)} {d P N : Nat} {H : aH} {B bb S : Nat} {op : Nat → Bool} {sm : Nat → Nat} {lgs' lgs : List Nat} {fr ff : Nat} {rs : List aR} {us : Nat → Bool} {c : Nat → Int8} {P0 : Nat} {gs : List aSg} {vs vg : List aV} {tss : List (List aT)} {L : List aCh} {jk : List (Nat × aRd)} (h : MtW H B N bb S op sm lgs' lgs fr ff rs us c P0 gs vs) (hRs : RsOk c B rs tss) (hst : ∀ t ∈ tss, SortE t) (hT : WTab vs tss.flatten) (hK : ∀ v ∈ vs, VOk ky P v) (hR : ∀ v ∈ vs, RecW c lgs' v) (hep : ∀ e ∈ tss.flatten, EP ky P e) (hg : WTab vg tss.flatten ∧ WLog vg tss.flatten L ∧ gs.flatMap flG = L.flatMap chX ++ jk ∧ JkS ky jk ∧ L.foldl (fun _ x => x.1) P0 = P ∧ (∀ v ∈ vg, VOk ky P v) ∧ (∀ x ∈ L, LgP ky P x) ∧ OneV vg ∧ ∀ v ∈ vg, RecW c lgs v) (hsm : ∀ t, t < 8 → sm t < 2 ^ 31) (hB : B ≤ 128) (hB1 : 3 ≤ B) (hbb : bb % 2 ^ 32 < 2 ^ 31) (hS : S + 1 < 2 ^ 31) (hP : P < 2 ^ 30) (hrl : rs.length < 24) (hT1 : ((aloneE vs).flatMap encE).length ≤ 2048 * frL B lgs rs) (hT2 : ((aloneE vs).flatMap encE).length ≤ 131072) (hvl : vs.length < 65536) (hlen : ∀ k, k * 2048 < ((aloneE vs).flatMap encE).length + 2048 → 13 + lgs'.length + (7 + k) + (rs.flatMap encR).length ≤ 2043) : RE sc (d + 4) mr_97 [.ref 137, .int 0, .int (nI P)] H (fun H' => ∃ x c' us' gs', x.1 = 0 ∧ x.2.2.2.length * 2048 < ((aloneE vs).flatMap encE).length + 2048 ∧ RunOk c' B x (aloneE vs) ∧ UpS H' B N bb (S + 1) op sm lgs' 0 0 false 0 ((if 0 < x.2.1 then [x] else []) ++ rs) us' c' P gs' ((vs.map toldV).filter (keepS op sm P (kmV (vs.map toldV)))) ∧ StW ky B P P ((if 0 < x.2.1 then [x] else []) ++ rs) gs' c' ((vs.map toldV).filter (keepS op sm P (kmV (vs.map toldV)))) (opt (aloneE vs) ++ tss) [] ∧ (∀ q, 4096 ≤ q → usedB lgs rs (q / 2048) = true → c' q = c q) ∧ FrU H H') (fun H' => ∃ c', FaS ky H' B N bb S op sm P c' lgs rs vg tss L ∧ (∀ q, 4096 ≤ q → usedB lgs rs (q / 2048) = true → c' q = c q) ∧ FrU H H') := by
  obtain ⟨hD, hO, hsub, hus, hF, hff, hV, g, hA⟩ := id h
  have hU2 : ∀ b, b < B → us b = false → usedB lgs rs b = false := fun b hb e => by rw [← hus b hb]; exact e
  have husT : ∀ q, usedB lgs rs (q / 2048) = true → us (q / 2048) = true := fun q hq => by
    rcases usedB_iff.mp hq with r | r | ⟨x, hx, r⟩
    · rw [hus _ (by omega)]; exact hq
    · rw [hus _ (hO.1 _ r).2]; exact hq
    · rw [hus _ ((hO.2.1 x hx).2.2.2 _ r).2]; exact hq
  have hsrt := hV.srtV
  have hal : (aloneE vs).length < 65536 := by
    unfold aloneE
    rw [List.length_map]
    exact Nat.lt_of_le_of_lt (List.length_filter_le _ _) hvl
  refine (re_spillG (d := d) (pr := P) hD (hO.sub hsub) hO (fun b hb e => usedB_logs (fun x hx => hsub.subset hx) (hU2 b hb e)) hU2 hF hff (fun e => Bool.noConfusion e) (by omega) hV (fun v hv => ⟨hR v hv, fun e => Bool.noConfusion e⟩) g hsm (fun v hv => (hK v hv).1) hA hB hB1 hbb hS (by omega) hrl (fun v hv => ⟨(hK v hv).2.2.1, by have := (hK v hv).2.1.len; omega⟩) (by rw [freeN_congr hus]; exact hT1) hT2 hal hlen).mono ?_ ?_
  · rintro H' ⟨x, c', us', gs', y1, y2, y3, y4, y5, y6, y7⟩
    have hc : ∀ q, 4096 ≤ q → usedB lgs rs (q / 2048) = true → c' q = c q := fun q hq hu => y6 q hq (husT q hu)
    obtain ⟨z1, z2⟩ := W.spill (op := op) (sm := sm) (pr := P) hT hsrt.one (fun u hu => (hK u hu).1)
    have hfl : (opt (aloneE vs) ++ tss).flatten = aloneE vs ++ tss.flatten := by rw [List.flatten_append, opt_flat]
    refine ⟨x, c', us', gs', y2, y3, y1, y4, ⟨(run_opt y1).app (runs_used hO hRs hc), fun t ht => ?_, by rw [hfl]; exact z1, by rw [hfl]; exact z2, y5, rfl, fun v hv => ?_, fun e he => ?_, fun u hu => absurd hu List.not_mem_nil⟩, hc, y7⟩
    · rcases List.mem_append.mp ht with q | q
      · unfold opt at q
        split at q
        · exact absurd q List.not_mem_nil
        · rw [List.mem_singleton.mp q]; exact hsrt.alone
      · exact hst t q
    · obtain ⟨w, hw, e⟩ := mem_told hv
      obtain ⟨a1, a2, a3⟩ := hK w hw
      rw [e]
      exact ⟨a1, a2.same rfl rfl, a3⟩
    · rw [hfl] at he
      rcases List.mem_append.mp he with q | q
      · obtain ⟨u, hu, -, hue⟩ := mem_alone.mp q
        rw [← hue]
        exact ⟨(hK u hu).1, (hK u hu).2.2.2⟩
      · exact hep e q
  · rintro H' ⟨c', y1, y2, y3⟩
    have hc : ∀ q, 4096 ≤ q → usedB lgs rs (q / 2048) = true → c' q = c q := fun q hq hu => y2 q hq (husT q hu)
    obtain ⟨g1, g2, g3, g4, g5, g6, g7, g8, g9⟩ := hg
    exact ⟨c', ⟨P0, fr, ff, gs, jk, y1, runs_used hO hRs hc, hst, g1, g2, g3, g4, g5, g6, hep, g7, g8, fun v hv => (recs_used hO (g9 v hv) hc).1⟩, hc, y3⟩
