/-! ===== the whole of mending, from what the chip holds; class; by hand ===== -/
/-- what is in memory before the spill of a mount -/
def mtV (op : Nat → Bool) (sm : Nat → Nat) (P : Nat) (es : List aT) (L : List aCh) : List aV := (durV es L).filter (keepS op sm P (kmV (durV es L)))
/-- cells outside the store, but for the vault's fields -/
def Fm (H H' : aH) : Prop := ∀ a, a ≠ 0 → a < 71 ∨ 195 ≤ a → H'[a]? = H[a]?
theorem MtS.keep {H H' : aH} {B N bb S : Nat} {op : Nat → Bool} {sm : Nat → Nat} {lgs : List Nat} {fr ff : Nat} {rs : List aR} {us : Nat → Bool} {c : Nat → Int8} {P0 : Nat} {gs : List aSg} {vs : List aV} (h : MtS H B N bb S op sm lgs fr ff rs us c P0 gs vs) (hf : ∀ a, a ≠ 0 → H'[a]? = H[a]?) : MtS H' B N bb S op sm lgs fr ff rs us c P0 gs vs := by
  obtain ⟨h1, h2, h3, h4, h5, h6, h7, h8⟩ := h
  exact ⟨h1.far (fun a ha => hf a (by omega)), h2, h3, h4, h5, h6.far (fun a a1 a2 => hf a (by omega)), h7.far2 (fun a a1 a2 => hf a (by omega)), h8.keep (fun a a1 a2 => hf a (by omega))⟩
theorem vers_obj {H : aH} {N : Nat} {vs : List aV} (h : VersIs H N vs) : ∃ vfs, H[74]? = some (kO 10 vfs) := by
  obtain ⟨kf, kl, mo, pl, le, al, od, sp, sz, ss, ac, hA, -⟩ := h
  exact ⟨_, hA.1⟩
theorem aux_obj {H : aH} {B N : Nat} (h : AuxA H B N) : (∃ tfs, H[136]? = some (kO 8 tfs)) ∧ ∃ gfs, H[190]? = some (kO 4 gfs) := by
  obtain ⟨A1, ⟨lm, bf, A2, A3⟩, -⟩ := h
  exact ⟨⟨_, A3⟩, ⟨_, A1⟩⟩
/-- behind a mount: memory, chip, tree -/
def MdP (ky : List (List Nat)) (H : aH) (B N bb S P : Nat) (op : Nat → Bool) (sm : Nat → Nat) (n : Nat) (X : (Nat → Int8) → List aV → Prop) (Y : (Nat → Int8) → List aV → Prop) : Prop := ∃ S' lgs fr ff wr tp rs us c gs vs tss, S' ≤ S ∧ UpS H B N bb S' op sm lgs fr ff wr tp rs us c P gs vs ∧ StW ky B P P rs gs c vs tss [] ∧ X c vs ∧ B / 8 * 3 ≤ frL B lgs rs ∧ rs.length ≤ 22 ∧ vs.length ≤ n ∧ Lv3 rs ∧ Y c vs
set_option maxRecDepth 20000 in
theorem rb_mendW {ky : List (List Nat)} {sc : Nat × (Nat → Int32)} {d N P0 P fr0 ff0 : Nat} {H : aH} {B bb S : Nat} {pr up cw cl cp cb : Int32} {op : Nat → Bool} {sm : Nat → Nat} {c : Nat → Int8} {lgs0 : List Nat} {rs0 : List aR} {gs0 : List aSg} {tss : List (List aT)} {L : List aCh} {jk : List (Nat × aRd)} {vg : List aV} {t : aTr} {T : Nat} {X : (Nat → Int8) → List aV → Prop} (h0 : H[0]? = some (kO 11 (fvs (nI B) pr up cw cl cp cb))) (hTr : TreeIs H t) (h : DnA H B N bb S op sm c P0 fr0 ff0 lgs0 rs0 gs0) (hcl : ∀ t, t < 8 → op t = false) (hsm : ∀ t, t < 8 → sm t < 2 ^ 31) (hRs : RsOk c B rs0 tss) (hst : ∀ t ∈ tss, SortE t) (hT : WTab vg tss.flatten) (hL0 : WLog vg tss.flatten L) (hx : gs0.flatMap flG = L.flatMap chX ++ jk) (hj : JkS ky jk) (hfP : L.foldl (fun _ x => x.1) P0 = P) (hvg : ∀ v ∈ vg, VOk ky P v) (hep : ∀ e ∈ tss.flatten, EP ky P e) (hLp : ∀ x ∈ L, LgP ky P x) (h1 : OneV vg) (hrec : ∀ v ∈ vg, RecW c lgs0 v) (hKN : ky.length ≤ N) (hN : N < 65536) (hB : B ≤ 128) (hB1 : 3 ≤ B) (hbb : bb % 2 ^ 32 < 2 ^ 31) (hS : S + 1 < 2 ^ 31) (hP0 : P0 < 2 ^ 31) (hP : P < 2 ^ 30) (hrl : rs0.length ≤ 23) (hld : ∀ b, ldN (mtV op sm P tss.flatten L) b < 2 ^ 31) (hT2 : alB (mtV op sm P tss.flatten L) ≤ 131072) (hvl : (mtV op sm P tss.flatten L).length < 65536) (hlen : ∀ k, k * 2048 < alB (mtV op sm P tss.flatten L) + 2048 → 13 + lgs0.length + (7 + k) + (rs0.flatMap encR).length ≤ 2043) (hS2 : S + 2 < 2 ^ 31) (hres : B / 8 * 3 ≤ frL B lgs0 rs0) (hren : opnN false 0 (mvS none (mtV op sm P tss.flatten L)) + T ≤ B / 8 * 3) (hrT : ∀ Q, ((rnW op sm P Q (mtV op sm P tss.flatten L)).map fK).sum ≤ 2048 * T) (hT24 : T ≤ 48) (hdue : (mvS none (mtV op sm P tss.flatten L)).sum ≤ sumN op sm (-1) P (kmV (mtV op sm P tss.flatten L)) (mtV op sm P tss.flatten L)) (hd31 : sumN op sm (-1) P (kmV (mtV op sm P tss.flatten L)) (mtV op sm P tss.flatten L) < 2 ^ 31) (hX : XC op sm P X) (hX0 : X c (mtV op sm P tss.flatten L)) (hl3 : Lv3 rs0) : RB sc (d + 7) mr_179 [.ref 1] H (fun H' => MdP ky H' B N bb (S + 2) P op sm (mtV op sm P tss.flatten L).length X (fun c' vs => TreeIs H' (vs.foldl (ldT c') (T0 t))) ∧ H'[0]? = some (kO 11 (fvs (nI B) (nI P) up cw cl cp cb)) ∧ ∀ a, a ≠ 0 → ¬ (65 ≤ a ∧ a < 195) → H'[a]? = H[a]?) (fun H' => ((∃ c', FaS ky H' B N bb S op sm P c' lgs0 rs0 vg tss L ∧ ∀ q, 4096 ≤ q → usedB lgs0 rs0 (q / 2048) = true → c' q = c q) ∨ FaX ky H' B N bb (S + 1) P op sm (mtV op sm P tss.flatten L).length X) ∧ H'[0]? = some (kO 11 (fvs (nI B) (nI P) up cw cl cp cb)) ∧ Fm H H') := by
  have hO := h.2.1
  have hK : ∀ e ∈ tss.flatten, e.1 ∈ ky := fun e he => (hep e he).2
  have hRd : ∀ x ∈ gs0.flatMap flG, (x.2.1 ≠ 4 → x.2.2.2.2.1 < 2 ^ 30) ∧ (x.2.1 ≠ 3 → x.2.1 ≠ 4 → 1 ≤ x.2.2.1.length ∧ x.2.2.1 ∈ ky) := fun x hxm => by
    rw [hx] at hxm
    rcases List.mem_append.mp hxm with q | q
    · obtain ⟨y, hy, hxy⟩ := List.mem_flatMap.mp q
      obtain ⟨p1, -, p3⟩ := hLp y hy
      rcases List.mem_append.mp hxy with r | r
      · obtain ⟨e, he, e2⟩ := mem_adB r
        rw [e2]
        exact ⟨fun _ => Nat.lt_of_le_of_lt p1 hP, fun _ _ => p3 e he⟩
      · rw [List.mem_singleton.mp r]
        exact ⟨fun _ => Nat.lt_of_le_of_lt p1 hP, fun e _ => absurd rfl e⟩
    · rcases hj.2 x q with r | ⟨r1, r2⟩
      · exact ⟨fun e => absurd r e, fun _ e => absurd r e⟩
      · exact ⟨fun _ => r1, fun e _ => r2 e⟩
  have hdtab : WTab (durV tss.flatten L) tss.flatten := durV_tab hL0 (fun e he hn => by
    obtain ⟨t, ht, het⟩ := List.mem_flatten.mp he
    obtain ⟨i, hi⟩ := List.getElem?_of_mem ht
    obtain ⟨x, hxi⟩ := lt_get (l := rs0) (i := i) (by have := get_lt hi; have := hRs.1; omega)
    exact ((hRs.2 i x t hxi hi).2.2.2.2.1 e het).2.2.2.2.2 hn)
  have hdP : ∀ v ∈ durV tss.flatten L, v.2.1 ≤ P := fun v hv => by
    rcases (durV_mem hL0).mp hv with ⟨⟨e, e1, e2⟩, -⟩ | ⟨q1, -⟩
    · rw [e2]; exact (hep e e1.1.mem).1
    · obtain ⟨x, hx1, hx2⟩ := List.mem_flatMap.mp q1
      rw [(verB_alone hx2).2]
      exact (hLp x hx1).1
  have hd1 : OneV (durV tss.flatten L) := fun u hu v hv e1 _ => (durV_ss _ _).one u hu v hv e1
  have hmT : WTab (mtV op sm P tss.flatten L) tss.flatten := hdtab.purge hd1 hdP
  have hmn : ∀ v ∈ mtV op sm P tss.flatten L, ∃ a, NwV vg (v.1, v.2.1, v.2.2.1, v.2.2.2.1, a) := fun v hv => mt_nw hcl hT hL0 h1 hv
  have hmK : ∀ v ∈ mtV op sm P tss.flatten L, VOk ky P v := fun v hv => by
    obtain ⟨a, ha⟩ := hmn v hv
    obtain ⟨k1, k2, k3⟩ := hvg _ ha.1
    exact ⟨k1, k2.same rfl rfl, k3⟩
  have hmR : ∀ v ∈ mtV op sm P tss.flatten L, RecW c lgs0 v := fun v hv => by
    obtain ⟨a, ha⟩ := hmn v hv
    exact (hrec _ ha.1).same rfl rfl rfl rfl
  have hmR2 : ∀ v ∈ mtV op sm P tss.flatten L, RecW c (swL (ldN (mtV op sm P tss.flatten L)) false lgs0) v := fun v hv n hn => by
    obtain ⟨r1, r2, r3⟩ := hmR v hv n hn
    exact ⟨r1, r2, sw_keep hv (by rw [hn]; exact Option.some_ne_none n) (hmK v hv).2.1.wg r3⟩
  obtain ⟨yf, hyf⟩ : ∃ yf, H[83]? = some (kO 3 yf) := by
    obtain ⟨⟨tf, pq, ms, sq, -, -, -, -, ⟨lgs, fr, ff, wr, tp, rs, ms', mt', sq', tu, us, -, ⟨lg, pi, q1, -⟩⟩, -⟩, -⟩ := h
    exact ⟨_, q1.1⟩
  have ob : ∀ {H' : aH} {us : Nat → Bool} {vs : List aV}, MtS H' B N bb S op sm lgs0 fr0 ff0 rs0 us c P0 gs0 vs → Fm H H' → (∃ tfs, H'[136]? = some (kO 8 tfs)) ∧ (∃ gfs, H'[190]? = some (kO 4 gfs)) ∧ (∃ vfs, H'[74]? = some (kO 10 vfs)) ∧ (∃ qfs, H'[65]? = some (kO 9 qfs)) := fun hm hf => ⟨(aux_obj hm.2.2.2.2.2.2.2).1, (aux_obj hm.2.2.2.2.2.2.2).2, vers_obj hm.2.2.2.2.2.1, ⟨_, (hf 65 (by decide) (by decide)).trans hTr.1⟩⟩
  refine rb_mended (P0 := P0) (P := P) (a1 := fun H' => (∃ us, MtS H' B N bb S op sm lgs0 fr0 ff0 rs0 us c P0 gs0 []) ∧ H'[0]? = some (kO 11 (fvs (nI B) pr up cw cl cp cb)) ∧ Fm H H') (a2 := fun H' => (∃ us, MtS H' B N bb S op sm lgs0 fr0 ff0 rs0 us c P0 gs0 []) ∧ H'[0]? = some (kO 11 (fvs (nI B) (nI P0) up cw cl cp cb)) ∧ Fm H H') (a3 := fun H' => (∃ us, MtS H' B N bb S op sm lgs0 fr0 ff0 rs0 us c P0 gs0 (tss.flatten.foldl meetE [])) ∧ H'[0]? = some (kO 11 (fvs (nI B) (nI P0) up cw cl cp cb)) ∧ Fm H H') (a4 := fun H' => (∃ us, MtS H' B N bb S op sm lgs0 fr0 ff0 rs0 us c P0 gs0 (durV tss.flatten L)) ∧ H'[0]? = some (kO 11 (fvs (nI B) (nI P0) up cw cl cp cb)) ∧ Fm H H') (a5 := fun H' => (∃ us, MtS H' B N bb S op sm lgs0 fr0 ff0 rs0 us c P0 gs0 (durV tss.flatten L)) ∧ H'[0]? = some (kO 11 (fvs (nI B) (nI P) up cw cl cp cb)) ∧ Fm H H') (a6 := fun H' => (∃ us, MtS H' B N bb S op sm lgs0 fr0 ff0 rs0 us c P0 gs0 (mtV op sm P tss.flatten L)) ∧ H'[0]? = some (kO 11 (fvs (nI B) (nI P) up cw cl cp cb)) ∧ Fm H H') (a7 := fun H' => (∃ us, MtS H' B N bb S op sm lgs0 fr0 ff0 rs0 us c P0 gs0 (mtV op sm P tss.flatten L)) ∧ H'[0]? = some (kO 11 (fvs (nI B) (nI P) up cw cl cp cb)) ∧ Fm H H') (a8 := fun H' => (∃ us, MtW H' B N bb S op sm (swL (ldN (mtV op sm P tss.flatten L)) false lgs0) lgs0 fr0 ff0 rs0 us c P0 gs0 (mtV op sm P tss.flatten L)) ∧ H'[0]? = some (kO 11 (fvs (nI B) (nI P) up cw cl cp cb)) ∧ Fm H H') (b8 := fun H' => ((∃ us, MtW H' B N bb S op sm (swL (ldN (mtV op sm P tss.flatten L)) false lgs0) lgs0 fr0 ff0 rs0 us c P0 gs0 (mtV op sm P tss.flatten L) ∧ ¬ lackP B us (mtV op sm P tss.flatten L) rs0) ∨ MdP ky H' B N bb (S + 1) P op sm (mtV op sm P tss.flatten L).length X (fun _ vs => ∀ v ∈ vs, v.2.2.2.2 = false)) ∧ H'[0]? = some (kO 11 (fvs (nI B) (nI P) up cw cl cp cb)) ∧ Fm H H') (a9 := fun H' => MdP ky H' B N bb (S + 2) P op sm (mtV op sm P tss.flatten L).length X (fun _ _ => True) ∧ H'[0]? = some (kO 11 (fvs (nI B) (nI P) up cw cl cp cb)) ∧ Fm H H') hyf h0 ?_ (fun H' h' => h'.2.1) (fun H' h' => ?_) (fun H' h' => ?_) (fun H' h' => ?_) (fun H' h' => ?_) (fun H' h' => ?_) (fun H' h' => h'.2.1) (fun H' h' => ?_) (fun H' h' => ?_) (fun H' h' => ?_) (fun H' h' => ?_) (fun H' h' => ?_) (fun H' h' => ?_) (fun H' h' => ?_) (fun H' h' => ?_) (fun H' h' => ?_) (fun H' h' => ?_) (fun H' h' => ?_) (fun H' h' => ?_) (fun H' h' => ?_)
  · obtain ⟨x, H', k1, k2, k3, k4⟩ := ri_loadM (sc := sc) (d := d + 3) h hRs hB hB1 (by omega) hP0 hrl
    exact ⟨x, H', k1, k2, k3, (k4 0 (by decide)).trans h0, fun a _ ha => k4 a (by omega)⟩
  · obtain ⟨⟨us, hm⟩, h2, hf⟩ := h'
    exact ⟨⟨us, hm.keep (fun a ha => set_far ha)⟩, get_set h2, fun a ha hb => (set_far ha).trans (hf a ha hb)⟩
  · obtain ⟨⟨us, hm⟩, h2, hf⟩ := h'
    exact ⟨h2, ob hm hf⟩
  · obtain ⟨⟨us, hm⟩, h2, hf⟩ := h'
    obtain ⟨H2, k1, k2, k3⟩ := rn_loadM (sc := sc) (d := d + 3) hm hRs hB hK hKN
    exact ⟨H2, k1, ⟨us, k2⟩, (k3 0 (by decide) (by decide) (by decide)).trans h2, fun a ha hb => (k3 a (by omega) (by omega) (by omega)).trans (hf a ha hb)⟩
  · obtain ⟨⟨us, hm⟩, h2, hf⟩ := h'
    exact ⟨h2, ob hm hf⟩
  · obtain ⟨⟨us, hm⟩, h2, hf⟩ := h'
    obtain ⟨x, H2, k1, k2, k3, k4⟩ := ri_replayM (sc := sc) (d := d + 2) hm hB hP0 hx hj.1 hL0.1 hfP hRd hK hKN
    exact ⟨x, H2, k1, k2, ⟨us, k3⟩, (k4 0 (by decide) (by decide) (by decide)).trans h2, fun a ha hb => (k4 a (by omega) (by omega) (by omega)).trans (hf a ha hb)⟩
  · obtain ⟨⟨us, hm⟩, h2, hf⟩ := h'
    exact ⟨⟨us, hm.keep (fun a ha => set_far ha)⟩, get_set h2, fun a ha hb => (set_far ha).trans (hf a ha hb)⟩
  · obtain ⟨⟨us, hm⟩, h2, hf⟩ := h'
    exact ⟨h2, ob hm hf⟩
  · obtain ⟨⟨us, hm⟩, h2, hf⟩ := h'
    obtain ⟨H2, k1, k2, k3⟩ := rn_purgeM (sc := sc) (d := d + 4) hm hsm hdP
    exact ⟨H2, k1, ⟨us, k2⟩, (k3 0 (by decide)).trans h2, fun a ha hb => (k3 a (by omega)).trans (hf a ha hb)⟩
  · obtain ⟨⟨us, hm⟩, h2, hf⟩ := h'
    exact ⟨h2, ob hm hf⟩
  · obtain ⟨⟨us, hm⟩, h2, hf⟩ := h'
    exact ⟨H', rc_watchM (d := d + 3) hm hmR hmK hB hP, ⟨us, hm⟩, h2, hf⟩
  · obtain ⟨⟨us, hm⟩, h2, hf⟩ := h'
    exact ⟨h2, ob hm hf⟩
  · obtain ⟨⟨us, hm⟩, h2, hf⟩ := h'
    obtain ⟨H2, k1, k2, k3⟩ := rn_sweepM (sc := sc) (d := d + 3) (P := P) hm hmR hB hld
    exact ⟨H2, k1, ⟨us, k2⟩, (k3 0 (by decide) (by decide) (by decide)).trans h2, fun a ha hb => (k3 a (by omega) (by omega) (by omega)).trans (hf a ha hb)⟩
  · obtain ⟨⟨us, hm⟩, h2, hf⟩ := h'
    exact ⟨h2, (aux_obj hm.2.2.2.2.2.2.2.2).1, (aux_obj hm.2.2.2.2.2.2.2.2).2, vers_obj hm.2.2.2.2.2.2.1, ⟨_, (hf 65 (by decide) (by decide)).trans hTr.1⟩⟩
  · obtain ⟨⟨us, hm⟩, h2, hf⟩ := h'
    obtain ⟨hD, hOl, hsub, hus, hF, hff, hV, hsi, hA⟩ := id hm
    obtain ⟨tf, pq, ms, mt, sq, tu, hL, -⟩ := id hD
    obtain ⟨A1, ⟨lm, bf, A2, A3⟩, -⟩ := id hA
    have hfr : freeN us B = frL B lgs0 rs0 := freeN_congr hus
    refine rr_of (ri_lacks (d := d + 4) h2 hV A3 hL hB (by have := tbK_le hO; omega) (by omega)) (fun hl => ⟨Or.inl ⟨us, hm, hl⟩, h2, hf⟩) (fun _ => ?_)
    have hU : ∀ b, b < B → us b = false → usedB (swL (ldN (mtV op sm P tss.flatten L)) false lgs0) rs0 b = false ∧ usedB lgs0 rs0 b = false := fun b hb e => by
      have e2 : usedB lgs0 rs0 b = false := by rw [← hus b hb]; exact e
      exact ⟨usedB_logs (fun x hx => hsub.subset hx) e2, e2⟩
    have hll : (swL (ldN (mtV op sm P tss.flatten L)) false lgs0).length ≤ lgs0.length := (List.filter_sublist).length_le
    have hlf := frL_len hO
    refine (re_renewW (d := d + 1) (T := T) hD (hO.sub hsub) hO hU hF hff hff (by omega) hV (fun v hv => ⟨hmR2 v hv, fun e => Bool.noConfusion e⟩) hsi hsm hmK hA hB hB1 hbb hS hP (by omega) hdue hd31 hvl (by omega) hrT (by omega) (by omega) hRs hst hep ⟨hT, hL0, hx, hj, hfP, hvg, hLp, h1, hrec⟩).mono ?_ ?_
    · rintro H2 ⟨Q, l1, wr1, tp1, x, c', us', gs', y1, y2, y3, y4, y5, y6, y7, y8⟩
      have hO2 := y5.2.1
      have hxT : x.2.2.2.length ≤ T := by
        have h9 := hrT Q
        omega
      have hfl := frL_ren (K := opnN false 0 (mvS none (mtV op sm P tss.flatten L))) (T := T) (by omega) hO2 (by omega) hxT
      refine ⟨Or.inr ⟨S + 1, l1, _, _, wr1, tp1, _, us', c', gs', _, _, Nat.le_refl _, y5, y6, hX.ren hV.srtV (fun v hv => (hmK v hv).1) y7 hX0, by omega, ?_, rnV_len, Lv3.one (by omega), rnV_told⟩, (y8 0 (by decide)).trans h2, fun a ha hb => (y8 a hb).trans (hf a ha hb)⟩
      split
      · exact (by decide : (1 : Nat) ≤ 22)
      · exact Nat.zero_le _
    · rintro H2 ⟨c', y1, y2, y3⟩
      exact ⟨Or.inl ⟨c', y1, y2⟩, (y3 0 (by decide)).trans h2, fun a ha hb => (y3 a hb).trans (hf a ha hb)⟩
  · obtain ⟨h', h2, hf⟩ := h'
    rcases h' with ⟨us, hm, -⟩ | ⟨S', lgs, fr, ff, wr, tp, rs, us, c', gs, vs, tss', -, y4, -⟩
    · exact ⟨h2, (aux_obj hm.2.2.2.2.2.2.2.2).1, (aux_obj hm.2.2.2.2.2.2.2.2).2, vers_obj hm.2.2.2.2.2.2.1, ⟨_, (hf 65 (by decide) (by decide)).trans hTr.1⟩⟩
    · exact ⟨h2, (aux_obj y4.2.2.2.2.2.2.2.2.2).1, (aux_obj y4.2.2.2.2.2.2.2.2.2).2, vers_obj y4.2.2.2.2.2.2.1, ⟨_, (hf 65 (by decide) (by decide)).trans hTr.1⟩⟩
  · obtain ⟨h', h2, hf⟩ := h'
    rcases h' with ⟨us, hm, hl⟩ | ⟨S', lgs, fr, ff, wr, tp, rs, us, c', gs, vs, tss', q0, y4, y5, q1, q2, q3, q4, ql, q5⟩
    · have hll : (swL (ldN (mtV op sm P tss.flatten L)) false lgs0).length ≤ lgs0.length := (List.filter_sublist).length_le
      obtain ⟨-, -, hsub, hus, -, -, hV, -⟩ := id hm
      have hfr : freeN us B = frL B lgs0 rs0 := freeN_congr hus
      have hl1 : ¬ freeN us B < B / 8 * 3 + (alBk (mtV op sm P tss.flatten L) + alBk (mtV op sm P tss.flatten L) + tbK rs0 + 6) := fun e => hl (Or.inl e)
      have hl2 : ¬ 21 < rs0.length := fun e => hl (Or.inr e)
      have hak := alBk_le (vs := (mtV op sm P tss.flatten L))
      have hab := alone_bytes (mtV op sm P tss.flatten L)
      refine (re_spillM (d := d + 2) hm hRs hst hmT hmK hmR2 hep ⟨hT, hL0, hx, hj, hfP, hvg, hLp, h1, hrec⟩ hsm hB hB1 hbb hS hP (by omega) (by omega) (by omega) hvl (fun k hk => by rw [hab] at hk; have := hlen k hk; omega)).mono ?_ ?_
      · rintro H2 ⟨x, c', us', gs', y1, y2, y3, y4, y5, y6, y7⟩
        rw [hab] at y2
        have hxl : x.2.2.2.length ≤ alBk (mtV op sm P tss.flatten L) := ids_le y2
        have hf1 := frL_opt (x := x) (rs := rs0) y4.2.1
        have hf2 := frL_sub (B := B) (rs := rs0) (l := lgs0) (l' := swL (ldN (mtV op sm P tss.flatten L)) false lgs0) (fun z hz => hsub.subset hz)
        refine ⟨⟨S + 1, _, _, _, _, _, _, us', c', gs', _, _, by omega, y4, y5, hX.sp hV.srtV (fun v hv => (hmK v hv).1) (fun v hv => (recs_used hO (hmR v hv) y6).2) hX0, by omega, ?_, ?_, hl3.opt (by omega), trivial⟩, (y7 0 (by decide)).trans h2, fun a ha hb => (y7 a hb).trans (hf a ha hb)⟩
        · split
          · show rs0.length + 1 ≤ 22
            omega
          · show rs0.length ≤ 22
            omega
        · refine Nat.le_trans (List.length_filter_le _ _) ?_
          rw [List.length_map]
          exact Nat.le_refl _
      · rintro H2 ⟨c', y1, y2, y3⟩
        exact ⟨Or.inl ⟨c', y1, y2⟩, (y3 0 (by decide)).trans h2, fun a ha hb => (y3 a hb).trans (hf a ha hb)⟩
    · have hal := alone_no q5
      have hOr := y4.2.1
      have htb := tbK_le hOr
      have hes := encR_sum rs
      have hlf := frL_len hOr
      refine (re_spillW (d := d + 2) y4 y5 hsm hB hB1 hbb (by omega) hP (by omega) (by rw [hal]; exact Nat.zero_le _) (by rw [hal]; exact Nat.zero_le _) (by omega) (fun k hk => by rw [hal] at hk; have hk : k * 2048 < 0 + 2048 := hk; omega)).mono ?_ ?_
      · rintro H2 ⟨x, c2, us2, gs2, z1, z2, z3, z4, z5, z6, z7⟩
        have hx0 : ¬ 0 < x.2.1 := by rw [z3.2.1, hal]; exact Nat.lt_irrefl 0
        rw [if_neg hx0, List.nil_append] at z4 z5
        refine ⟨⟨S' + 1, lgs, _, _, wr, tp, rs, us2, c2, gs2, _, _, by omega, z4, z5, hX.sp y4.2.2.2.2.2.2.1.srtV (fun v hv => (y5.2.2.2.2.2.2.1 v hv).1) (fun v hv => (recs_used hOr (y4.2.2.2.2.2.2.2.1 v hv).1 z6).2) q1, q2, q3, ?_, ql, trivial⟩, (z7 0 (by decide)).trans h2, fun a ha hb => (z7 a hb).trans (hf a ha hb)⟩
        refine Nat.le_trans (List.length_filter_le _ _) ?_
        rw [List.length_map]
        exact q4
      · rintro H2 ⟨c2, z1, z2, z3⟩
        exact ⟨Or.inr ⟨S', c2, lgs, rs, vs, tss', [], by omega, z1, hX.1 c' c2 vs (fun v hv => (recs_used hOr (y4.2.2.2.2.2.2.2.1 v hv).1 z2).2) q1, q2, by omega, q4, ql⟩, (z3 0 (by decide)).trans h2, fun a ha hb => (z3 a hb).trans (hf a ha hb)⟩
  · obtain ⟨⟨S', lgs, fr, ff, wr, tp, rs, us, c', gs, vs, tss', q0, y4, -⟩, h2, hf⟩ := h'
    exact ⟨h2, (aux_obj y4.2.2.2.2.2.2.2.2.2).1, (aux_obj y4.2.2.2.2.2.2.2.2.2).2, vers_obj y4.2.2.2.2.2.2.1, ⟨_, (hf 65 (by decide) (by decide)).trans hTr.1⟩⟩
  · obtain ⟨⟨S', lgs, fr, ff, wr, tp, rs, us, c', gs, vs, tss', q0, y4, y5, q1, q2, q3, q4, ql, -⟩, h2, hf⟩ := h'
    obtain ⟨tf, pq, ms, mt, sq, tu, d1, d2, -⟩ := id y4.1
    obtain ⟨H2, k1, k2, k3⟩ := rn_tload (sc := sc) (d := d + 4) (hTr.far (H' := H') (fun a a1 a2 => hf a (by omega) (Or.inl (by omega)))) y4.2.2.2.2.2.2.1 d2 hB (fun v hv hn1 => by
      obtain ⟨a1, a2, a3⟩ := y5.2.2.2.2.2.2.1 v hv
      rcases a2 with ⟨k, q1, -⟩ | ⟨f, q1, q2, q3, q4⟩ | ⟨f, i, q1, -⟩
      · rw [q1] at hn1; exact absurd (show (0 : Nat) = 1 from hn1) (by decide)
      · rw [q1]
        refine ⟨rfl, q2, q3, fun n hn => ?_⟩
        have := q4 n hn
        obtain ⟨-, r2, r3⟩ := (y4.2.2.2.2.2.2.2.1 v hv).1 n hn
        have hbk := (y4.2.1.1 _ r3).2
        have hl2 : v.1.length = 2 := by rw [q1]; rfl
        refine ⟨by omega, by omega, ?_⟩
        omega
      · rw [q1] at hn1; exact absurd (show (2 : Nat) = 1 from hn1) (by decide))
    refine ⟨H2, k1, ⟨S', lgs, fr, ff, wr, tp, rs, us, c', gs, vs, tss', q0, ?_, y5, q1, q2, q3, q4, ql, k2⟩, (k3 0 (by decide)).trans h2, fun a ha hb => (k3 a (by omega)).trans (hf a ha (by omega))⟩
    obtain ⟨u1, u2, u3, u4, u5, u6, u7, u8, u9, u10⟩ := y4
    exact ⟨u1.far (fun a ha => k3 a (by omega)), u2, u3, u4, u5, u6, u7.far (fun a a1 a2 => k3 a (by omega)), u8, u9.far2 (fun a a1 a2 => k3 a (by omega)), u10.keep (fun a a1 a2 => k3 a (by omega))⟩
