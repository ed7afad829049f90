/-! ===== the store's state with what agrees in it; a spill and a merge in it; class; by hand ===== -/
def SrtV (vs : List aV) : Prop := vs.Pairwise (fun u v => cmpL u.1 v.1 < 0 ∨ u.1 = v.1 ∧ v.2.1 < u.2.1)
theorem VersIs.srtV {H : aH} {N : Nat} {vs : List aV} (h : VersIs H N vs) : SrtV vs := by
  obtain ⟨kf, kl, mo, pl, le, al, od, sp, sz, ss, ac, hA, hW, rfl⟩ := h
  have hs := hW.2.2.2.2.2.2.2.2
  unfold SrtV vsL
  refine List.pairwise_map.mpr (List.pairwise_lt_range.imp_of_mem (fun {a b} ha hb hab => ?_))
  exact hs a b hab (List.mem_range.mp hb)
theorem SrtV.one {vs : List aV} (h : SrtV vs) : OneV vs := by
  induction vs with
  | nil => exact fun u hu => absurd hu List.not_mem_nil
  | cons w t ih =>
    obtain ⟨h1, h2⟩ := List.pairwise_cons.mp h
    have key : ∀ x ∈ t, ¬ (x.1 = w.1 ∧ x.2.1 = w.2.1) := fun x hx q => by
      rcases h1 x hx with r | r
      · rw [q.1] at r; exact cmpL_irr r
      · omega
    intro u hu v hv e1 e2
    rcases List.mem_cons.mp hu with a | a
    · rcases List.mem_cons.mp hv with b | b
      · rw [a, b]
      · rw [a] at e1 e2; exact absurd ⟨e1.symm, e2.symm⟩ (key v b)
    · rcases List.mem_cons.mp hv with b | b
      · rw [b] at e1 e2; exact absurd ⟨e1, e2⟩ (key u a)
      · exact ih h2 u a v b e1 e2
theorem SrtV.alone {vs : List aV} (h : SrtV vs) : SortE (aloneE vs) := by
  unfold aloneE SortE
  refine List.pairwise_map.mpr ((List.Pairwise.filter _ h).imp (fun {a b} hab => ?_))
  unfold befE
  rw [Bool.or_eq_true, Bool.and_eq_true, decide_eq_true_iff, decide_eq_true_iff, decide_eq_true_iff]
  exact hab
/-- keys and lengths of values -/
def KeyV (v : aV) : Prop := (∃ k, v.1 = 0 :: k ∧ 1 ≤ k.length ∧ k.length ≤ 40 ∧ ∀ n, v.2.2.2.1 = some n → n ≤ 1000) ∨ (∃ f, v.1 = [1, f] ∧ 1 ≤ f ∧ f ≤ 200 ∧ ∀ n, v.2.2.2.1 = some n → 5 ≤ n ∧ n ≤ 34) ∨ (∃ f i, v.1 = [2, f, i] ∧ f ≤ 200 ∧ i < 32 ∧ ∀ n, v.2.2.2.1 = some n → 1 ≤ n ∧ n ≤ 512)
theorem KeyV.same {v w : aV} (h : KeyV v) (h1 : w.1 = v.1) (h2 : w.2.2.2.1 = v.2.2.2.1) : KeyV w := by
  unfold KeyV at h ⊢
  rw [h1, h2]
  exact h
theorem KeyV.w {v : aV} (h : KeyV v) : KeyW v := by
  rcases h with ⟨k, h1, h2, h3, -⟩ | ⟨f, h1, -⟩ | ⟨f, i, h1, -⟩
  · rw [KeyW, h1, List.length_cons]
    exact ⟨by omega, by omega, fun e => absurd rfl e⟩
  · rw [KeyW, h1]
    exact ⟨by show 1 ≤ 2; decide, by show 2 ≤ 41; decide, fun _ => by show 2 ≤ 3; decide⟩
  · rw [KeyW, h1]
    exact ⟨by show 1 ≤ 3; decide, by show 3 ≤ 41; decide, fun _ => by show 3 ≤ 3; decide⟩
theorem KeyV.len {v : aV} (h : KeyV v) : v.2.2.2.1.getD 0 ≤ 1000 := by
  cases e : v.2.2.2.1 with
  | none => exact Nat.zero_le _
  | some n =>
    show n ≤ 1000
    rcases h with ⟨k, -, -, -, h4⟩ | ⟨f, -, -, -, h4⟩ | ⟨f, i, -, -, -, h4⟩
    · exact h4 n e
    · have := h4 n e; omega
    · have := h4 n e; omega
def VOk (ky : List (List Nat)) (P : Nat) (v : aV) : Prop := v.2.1 ≤ P ∧ KeyV v ∧ v.2.2.1 < 2 ^ 24 ∧ v.1 ∈ ky
/-- an entry of a table, a change in the log: their keys are among those that were ever used -/
abbrev EP (ky : List (List Nat)) (P : Nat) (e : aT) : Prop := e.2.1 ≤ P ∧ e.1 ∈ ky
abbrev LgP (ky : List (List Nat)) (P : Nat) (x : aCh) : Prop := x.1 ≤ P ∧ 1 ≤ x.2.2.1.length ∧ ∀ e ∈ x.2.2.1, 1 ≤ e.1.length ∧ e.1 ∈ ky
/-- what a replay passes over -/
def JkS (ky : List (List Nat)) (jk : List (Nat × aRd)) : Prop := (∀ m0 vs0, (jk.foldl rpS ([], m0, vs0)).2 = (m0, vs0)) ∧ ∀ x ∈ jk, x.2.1 = 4 ∨ (x.2.2.2.2.1 < 2 ^ 30 ∧ (x.2.1 ≠ 3 → 1 ≤ x.2.2.1.length ∧ x.2.2.1 ∈ ky))
theorem JkS.nil {ky : List (List Nat)} : JkS ky [] := ⟨fun _ _ => rfl, fun x hx => absurd hx List.not_mem_nil⟩
/-- what agrees while the store is up -/
def StW (ky : List (List Nat)) (B P P1 : Nat) (rs : List aR) (gs : List aSg) (c : Nat → Int8) (vs : List aV) (tss : List (List aT)) (L : List aCh) : Prop := RsOk c B rs tss ∧ (∀ t ∈ tss, SortE t) ∧ WTab vs tss.flatten ∧ WLog vs tss.flatten L ∧ gs.flatMap flG = L.flatMap chX ∧ L.foldl (fun _ x => x.1) P1 = P ∧ (∀ v ∈ vs, VOk ky P v) ∧ (∀ e ∈ tss.flatten, EP ky P e) ∧ ∀ x ∈ L, LgP ky P x
/-- and what the chip holds, once the power has failed: all that vs, the last that was in memory, says -/
def FaS (ky : List (List Nat)) (H : aH) (B N bb S : Nat) (op : Nat → Bool) (sm : Nat → Nat) (P : Nat) (c : Nat → Int8) (lgs0 : List Nat) (rs0 : List aR) (vs : List aV) (tss : List (List aT)) (L : List aCh) : Prop := ∃ P0 fr0 ff0 gs0 jk, DnS H B N bb S op sm c P0 fr0 ff0 lgs0 rs0 gs0 ∧ RsOk c B rs0 tss ∧ (∀ t ∈ tss, SortE t) ∧ WTab vs tss.flatten ∧ WLog vs tss.flatten L ∧ gs0.flatMap flG = L.flatMap chX ++ jk ∧ JkS ky jk ∧ L.foldl (fun _ x => x.1) P0 = P ∧ (∀ v ∈ vs, VOk ky P v) ∧ (∀ e ∈ tss.flatten, EP ky P e) ∧ (∀ x ∈ L, LgP ky P x) ∧ OneV vs ∧ ∀ v ∈ vs, RecW c lgs0 v
theorem runs_used {B : Nat} {lgs : List Nat} {rs : List aR} (hO : LsOk B lgs rs) {c c' : Nat → Int8} {tss : List (List aT)} (hR : RsOk c B rs tss) (hc : ∀ q, 4096 ≤ q → usedB lgs rs (q / 2048) = true → c' q = c q) : RsOk c' B rs tss := hR.far (fun y hy b hb q hq => hc q (by have := ((hO.2.1 y hy).2.2.2 b hb).1; omega) (usedB_iff.mpr (Or.inr (Or.inr ⟨y, hy, by rw [hq]; exact hb⟩))))
theorem recs_used {B : Nat} {lgs : List Nat} {rs : List aR} (hO : LsOk B lgs rs) {c c' : Nat → Int8} {v : aV} (hR : RecW c lgs v) (hc : ∀ q, 4096 ≤ q → usedB lgs rs (q / 2048) = true → c' q = c q) : RecW c' lgs v ∧ (v.2.2.2.1 ≠ none → valB c' v = valB c v) := by
  cases hl : v.2.2.2.1 with
  | none => exact ⟨fun n hn => (Option.some_ne_none n (hn.symm.trans hl)).elim, fun e => absurd rfl e⟩
  | some n =>
    have hin := (hR n hl).2.2
    have := hR.far (c' := c') (lgs' := lgs) (v' := v) rfl rfl rfl rfl (fun q hq => hc q (by have := (hO.1 _ hin).1; omega) (usedB_iff.mpr (Or.inr (Or.inl (by rw [hq]; exact hin))))) (fun x hx => hx)
    rw [hl] at this
    exact this
theorem StW.vE {ky : List (List Nat)} {B P P1 : Nat} {rs : List aR} {gs : List aSg} {c : Nat → Int8} {vs : List aV} {tss : List (List aT)} {L : List aCh} (h : StW ky B P P1 rs gs c vs tss L) : ∀ v ∈ vs, v.2.2.1 < 2 ^ 24 ∧ v.2.2.2.1.getD 0 ≤ 2048 := fun v hv => by
  have := (h.2.2.2.2.2.2.1 v hv).2
  exact ⟨this.2.1, by have := this.1.len; omega⟩
set_option maxRecDepth 20000 in
/-- a spill while the store is up -/
theorem re_spillW {ky : List (List Nat)} {sc : Nat × (Nat → Int32)} {d P N : Nat} {H : aH} {B bb S : Nat} {op : Nat → Bool} {sm : Nat → Nat} {lgs : List Nat} {fr ff : Nat} {wr : Bool} {tp : Nat} {rs : List aR} {us : Nat → Bool} {c : Nat → Int8} {P1 : Nat} {gs : List aSg} {vs : List aV} {tss : List (List aT)} {L : List aCh} (h : UpS H B N bb S op sm lgs fr ff wr tp rs us c P1 gs vs) (hW : StW ky B P P1 rs gs c vs tss L) (hsm : ∀ t, t < 8 → sm t < 2 ^ 31) (hB : B ≤ 128) (hB1 : 3 ≤ B) (hbb : bb % 2 ^ 32 < 2 ^ 31) (hS : S + 1 < 2 ^ 31) (hP : P < 2 ^ 30) (hrl : rs.length < 24) (hT1 : ((aloneE vs).flatMap encE).length ≤ 2048 * frL B lgs rs) (hT2 : ((aloneE vs).flatMap encE).length ≤ 131072) (hvl : vs.length < 65536) (hlen : ∀ k, k * 2048 < ((aloneE vs).flatMap encE).length + 2048 → 13 + lgs.length + (7 + k) + (rs.flatMap encR).length ≤ 2043) : RE sc (d + 4) mr_97 [.ref 137, .int 0, .int (nI P)] H (fun H' => ∃ x c' us' gs', x.1 = 0 ∧ x.2.2.2.length * 2048 < ((aloneE vs).flatMap encE).length + 2048 ∧ RunOk c' B x (aloneE vs) ∧ UpS H' B N bb (S + 1) op sm lgs (if wr then 1 else 0) (if wr then tp else 0) wr tp ((if 0 < x.2.1 then [x] else []) ++ rs) us' c' P gs' ((vs.map toldV).filter (keepS op sm P (kmV (vs.map toldV)))) ∧ StW ky B P P ((if 0 < x.2.1 then [x] else []) ++ rs) gs' c' ((vs.map toldV).filter (keepS op sm P (kmV (vs.map toldV)))) (opt (aloneE vs) ++ tss) [] ∧ (∀ q, 4096 ≤ q → usedB lgs rs (q / 2048) = true → c' q = c q) ∧ FrU H H') (fun H' => ∃ c', FaS ky H' B N bb S op sm P c' lgs rs vs tss L ∧ (∀ q, 4096 ≤ q → usedB lgs rs (q / 2048) = true → c' q = c q) ∧ FrU H H') := by
  obtain ⟨hD, hO, hus, hF, htp, hff, hV, hRX, g, hA⟩ := id h
  obtain ⟨w1, w2, w3, w4, w5, w6, w7, w8, w9⟩ := id hW
  have hU2 : ∀ b, b < B → us b = false → usedB lgs rs b = false := fun b hb e => by rw [← hus b hb]; exact e
  have husT : ∀ q, usedB lgs rs (q / 2048) = true → us (q / 2048) = true := fun q hq => by
    rcases usedB_iff.mp hq with r | r | ⟨x, hx, r⟩
    · rw [hus _ (by omega)]; exact hq
    · rw [hus _ (hO.1 _ r).2]; exact hq
    · rw [hus _ ((hO.2.1 x hx).2.2.2 _ r).2]; exact hq
  have hsrt := hV.srtV
  have hal : (aloneE vs).length < 65536 := by
    unfold aloneE
    rw [List.length_map]
    exact Nat.lt_of_le_of_lt (List.length_filter_le _ _) hvl
  refine (re_spillG (d := d) (pr := P) hD hO hO hU2 hU2 hF.1 hff hF.wrt htp hV hRX g hsm (fun v hv => (w7 v hv).1) hA hB hB1 hbb hS (by omega) hrl hW.vE (by rw [freeN_congr hus]; exact hT1) hT2 hal hlen).mono ?_ ?_
  · rintro H' ⟨x, c', us', gs', y1, y2, y3, y4, y5, y6, y7⟩
    have hc : ∀ q, 4096 ≤ q → usedB lgs rs (q / 2048) = true → c' q = c q := fun q hq hu => y6 q hq (husT q hu)
    obtain ⟨z1, z2⟩ := W.spill (op := op) (sm := sm) (pr := P) w3 hsrt.one (fun u hu => (w7 u hu).1)
    have hfl : (opt (aloneE vs) ++ tss).flatten = aloneE vs ++ tss.flatten := by rw [List.flatten_append, opt_flat]
    refine ⟨x, c', us', gs', y2, y3, y1, y4, ⟨(run_opt y1).app (runs_used hO w1 hc), fun t ht => ?_, by rw [hfl]; exact z1, by rw [hfl]; exact z2, y5, rfl, fun v hv => ?_, fun e he => ?_, fun u hu => absurd hu List.not_mem_nil⟩, hc, y7⟩
    · rcases List.mem_append.mp ht with q | q
      · unfold opt at q
        split at q
        · exact absurd q List.not_mem_nil
        · rw [List.mem_singleton.mp q]; exact hsrt.alone
      · exact w2 t q
    · obtain ⟨w, hw, e⟩ := mem_told hv
      obtain ⟨a1, a2, a3⟩ := w7 w hw
      rw [e]
      exact ⟨a1, a2.same rfl rfl, a3⟩
    · rw [hfl] at he
      rcases List.mem_append.mp he with q | q
      · obtain ⟨u, hu, -, hue⟩ := mem_alone.mp q
        rw [← hue]
        exact ⟨(w7 u hu).1, (w7 u hu).2.2.2⟩
      · exact w8 e q
  · rintro H' ⟨c', y1, y2, y3⟩
    have hc : ∀ q, 4096 ≤ q → usedB lgs rs (q / 2048) = true → c' q = c q := fun q hq hu => y2 q hq (husT q hu)
    exact ⟨c', ⟨P1, fr, ff, gs, [], y1, runs_used hO w1 hc, w2, w3, w4, by rw [List.append_nil]; exact w5, JkS.nil, w6, w7, w8, w9, hsrt.one, fun v hv => (recs_used hO (hRX v hv).1 hc).1⟩, hc, y3⟩
set_option maxRecDepth 20000 in
/-- a merge while the store is up -/
theorem re_mergeW {ky : List (List Nat)} {sc : Nat × (Nat → Int32)} {d P N f en lev G : Nat} {H : aH} {B bb S : Nat} {op : Nat → Bool} {sm : Nat → Nat} {lgs : List Nat} {fr ff : Nat} {wr : Bool} {tp : Nat} {rs : List aR} {us : Nat → Bool} {c : Nat → Int8} {P1 : Nat} {gs : List aSg} {vs : List aV} {tss : List (List aT)} {L : List aCh} (h : UpS H B N bb S op sm lgs fr ff wr tp rs us c P1 gs vs) (hW : StW ky B P P1 rs gs c vs tss L) (hB : B ≤ 128) (hB1 : 3 ≤ B) (hbb : bb % 2 ^ 32 < 2 ^ 31) (hS : S + 1 < 2 ^ 31) (hP : P < 2 ^ 30) (hfr : fr < 256) (hfe : f ≤ en) (her : en ≤ rs.length) (hrl : rs.length < 24) (hlv : lev < 256) (hG : ∀ lm i, lm < 2 ^ 30 → ((mgRun vs (decide (f = 0 ∧ en = rs.length)) (fun c => tss.getD c []) f (en - f) (fun _ => 0, [], lm, []) i).2.2.2.flatMap encE).length ≤ G) (hG1 : G ≤ 2048 * frL B lgs rs) (hG2 : G ≤ 131072) (hE : tss.flatten.length < 65536) (hlen : ∀ k, k * 2048 < G + 2048 → 13 + lgs.length + (7 + k) + (rs.flatMap encR).length ≤ 2043) : RE sc (d + 4) mr_120 [.ref 137, .int (nI f), .int (nI en), .int (nI lev), .int (nI P)] H (fun H' => ∃ x c' us' out, x.1 = lev ∧ x.2.2.2.length * 2048 < (out.flatMap encE).length + 2048 ∧ RunOk c' B x out ∧ (out.flatMap encE).length ≤ G ∧ (∀ e ∈ out, e ∈ ((tss.drop f).take (en - f)).flatten) ∧ (out.flatMap encE).length ≤ (((tss.drop f).take (en - f)).flatten.flatMap encE).length ∧ UpS H' B N bb (S + 1) op sm lgs fr ff wr tp (mgRs rs f en x) us' c' P gs vs ∧ StW ky B P P (mgRs rs f en x) gs c' vs (tss.take f ++ opt out ++ tss.drop en) L ∧ (∀ q, 4096 ≤ q → usedB lgs rs (q / 2048) = true → c' q = c q) ∧ FrU H H') (fun H' => ∃ c', FaS ky H' B N bb S op sm P c' lgs rs vs tss L ∧ (∀ q, 4096 ≤ q → usedB lgs rs (q / 2048) = true → c' q = c q) ∧ FrU H H') := by
  obtain ⟨hD, hO, hus, hF, htp, hff, hV, hRX, g, hA⟩ := id h
  obtain ⟨w1, w2, w3, w4, w5, w6, w7, w8, w9⟩ := id hW
  have hsrt := hV.srtV
  have hlt : f + (en - f) ≤ tss.length := by have := w1.1; omega
  have hMe := remL_list (tss := tss) (f := f) (n := en - f) hlt
  have hsum := ((w1.drop f).take (en - f)).sums
  have hcut := flat_cut (tss := tss) hfe
  have hkey : ∀ x ∈ ((tss.drop f).take (en - f)).flatten, 1 ≤ x.1.length := fun x hx => by
    obtain ⟨t, ht, hxt⟩ := List.mem_flatten.mp hx
    have ht2 := List.mem_of_mem_drop (List.mem_of_mem_take ht)
    obtain ⟨i, hi, e⟩ := List.getElem_of_mem ht2
    have hg : tss[i]? = some t := by rw [List.getElem?_eq_getElem hi, e]
    have hri : i < rs.length := by have := w1.1; omega
    exact ((w1.2 i _ t (List.getElem?_eq_getElem hri) hg).2.2.2.2.1 x hxt).1
  have hss : ∀ c, f ≤ c → c < f + (en - f) → SortE (tss.getD c []) := fun c c1 c2 => by
    have hc : c < tss.length := by omega
    rw [List.getD_eq_getElem?_getD, List.getElem?_eq_getElem hc]
    exact w2 _ (List.getElem_mem hc)
  refine (re_mergeG (d := d) (lev := lev) h w1 w2 hB hB1 hbb hS (by omega) hfr hfe her hrl hlv hG hG1 hG2 hE hlen).mono ?_ ?_
  · rintro H' ⟨x, c', us', out, y1, y2, y3, y4, ⟨lm, l1, l2⟩, y5, y6, y7⟩
    obtain ⟨m1, m2, m3, m4, m5, m6⟩ := mg_tab (vs := vs) (wh := decide (f = 0 ∧ en = rs.length)) (lm := lm) (E := (((rs.drop f).take (en - f)).map (fun x => x.2.2.1)).sum) hMe hss hkey (Nat.le_of_eq hsum.2.symm)
    rw [← l2] at m1 m2 m3 m4 m5
    have hlb := (m6 (((rs.drop f).take (en - f)).map (fun x => x.2.2.1)).sum).1
    rw [← l2] at hlb
    have hGo : (out.flatMap encE).length ≤ G := by rw [l2]; exact hG lm _ l1
    have hfl : (tss.take f ++ opt out ++ tss.drop en).flatten = (tss.take f).flatten ++ (out ++ (tss.drop en).flatten) := by rw [List.flatten_append, List.flatten_append, opt_flat, List.append_assoc]
    have hsub : ∀ e ∈ (tss.take f ++ opt out ++ tss.drop en).flatten, e ∈ tss.flatten := fun e he => by
      rw [hfl] at he
      rw [hcut]
      rcases List.mem_append.mp he with q | q
      · exact List.mem_append.mpr (Or.inl q)
      · rcases List.mem_append.mp q with r | r
        · exact List.mem_append.mpr (Or.inr (List.mem_append.mpr (Or.inl (m1 e r))))
        · exact List.mem_append.mpr (Or.inr (List.mem_append.mpr (Or.inr r)))
    refine ⟨x, c', us', out, y2, y3, y4, hGo, m1, hlb, y5, ⟨y1, fun t ht => ?_, ?_, w4.sub hsub, w5, ?_, w7, fun e he => w8 e (hsub e he), w9⟩, y6, y7⟩
    · rcases List.mem_append.mp ht with q | q
      · rcases List.mem_append.mp q with r | r
        · exact w2 t (List.mem_of_mem_take r)
        · unfold opt at r
          split at r
          · exact absurd r List.not_mem_nil
          · rw [List.mem_singleton.mp r]; exact m2
      · exact w2 t (List.mem_of_mem_drop q)
    · rw [hfl]
      rw [hcut] at w3
      refine w3.merge (wh := decide (f = 0 ∧ en = rs.length)) hsrt.one m1 m2 m3 m4 (fun e => ?_)
      have e2 := of_decide_eq_true e
      refine ⟨by rw [e2.1]; rfl, by rw [e2.2, w1.1, List.drop_length]; rfl, m5 e⟩
    · cases L with
      | nil => rfl
      | cons a t => exact w6
  · rintro H' ⟨c', y1, y2, y3⟩
    exact ⟨c', ⟨P1, fr, ff, gs, [], y1, runs_used hO w1 y2, w2, w3, w4, by rw [List.append_nil]; exact w5, JkS.nil, w6, w7, w8, w9, hsrt.one, fun v hv => (recs_used hO (hRX v hv).1 y2).1⟩, y2, y3⟩
