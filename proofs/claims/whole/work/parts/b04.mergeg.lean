/-! ===== tables are merged: from state to state; class; by hand ===== -/
theorem usedB_subR {lgs : List Nat} {rs rs' : List aR} {b : Nat} (hs : ∀ x ∈ rs', x ∈ rs ∨ ¬ b ∈ x.2.2.2) (h : usedB lgs rs b = false) : usedB lgs rs' b = false := by
  cases e : usedB lgs rs' b with
  | false => rfl
  | true =>
    rcases usedB_iff.mp e with q | q | ⟨x, hx, hb⟩
    · rw [usedB_iff.mpr (Or.inl q)] at h; exact h
    · rw [usedB_iff.mpr (Or.inr (Or.inl q))] at h; exact h
    · rcases hs x hx with r | r
      · rw [usedB_iff.mpr (Or.inr (Or.inr ⟨x, r, hb⟩))] at h; exact h
      · exact absurd hb r
theorem sub_fm {α β : Type} {f : α → List β} {l1 l2 : List α} (h : l1.Sublist l2) : (l1.flatMap f).Sublist (l2.flatMap f) := by
  induction h with
  | slnil => exact List.Sublist.refl _
  | cons a _ ih => rw [List.flatMap_cons]; exact ih.trans (List.sublist_append_right _ _)
  | cons_cons a _ ih => rw [List.flatMap_cons, List.flatMap_cons]; exact (List.Sublist.refl _).append ih
/-- the tables behind a merge -/
def mgRs (rs : List aR) (f en : Nat) (x : aR) : List aR := rs.take f ++ (if 0 < x.2.1 then [x] else []) ++ rs.drop en
theorem mem_mgRs {rs : List aR} {f en : Nat} {x y : aR} (h : y ∈ mgRs rs f en x) : y ∈ rs ∨ y = x := by
  unfold mgRs at h
  rcases List.mem_append.mp h with q | q
  · rcases List.mem_append.mp q with r | r
    · exact Or.inl (List.mem_of_mem_take r)
    · split at r
      · exact Or.inr (List.mem_singleton.mp r)
      · exact absurd r List.not_mem_nil
  · exact Or.inl (List.mem_of_mem_drop q)
theorem LsOk.mg {B : Nat} {lgs : List Nat} {rs : List aR} {f en : Nat} {x : aR} (h : LsOk B lgs rs) (hfe : f ≤ en) (h1 : x.1 < 256) (h2 : x.2.1 < 2 ^ 24) (h3 : x.2.2.1 < 65536) (h4 : ∀ y ∈ x.2.2.2, 2 ≤ y ∧ y < B) (hn : x.2.2.2.Nodup) (hu : ∀ b ∈ x.2.2.2, usedB lgs rs b = false) : LsOk B lgs (mgRs rs f en x) := by
  obtain ⟨a1, a2, a3⟩ := h
  refine ⟨a1, fun y hy => ?_, ?_⟩
  · rcases mem_mgRs hy with q | q
    · exact a2 y q
    · rw [q]; exact ⟨h1, h2, h3, h4⟩
  · have hsub : (rs.take f ++ rs.drop en).Sublist rs := by
      have e1 : rs.drop en = (rs.drop f).drop (en - f) := by rw [List.drop_drop, show f + (en - f) = en by omega]
      rw [e1]
      have := (List.Sublist.refl (rs.take f)).append (List.drop_sublist (en - f) (rs.drop f))
      rw [List.take_append_drop] at this
      exact this
    have hnd : (lgs ++ (rs.take f ++ rs.drop en).flatMap (fun x => x.2.2.2)).Nodup := a3.sublist ((List.Sublist.refl lgs).append (sub_fm hsub))
    have hdis : ∀ b ∈ x.2.2.2, ¬ b ∈ lgs ++ (rs.take f ++ rs.drop en).flatMap (fun x => x.2.2.2) := fun b hb e => by
      obtain ⟨u1, u2, u3⟩ := usedB_lg (hu b hb)
      rcases List.mem_append.mp e with q | q
      · exact u2 q
      · obtain ⟨y, hy, hyb⟩ := List.mem_flatMap.mp q
        exact u3 y (hsub.subset hy) hyb
    unfold mgRs
    split
    · have hp : (lgs ++ (rs.take f ++ [x] ++ rs.drop en).flatMap (fun x => x.2.2.2)).Perm (x.2.2.2 ++ (lgs ++ (rs.take f ++ rs.drop en).flatMap (fun x => x.2.2.2))) := by
        rw [List.flatMap_append, List.flatMap_append, List.flatMap_append, List.flatMap_cons, List.flatMap_nil, List.append_nil]
        have e1 : lgs ++ ((rs.take f).flatMap (fun x => x.2.2.2) ++ x.2.2.2 ++ (rs.drop en).flatMap (fun x => x.2.2.2)) = (lgs ++ (rs.take f).flatMap (fun x => x.2.2.2)) ++ (x.2.2.2 ++ (rs.drop en).flatMap (fun x => x.2.2.2)) := by
          simp only [List.append_assoc]
        have e2 : x.2.2.2 ++ (lgs ++ ((rs.take f).flatMap (fun x => x.2.2.2) ++ (rs.drop en).flatMap (fun x => x.2.2.2))) = x.2.2.2 ++ ((lgs ++ (rs.take f).flatMap (fun x => x.2.2.2)) ++ (rs.drop en).flatMap (fun x => x.2.2.2)) := by
          simp only [List.append_assoc]
        rw [e1, e2]
        exact List.perm_append_comm_assoc _ _ _
      refine hp.nodup_iff.mpr (List.nodup_append.mpr ⟨hn, hnd, fun a ha b hb e => ?_⟩)
      rw [e] at ha
      exact hdis b ha hb
    · rw [List.append_nil]
      exact hnd
theorem mgLen {rs : List aR} {f en : Nat} {x : aR} (h : f ≤ en) (he : en ≤ rs.length) : (mgRs rs f en x).length ≤ rs.length - (en - f) + 1 := by
  unfold mgRs
  rw [List.length_append, List.length_append, List.length_take, List.length_drop]
  split
  · rw [List.length_singleton]; omega
  · rw [List.length_nil]; omega
set_option maxRecDepth 20000 in
/-- a merge while the store is up; G: the bytes that it may put out -/
theorem re_mergeG {sc : Nat × (Nat → Int32)} {d P N f en lev G : Nat} {H : aH} {B bb S : Nat} {op : Nat → Bool} {sm : Nat → Nat} {lgs : List Nat} {fr ff : Nat} {wr : Bool} {tp : Nat} {rs : List aR} {us : Nat → Bool} {c : Nat → Int8} {P1 : Nat} {gs : List aSg} {vs : List aV} {tss : List (List aT)} (h : UpS H B N bb S op sm lgs fr ff wr tp rs us c P1 gs vs) (hR : RsOk c B rs tss) (hst : ∀ t ∈ tss, SortE t) (hB : B ≤ 128) (hB1 : 3 ≤ B) (hbb : bb % 2 ^ 32 < 2 ^ 31) (hS : S + 1 < 2 ^ 31) (hP : P < 2 ^ 31) (hfr : fr < 256) (hfe : f ≤ en) (her : en ≤ rs.length) (hrl : rs.length < 24) (hlv : lev < 256) (hG : ∀ lm i, lm < 2 ^ 30 → ((mgRun vs (decide (f = 0 ∧ en = rs.length)) (fun c => tss.getD c []) f (en - f) (fun _ => 0, [], lm, []) i).2.2.2.flatMap encE).length ≤ G) (hG1 : G ≤ 2048 * frL B lgs rs) (hG2 : G ≤ 131072) (hE : tss.flatten.length < 65536) (hlen : ∀ k, k * 2048 < G + 2048 → 13 + lgs.length + (7 + k) + (rs.flatMap encR).length ≤ 2043) : RE sc (d + 4) mr_120 [.ref 137, .int (nI f), .int (nI en), .int (nI lev), .int (nI P)] H (fun H' => ∃ x c' us' out, RsOk c' B (mgRs rs f en x) (tss.take f ++ opt out ++ tss.drop en) ∧ x.1 = lev ∧ x.2.2.2.length * 2048 < (out.flatMap encE).length + 2048 ∧ RunOk c' B x out ∧ (∃ lm, lm < 2 ^ 30 ∧ out = (mgRun vs (decide (f = 0 ∧ en = rs.length)) (fun c => tss.getD c []) f (en - f) (fun _ => 0, [], lm, []) (((rs.drop f).take (en - f)).map (fun x => x.2.2.1)).sum).2.2.2) ∧ UpS H' B N bb (S + 1) op sm lgs fr ff wr tp (mgRs rs f en x) us' c' P gs vs ∧ (∀ q, 4096 ≤ q → usedB lgs rs (q / 2048) = true → c' q = c q) ∧ FrU H H') (fun H' => ∃ c', DnS H' B N bb S op sm c' P1 fr ff lgs rs gs ∧ (∀ q, 4096 ≤ q → usedB lgs rs (q / 2048) = true → c' q = c q) ∧ FrU H H') := by
  obtain ⟨hD, hO, hU, hF, htp, hff, hV, hRX, g, hA⟩ := id h
  obtain ⟨A1, ⟨lm, bf, A2, A3⟩, A4, A5, A6, ⟨cu, A7, A7'⟩, A8, A9, A10⟩ := id hA
  obtain ⟨tf, pq, ms, mt, sq, tu, h1, h2, h3, h4, h5, h6, h7, h8, ⟨g1, h9⟩, ⟨g2, h10⟩, ⟨g3, h11⟩⟩ := id hD
  have hU2 : ∀ b, b < B → us b = false → usedB lgs rs b = false := fun b hb e => by rw [← hU b hb]; exact e
  have husl : ∀ b ∈ lgs, us b = true := fun b hb => by rw [hU b (hO.1 b hb).2]; exact usedB_iff.mpr (Or.inr (Or.inl hb))
  have husr : ∀ x ∈ rs, ∀ b ∈ x.2.2.2, us b = true := fun x hx b hb => by rw [hU b ((hO.2.1 x hx).2.2.2 b hb).2]; exact usedB_iff.mpr (Or.inr (Or.inr ⟨x, hx, hb⟩))
  have hlt : f + (en - f) ≤ tss.length := by have := hR.1; omega
  have hMe := remL_list (tss := tss) (f := f) (n := en - f) hlt
  have hRM := (hR.drop f).take (en - f)
  have hsum := hRM.sums
  have hcut := flat_cut (tss := tss) hfe
  have hMl : ((tss.drop f).take (en - f)).flatten.length ≤ tss.flatten.length := by
    rw [hcut, List.length_append, List.length_append]
    omega
  have hkey : ∀ x ∈ ((tss.drop f).take (en - f)).flatten, EOk x := fun x hx => by
    obtain ⟨t, ht, hxt⟩ := List.mem_flatten.mp hx
    have ht2 := List.mem_of_mem_drop (List.mem_of_mem_take ht)
    obtain ⟨i, hi, e⟩ := List.getElem_of_mem ht2
    have hg : tss[i]? = some t := by rw [List.getElem?_eq_getElem hi, e]
    have hri : i < rs.length := by have := hR.1; omega
    exact (hR.2 i _ t (List.getElem?_eq_getElem hri) hg).2.2.2.2.1 x hxt
  have hbyt : (((rs.drop f).take (en - f)).map (fun x => x.2.1)).sum < 2 ^ 31 := by
    have : ∀ (l : List aR), (∀ x ∈ l, x.2.1 < 2 ^ 24) → l.length ≤ 24 → (l.map (fun x => x.2.1)).sum ≤ l.length * 2 ^ 24 := by
      intro l
      induction l with
      | nil => intro _ _; exact Nat.zero_le _
      | cons y t ih =>
        intro q1 q2
        have := ih (fun x hx => q1 x (List.mem_cons_of_mem _ hx)) (by rw [List.length_cons] at q2; omega)
        have := q1 y List.mem_cons_self
        rw [List.map_cons, List.sum_cons, List.length_cons]
        omega
    have h30 : ((rs.drop f).take (en - f)).length ≤ 24 := by rw [List.length_take, List.length_drop]; omega
    have := this ((rs.drop f).take (en - f)) (fun x hx => (hO.2.1 x (List.mem_of_mem_drop (List.mem_of_mem_take hx))).2.1) h30
    omega
  have hss : ∀ c, f ≤ c → c < f + (en - f) → SortE (tss.getD c []) := fun c c1 c2 => by
    have hc : c < tss.length := by omega
    rw [List.getD_eq_getElem?_getD, List.getElem?_eq_getElem hc]
    exact hst _ (List.getElem_mem hc)
  have hmg := mg_tab (vs := vs) (wh := decide (f = 0 ∧ en = rs.length)) (lm := lm) (E := (((rs.drop f).take (en - f)).map (fun x => x.2.2.1)).sum) hMe hss (fun x hx => (hkey x hx).1) (Nat.le_of_eq hsum.2.symm)
  refine (re_merge (d := d) (N := N) (f := f) (en := en) (lev := lev) (E := (((rs.drop f).take (en - f)).map (fun x => x.2.2.1)).sum) (ess := fun c => tss.getD c []) h1 hB hbb hB1 (fun b hb e => usesL_0 (hU2 b hb e)) (use_ok2 hB1 hU2) hrl hP hfr (by omega) (fun x hx => (hO.1 x hx).2) hO.runs h5 h6 (by omega) hfe her hlv A3 h10 h9 h2 h3 h4 hV A7 A7' A8 A9 (fun c y c1 c2 hy => by
    have hc : c < tss.length := by omega
    have := hR.2 c y _ hy (List.getElem?_eq_getElem hc)
    rw [List.getD_eq_getElem?_getD, List.getElem?_eq_getElem hc]
    exact this) husr A2 (fun i => by
      have := hG lm i A2
      rw [freeN_congr hU]
      exact Nat.le_trans this hG1) (fun i => Nat.le_trans (hG lm i A2) hG2) (fun i => by
      have := (hmg.2.2.2.2.2 i).2
      omega) hbyt (by rw [hsum.1]; exact (hmg.2.2.2.2.2 _).1) rfl (by rw [hsum.2]; omega) (fun x hx => by
      rw [encS_len2]
      have hx2 := hG lm (((rs.drop f).take (en - f)).map (fun x => x.2.2.1)).sum A2
      have hl := hlen x.2.2.2.length (by omega)
      have hen : ((rs.take f ++ (if 0 < x.2.1 then [x] else []) ++ rs.drop en).flatMap encR).length ≤ 7 + x.2.2.2.length + (rs.flatMap encR).length := by
        have e1 : rs.flatMap encR = (rs.take f).flatMap encR ++ (((rs.drop f).take (en - f)).flatMap encR ++ (rs.drop en).flatMap encR) := by
          rw [← List.flatMap_append, ← List.flatMap_append]
          congr 1
          have := (List.take_append_drop (en - f) (rs.drop f)).symm
          rw [List.drop_drop, show f + (en - f) = en by omega] at this
          rw [← this, List.take_append_drop]
        rw [e1, List.flatMap_append, List.flatMap_append, List.length_append, List.length_append, List.length_append, List.length_append]
        split
        · have := encR_len x
          rw [List.flatMap_cons, List.flatMap_nil, List.append_nil]
          omega
        · rw [List.flatMap_nil, List.length_nil]
          omega
      omega)).mono ?_ ?_
  · rintro H' ⟨⟨x, c', tf', pq', ms', mt', sq', tu', lm', y1, y2, y3, y4, y5, y6, y7, y8, y9, y10, y11, y12, y13, y14, y15, y16, y17, us', y18, y19⟩, yC, yL, yF⟩
    have hfu : FrU H H' := fun a ha => yF a (by omega) (by omega) (by omega) (by omega)
    have hxo : ∀ b ∈ x.2.2.2, usedB lgs rs b = false := fun b hb => by rw [← hU b (y2.2.2.2.2.2.1 b hb)]; exact y5 b hb
    have hcq : ∀ q, 4096 ≤ q → usedB lgs rs (q / 2048) = true → c' q = c q := fun q hq hu => y10 q hq (fun e => by rw [hxo _ e] at hu; exact Bool.noConfusion hu)
    have hlq : ∀ q, q / 2048 ∈ lgs → c' q = c q := fun q hq => hcq q (by have := (hO.1 _ hq).1; omega) (usedB_iff.mpr (Or.inr (Or.inl hq)))
    have hxl : x.2.1 < 2 ^ 24 := by
      have := y2.2.1
      have := hG lm (((rs.drop f).take (en - f)).map (fun x => x.2.2.1)).sum A2
      omega
    have hxe : x.2.2.1 < 65536 := by
      have h0 := y2.1
      have := (hmg.2.2.2.2.2 (((rs.drop f).take (en - f)).map (fun x => x.2.2.1)).sum).2
      omega
    have hO' : LsOk B lgs (mgRs rs f en x) := hO.mg hfe (by rw [y3]; exact hlv) hxl hxe (fun b hb => ⟨(usedB_lg (hxo b hb)).1, y2.2.2.2.2.2.1 b hb⟩) y4 hxo
    have hR' : RsOk c' B rs tss := hR.far (fun y hy b hb q hq => hcq q (by have := ((hO.2.1 y hy).2.2.2 b hb).1; omega) (usedB_iff.mpr (Or.inr (Or.inr ⟨y, hy, by rw [hq]; exact hb⟩))))
    have hRs' := ((hR'.take f).app (run_opt y2)).app (hR'.drop en)
    refine ⟨x, c', us', _, hRs', y3, y6, y2, ⟨lm, A2, rfl⟩, ⟨⟨tf', pq', ms', mt', sq', tu', y18, y7, y8, y14, y9, y12, by omega, fun e b hb => ?_, y15, y16, ⟨g3, (yF 191 (by decide) (by decide) (by decide) (by decide)).trans h11⟩⟩, hO', y19, ⟨hF.1.far hlq, fun e => ?_⟩, htp, hff, hV.far (fun a a1 a2 => yF a (by omega) (by omega) (by omega) (by omega)), fun v hv => ?_, g.frU hfu, ?_⟩, hcq, hfu⟩
    · have hbl := List.mem_of_getElem? hb
      rw [y11 b (hO.1 b hbl).1 (fun q => by have := (usedB_lg (hxo b q)).2.1; exact this hbl)]
      exact h8 e b hb
    · obtain ⟨gi, s, q1, q2, q3⟩ := hF.2 e
      refine ⟨gi, s, q1, q2, fun q r1 r2 => ?_⟩
      have hF1 := hF.1
      rw [q1] at hF1
      have hsm := List.mem_of_getElem? hF1.last.1
      rw [hlq q (by rw [show q / 2048 = s.1 by omega]; exact hsm)]
      exact q3 q r1 r2
    · refine ⟨?_, (hRX v hv).2⟩
      cases hl : v.2.2.2.1 with
      | none => exact fun n hn => by rw [hl] at hn; cases hn
      | some n =>
        have hin := ((hRX v hv).1 n hl).2.2
        exact ((hRX v hv).1.far rfl rfl rfl rfl (fun q hq => hlq q (by rw [hq]; exact hin)) (fun x hx => hx)).1
    · exact ⟨(yF 190 (by decide) (by decide) (by decide) (by decide)).trans A1, ⟨lm', 0, y1, y17⟩, A4.imp (fun g hg => (yF 192 (by decide) (by decide) (by decide) (by decide)).trans hg), A5.imp (fun g hg => (yF 193 (by decide) (by decide) (by decide) (by decide)).trans hg), A6.imp (fun g hg => (yF 194 (by decide) (by decide) (by decide) (by decide)).trans hg), ⟨cu, (yF 137 (by decide) (by decide) (by decide) (by decide)).trans A7, A7'⟩, yC, yL, A10.imp (fun g hg => (yF 141 (by decide) (by decide) (by decide) (by decide)).trans hg)⟩
  · rintro H' ⟨⟨c', tf', y1, y2, y3, y4, y5, ⟨lm', bf', y6, y7⟩, ⟨fr', ff', rs', ms', mt', sq', tu', us', y8, y9⟩⟩, yC, yL, yF⟩
    have hfu : FrU H H' := fun a ha => yF a (by omega) (by omega) (by omega) (by omega)
    have hcq : ∀ q, 4096 ≤ q → usedB lgs rs (q / 2048) = true → c' q = c q := fun q hq hu => y3 q hq (by
      rcases usedB_iff.mp hu with r | r | ⟨x, hx, r⟩
      · omega
      · exact husl _ r
      · exact husr x hx _ r)
    refine ⟨c', ⟨⟨tf', ms, sq, y1, y2, by omega, ⟨_, _, _, _, _, _, _, _, _, _, _, y8, y9⟩, y4, y5, ⟨g3, (yF 191 (by decide) (by decide) (by decide) (by decide)).trans h11⟩⟩, hO, hF.1.far (fun q hq => hcq q (by have := (hO.1 _ hq).1; omega) (usedB_iff.mpr (Or.inr (Or.inl hq)))), hff, ⟨vs, hV.far (fun a a1 a2 => yF a (by omega) (by omega) (by omega) (by omega))⟩, g.frU hfu, ?_⟩, hcq, hfu⟩
    exact ⟨(yF 190 (by decide) (by decide) (by decide) (by decide)).trans A1, ⟨lm', bf', y6, y7⟩, A4.imp (fun g hg => (yF 192 (by decide) (by decide) (by decide) (by decide)).trans hg), A5.imp (fun g hg => (yF 193 (by decide) (by decide) (by decide) (by decide)).trans hg), A6.imp (fun g hg => (yF 194 (by decide) (by decide) (by decide) (by decide)).trans hg), ⟨cu, (yF 137 (by decide) (by decide) (by decide) (by decide)).trans A7, A7'⟩, yC, yL, A10.imp (fun g hg => (yF 141 (by decide) (by decide) (by decide) (by decide)).trans hg)⟩
