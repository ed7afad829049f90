/-! ===== what is known in memory alone goes to a table: disk and layout together; class; by hand ===== -/
theorem LsOk.cons {B : Nat} {lgs : List Nat} {rs : List aR} {x : aR} (h : LsOk B lgs rs) (h1 : x.1 < 256) (h2 : x.2.1 < 2 ^ 24) (h3 : x.2.2.1 < 65536) (h4 : x.2.2.2.Nodup) (h5 : ∀ b ∈ x.2.2.2, b < B ∧ usedB lgs rs b = false) : LsOk B lgs (x :: rs) := by
  obtain ⟨a1, a2, a3⟩ := h
  obtain ⟨n1, n2, n3⟩ := List.nodup_append.mp a3
  refine ⟨a1, fun y hy => ?_, ?_⟩
  · rcases List.mem_cons.mp hy with e | e
    · rw [e]
      exact ⟨h1, h2, h3, fun b hb => ⟨(usedB_lg (h5 b hb).2).1, (h5 b hb).1⟩⟩
    · exact a2 y e
  · rw [List.flatMap_cons]
    refine List.nodup_append.mpr ⟨n1, List.nodup_append.mpr ⟨h4, n2, fun b hb c hc e => ?_⟩, fun b hb c hc e => ?_⟩
    · obtain ⟨y, hy, hcy⟩ := List.mem_flatMap.mp hc
      rw [← e] at hcy
      exact (usedB_lg (h5 b hb).2).2.2 y hy hcy
    · rcases List.mem_append.mp hc with e2 | e2
      · rw [← e] at e2
        exact (usedB_lg (h5 b e2).2).2.1 hb
      · exact n3 b hb c e2 e
set_option maxRecDepth 20000 in
theorem re_spillD {sc : Nat × (Nat → Int32)} {d P N lm bf gm pr : Nat} {H : aH} {B bb S : Nat} {lgs : List Nat} {fr ff : Nat} {wr : Bool} {tp : Nat} {rs : List aR} {us : Nat → Bool} {c : Nat → Int8} {P0 fr0 ff0 : Nat} {lgs0 : List Nat} {rs0 : List aR} {vs : List aV} {op : Nat → Bool} {sm : Nat → Nat} (h : Dk H B bb S lgs fr ff wr tp rs us c P0 fr0 ff0 lgs0 rs0) (hO : LsOk B lgs rs) (hU : ∀ b, b < B → us b = false → usedB lgs rs b = false) (hT : H[136]? = some (kO 8 (tabF lm bf gm))) (hB : B ≤ 128) (hB1 : 3 ≤ B) (hbb : bb % 2 ^ 32 < 2 ^ 31) (hS : S + 1 < 2 ^ 31) (hP : P < 2 ^ 31) (hrl : rs.length < 24) (hV : VersIs H N vs) (hvE : ∀ v ∈ vs, v.2.2.1 < 2 ^ 24 ∧ v.2.2.2.1.getD 0 ≤ 2048) (g : SightAt H op sm) (hsm : ∀ t, t < 8 → sm t < 2 ^ 31) (hpr : ∀ v ∈ vs, v.2.1 ≤ pr) (hT1 : ((aloneE vs).flatMap encE).length ≤ 2048 * freeN us B) (hT2 : ((aloneE vs).flatMap encE).length ≤ 131072) (hT3 : (aloneE vs).length < 65536) (htp : tp < 65536) (hlen : ∀ k, k * 2048 < ((aloneE vs).flatMap encE).length + 2048 → 13 + lgs.length + (7 + k) + (rs.flatMap encR).length ≤ 2043) : RE sc (d + 4) mr_97 [.ref 137, .int 0, .int (nI P)] H (fun H' => ∃ x c' us', RunOk c' B x (aloneE vs) ∧ x.1 = 0 ∧ x.2.2.2.Nodup ∧ (∀ b ∈ x.2.2.2, b < B ∧ us b = false) ∧ x.2.2.2.length * 2048 < ((aloneE vs).flatMap encE).length + 2048 ∧ Dk H' B bb (S + 1) lgs (if wr then 1 else 0) (if wr then tp else 0) wr tp ((if 0 < x.2.1 then [x] else []) ++ rs) us' c' P (if wr then 1 else 0) (if wr then tp else 0) lgs ((if 0 < x.2.1 then [x] else []) ++ rs) ∧ LsOk B lgs ((if 0 < x.2.1 then [x] else []) ++ rs) ∧ (∀ b, b < B → us' b = usedB lgs ((if 0 < x.2.1 then [x] else []) ++ rs) b) ∧ (∀ q, 4096 ≤ q → us (q / 2048) = true → c' q = c q) ∧ VersIs H' N ((vs.map toldV).filter (keepS op sm pr (kmV (vs.map toldV)))) ∧ H'[136]? = some (kO 8 (tabF lm 0 gm)) ∧ ∀ a, ¬ (71 ≤ a ∧ a < 137) → a ≠ 140 → H'[a]? = H[a]?) (fun H' => ∃ c', Dd H' B bb S c' P0 fr0 ff0 lgs0 rs0 ∧ (∀ q, 4096 ≤ q → us (q / 2048) = true → c' q = c q) ∧ VersIs H' N vs ∧ (∃ bf', H'[136]? = some (kO 8 (tabF lm bf' gm))) ∧ ∀ a, ¬ (71 ≤ a ∧ a < 137) → a ≠ 140 → H'[a]? = H[a]?) := by
  obtain ⟨tf, pq, ms, mt, sq, tu, h1, h2, h3, h4, h5, h6, h7, h8, ⟨g1, h9⟩, ⟨g2, h10⟩, ⟨g3, h11⟩⟩ := h
  have hus : ∀ b, b < B → usedB lgs rs b = true → us b = true := fun b hb e => by
    cases e2 : us b with
    | true => rfl
    | false => rw [hU b hb e2] at e; exact Bool.noConfusion e
  refine (re_spill (d := d) h1 hB hT h10 h9 h2 hbb h3 hB1 h4 (fun b hb e => usesL_0 (hU b hb e)) (use_ok2 hB1 hU) hrl hV hvE g hsm hpr hT1 hT2 hP htp (fun x hx => (hO.1 x hx).2) hO.runs (fun x hx => ?_) h5 h6 (by omega)).mono ?_ ?_
  · rw [encS_len2, List.flatMap_append, List.length_append]
    have := hlen _ hx
    split
    · rw [List.flatMap_cons, List.flatMap_nil, List.append_nil, encR_len]
      omega
    · rw [List.flatMap_nil, List.length_nil]
      omega
  · rintro H' ⟨x, c', tf', pq', ms', mt', sq', tu', y1, y2, y3, y4, y5, y6, y7, y8, y9, y10, y11, y12, y13, y14, y15, y16, ⟨us', y17, y18⟩, y19, y20⟩
    have hxB := y1.2.2.2.2.2.1
    have hLs : LsOk B lgs ((if 0 < x.2.1 then [x] else []) ++ rs) := by
      split
      · exact hO.cons (by omega) (by rw [y1.2.1]; omega) (by rw [y1.1]; exact hT3) y3 (fun b hb => ⟨hxB b hb, hU b (hxB b hb) (y4 b hb)⟩)
      · exact hO
    refine ⟨x, c', us', y1, y2, y3, fun b hb => ⟨hxB b hb, y4 b hb⟩, y5, ⟨tf', pq', ms', mt', sq', tu', y17, y6, y7, y13, y8, y11, by omega, fun e z hz => ?_, y14, y15, ⟨g3, (y20 191 (by decide) (by decide)).trans h11⟩⟩, hLs, y18, fun q q1 q2 => y9 q q1 (fun e => by rw [y4 _ e] at q2; exact Bool.noConfusion q2), y19, y16, y20⟩
    have hzm := List.mem_of_getElem? hz
    have hz2 := hO.1 z hzm
    rw [y10 z hz2.1 (fun e2 => by have h9 := hus z hz2.2 (usedB_iff.mpr (Or.inr (Or.inl hzm))); rw [y4 z e2] at h9; exact Bool.noConfusion h9)]
    exact h8 e z hz
  · rintro H' ⟨c', tf', y1, y2, y3, y4, y5, y6, ⟨l2, l3, l6, l7, l8, l9, l10, l11, l12, l13⟩, y8, y9⟩
    exact ⟨c', ⟨tf', ms, sq, y1, y2, h7, ⟨lgs, l2, l3, wr, tp, l6, l7, l8, l9, l10, l11, l12, l13⟩, y4, y5, ⟨g3, (y9 191 (by decide) (by decide)).trans h11⟩⟩, y3, y8, y6, y9⟩
theorem LsOk.nil {B : Nat} {lgs : List Nat} {rs : List aR} (h : LsOk B lgs rs) : LsOk B lgs [] := ⟨h.1, fun x hx => absurd hx List.not_mem_nil, by
  rw [List.flatMap_nil, List.append_nil]
  exact (List.nodup_append.mp h.2.2).1⟩
theorem usedB_nil {lgs : List Nat} {rs : List aR} {b : Nat} (h : usedB lgs rs b = false) : usedB lgs [] b = false := by
  obtain ⟨h1, h2, h3⟩ := usedB_lg h
  cases e : usedB lgs [] b with
  | false => rfl
  | true =>
    rcases usedB_iff.mp e with e | e | ⟨x, hx, _⟩
    · omega
    · exact absurd e h2
    · exact absurd hx List.not_mem_nil
set_option maxRecDepth 20000 in
theorem re_spillDA {sc : Nat × (Nat → Int32)} {d P N lm bf gm pr : Nat} {H : aH} {B bb S : Nat} {lgs : List Nat} {fr ff : Nat} {wr : Bool} {tp : Nat} {rs : List aR} {us : Nat → Bool} {c : Nat → Int8} {P0 fr0 ff0 : Nat} {lgs0 : List Nat} {rs0 : List aR} {vs : List aV} {op : Nat → Bool} {sm : Nat → Nat} (h : Dk H B bb S lgs fr ff wr tp rs us c P0 fr0 ff0 lgs0 rs0) (hO : LsOk B lgs rs) (hU : ∀ b, b < B → us b = false → usedB lgs rs b = false) (hT : H[136]? = some (kO 8 (tabF lm bf gm))) (hB : B ≤ 128) (hB1 : 3 ≤ B) (hbb : bb % 2 ^ 32 < 2 ^ 31) (hS : S + 1 < 2 ^ 31) (hP : P < 2 ^ 31) (hrl : rs.length < 24) (hV : VersIs H N vs) (hvE : ∀ v ∈ vs, v.2.2.1 < 2 ^ 24 ∧ v.2.2.2.1.getD 0 ≤ 2048) (g : SightAt H op sm) (hsm : ∀ t, t < 8 → sm t < 2 ^ 31) (hpr : ∀ v ∈ vs, v.2.1 ≤ pr) (hT1 : ((vs.map entV).flatMap encE).length ≤ 2048 * freeN us B) (hT2 : ((vs.map entV).flatMap encE).length ≤ 131072) (hT3 : (vs.map entV).length < 65536) (htp : tp < 65536) (hlen : ∀ k, k * 2048 < ((vs.map entV).flatMap encE).length + 2048 → 13 + lgs.length + (7 + k) ≤ 2043) : RE sc (d + 4) mr_97 [.ref 137, .int 1, .int (nI P)] H (fun H' => ∃ x c' us', RunOk c' B x (vs.map entV) ∧ x.1 = 3 ∧ x.2.2.2.Nodup ∧ (∀ b ∈ x.2.2.2, b < B ∧ us b = false) ∧ x.2.2.2.length * 2048 < ((vs.map entV).flatMap encE).length + 2048 ∧ Dk H' B bb (S + 1) lgs (if wr then 1 else 0) (if wr then tp else 0) wr tp (if 0 < x.2.1 then [x] else []) us' c' P (if wr then 1 else 0) (if wr then tp else 0) lgs (if 0 < x.2.1 then [x] else []) ∧ LsOk B lgs (if 0 < x.2.1 then [x] else []) ∧ (∀ b, b < B → us' b = usedB lgs (if 0 < x.2.1 then [x] else []) b) ∧ (∀ q, 4096 ≤ q → us (q / 2048) = true → c' q = c q) ∧ VersIs H' N ((vs.map toldV).filter (keepS op sm pr (kmV (vs.map toldV)))) ∧ H'[136]? = some (kO 8 (tabF lm 0 gm)) ∧ ∀ a, ¬ (71 ≤ a ∧ a < 137) → a ≠ 140 → H'[a]? = H[a]?) (fun H' => ∃ c', Dd H' B bb S c' P0 fr0 ff0 lgs0 rs0 ∧ (∀ q, 4096 ≤ q → us (q / 2048) = true → c' q = c q) ∧ VersIs H' N vs ∧ (∃ bf', H'[136]? = some (kO 8 (tabF lm bf' gm))) ∧ ∀ a, ¬ (71 ≤ a ∧ a < 137) → a ≠ 140 → H'[a]? = H[a]?) := by
  obtain ⟨tf, pq, ms, mt, sq, tu, h1, h2, h3, h4, h5, h6, h7, h8, ⟨g1, h9⟩, ⟨g2, h10⟩, ⟨g3, h11⟩⟩ := h
  have hus : ∀ b, b < B → usedB lgs rs b = true → us b = true := fun b hb e => by
    cases e2 : us b with
    | true => rfl
    | false => rw [hU b hb e2] at e; exact Bool.noConfusion e
  refine (re_spillA (d := d) h1 hB hT h10 h9 h2 hbb h3 hB1 h4 (fun b hb e => usesL_0 (hU b hb e)) (use_ok2 hB1 hU) hrl hV hvE g hsm hpr hT1 hT2 hP htp (fun x hx => (hO.1 x hx).2) hO.runs (fun x hx => ?_) h5 h6 (by omega)).mono ?_ ?_
  · rw [encS_len2]
    have := hlen _ hx
    split
    · rw [List.flatMap_cons, List.flatMap_nil, List.append_nil, encR_len]
      omega
    · rw [List.flatMap_nil, List.length_nil]
      omega
  · rintro H' ⟨x, c', tf', pq', ms', mt', sq', tu', y1, y2, y3, y4, y5, y6, y7, y8, y9, y10, y11, y12, y13, y14, y15, y16, ⟨us', y17, y18⟩, y19, y20⟩
    have hxB := y1.2.2.2.2.2.1
    have hLs : LsOk B lgs (if 0 < x.2.1 then [x] else []) := by
      split
      · exact hO.nil.cons (by omega) (by rw [y1.2.1]; omega) (by rw [y1.1]; exact hT3) y3 (fun b hb => ⟨hxB b hb, usedB_nil (hU b (hxB b hb) (y4 b hb))⟩)
      · exact hO.nil
    refine ⟨x, c', us', y1, y2, y3, fun b hb => ⟨hxB b hb, y4 b hb⟩, y5, ⟨tf', pq', ms', mt', sq', tu', y17, y6, y7, y13, y8, y11, by omega, fun e z hz => ?_, y14, y15, ⟨g3, (y20 191 (by decide) (by decide)).trans h11⟩⟩, hLs, y18, fun q q1 q2 => y9 q q1 (fun e => by rw [y4 _ e] at q2; exact Bool.noConfusion q2), y19, y16, y20⟩
    have hzm := List.mem_of_getElem? hz
    have hz2 := hO.1 z hzm
    rw [y10 z hz2.1 (fun e2 => by have h9 := hus z hz2.2 (usedB_iff.mpr (Or.inr (Or.inl hzm))); rw [y4 z e2] at h9; exact Bool.noConfusion h9)]
    exact h8 e z hz
  · rintro H' ⟨c', tf', y1, y2, y3, y4, y5, y6, ⟨l2, l3, l6, l7, l8, l9, l10, l11, l12, l13⟩, y8, y9⟩
    exact ⟨c', ⟨tf', ms, sq, y1, y2, h7, ⟨lgs, l2, l3, wr, tp, l6, l7, l8, l9, l10, l11, l12, l13⟩, y4, y5, ⟨g3, (y9 191 (by decide) (by decide)).trans h11⟩⟩, y3, y8, y6, y9⟩
