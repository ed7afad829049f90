/-! ===== what is known in memory alone goes to a table: from state to state; class; by hand ===== -/
/-- cells that the care of the chip leaves alone -/
def FrU (H H' : aH) : Prop := ∀ a, a < 71 ∨ 195 ≤ a → H'[a]? = H[a]?
theorem FrU.trans {H H1 H2 : aH} (h1 : FrU H H1) (h2 : FrU H1 H2) : FrU H H2 := fun a ha => (h2 a ha).trans (h1 a ha)
theorem FrU.rfl' {H : aH} : FrU H H := fun _ _ => rfl
theorem SightAt.frU {H H' : aH} {op : Nat → Bool} {sm : Nat → Nat} (h : SightAt H op sm) (hf : FrU H H') : SightAt H' op sm := h.far2 (fun a a1 a2 => hf a (Or.inl (by omega)))
theorem mem_told {vs : List aV} {f : aV → Bool} {v : aV} (h : v ∈ (vs.map toldV).filter f) : ∃ w ∈ vs, v = toldV w := by
  obtain ⟨w, hw, e⟩ := List.mem_map.mp (List.mem_filter.mp h).1
  exact ⟨w, hw, e.symm⟩
theorem FrW.open0 {c : Nat → Int8} {lgs : List Nat} {wr : Bool} {tp : Nat} (htp : tp ≤ 2048) (hW : wr = true → ∃ b, lgs[lgs.length - 1]? = some b ∧ Ers c (b * 2048 + tp) (b * 2048 + 2048)) : ∃ gs', FrW c lgs (if wr then 1 else 0) (if wr then tp else 0) wr tp gs' ∧ gs'.flatMap flG = [] := by
  cases wr with
  | false =>
    refine ⟨[], ⟨⟨rfl, Nat.zero_le _, ?_, fun i s hs => absurd (get_lt hs) (Nat.not_lt_zero _), fun s hs => absurd hs List.not_mem_nil⟩, fun e => Bool.noConfusion e⟩, rfl⟩
    show [] = lgs.drop (lgs.length - 0)
    rw [Nat.sub_zero, List.drop_length]
  | true =>
    obtain ⟨b, l1, g3⟩ := hW rfl
    have hl := get_lt l1
    refine ⟨[(b, tp, [])], ⟨⟨rfl, by show 1 ≤ lgs.length; omega, ?_, fun i x hx => ?_, fun x hx => ?_⟩, fun _ => ⟨[], _, rfl, by show tp + 0 = tp; omega, g3⟩⟩, rfl⟩
    · show [b] = lgs.drop (lgs.length - 1)
      rw [List.drop_eq_getElem_cons (by omega), List.drop_of_length_le (by omega)]
      rw [List.getElem?_eq_getElem (by omega)] at l1
      rw [Option.some.inj l1]
    · have e0 := get_lt hx
      have e0 : i < 1 := e0
      rw [show i = 0 by omega] at hx ⊢
      have hx : (b, tp, []) = x := Option.some.inj hx
      rw [← hx]
      rfl
    · rw [List.mem_singleton.mp hx]
      refine ⟨trivial, by show tp + 0 ≤ 2048; omega, fun e => ?_⟩
      have e : tp + 0 < 2048 := e
      exact ers_rec (g3 _ (by show b * 2048 + tp ≤ b * 2048 + (tp + 0); omega) (by show b * 2048 + (tp + 0) < _; omega))
theorem FrW.wrt {c : Nat → Int8} {lgs : List Nat} {fr ff : Nat} {wr : Bool} {tp : Nat} {gs : List aSg} (h : FrW c lgs fr ff wr tp gs) : wr = true → ∃ b, lgs[lgs.length - 1]? = some b ∧ Ers c (b * 2048 + tp) (b * 2048 + 2048) := fun e => by
  obtain ⟨gi, s, g1, g2, g3⟩ := h.2 e
  have h1 := h.1
  rw [g1] at h1
  exact ⟨s.1, h1.last.1, g3⟩
set_option maxRecDepth 20000 in
theorem re_spillG {sc : Nat × (Nat → Int32)} {d P N pr : Nat} {H : aH} {B bb S : Nat} {lgs : List Nat} {fr ff : Nat} {wr : Bool} {tp : Nat} {rs : List aR} {us : Nat → Bool} {c : Nat → Int8} {P0 fr0 ff0 : Nat} {lgs0 : List Nat} {rs0 : List aR} {gs0 : List aSg} {vs : List aV} {op : Nat → Bool} {sm : Nat → Nat} (h : Dk H B bb S lgs fr ff wr tp rs us c P0 fr0 ff0 lgs0 rs0) (hO : LsOk B lgs rs) (hO0 : LsOk B lgs0 rs0) (hU : ∀ b, b < B → us b = false → usedB lgs rs b = false) (hU0 : ∀ b, b < B → us b = false → usedB lgs0 rs0 b = false) (hF0 : FrC c lgs0 fr0 ff0 gs0) (hff0 : ff0 ≤ 2048) (hW : wr = true → ∃ b, lgs[lgs.length - 1]? = some b ∧ Ers c (b * 2048 + tp) (b * 2048 + 2048)) (htp : tp ≤ 2048) (hV : VersIs H N vs) (hR : ∀ v ∈ vs, RecX c lgs wr tp v) (g : SightAt H op sm) (hsm : ∀ t, t < 8 → sm t < 2 ^ 31) (hpr : ∀ v ∈ vs, v.2.1 ≤ pr) (hA : AuxA H B N) (hB : B ≤ 128) (hB1 : 3 ≤ B) (hbb : bb % 2 ^ 32 < 2 ^ 31) (hS : S + 1 < 2 ^ 31) (hP : P < 2 ^ 31) (hrl : rs.length < 24) (hvE : ∀ v ∈ vs, v.2.2.1 < 2 ^ 24 ∧ v.2.2.2.1.getD 0 ≤ 2048) (hT1 : ((aloneE vs).flatMap encE).length ≤ 2048 * freeN us B) (hT2 : ((aloneE vs).flatMap encE).length ≤ 131072) (hT3 : (aloneE vs).length < 65536) (hlen : ∀ k, k * 2048 < ((aloneE vs).flatMap encE).length + 2048 → 13 + lgs.length + (7 + k) + (rs.flatMap encR).length ≤ 2043) : RE sc (d + 4) mr_97 [.ref 137, .int 0, .int (nI P)] H (fun H' => ∃ x c' us' gs', RunOk c' B x (aloneE vs) ∧ x.1 = 0 ∧ x.2.2.2.length * 2048 < ((aloneE vs).flatMap encE).length + 2048 ∧ UpS H' B N bb (S + 1) op sm lgs (if wr then 1 else 0) (if wr then tp else 0) wr tp ((if 0 < x.2.1 then [x] else []) ++ rs) us' c' P gs' ((vs.map toldV).filter (keepS op sm pr (kmV (vs.map toldV)))) ∧ gs'.flatMap flG = [] ∧ (∀ q, 4096 ≤ q → us (q / 2048) = true → c' q = c q) ∧ FrU H H') (fun H' => ∃ c', DnS H' B N bb S op sm c' P0 fr0 ff0 lgs0 rs0 gs0 ∧ (∀ q, 4096 ≤ q → us (q / 2048) = true → c' q = c q) ∧ FrU H H') := by
  obtain ⟨A1, ⟨lm, bf, A2, A3⟩, A4, A5, A6, A7, A8, A9, A10⟩ := id hA
  have hus : ∀ b, b ∈ lgs → us b = true := fun b hb => by
    cases e2 : us b with
    | true => rfl
    | false => exact absurd hb (usedB_lg (hU b (hO.1 b hb).2 e2)).2.1
  have hus0 : ∀ b, b ∈ lgs0 → us b = true := fun b hb => by
    cases e2 : us b with
    | true => rfl
    | false => exact absurd hb (usedB_lg (hU0 b (hO0.1 b hb).2 e2)).2.1
  have h2 : ∀ b ∈ lgs, ∀ q, q / 2048 = b → 4096 ≤ q := fun b hb q hq => by
    have := (hO.1 b hb).1
    omega
  have h20 : ∀ b ∈ lgs0, ∀ q, q / 2048 = b → 4096 ≤ q := fun b hb q hq => by
    have := (hO0.1 b hb).1
    omega
  refine (re_spillD (d := d) (pr := pr) h hO hU A3 hB hB1 hbb hS hP hrl hV hvE g hsm hpr hT1 hT2 hT3 (by omega) hlen).mono ?_ ?_
  · rintro H' ⟨x, c', us', y1, y2, y3, y4, y5, y6, y7, y8, y9, y10, y11, y12⟩
    have hfu : FrU H H' := fun a ha => y12 a (by omega) (by omega)
    have hE : wr = true → ∃ b, lgs[lgs.length - 1]? = some b ∧ Ers c' (b * 2048 + tp) (b * 2048 + 2048) := fun e => by
      obtain ⟨b, b1, b2⟩ := hW e
      refine ⟨b, b1, fun q q1 q2 => ?_⟩
      have hbm := List.mem_of_getElem? b1
      rw [y9 q (h2 b hbm q (by omega)) (by rw [show q / 2048 = b by omega]; exact hus b hbm)]
      exact b2 q q1 q2
    obtain ⟨gs', G1, G2⟩ := FrW.open0 htp hE
    refine ⟨x, c', us', gs', y1, y2, y5, ⟨y6, y7, y8, G1, htp, by split <;> omega, y10, fun v hv => ?_, g.frU hfu, ?_⟩, G2, y9, hfu⟩
    · obtain ⟨w, hw, e⟩ := mem_told hv
      rw [e]
      refine ⟨?_, (hR w hw).2⟩
      cases hl : w.2.2.2.1 with
      | none => exact fun n hn => by rw [show (toldV w).2.2.2.1 = w.2.2.2.1 from rfl, hl] at hn; cases hn
      | some n =>
        have hin := ((hR w hw).1 n hl).2.2
        exact ((hR w hw).1.far rfl rfl rfl rfl (fun q hq => y9 q (h2 _ hin q hq) (by rw [hq]; exact hus _ hin)) (fun x hx => hx)).1
    · refine ⟨(y12 190 (by decide) (by decide)).trans A1, ⟨lm, 0, A2, y11⟩, A4.imp (fun g hg => (y12 192 (by decide) (by decide)).trans hg), A5.imp (fun g hg => (y12 193 (by decide) (by decide)).trans hg), A6.imp (fun g hg => (y12 194 (by decide) (by decide)).trans hg), A7.imp (fun g hg => ⟨(y12 137 (by decide) (by decide)).trans hg.1, hg.2⟩), A8.far (fun a a1 a2 => y12 a (by omega) (by omega)), A9.far (y12 138 (by decide) (by decide)) (y12 139 (by decide) (by decide)), A10.imp (fun g hg => (y12 141 (by decide) (by decide)).trans hg)⟩
  · rintro H' ⟨c', y1, y2, y3, ⟨bf', y4⟩, y5⟩
    have hfu : FrU H H' := fun a ha => y5 a (by omega) (by omega)
    refine ⟨c', ⟨y1, hO0, hF0.far (fun q hq => y2 q (h20 _ hq q rfl) (hus0 _ hq)), hff0, ⟨vs, y3⟩, g.frU hfu, ?_⟩, y2, hfu⟩
    exact ⟨(y5 190 (by decide) (by decide)).trans A1, ⟨lm, bf', A2, y4⟩, A4.imp (fun g hg => (y5 192 (by decide) (by decide)).trans hg), A5.imp (fun g hg => (y5 193 (by decide) (by decide)).trans hg), A6.imp (fun g hg => (y5 194 (by decide) (by decide)).trans hg), A7.imp (fun g hg => ⟨(y5 137 (by decide) (by decide)).trans hg.1, hg.2⟩), A8.far (fun a a1 a2 => y5 a (by omega) (by omega)), A9.far (y5 138 (by decide) (by decide)) (y5 139 (by decide) (by decide)), A10.imp (fun g hg => (y5 141 (by decide) (by decide)).trans hg)⟩
set_option maxRecDepth 20000 in
theorem re_spillGA {sc : Nat × (Nat → Int32)} {d P N pr : Nat} {H : aH} {B bb S : Nat} {lgs : List Nat} {fr ff : Nat} {wr : Bool} {tp : Nat} {rs : List aR} {us : Nat → Bool} {c : Nat → Int8} {P0 fr0 ff0 : Nat} {lgs0 : List Nat} {rs0 : List aR} {gs0 : List aSg} {vs : List aV} {op : Nat → Bool} {sm : Nat → Nat} (h : Dk H B bb S lgs fr ff wr tp rs us c P0 fr0 ff0 lgs0 rs0) (hO : LsOk B lgs rs) (hO0 : LsOk B lgs0 rs0) (hU : ∀ b, b < B → us b = false → usedB lgs rs b = false) (hU0 : ∀ b, b < B → us b = false → usedB lgs0 rs0 b = false) (hF0 : FrC c lgs0 fr0 ff0 gs0) (hff0 : ff0 ≤ 2048) (hW : wr = true → ∃ b, lgs[lgs.length - 1]? = some b ∧ Ers c (b * 2048 + tp) (b * 2048 + 2048)) (htp : tp ≤ 2048) (hV : VersIs H N vs) (hR : ∀ v ∈ vs, RecX c lgs wr tp v) (g : SightAt H op sm) (hsm : ∀ t, t < 8 → sm t < 2 ^ 31) (hpr : ∀ v ∈ vs, v.2.1 ≤ pr) (hA : AuxA H B N) (hB : B ≤ 128) (hB1 : 3 ≤ B) (hbb : bb % 2 ^ 32 < 2 ^ 31) (hS : S + 1 < 2 ^ 31) (hP : P < 2 ^ 31) (hrl : rs.length < 24) (hvE : ∀ v ∈ vs, v.2.2.1 < 2 ^ 24 ∧ v.2.2.2.1.getD 0 ≤ 2048) (hT1 : ((vs.map entV).flatMap encE).length ≤ 2048 * freeN us B) (hT2 : ((vs.map entV).flatMap encE).length ≤ 131072) (hT3 : (vs.map entV).length < 65536) (hlen : ∀ k, k * 2048 < ((vs.map entV).flatMap encE).length + 2048 → 13 + lgs.length + (7 + k) ≤ 2043) : RE sc (d + 4) mr_97 [.ref 137, .int 1, .int (nI P)] H (fun H' => ∃ x c' us' gs', RunOk c' B x (vs.map entV) ∧ x.1 = 3 ∧ x.2.2.2.length * 2048 < ((vs.map entV).flatMap encE).length + 2048 ∧ UpS H' B N bb (S + 1) op sm lgs (if wr then 1 else 0) (if wr then tp else 0) wr tp (if 0 < x.2.1 then [x] else []) us' c' P gs' ((vs.map toldV).filter (keepS op sm pr (kmV (vs.map toldV)))) ∧ gs'.flatMap flG = [] ∧ (∀ q, 4096 ≤ q → us (q / 2048) = true → c' q = c q) ∧ FrU H H') (fun H' => ∃ c', DnS H' B N bb S op sm c' P0 fr0 ff0 lgs0 rs0 gs0 ∧ (∀ q, 4096 ≤ q → us (q / 2048) = true → c' q = c q) ∧ FrU H H') := by
  obtain ⟨A1, ⟨lm, bf, A2, A3⟩, A4, A5, A6, A7, A8, A9, A10⟩ := id hA
  have hus : ∀ b, b ∈ lgs → us b = true := fun b hb => by
    cases e2 : us b with
    | true => rfl
    | false => exact absurd hb (usedB_lg (hU b (hO.1 b hb).2 e2)).2.1
  have hus0 : ∀ b, b ∈ lgs0 → us b = true := fun b hb => by
    cases e2 : us b with
    | true => rfl
    | false => exact absurd hb (usedB_lg (hU0 b (hO0.1 b hb).2 e2)).2.1
  have h2 : ∀ b ∈ lgs, ∀ q, q / 2048 = b → 4096 ≤ q := fun b hb q hq => by
    have := (hO.1 b hb).1
    omega
  have h20 : ∀ b ∈ lgs0, ∀ q, q / 2048 = b → 4096 ≤ q := fun b hb q hq => by
    have := (hO0.1 b hb).1
    omega
  refine (re_spillDA (d := d) (pr := pr) h hO hU A3 hB hB1 hbb hS hP hrl hV hvE g hsm hpr hT1 hT2 hT3 (by omega) hlen).mono ?_ ?_
  · rintro H' ⟨x, c', us', y1, y2, y3, y4, y5, y6, y7, y8, y9, y10, y11, y12⟩
    have hfu : FrU H H' := fun a ha => y12 a (by omega) (by omega)
    have hE : wr = true → ∃ b, lgs[lgs.length - 1]? = some b ∧ Ers c' (b * 2048 + tp) (b * 2048 + 2048) := fun e => by
      obtain ⟨b, b1, b2⟩ := hW e
      refine ⟨b, b1, fun q q1 q2 => ?_⟩
      have hbm := List.mem_of_getElem? b1
      rw [y9 q (h2 b hbm q (by omega)) (by rw [show q / 2048 = b by omega]; exact hus b hbm)]
      exact b2 q q1 q2
    obtain ⟨gs', G1, G2⟩ := FrW.open0 htp hE
    refine ⟨x, c', us', gs', y1, y2, y5, ⟨y6, y7, y8, G1, htp, by split <;> omega, y10, fun v hv => ?_, g.frU hfu, ?_⟩, G2, y9, hfu⟩
    · obtain ⟨w, hw, e⟩ := mem_told hv
      rw [e]
      refine ⟨?_, (hR w hw).2⟩
      cases hl : w.2.2.2.1 with
      | none => exact fun n hn => by rw [show (toldV w).2.2.2.1 = w.2.2.2.1 from rfl, hl] at hn; cases hn
      | some n =>
        have hin := ((hR w hw).1 n hl).2.2
        exact ((hR w hw).1.far rfl rfl rfl rfl (fun q hq => y9 q (h2 _ hin q hq) (by rw [hq]; exact hus _ hin)) (fun x hx => hx)).1
    · refine ⟨(y12 190 (by decide) (by decide)).trans A1, ⟨lm, 0, A2, y11⟩, A4.imp (fun g hg => (y12 192 (by decide) (by decide)).trans hg), A5.imp (fun g hg => (y12 193 (by decide) (by decide)).trans hg), A6.imp (fun g hg => (y12 194 (by decide) (by decide)).trans hg), A7.imp (fun g hg => ⟨(y12 137 (by decide) (by decide)).trans hg.1, hg.2⟩), A8.far (fun a a1 a2 => y12 a (by omega) (by omega)), A9.far (y12 138 (by decide) (by decide)) (y12 139 (by decide) (by decide)), A10.imp (fun g hg => (y12 141 (by decide) (by decide)).trans hg)⟩
  · rintro H' ⟨c', y1, y2, y3, ⟨bf', y4⟩, y5⟩
    have hfu : FrU H H' := fun a ha => y5 a (by omega) (by omega)
    refine ⟨c', ⟨y1, hO0, hF0.far (fun q hq => y2 q (h20 _ hq q rfl) (hus0 _ hq)), hff0, ⟨vs, y3⟩, g.frU hfu, ?_⟩, y2, hfu⟩
    exact ⟨(y5 190 (by decide) (by decide)).trans A1, ⟨lm, bf', A2, y4⟩, A4.imp (fun g hg => (y5 192 (by decide) (by decide)).trans hg), A5.imp (fun g hg => (y5 193 (by decide) (by decide)).trans hg), A6.imp (fun g hg => (y5 194 (by decide) (by decide)).trans hg), A7.imp (fun g hg => ⟨(y5 137 (by decide) (by decide)).trans hg.1, hg.2⟩), A8.far (fun a a1 a2 => y5 a (by omega) (by omega)), A9.far (y5 138 (by decide) (by decide)) (y5 139 (by decide) (by decide)), A10.imp (fun g hg => (y5 141 (by decide) (by decide)).trans hg)⟩
/-- the last log stays the last, where another goes -/
theorem last_erase {l : List Nat} {i b : Nat} (hi : i + 1 < l.length) (hb : l[l.length - 1]? = some b) : (l.eraseIdx i)[(l.eraseIdx i).length - 1]? = some b := by
  rw [List.length_eraseIdx_of_lt (by omega), List.getElem?_eraseIdx, if_neg (by omega), show l.length - 1 - 1 + 1 = l.length - 1 by omega]
  exact hb
theorem LsOk.erase {B : Nat} {lgs : List Nat} {rs : List aR} {i : Nat} (h : LsOk B lgs rs) : LsOk B (lgs.eraseIdx i) rs := ⟨fun x hx => h.1 x ((List.eraseIdx_sublist lgs i).subset hx), h.2.1, h.2.2.sublist ((List.eraseIdx_sublist lgs i).append (List.Sublist.refl _))⟩
theorem usedB_erase {lgs : List Nat} {rs : List aR} {i b : Nat} (h : usedB lgs rs b = false) : usedB (lgs.eraseIdx i) rs b = false := by
  cases e : usedB (lgs.eraseIdx i) rs b with
  | false => rfl
  | true =>
    rw [← h]
    refine (usedB_iff.mpr ?_).symm
    rcases usedB_iff.mp e with e | e | e
    · exact Or.inl e
    · exact Or.inr (Or.inl ((List.eraseIdx_sublist lgs i).subset e))
    · exact Or.inr (Or.inr e)
theorem Dk.drop {H : aH} {B bb S : Nat} {lgs : List Nat} {fr ff : Nat} {wr : Bool} {tp : Nat} {rs : List aR} {us : Nat → Bool} {c : Nat → Int8} {P0 fr0 ff0 : Nat} {lgs0 : List Nat} {rs0 : List aR} {i : Nat} (h : Dk H B bb S lgs fr ff wr tp rs us c P0 fr0 ff0 lgs0 rs0) (hi : i < lgs.length) (hw : wr = true → i + 1 < lgs.length) : ∃ lg ms mt sq tu, LayAt H (layF B lgs.length fr ff wr tp rs.length ms mt sq tu 0 0) B us lg ∧ lgs.length ≤ B ∧ Dk ((H.set 87 (kI B (cpyI (fun j => nI (lg j)) (i + 1) (fun j => nI (lg j)) i (lgs.length - 1 - i)))).set 83 (kO 3 (layF B (lgs.length - 1) fr ff wr tp rs.length ms mt sq tu 0 0))) B bb S (lgs.eraseIdx i) fr ff wr tp rs us c P0 fr0 ff0 lgs0 rs0 := by
  obtain ⟨tf, pq, ms, mt, sq, tu, h1, h2, h3, h4, h5, h6, h7, h8, ⟨g1, h9⟩, ⟨g2, h10⟩, ⟨g3, h11⟩⟩ := h
  have hlc : lgs.length ≤ B := by obtain ⟨_, _, _, _, q, _⟩ := h1; exact q
  obtain ⟨lg, hY, hL⟩ := h1.drop hi
  refine ⟨lg, ms, mt, sq, tu, hY, hlc, tf, pq, ms, mt, sq, tu, hL, h2.far (fun a a1 a2 => (set_far (by omega)).trans (set_far (by omega))), h3, h4, h5, h6, h7, fun e x hx => ?_, ⟨g1, (set_far (by decide)).trans ((set_far (by decide)).trans h9)⟩, ⟨g2, (set_far (by decide)).trans ((set_far (by decide)).trans h10)⟩, ⟨g3, (set_far (by decide)).trans ((set_far (by decide)).trans h11)⟩⟩
  have hi2 := hw e
  obtain ⟨y, hy⟩ := lt_get (l := lgs) (i := lgs.length - 1) (by omega)
  have := last_erase hi2 hy
  rw [this] at hx
  rw [← Option.some.inj hx]
  exact h8 e y hy
theorem Dk.seal {H : aH} {B bb S : Nat} {lgs : List Nat} {fr ff : Nat} {wr : Bool} {tp : Nat} {rs : List aR} {us : Nat → Bool} {c : Nat → Int8} {P0 fr0 ff0 : Nat} {lgs0 : List Nat} {rs0 : List aR} (h : Dk H B bb S lgs fr ff wr tp rs us c P0 fr0 ff0 lgs0 rs0) : ∃ lg ms mt sq tu, LayAt H (layF B lgs.length fr ff wr tp rs.length ms mt sq tu 0 0) B us lg ∧ Dk (H.set 83 (kO 3 (layF B lgs.length 0 ff false tp rs.length ms mt sq tu 0 0))) B bb S lgs 0 ff false tp rs us c P0 fr0 ff0 lgs0 rs0 := by
  obtain ⟨tf, pq, ms, mt, sq, tu, h1, h2, h3, h4, h5, h6, h7, h8, ⟨g1, h9⟩, ⟨g2, h10⟩, ⟨g3, h11⟩⟩ := h
  obtain ⟨lg, pi, hY, hlg, hlc, hR⟩ := h1
  refine ⟨lg, ms, mt, sq, tu, hY, tf, pq, ms, mt, sq, tu, ⟨lg, pi, ⟨get_set hY.1, (set_far (by decide)).trans hY.2.1, (set_far (by decide)).trans hY.2.2⟩, hlg, hlc, hR.far2 (set_far (by decide)) (fun a a1 a2 => set_far (by omega))⟩, h2.far (fun a a1 a2 => set_far (by omega)), h3, h4, h5, h6, h7, fun e => Bool.noConfusion e, ⟨g1, (set_far (by decide)).trans h9⟩, ⟨g2, (set_far (by decide)).trans h10⟩, ⟨g3, (set_far (by decide)).trans h11⟩⟩
