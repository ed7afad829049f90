/-! ===== a log is cleared, and all still agrees; class; written by wip/gen/wclear.py ===== -/
theorem kmV_mvL {blk : Option Nat} {Q : Nat → Nat} : ∀ (vs : List aV) (i : Nat), kmV (mvL blk Q i vs) = kmV vs
  | [], _ => rfl
  | v :: vs, i => by
    show ((mvV blk Q i v).1, (mvV blk Q i v).2.1) :: kmV (mvL blk Q (i + 1) vs) = (v.1, v.2.1) :: kmV vs
    rw [kmV_mvL vs (i + 1)]
    congr 1
    unfold mvV
    split <;> rfl
theorem srt_km {vs : List aV} : SrtV vs ↔ (kmV vs).Pairwise (fun a b => cmpL a.1 b.1 < 0 ∨ a.1 = b.1 ∧ b.2 < a.2) := (List.pairwise_map (f := fun v : aV => (v.1, v.2.1)) (R := fun a b => cmpL a.1 b.1 < 0 ∨ a.1 = b.1 ∧ b.2 < a.2)).symm
theorem SrtV.mv {vs : List aV} {blk : Option Nat} {Q : Nat → Nat} (h : SrtV vs) : SrtV (mvL blk Q 0 vs) := by
  rw [srt_km, kmV_mvL, ← srt_km]
  exact h
theorem mvV_same {blk : Option Nat} {Q : Nat → Nat} {j : Nat} {v : aV} : (mvV blk Q j v).1 = v.1 ∧ (mvV blk Q j v).2.1 = v.2.1 ∧ (mvV blk Q j v).2.2.2.1 = v.2.2.2.1 ∧ ((mvV blk Q j v).2.2.2.2 = true ∨ mvV blk Q j v = v) := by
  unfold mvV
  split
  · exact ⟨rfl, rfl, rfl, Or.inl rfl⟩
  · exact ⟨rfl, rfl, rfl, Or.inr rfl⟩
theorem mvV_none {blk : Option Nat} {Q : Nat → Nat} {j : Nat} {v : aV} (h : v.2.2.2.1 = none) : mvV blk Q j v = v := by
  unfold mvV
  rw [if_neg (fun e => by unfold inB at e; exact (of_decide_eq_true e).1 h)]
theorem WTab.mv {vs : List aV} {es : List aT} {blk : Option Nat} {Q : Nat → Nat} (hT : WTab vs es) : WTab (mvL blk Q 0 vs) es := by
  obtain ⟨a1, a2, a3⟩ := hT
  have hin : ∀ v ∈ vs, ∃ w ∈ mvL blk Q 0 vs, w.1 = v.1 ∧ w.2.1 = v.2.1 := fun v hv => by
    obtain ⟨j, hj⟩ := List.getElem?_of_mem hv
    exact ⟨mvV blk Q j v, List.mem_of_getElem? (by rw [mvL_get hj, Nat.zero_add]), mvV_same.1, mvV_same.2.1⟩
  refine ⟨fun w hw hb => ?_, fun e he w hw hk => ?_, fun e he hno => a3 e he (fun v hv hk => ?_)⟩
  · obtain ⟨j, v, hv, e⟩ := mem_mvL hw
    rcases (mvV_same (blk := blk) (Q := Q) (j := j) (v := v)).2.2.2 with q | q
    · rw [e, q] at hb; exact Bool.noConfusion hb
    · rw [q] at e
      rw [e] at hb ⊢
      exact a1 v (List.mem_of_getElem? hv) hb
  · obtain ⟨j, v, hv, e1⟩ := mem_mvL hw
    obtain ⟨u, hu, hue, hum⟩ := a2 e he v (List.mem_of_getElem? hv) (by rw [← hk, e1]; exact mvV_same.1.symm)
    obtain ⟨u', h1, h2, h3⟩ := hin u hu
    exact ⟨u', h1, h2.trans hue, by rw [h3]; exact hum⟩
  · obtain ⟨w, h1, h2, -⟩ := hin v hv
    exact hno w h1 (h2.trans hk)
theorem tl_run {B : Nat} {lgs : List Nat} {rs : List aR} {wr : Bool} {tp q : Nat} (hO : LsOk B lgs rs) {y : aR} (hy : y ∈ rs) (hb : q / 2048 ∈ y.2.2.2) : Tl lgs rs wr tp q := by
  refine ⟨by have := ((hO.2.1 y hy).2.2.2 _ hb).1; omega, usedB_iff.mpr (Or.inr (Or.inr ⟨y, hy, hb⟩)), fun e => ?_⟩
  have h1 := List.mem_of_getElem? e.2.1
  exact (List.nodup_append.mp hO.2.2).2.2 _ h1 _ (List.mem_flatMap.mpr ⟨y, hy, hb⟩) rfl
theorem runs_tl {B : Nat} {lgs : List Nat} {rs : List aR} {wr : Bool} {tp : Nat} (hO : LsOk B lgs rs) {c c' : Nat → Int8} {tss : List (List aT)} (hR : RsOk c B rs tss) (hc : ∀ q, Tl lgs rs wr tp q → c' q = c q) : RsOk c' B rs tss := hR.far (fun y hy b hb q hq => hc q (tl_run hO hy (by rw [hq]; exact hb)))
theorem recs_tl {B : Nat} {lgs lgs' : List Nat} {rs : List aR} {wr : Bool} {tp : Nat} (hO : LsOk B lgs rs) {c c' : Nat → Int8} {v : aV} (hR : RecX c lgs wr tp v) (hc : ∀ q, Tl lgs rs wr tp q → c' q = c q) (hl : ∀ x ∈ lgs, x ∈ lgs') : RecW c' lgs' v ∧ (v.2.2.2.1 ≠ none → valB c' v = valB c v) := hR.1.far2 rfl rfl rfl rfl (fun n hn q q1 q2 => hc q (hR.tl hO hn q q1 q2)) (fun e => by
  cases h : v.2.2.2.1 with
  | none => exact absurd h e
  | some n => exact hl _ (hR.1 n h).2.2)
/-- nothing in memory alone: the log has nothing to tell -/
theorem StW.noL {ky : List (List Nat)} {B P P1 : Nat} {rs : List aR} {gs : List aSg} {c : Nat → Int8} {vs : List aV} {tss : List (List aT)} {L : List aCh} (h : StW ky B P P1 rs gs c vs tss L) (hna : ∀ v ∈ vs, v.2.2.2.2 = false) : L = [] := by
  cases L with
  | nil => rfl
  | cons x t =>
    exfalso
    have hx := (h.2.2.2.2.2.2.2.2 x List.mem_cons_self).2
    obtain ⟨e, he⟩ := lt_get (l := x.2.2.1) (i := 0) (by omega)
    have hu : (e.1, x.1, x.2.1 (0 + 0), e.2.map List.length, true) ∈ (x :: t).flatMap chV := List.mem_flatMap.mpr ⟨x, List.mem_cons_self, mem_verB.mpr ⟨0, e, he, rfl⟩⟩
    obtain ⟨y, y1, y2, y3⟩ := max_ex (fun y : aV => y.1 = e.1) (fun y => y.2.1) ((x :: t).flatMap chV) ⟨_, hu, rfl⟩
    have hn := h.2.2.2.1.2.2.2.1 y y1 (fun z hz hk => y3 z hz (hk.trans y2))
    have := hna y hn.1
    rw [chV_alone y1] at this
    exact Bool.noConfusion this
set_option maxRecDepth 20000 in
theorem cl_W {ky : List (List Nat)} {sc : Nat × (Nat → Int32)} {d N P K T : Nat} {H : aH} {B bb S : Nat} {op : Nat → Bool} {sm : Nat → Nat} {lgs : List Nat} {fr ff : Nat} {wr : Bool} {tp : Nat} {rs : List aR} {us : Nat → Bool} {c : Nat → Int8} {P1 : Nat} {gs : List aSg} {vs : List aV} {tss : List (List aT)} (h : UpS H B N bb S op sm lgs fr ff wr tp rs us c P1 gs vs) (hW : StW ky B P P1 rs gs c vs tss []) (hna : ∀ v ∈ vs, v.2.2.2.2 = false) (hsm : ∀ t, t < 8 → sm t < 2 ^ 31) (hB : B ≤ 128) (hB1 : 3 ≤ B) (hbb : bb % 2 ^ 32 < 2 ^ 31) (hP : P < 2 ^ 30) (hrl : rs.length < 24) (hld : ∀ b, ldN vs b < 2 ^ 31) (hvl : vs.length < 65536) (hK : ∀ i blk, ltF (fun i => ldN vs (lgs.getD i 0)) (fun _ => true) lgs.length = some i → lgs[i]? = some blk → (∀ w, opnN w tp (mvS (some blk) vs) ≤ K) ∧ mvB (some blk) vs ≤ 2048 * T) (hKT : K + T ≤ frL B lgs rs) (hT64 : T ≤ 64) (hlK : lgs.length + K ≤ B) (hlen : 13 + (lgs.length + K) + (8 + T) + (rs.flatMap encR).length ≤ 2043) (hS : S + 1 < 2 ^ 31) : RQ sc (d + 6) mr_140 19 [(0, .ref 191), (1, .int (nI P))] [] H 0 0 (EQ (fun H' => ((lgs = [] ∧ UpS H' B N bb S op sm lgs fr ff wr tp rs us c P1 gs vs) ∨ (∃ i blk Q lgs1 l1 wr1 tp1 x c' us' gs', ltF (fun i => ldN vs (lgs.getD i 0)) (fun _ => true) lgs.length = some i ∧ lgs[i]? = some blk ∧ lgs1 = lgs ++ l1 ∧ l1.length ≤ K ∧ x.1 = 0 ∧ x.2.2.2.length * 2048 < mvB (some blk) vs + 2048 ∧ RunOk c' B x (aloneE (mvL (some blk) Q 0 vs)) ∧ UpS H' B N bb (S + 1) op sm (lgs1.eraseIdx i) (if wr1 then 1 else 0) (if wr1 then tp1 else 0) wr1 tp1 ((if 0 < x.2.1 then [x] else []) ++ rs) us' c' P gs' (((mvL (some blk) Q 0 vs).map toldV).filter (keepS op sm P (kmV ((mvL (some blk) Q 0 vs).map toldV)))) ∧ StW ky B P P ((if 0 < x.2.1 then [x] else []) ++ rs) gs' c' (((mvL (some blk) Q 0 vs).map toldV).filter (keepS op sm P (kmV ((mvL (some blk) Q 0 vs).map toldV)))) (opt (aloneE (mvL (some blk) Q 0 vs)) ++ tss) [] ∧ (∀ q, Tl lgs rs wr tp q → c' q = c q) ∧ (∀ j v, vs[j]? = some v → v.2.2.2.1 ≠ none → valB c' (mvV (some blk) Q j v) = valB c v))) ∧ FrU H H') (fun H' => (∃ c', FaS ky H' B N bb S op sm P c' lgs rs vs tss [] ∧ ∀ q, Tl lgs rs wr tp q → c' q = c q) ∧ FrU H H')) := by
  obtain ⟨hD, hO, hus, hF, htp, hff, hV, hRX, g, hA⟩ := id h
  obtain ⟨w1, w2, w3, w4, w5, w6, w7, w8, w9⟩ := id hW
  have hsrt := hV.srtV
  have w6 : P1 = P := w6
  refine (cl_tail (d := d) (pr := P) (K := K) (T := T) h w5 hna hsm (fun v hv => (w7 v hv).1) (fun v hv => by have := (w7 v hv).1; omega) hB hB1 hbb (by omega) hrl hW.vE (fun v hv => (w7 v hv).2.1.w) hld hvl hK hKT hT64 hlK hlen hS).mono ?_
  rintro r (⟨H', e, hy, hfu⟩ | ⟨H', e, hy, hfu⟩)
  · refine Or.inl ⟨H', e, ?_, hfu⟩
    rcases hy with ⟨y1, y2⟩ | ⟨i, blk, Q, lgs1, l1, wr1, tp1, x, c', us', gs', z1, z2, z3, z4, z6, z7, z8, z9, z10, z11, z12⟩
    · exact Or.inl ⟨y1, y2⟩
    · have hms := hsrt.mv (blk := some blk) (Q := Q)
      have hmp : ∀ u ∈ mvL (some blk) Q 0 vs, u.2.1 ≤ P := fun u hu => by
        obtain ⟨j, v, hv, e2⟩ := mem_mvL hu
        rw [e2, mvV_same.2.1]
        exact (w7 v (List.mem_of_getElem? hv)).1
      have hmk : ∀ u ∈ mvL (some blk) Q 0 vs, u.1 ∈ ky := fun u hu => by
        obtain ⟨j, v, hv, e2⟩ := mem_mvL hu
        rw [e2, mvV_same.1]
        exact (w7 v (List.mem_of_getElem? hv)).2.2.2
      obtain ⟨q1, q2⟩ := W.spill (op := op) (sm := sm) (pr := P) (w3.mv (blk := some blk) (Q := Q)) hms.one hmp
      have hfl : (opt (aloneE (mvL (some blk) Q 0 vs)) ++ tss).flatten = aloneE (mvL (some blk) Q 0 vs) ++ tss.flatten := by rw [List.flatten_append, opt_flat]
      refine Or.inr ⟨i, blk, Q, lgs1, l1, wr1, tp1, x, c', us', gs', z1, z2, z3, z4, z7, z8, z6, z9, ⟨(run_opt z6).app (runs_tl hO w1 z11), fun t ht => ?_, by rw [hfl]; exact q1, by rw [hfl]; exact q2, z10, rfl, fun v hv => ?_, fun e2 he => ?_, fun u hu => absurd hu List.not_mem_nil⟩, z11, z12⟩
      · rcases List.mem_append.mp ht with q | q
        · unfold opt at q
          split at q
          · exact absurd q List.not_mem_nil
          · rw [List.mem_singleton.mp q]; exact hms.alone
        · exact w2 t q
      · obtain ⟨w, hw, e2⟩ := mem_told hv
        obtain ⟨j, u, hu, e3⟩ := mem_mvL hw
        obtain ⟨a1, a2, a3⟩ := w7 u (List.mem_of_getElem? hu)
        have hs := mvV_same (blk := some blk) (Q := Q) (j := j) (v := u)
        have hk : KeyV v := a2.same (by rw [e2, e3]; exact hs.1) (by rw [e2, e3]; exact hs.2.2.1)
        refine ⟨by rw [e2, e3]; exact (show (mvV (some blk) Q j u).2.1 ≤ P by rw [hs.2.1]; exact a1), hk, ?_, by rw [e2, e3]; exact (show (mvV (some blk) Q j u).1 ∈ ky by rw [hs.1]; exact a3.2)⟩
        cases hl : v.2.2.2.1 with
        | none =>
          have hun : u.2.2.2.1 = none := by rw [← hs.2.2.1, ← e3]; rw [e2] at hl; exact hl
          rw [e2, e3, mvV_none hun]
          exact a3.1
        | some n =>
          have hin := ((z9.2.2.2.2.2.2.2.1 v hv).1 n hl).2.2
          have := (z9.2.1.1 _ hin).2
          omega
      · rw [hfl] at he
        rcases List.mem_append.mp he with q | q
        · obtain ⟨u, hu, -, hue⟩ := mem_alone.mp q
          rw [← hue]
          exact ⟨hmp u hu, hmk u hu⟩
        · exact w8 e2 q
  · refine Or.inr ⟨H', e, ?_, hfu⟩
    obtain ⟨c', gs0, z1, z5, z6⟩ := hy
    exact ⟨c', ⟨P1, fr, ff, gs0, gs0.flatMap flG, z1, runs_tl hO w1 z6, w2, w3, w4, rfl, ⟨fun m0 vs0 => by rw [rp_moved _ _ z5], fun x hx => Or.inl (z5 x hx)⟩, w6, w7, w8, w9, hsrt.one, fun v hv => (recs_tl hO (hRX v hv) z6 (fun x hx => hx)).1⟩, z6⟩
