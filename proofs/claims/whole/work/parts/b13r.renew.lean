/-! ===== a renewal, and all agrees again; class; by hand ===== -/
def alV (v : aV) : aV := (v.1, v.2.1, v.2.2.1, v.2.2.2.1, true)
theorem kmV_alV : ∀ (vs : List aV), kmV (vs.map alV) = kmV vs
  | [] => rfl
  | v :: vs => by
    show ((alV v).1, (alV v).2.1) :: kmV (vs.map alV) = (v.1, v.2.1) :: kmV vs
    rw [kmV_alV vs]
    rfl
theorem alone_alV : ∀ (vs : List aV), aloneE (vs.map alV) = vs.map entV
  | [] => rfl
  | v :: vs => by
    have ih := alone_alV vs
    have e : aloneE ((v :: vs).map alV) = aloneE [alV v] ++ aloneE (vs.map alV) := aloneE_app (a := [alV v])
    rw [e, ih]
    rfl
theorem told_alV : ∀ (vs : List aV), (vs.map alV).map toldV = vs.map toldV
  | [] => rfl
  | v :: vs => by
    show toldV (alV v) :: (vs.map alV).map toldV = toldV v :: vs.map toldV
    rw [told_alV vs]
    rfl
theorem wtab_alV {vs : List aV} : WTab (vs.map alV) [] := ⟨fun v hv e => by
  obtain ⟨w, -, rfl⟩ := List.mem_map.mp hv
  exact Bool.noConfusion e, fun e he => absurd he List.not_mem_nil, fun e he => absurd he.1.mem List.not_mem_nil⟩
theorem SrtV.alV {vs : List aV} (h : SrtV vs) : SrtV (vs.map alV) := by
  rw [srt_km, kmV_alV, ← srt_km]
  exact h
theorem SrtV.told {vs : List aV} {p : aV → Bool} (h : SrtV vs) : SrtV ((vs.map toldV).filter p) := by
  refine List.Pairwise.filter p ?_
  rw [List.pairwise_map]
  exact h
/-- a table of all that memory tells -/
theorem W.all {op : Nat → Bool} {sm : Nat → Nat} {pr : Nat} {ws : List aV} (hs : SrtV ws) (hpr : ∀ u ∈ ws, u.2.1 ≤ pr) : WTab ((ws.map toldV).filter (keepS op sm pr (kmV (ws.map toldV)))) (ws.map entV) ∧ WLog ((ws.map toldV).filter (keepS op sm pr (kmV (ws.map toldV)))) (ws.map entV) [] ∧ SortE (ws.map entV) := by
  have h := W.spill (op := op) (sm := sm) (pr := pr) (wtab_alV (vs := ws)) hs.alV.one (fun u hu => by
    obtain ⟨w, hw, rfl⟩ := List.mem_map.mp hu
    exact hpr w hw)
  rw [alone_alV, List.append_nil, told_alV] at h
  refine ⟨h.1, h.2, ?_⟩
  rw [← alone_alV]
  exact hs.alV.alone
theorem rnW_mem {op : Nat → Bool} {sm : Nat → Nat} {pr : Nat} {Q : Nat → Nat} {vs : List aV} {w : aV} (hw : w ∈ rnW op sm pr Q vs) : ∃ j v, vs[j]? = some v ∧ w = toldV (mvV none Q j v) := by
  obtain ⟨u, hu, e⟩ := mem_told hw
  obtain ⟨j, v, hv, e2⟩ := mem_mvL hu
  exact ⟨j, v, hv, by rw [e, e2]⟩
/-- what memory tells behind the table of a renewal -/
def rnV (op : Nat → Bool) (sm : Nat → Nat) (pr : Nat) (Q : Nat → Nat) (vs : List aV) : List aV := ((rnW op sm pr Q vs).map toldV).filter (keepS op sm pr (kmV ((rnW op sm pr Q vs).map toldV)))
set_option maxRecDepth 20000 in
theorem re_renewW {ky : List (List Nat)} {sc : Nat × (Nat → Int32)} {d N P T : Nat} {H : aH} {B bb S : Nat} {op : Nat → Bool} {sm : Nat → Nat} {lgs : List Nat} {fr ff : Nat} {wr : Bool} {tp : Nat} {rs : List aR} {us : Nat → Bool} {c : Nat → Int8} {P0 fr0 ff0 : Nat} {lgs0 : List Nat} {rs0 : List aR} {gs0 : List aSg} {vs vg : List aV} {tss : List (List aT)} {L : List aCh} {jk : List (Nat × aRd)} (h : Dk H B bb S lgs fr ff wr tp rs us c P0 fr0 ff0 lgs0 rs0) (hO : LsOk B lgs rs) (hO0 : LsOk B lgs0 rs0) (hU : ∀ b, b < B → us b = false → usedB lgs rs b = false ∧ usedB lgs0 rs0 b = false) (hF0 : FrC c lgs0 fr0 ff0 gs0) (hff0 : ff0 ≤ 2048) (hff : ff ≤ 2048) (htp : tp ≤ 2048) (hV : VersIs H N vs) (hR : ∀ v ∈ vs, RecX c lgs wr tp v) (hsi : SightAt H op sm) (hsm : ∀ t, t < 8 → sm t < 2 ^ 31) (hK : ∀ v ∈ vs, VOk ky P v) (hA : AuxA H B N) (hB : B ≤ 128) (hB1 : 3 ≤ B) (hbb : bb % 2 ^ 32 < 2 ^ 31) (hS : S + 1 < 2 ^ 31) (hP : P < 2 ^ 30) (hrl : rs.length < 24) (hdue : (mvS none vs).sum ≤ sumN op sm (-1) P (kmV vs) vs) (hd31 : sumN op sm (-1) P (kmV vs) vs < 2 ^ 31) (hvl : vs.length < 65536) (hKT : opnN false tp (mvS none vs) + T ≤ freeN us B) (hT : ∀ Q, ((rnW op sm P Q vs).map fK).sum ≤ 2048 * T) (hT64 : T ≤ 64) (hlK : lgs.length + opnN false tp (mvS none vs) ≤ B) (hRs : RsOk c B rs0 tss) (hst : ∀ t ∈ tss, SortE t) (hep : ∀ e ∈ tss.flatten, EP ky P e) (hg : WTab vg tss.flatten ∧ WLog vg tss.flatten L ∧ gs0.flatMap flG = L.flatMap chX ++ jk ∧ JkS ky jk ∧ L.foldl (fun _ x => x.1) P0 = P ∧ (∀ v ∈ vg, VOk ky P v) ∧ (∀ x ∈ L, LgP ky P x) ∧ OneV vg ∧ ∀ v ∈ vg, RecW c lgs0 v) : RE sc (d + 5) mr_333 [.ref 191, .int (nI P)] H (fun H' => ∃ Q l1 wr1 tp1 x c' us' gs', l1.length = opnN false tp (mvS none vs) ∧ x.1 = 3 ∧ x.2.2.2.length * 2048 < ((rnW op sm P Q vs).map fK).sum + 2048 ∧ RunOk c' B x ((rnW op sm P Q vs).map entV) ∧ UpS H' B N bb (S + 1) op sm l1 (if wr1 then 1 else 0) (if wr1 then tp1 else 0) wr1 tp1 (if 0 < x.2.1 then [x] else []) us' c' P gs' (rnV op sm P Q vs) ∧ StW ky B P P (if 0 < x.2.1 then [x] else []) gs' c' (rnV op sm P Q vs) (opt ((rnW op sm P Q vs).map entV)) [] ∧ (∀ j v, vs[j]? = some v → v.2.2.2.1 ≠ none → valB c' (mvV none Q j v) = valB c v) ∧ FrU H H') (fun H' => ∃ c', FaS ky H' B N bb S op sm P c' lgs0 rs0 vg tss L ∧ (∀ q, 4096 ≤ q → usedB lgs0 rs0 (q / 2048) = true → c' q = c q) ∧ FrU H H') := by
  have hsrt := hV.srtV
  refine (re_renew (d := d) (pr := P) (T := T) h hO hO0 hU hF0 hff0 hff htp hV hR hsi hsm (fun v hv => (hK v hv).1) hA hB hB1 hbb hS (by omega) hrl (fun v hv => ⟨(hK v hv).2.2.1, by have := (hK v hv).2.1.len; omega⟩) (fun v hv => (hK v hv).2.1.w) hdue hd31 hvl hKT hT hT64 hlK).mono ?_ ?_
  · rintro H' ⟨Q, l1, wr1, tp1, x, c', us', gs', y1, y2, y3, y4, y5, y6, y7, y8⟩
    have hws : SrtV (rnW op sm P Q vs) := (hsrt.mv (blk := none) (Q := Q)).told
    have hwp : ∀ u ∈ rnW op sm P Q vs, u.2.1 ≤ P := fun u hu => by
      obtain ⟨j, v, hv, e⟩ := rnW_mem hu
      rw [e]
      show (mvV none Q j v).2.1 ≤ P
      rw [mvV_same.2.1]
      exact (hK v (List.mem_of_getElem? hv)).1
    have hwk : ∀ u ∈ rnW op sm P Q vs, u.1 ∈ ky := fun u hu => by
      obtain ⟨j, v, hv, e⟩ := rnW_mem hu
      rw [e]
      show (mvV none Q j v).1 ∈ ky
      rw [mvV_same.1]
      exact (hK v (List.mem_of_getElem? hv)).2.2.2
    obtain ⟨q1, q2, q3⟩ := W.all (op := op) (sm := sm) (pr := P) hws hwp
    have hfl : (opt ((rnW op sm P Q vs).map entV)).flatten = (rnW op sm P Q vs).map entV := opt_flat
    refine ⟨Q, l1, wr1, tp1, x, c', us', gs', y1, y3, y4, y2, y5, ⟨run_opt y2, fun t ht => ?_, by rw [hfl]; exact q1, by rw [hfl]; exact q2, y6, rfl, fun v hv => ?_, fun e he => ?_, fun u hu => absurd hu List.not_mem_nil⟩, fun j v hv => (y7 j v hv).2, y8⟩
    · unfold opt at ht
      split at ht
      · exact absurd ht List.not_mem_nil
      · rw [List.mem_singleton.mp ht]; exact q3
    · obtain ⟨w, hw, e2⟩ := mem_told hv
      obtain ⟨j, u, hu, e3⟩ := rnW_mem hw
      obtain ⟨a1, a2, a3⟩ := hK u (List.mem_of_getElem? hu)
      have hs := mvV_same (blk := none) (Q := Q) (j := j) (v := u)
      have e4 : v = toldV (mvV none Q j u) := by rw [e2, e3]; rfl
      have hk : KeyV v := a2.same (by rw [e4]; exact hs.1) (by rw [e4]; exact hs.2.2.1)
      refine ⟨by rw [e4]; exact (show (mvV none Q j u).2.1 ≤ P by rw [hs.2.1]; exact a1), hk, ?_, by rw [e4]; exact (show (mvV none Q j u).1 ∈ ky by rw [hs.1]; exact a3.2)⟩
      cases hl : v.2.2.2.1 with
      | none =>
        have hun : u.2.2.2.1 = none := by rw [← hs.2.2.1]; rw [e4] at hl; exact hl
        rw [e4, mvV_none hun]
        exact a3.1
      | some n =>
        have hin := ((y5.2.2.2.2.2.2.2.1 v hv).1 n hl).2.2
        have := (y5.2.1.1 _ hin).2
        omega
    · rw [hfl] at he
      obtain ⟨w, hw, rfl⟩ := List.mem_map.mp he
      exact ⟨hwp w hw, hwk w hw⟩
  · rintro H' ⟨c', y1, y2, y3⟩
    have hc : ∀ q, 4096 ≤ q → usedB lgs0 rs0 (q / 2048) = true → c' q = c q := fun q hq hu => y2 q hq (used_us hU (usedLt hO0 hu hB1) (Or.inr hu))
    obtain ⟨g1, g2, g3, g4, g5, g6, g7, g8, g9⟩ := hg
    exact ⟨c', ⟨P0, fr0, ff0, gs0, jk, y1, runs_used hO0 hRs hc, hst, g1, g2, g3, g4, g5, g6, hep, g7, g8, fun v hv => (recs_used hO0 (g9 v hv) hc).1⟩, hc, y3⟩
