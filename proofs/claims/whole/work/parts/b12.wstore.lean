/-! ===== a change is stored, and all still agrees; class; by hand ===== -/
theorem fr_mem {c : Nat → Int8} {lgs : List Nat} {fr ff B : Nat} {gs : List aSg} {rs : List aR} (hF : FrC c lgs fr ff gs) (hO : LsOk B lgs rs) {x : Nat × aRd} (hx : x ∈ gs.flatMap flG) : sl c x.1 (encL x.2).length = encL x.2 ∧ LOk x.2 ∧ x.1 / 2048 ∈ lgs ∧ x.1 % 2048 + (encL x.2).length ≤ 2048 ∧ x.1 < B * 2048 ∧ ∃ s ∈ gs, s.1 = x.1 / 2048 ∧ x.1 % 2048 + (encL x.2).length ≤ endG s ∧ s.2.1 ≤ x.1 % 2048 := by
  obtain ⟨s, hs, hxs⟩ := List.mem_flatMap.mp hx
  obtain ⟨c1, c2, -⟩ := hF.2.2.2.2 s hs
  obtain ⟨m1, m2, m3, m4⟩ := c1.mem hxs
  have hl := encL_len x.2
  have he : endG s = s.2.1 + lenL s.2.2 := rfl
  have hm : s.1 ∈ lgs := by
    have : s.1 ∈ gs.map (fun s => s.1) := List.mem_map.mpr ⟨s, hs, rfl⟩
    rw [hF.2.2.1] at this
    exact List.mem_of_mem_drop this
  have hB := (hO.1 _ hm).2
  have hq : x.1 / 2048 = s.1 := by omega
  exact ⟨m1, m2, by rw [hq]; exact hm, by omega, by omega, s, hs, hq.symm, by omega, by omega⟩
theorem fr_last {c : Nat → Int8} {lgs : List Nat} {fr ff tp B : Nat} {gs : List aSg} {rs : List aR} (hF : FrW c lgs fr ff true tp gs) (hO : LsOk B lgs rs) {x : Nat × aRd} (hx : x ∈ gs.flatMap flG) (hl : lgs[lgs.length - 1]? = some (x.1 / 2048)) : x.1 % 2048 + (encL x.2).length ≤ tp := by
  obtain ⟨-, -, -, -, -, s, hs, h1, h2, -⟩ := fr_mem hF.1 hO hx
  obtain ⟨gi, s0, g1, g2, -⟩ := hF.2 rfl
  have hF1 := hF.1
  rw [g1] at hF1 hs
  have hl0 := hF1.last.1
  rw [hl] at hl0
  have he : x.1 / 2048 = s0.1 := Option.some.inj hl0
  rcases List.mem_append.mp hs with q | q
  · exfalso
    have hn : (gi ++ [s0]).map (fun s => s.1) = lgs.drop (lgs.length - fr) := hF1.2.2.1
    have hnd : ((gi ++ [s0]).map (fun s => s.1)).Nodup := by rw [hn]; exact hO.logs.sublist (List.drop_sublist _ _)
    rw [List.map_append] at hnd
    exact (List.nodup_append.mp hnd).2.2 s.1 (List.mem_map.mpr ⟨s, q, rfl⟩) s0.1 (List.mem_map.mpr ⟨s0, List.mem_singleton.mpr rfl, rfl⟩) (h1.trans he)
  · rw [List.mem_singleton.mp q, g2] at h2
    exact h2
/-- what a change may write -/
def EntK (ky : List (List Nat)) (e : aE) : Prop := KeyV (e.1, 0, 0, e.2.map List.length, true) ∧ e.1 ∈ ky
theorem EntK.len {ky : List (List Nat)} {e : aE} (h : EntK ky e) : 1 ≤ e.1.length ∧ e.1.length ≤ 41 ∧ (e.2.getD []).length ≤ 1000 := by
  have h1 := KeyV.w h.1
  have h2 := KeyV.len h.1
  refine ⟨h1.1, h1.2.1, ?_⟩
  cases he : e.2 with
  | none => exact Nat.zero_le _
  | some l =>
    have : (e.2.map List.length).getD 0 ≤ 1000 := h2
    rw [he] at this
    exact this
/-- a record of the log, as a version -/
theorem rec_ver {c : Nat → Int8} {lgs : List Nat} {fr ff tp B m p : Nat} {gs : List aSg} {rs : List aR} {e : aE} (hF : FrW c lgs fr ff true tp gs) (hO : LsOk B lgs rs) (hx : (p, recE m e) ∈ gs.flatMap flG) : RecX c lgs true tp (e.1, m, p, e.2.map List.length, true) ∧ p < B * 2048 ∧ ∀ l, e.2 = some l → valB c (e.1, m, p, e.2.map List.length, true) = l := by
  obtain ⟨m1, m2, m3, m4, m5, -⟩ := fr_mem hF.1 hO hx
  have hlast := fr_last hF hO hx
  have hpt := encL_parts m1
  have hlen := recE_len (m := m) (e := e)
  obtain ⟨k, v⟩ := e
  cases v with
  | none => exact ⟨⟨fun n hn => (Option.some_ne_none n hn.symm).elim, fun _ n hn => (Option.some_ne_none n hn.symm).elim⟩, m5, fun l hl => (Option.some_ne_none l hl.symm).elim⟩
  | some l =>
    have hv : valB c (k, m, p, some l.length, true) = l := hpt.2.2.2.2.2.1
    have hel : (encL (recE m (k, some l))).length = 9 + k.length + l.length := by rw [hlen]; show k.length + l.length + 9 = _; omega
    refine ⟨⟨fun n hn => ?_, fun _ n hn hb => ?_⟩, m5, fun l' hl' => ?_⟩
    · have hn : l.length = n := Option.some.inj hn
      refine ⟨⟨1, Or.inl rfl, ?_⟩, ?_, m3⟩
      · show sl c p (9 + k.length + n) = encL (1, k, n, m, valB c (k, m, p, some l.length, true))
        rw [hv, ← hn, ← hel]
        exact m1
      · show p % 2048 + 9 + k.length + n ≤ 2048
        rw [hel] at m4
        have : p % 2048 + (9 + k.length + l.length) ≤ 2048 := m4
        omega
    · have hn : l.length = n := Option.some.inj hn
      have := hlast hb
      rw [hel] at this
      have : p % 2048 + (9 + k.length + l.length) ≤ tp := this
      show p % 2048 + 9 + k.length + n ≤ tp
      omega
    · rw [← Option.some.inj hl']
      exact hv
theorem adB_mem {m : Nat} {Q : Nat → Nat} : ∀ {ws : List aE} {j i : Nat} {e : aE}, ws[i]? = some e → (Q (j + i), recE m e) ∈ adB m Q j ws
  | w :: ws, j, 0, e, h => by
    have : w = e := Option.some.inj h
    rw [this]
    exact List.mem_cons_self
  | w :: ws, j, i + 1, e, h => by
    rw [show j + (i + 1) = j + 1 + i by omega]
    exact List.mem_cons_of_mem _ (adB_mem (ws := ws) h)
theorem mem_adB {m : Nat} {Q : Nat → Nat} : ∀ {ws : List aE} {j : Nat} {x : Nat × aRd}, x ∈ adB m Q j ws → ∃ e ∈ ws, x.2 = recE m e
  | [], _, _, h => absurd h List.not_mem_nil
  | w :: ws, j, x, h => by
    rcases List.mem_cons.mp h with q | q
    · exact ⟨w, List.mem_cons_self, by rw [q]⟩
    · obtain ⟨e, h1, h2⟩ := mem_adB q
      exact ⟨e, List.mem_cons_of_mem _ h1, h2⟩
theorem fold_last {L : List aCh} {P1 P2 P : Nat} (h : L.foldl (fun _ x => x.1) P1 = P) (h2 : P2 = P1 ∨ P2 = P) : L.foldl (fun _ x => x.1) P2 = P := by
  cases L with
  | nil =>
    have h : P1 = P := h
    show P2 = P
    omega
  | cons a t => exact h
theorem recx_tl {B : Nat} {lgs lgs1 : List Nat} {rs : List aR} {wr wr1 : Bool} {tp tp1 : Nat} (hO : LsOk B lgs rs) {c c1 : Nat → Int8} {v : aV} (hR : RecX c lgs wr tp v) (hc : ∀ q, Tl lgs rs wr tp q → Tl lgs1 rs wr1 tp1 q ∧ c1 q = c q) (hl : ∀ x ∈ lgs, x ∈ lgs1) : RecX c1 lgs1 wr1 tp1 v ∧ (v.2.2.2.1 ≠ none → valB c1 v = valB c v) := by
  have h1 := recs_tl (lgs' := lgs1) hO hR (fun q hq => (hc q hq).2) hl
  refine ⟨⟨h1.1, fun e n hn hb => ?_⟩, h1.2⟩
  have h2 := hR.tl hO hn (v.2.2.1 + (9 + v.1.length + n) - 1) (by omega) (by omega)
  have h3 := (hc _ h2).1.2.2
  have h4 := (hR.1 n hn).2.1
  have hq : (v.2.2.1 + (9 + v.1.length + n) - 1) / 2048 = v.2.2.1 / 2048 := by omega
  have hm : (v.2.2.1 + (9 + v.1.length + n) - 1) % 2048 = v.2.2.1 % 2048 + (9 + v.1.length + n) - 1 := by omega
  rw [hq, hm] at h3
  have : ¬ tp1 ≤ v.2.2.1 % 2048 + (9 + v.1.length + n) - 1 := fun z => h3 ⟨e, hb, z⟩
  omega
theorem FaS.armed {ky : List (List Nat)} {H : aH} {B N bb S : Nat} {op : Nat → Bool} {sm : Nat → Nat} {P : Nat} {c : Nat → Int8} {lgs0 : List Nat} {rs0 : List aR} {vs : List aV} {tss : List (List aT)} {L : List aCh} (h : FaS ky H B N bb S op sm P c lgs0 rs0 vs tss L) : bb / 2 ^ 32 ≠ 0 := by
  obtain ⟨P0, fr0, ff0, gs0, jk, ⟨⟨tf, ms, sq, h1, -⟩, -⟩, -⟩ := h
  exact h1.2
set_option maxRecDepth 20000 in
/-- a change is stored; it is not yet in memory -/
theorem re_storeW {ky : List (List Nat)} {sc : Nat × (Nat → Int32)} {d N P b u : Nat} {H : aH} {B bb S : Nat} {op : Nat → Bool} {sm : Nat → Nat} {lgs : List Nat} {fr ff : Nat} {wr : Bool} {tp : Nat} {rs : List aR} {us : Nat → Bool} {c : Nat → Int8} {P1 : Nat} {gs : List aSg} {vs : List aV} {tss : List (List aT)} {L : List aCh} {D : Nat → Int8} {Sx K : Nat → Nat} {E : Nat → Option Nat} {ws : List aE} (h : UpS H B N bb S op sm lgs fr ff wr tp rs us c P1 gs vs) (hW : StW ky B P P1 rs gs c vs tss L) (hb : BatchAt H b D Sx K E ws.length u) (hbk : BatchOk Sx K E ws.length u) (hL : LayE D 0 Sx K E ws) (h5 : ∃ Q : Nat → Nat, H[b + 5]? = some (kI 40 (fun j => nI (Q j)))) (hb11 : 11 ≤ b) (hb71 : b + 6 ≤ 71) (hws : ws.length ≤ 40) (hK : ∀ e ∈ ws, EntK ky e) (hB : B ≤ 128) (hB1 : 3 ≤ B) (hbb : bb % 2 ^ 32 < 2 ^ 31) (hP : P + 1 < 2 ^ 30) (ho : opnN wr tp (szW ws) ≤ frL B lgs rs) (hlB : lgs.length + opnN wr tp (szW ws) ≤ B) (hfr : fr + opnN wr tp (szW ws) < 256) (hlen : 13 + (lgs.length + opnN wr tp (szW ws)) + (rs.flatMap encR).length ≤ 2043) (hS : S + opnN wr tp (szW ws) < 2 ^ 31) : RE sc (d + 5) mr_151 [.ref 191, .ref (b + 1), .int (nI P)] H (fun H' => ¬ bb / 2 ^ 32 = ws.length + 2 ∧ ∃ lgs1 l1 fr1 ff1 tp1 us1 c1 P2 gs1, ∃ Q : Nat → Nat, ∃ a, lgs1 = lgs ++ l1 ∧ l1.length = opnN wr tp (szW ws) ∧ UpS H' B N bb (S + l1.length) op sm lgs1 fr1 ff1 true tp1 rs us1 c1 P2 gs1 vs ∧ RsOk c1 B rs tss ∧ gs1.flatMap flG = (L ++ [(P + 1, Q, ws, a)]).flatMap chX ∧ (∀ v ∈ verB (P + 1) Q 0 ws, RecX c1 lgs1 true tp1 v ∧ v.2.2.1 < 2 ^ 24) ∧ (∀ i e l, ws[i]? = some e → e.2 = some l → valB c1 (e.1, P + 1, Q i, e.2.map List.length, true) = l) ∧ (∀ v ∈ vs, v.2.2.2.1 ≠ none → valB c1 v = valB c v) ∧ H'[b + 5]? = some (kI 40 (fun j => nI (Q j))) ∧ (∀ j, j < ws.length → Q j < 2 ^ 30) ∧ ∀ a, ¬ (71 ≤ a ∧ a < 195) → a ≠ b + 5 → H'[a]? = H[a]?) (fun H' => (∃ c1 lgs1 l1, lgs1 = lgs ++ l1 ∧ l1.length ≤ opnN wr tp (szW ws) ∧ FaS ky H' B N bb (S + opnN wr tp (szW ws)) op sm P c1 lgs1 rs vs tss L ∧ ∀ q, Tl lgs rs wr tp q → c1 q = c q) ∧ (∃ Q' : Nat → Nat, H'[b + 5]? = some (kI 40 (fun j => nI (Q' j)))) ∧ ∀ a, ¬ (71 ≤ a ∧ a < 195) → a ≠ b + 5 → H'[a]? = H[a]?) := by
  obtain ⟨hD, hO, hus, hF, htp, hff, hV, hRX, g, hA⟩ := id h
  obtain ⟨w1, w2, w3, w4, w5, w6, w7, w8, w9⟩ := id hW
  have hI : LgI H B bb S rs (szW ws) lgs fr ff wr tp us c P1 gs := ⟨⟨fr, ff, gs, hD, hF.1, rfl, fun _ => ⟨rfl, rfl, rfl⟩, hff⟩, hO, hus, hF, htp, hff, ho, hlB, hfr, hlen, hS⟩
  refine (re_store (d := d) hI hA.1 hB hB1 hbb (by omega) hb hbk hL h5 hb71 (fun e he => ?_)).mono ?_ ?_
  · have := (hK e he).len
    exact ⟨this.2.1, by show e.1.length + (e.2.getD []).length + 9 ≤ 2048; omega⟩
  · rintro H' ⟨lgs1, l1, fr1, ff1, wr1, tp1, us1, c1, P2, gs1, Q, a, ew, hSt, y2, y3, y4⟩
    subst ew
    obtain ⟨⟨⟨fr0, ff0, gs0, k1, k2, k3, k4, k5⟩, k6, k7, k8, k9, k10, -⟩, s2, s3, s4, s5, s6⟩ := hSt
    obtain ⟨e1, e2, e3⟩ := k4 rfl
    rw [e1, e2] at k1
    have hxl : (adB (P + 1) Q 0 ws ++ [(a, doneR ws.length (P + 1))]).length = ws.length + 1 := by rw [List.length_append, adB_len, List.length_singleton]
    rw [hxl] at k1
    have hl1 : l1.length = opnN wr tp (szW ws) := s3
    have harm : ¬ bb / 2 ^ 32 = ws.length + 2 := fun e => by
      obtain ⟨tf, pq, ms, mt, sq, tu, -, -, hpq, -⟩ := id k1
      have hd := dkN_sub (ws.length + 1) bb (by omega)
      have hd1 : dkN (ws.length + 1) bb / 2 ^ 32 = 1 := by rw [hd]; omega
      obtain ⟨k, -, kk⟩ := hpq.2.1 (by rw [hd1]; decide)
      rw [hd1] at kk
      omega
    have hfm : gs1.flatMap flG = (L ++ [(P + 1, Q, ws, a)]).flatMap chX := by
      rw [s5, w5, List.flatMap_append, List.flatMap_cons, List.flatMap_nil, List.append_nil]
      rfl
    have hsub : ∀ x ∈ lgs, x ∈ lgs1 := fun x hx => by rw [s2]; exact List.mem_append.mpr (Or.inl hx)
    have hnew : ∀ i e, ws[i]? = some e → RecX c1 lgs1 true tp1 (e.1, P + 1, Q i, e.2.map List.length, true) ∧ Q i < B * 2048 ∧ ∀ l, e.2 = some l → valB c1 (e.1, P + 1, Q i, e.2.map List.length, true) = l := fun i e hi => rec_ver k8 k6 (by
      rw [s5]
      refine List.mem_append.mpr (Or.inr (List.mem_append.mpr (Or.inl ?_)))
      have := adB_mem (m := P + 1) (Q := Q) (j := 0) hi
      rw [Nat.zero_add] at this
      exact this)
    refine ⟨harm, lgs1, l1, fr1, ff1, tp1, us1, c1, P2, gs1, Q, a, s2, hl1, ⟨k1.un, k6, k7, k8, k9, k10, hV.far (fun a a1 a2 => y4 a (by omega) (by omega) (by omega) (by omega)), fun v hv => (recx_tl hO (hRX v hv) s6 hsub).1, g.far2 (fun a a1 a2 => y4 a (by omega) (by omega) (by omega) (by omega)), hA.far (fun a a1 a2 a3 a4 => y4 a (by omega) (by omega) (by omega) (by omega))⟩, runs_tl hO w1 (fun q hq => (s6 q hq).2), hfm, fun v hv => ?_, fun i e l hi hl => (hnew i e hi).2.2 l hl, fun v hv => (recx_tl hO (hRX v hv) s6 hsub).2, y2, y3, fun a a1 a2 => y4 a (by omega) (by omega) (by omega) a2⟩
    obtain ⟨i, e, hi, ev⟩ := mem_verB.mp hv
    rw [Nat.zero_add] at ev
    rw [ev]
    exact ⟨(hnew i e hi).1, by have := (hnew i e hi).2.1; show Q i < 2 ^ 24; omega⟩
  · rintro H' ⟨Q, i, hi, ⟨c1, lgs1, l1, fr1, ff1, P2, gs1, k1, k2, k3, k4, k5, k6, k7, k8, k9⟩, y2, y3⟩
    have hsub : ∀ x ∈ lgs, x ∈ lgs1 := fun x hx => by rw [k5]; exact List.mem_append.mpr (Or.inl hx)
    have hjk : ∀ m0 vs0, ((adB (P + 1) Q 0 (ws.take i)).foldl rpS ([], m0, vs0)).2 = (m0, vs0) := fun m0 vs0 => rp_part (by rw [List.length_take]; omega)
    have hjk2 : ∀ x ∈ adB (P + 1) Q 0 (ws.take i), x.2.1 = 4 ∨ (x.2.2.2.2.1 < 2 ^ 30 ∧ (x.2.1 ≠ 3 → 1 ≤ x.2.2.1.length ∧ x.2.2.1 ∈ ky)) := fun x hx => by
      obtain ⟨e, he, e2⟩ := mem_adB hx
      have hk := hK e (List.mem_of_mem_take he)
      rw [e2]
      exact Or.inr ⟨hP, fun _ => ⟨hk.len.1, hk.2⟩⟩
    exact ⟨⟨c1, lgs1, l1, k5, k6, ⟨P2, fr1, ff1, gs1, _, ⟨k2, k3, k4, k1, ⟨vs, hV.far (fun a a1 a2 => y3 a (by omega) (by omega) (by omega) (by omega))⟩, g.far2 (fun a a1 a2 => y3 a (by omega) (by omega) (by omega) (by omega)), hA.far (fun a a1 a2 a3 a4 => y3 a (by omega) (by omega) (by omega) (by omega))⟩, runs_tl hO w1 k9, w2, w3, w4, by rw [k8, w5], ⟨hjk, hjk2⟩, fold_last w6 k7, w7, w8, w9, hV.srtV.one, fun v hv => (recs_tl hO (hRX v hv) k9 hsub).1⟩, k9⟩, y2, fun a a1 a2 => y3 a (by omega) (by omega) (by omega) a2⟩
