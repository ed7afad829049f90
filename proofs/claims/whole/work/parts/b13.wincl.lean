/-! ===== a stored change comes into memory; or the power fails behind it; class; by hand ===== -/
theorem W.stored {ky : List (List Nat)} {B P P1 P2 a : Nat} {rs : List aR} {gs gs1 : List aSg} {c c1 : Nat → Int8} {vs : List aV} {tss : List (List aT)} {L : List aCh} {Q : Nat → Nat} {ws : List aE} (hW : StW ky B P P1 rs gs c vs tss L) (h1 : OneW ws) (hn : 1 ≤ ws.length) (h40 : ws.length ≤ 40) (hK : ∀ e ∈ ws, EntK ky e) (hR : RsOk c1 B rs tss) (hg : gs1.flatMap flG = (L ++ [(P + 1, Q, ws, a)]).flatMap chX) (hpl : ∀ v ∈ verB (P + 1) Q 0 ws, v.2.2.1 < 2 ^ 24) : StW ky B (P + 1) P2 rs gs1 c1 (inclV (P + 1) Q 0 ws vs) tss (L ++ [(P + 1, Q, ws, a)]) := by
  obtain ⟨w1, w2, w3, w4, w5, w6, w7, w8, w9⟩ := hW
  obtain ⟨z1, z2⟩ := W.incl (m := P + 1) (a := a) (Q := Q) w3 w4 h1 h40 (fun v hv => by have := (w7 v hv).1; omega) (fun e he => by have := (w8 e he).1; omega) (fun u hu => by
    obtain ⟨x, hx, hux⟩ := List.mem_flatMap.mp hu
    have := (w9 x hx).1
    rw [(verB_alone hux).2]
    omega)
  refine ⟨hR, w2, z1, z2, hg, by rw [List.foldl_append]; rfl, fun v hv => ?_, fun e he => ⟨by have := (w8 e he).1; omega, (w8 e he).2⟩, fun x hx => ?_⟩
  · rcases mem_incl.mp hv with q | q
    · obtain ⟨a1, a2, a3⟩ := w7 v q
      exact ⟨by omega, a2, a3⟩
    · obtain ⟨i, e, hi, ev⟩ := mem_verB.mp q
      refine ⟨by rw [(verB_alone q).2]; exact Nat.le_refl _, ?_, hpl v q, by rw [ev]; exact (hK e (List.mem_of_getElem? hi)).2⟩
      have hk : KeyV (e.1, 0, 0, e.2.map List.length, true) := (hK e (List.mem_of_getElem? hi)).1
      rw [ev]
      exact hk.same rfl rfl
  · rcases List.mem_append.mp hx with q | q
    · have h9 := (w9 x q).1
      exact ⟨by omega, (w9 x q).2⟩
    · rw [List.mem_singleton.mp q]
      exact ⟨Nat.le_refl _, hn, fun e he => ⟨(hK e he).len.1, (hK e he).2⟩⟩
theorem StW.purge {ky : List (List Nat)} {B P P1 : Nat} {rs : List aR} {gs : List aSg} {c : Nat → Int8} {vs : List aV} {tss : List (List aT)} {L : List aCh} {op : Nat → Bool} {sm : Nat → Nat} (hW : StW ky B P P1 rs gs c vs tss L) (h1 : OneV vs) : StW ky B P P1 rs gs c (vs.filter (keepS op sm P (kmV vs))) tss L := by
  obtain ⟨w1, w2, w3, w4, w5, w6, w7, w8, w9⟩ := hW
  exact ⟨w1, w2, w3.purge h1 (fun u hu => (w7 u hu).1), w4.purge (fun u hu => (w7 u hu).1), w5, w6, fun v hv => w7 v (List.mem_filter.mp hv).1, w8, w9⟩
/-- the change is in memory -/
theorem up_incl {H H' : aH} {B N bb S : Nat} {op op' : Nat → Bool} {sm : Nat → Nat} {lgs : List Nat} {fr ff : Nat} {tp : Nat} {rs : List aR} {us : Nat → Bool} {c : Nat → Int8} {P P2 : Nat} {gs : List aSg} {vs : List aV} {Q : Nat → Nat} {ws : List aE} (h : UpS H B N bb S op sm lgs fr ff true tp rs us c P2 gs vs) (hnew : ∀ v ∈ verB (P + 1) Q 0 ws, RecX c lgs true tp v) (hV : VersIs H' N ((inclV (P + 1) Q 0 ws vs).filter (keepS op' sm (P + 1) (kmV (inclV (P + 1) Q 0 ws vs))))) (hs : SightAt H' op' sm) (hf : ∀ a, 71 ≤ a → a < 195 → ¬ (74 ≤ a ∧ a < 83) → H'[a]? = H[a]?) : UpS H' B N bb S op' sm lgs fr ff true tp rs us c P2 gs ((inclV (P + 1) Q 0 ws vs).filter (keepS op' sm (P + 1) (kmV (inclV (P + 1) Q 0 ws vs)))) := by
  obtain ⟨hD, hO, hus, hF, htp, hff, -, hRX, -, hA⟩ := h
  refine ⟨hD.far (fun a ha => hf a (by omega) (by omega) (by omega)), hO, hus, hF, htp, hff, hV, fun v hv => ?_, hs, hA.far (fun a a1 a2 _ _ => hf a (by omega) (by omega) (by omega))⟩
  rcases mem_incl.mp (List.mem_filter.mp hv).1 with q | q
  · exact hRX v q
  · exact hnew v q
/-- the store as it is, on a chip without power -/
theorem fa_up {ky : List (List Nat)} {H H' : aH} {B N bb bb' S : Nat} {op op' : Nat → Bool} {sm : Nat → Nat} {lgs : List Nat} {fr ff : Nat} {wr : Bool} {tp : Nat} {rs : List aR} {us : Nat → Bool} {c : Nat → Int8} {P P1 : Nat} {gs : List aSg} {vs vs1 : List aV} {tss : List (List aT)} {L : List aCh} (h : UpS H B N bb S op sm lgs fr ff wr tp rs us c P1 gs vs1) (hW : StW ky B P P1 rs gs c vs tss L) (h1 : OneV vs) (hR : ∀ v ∈ vs, RecX c lgs wr tp v) (hd : DnS H' B N bb' S op' sm c P1 fr ff lgs rs gs) : FaS ky H' B N bb' S op' sm P c lgs rs vs tss L := by
  obtain ⟨w1, w2, w3, w4, w5, w6, w7, w8, w9⟩ := hW
  exact ⟨P1, fr, ff, gs, [], hd, w1, w2, w3, w4, by rw [List.append_nil]; exact w5, JkS.nil, w6, w7, w8, w9, h1, fun v hv => (hR v hv).1⟩
