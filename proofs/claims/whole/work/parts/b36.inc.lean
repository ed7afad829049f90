/-! ===== a change that was stored comes into memory; class; by hand ===== -/
theorem LayE.kl {ky : List (List Nat)} {D : Nat → Int8} {S K : Nat → Nat} {E : Nat → Option Nat} {ws : List aE} (h : LayE D 0 S K E ws) (hK : ∀ e ∈ ws, EntK ky e) : ∀ i, i < ws.length → 1 ≤ K i ∧ K i ≤ 41 := fun i hi => by
  obtain ⟨e, he⟩ := lt_get hi
  have h1 := congrArg List.length (h.key he)
  rw [sl_length] at h1
  have h2 := (hK e (List.mem_of_getElem? he)).len
  omega
/-- include behind a store: memory, tables and log agree again, and every key has its value -/
theorem rn_incW {ky : List (List Nat)} {sc : Nat × (Nat → Int32)} {d N b u P : Nat} {H : aH} {bl up cw cl cp cb : Int32} {B bb S : Nat} {op : Nat → Bool} {sm : Nat → Nat} {lgs : List Nat} {fr ff tp : Nat} {rs : List aR} {us : Nat → Bool} {c c1 : Nat → Int8} {P1 P2 a : Nat} {gs gs1 : List aSg} {vs : List aV} {tss : List (List aT)} {L : List aCh} {D : Nat → Int8} {Sx K : Nat → Nat} {E : Nat → Option Nat} {ws : List aE} {Q : Nat → Nat} (h0 : H[0]? = some (kO 11 (fvs bl (nI P) up cw cl cp cb))) (h : UpS H B N bb S op sm lgs fr ff true tp rs us c1 P2 gs1 vs) (hW : StW ky B P P1 rs gs c vs tss L) (hR : RsOk c1 B rs tss) (hg : gs1.flatMap flG = (L ++ [(P + 1, Q, ws, a)]).flatMap chX) (hnew : ∀ v ∈ verB (P + 1) Q 0 ws, RecX c1 lgs true tp v ∧ v.2.2.1 < 2 ^ 24) (hval : ∀ i e l, ws[i]? = some e → e.2 = some l → valB c1 (e.1, P + 1, Q i, e.2.map List.length, true) = l) (hold : ∀ v ∈ vs, v.2.2.2.1 ≠ none → valB c1 v = valB c v) (hsm : ∀ t, t < 8 → sm t < 2 ^ 31) (hb : BatchAt H b D Sx K E ws.length u) (hbk : BatchOk Sx K E ws.length u) (hL : LayE D 0 Sx K E ws) (h5 : H[b + 5]? = some (kI 40 (fun j => nI (Q j)))) (hb1 : 1 ≤ b) (hb74 : b + 6 ≤ 74) (hn : 1 ≤ ws.length) (hK : ∀ e ∈ ws, EntK ky e) (hQ : ∀ i, i < ws.length → Q i < 2 ^ 30) (h1W : OneW ws) (hm : P + 1 < 2 ^ 30) (hroom : vs.length + ws.length ≤ N) : RN sc (d + 4) mr_160 [.ref 1, .ref (b + 1)] H (fun H' => H'[0]? = some (kO 11 (fvs bl (nI (P + 1)) up cw cl cp cb)) ∧ UpS H' B N bb S op sm lgs fr ff true tp rs us c1 P2 gs1 ((inclV (P + 1) Q 0 ws vs).filter (keepS op sm (P + 1) (kmV (inclV (P + 1) Q 0 ws vs)))) ∧ StW ky B (P + 1) P2 rs gs1 c1 ((inclV (P + 1) Q 0 ws vs).filter (keepS op sm (P + 1) (kmV (inclV (P + 1) Q 0 ws vs)))) tss (L ++ [(P + 1, Q, ws, a)]) ∧ InV c c1 vs ((inclV (P + 1) Q 0 ws vs).filter (keepS op sm (P + 1) (kmV (inclV (P + 1) Q 0 ws vs)))) ws ∧ ∀ a, a ≠ 0 → ¬ (74 ≤ a ∧ a < 83) → H'[a]? = H[a]?) := by
  have hVer := h.2.2.2.2.2.2.1
  have hS := h.2.2.2.2.2.2.2.2.1
  have hV := hW.2.2.2.2.2.2.1
  have hlt : ∀ v ∈ vs, v.2.1 < P + 1 := fun v hv => by have := (hV v hv).1; omega
  have hW2 := W.stored (P2 := P2) (a := a) hW h1W hn hbk.1 hK hR hg (fun v hv => (hnew v hv).2)
  have hone : OneV (inclV (P + 1) Q 0 ws vs) := hVer.srtV.one.incl h1W hlt
  obtain ⟨H', k1, k2, k3, k4⟩ := rn_incl (sc := sc) (d := d) h0 hS hsm hVer hb hbk hL h5 hb1 hb74 (hL.kl hK) hQ h1W hm hlt hroom
  refine ⟨H', k1, k2, up_incl h (fun v hv => (hnew v hv).1) k3 (hS.far2 (fun a a1 a2 => k4 a (by omega) (by omega))) (fun a a1 a2 a3 => k4 a (by omega) a3), hW2.purge hone, fun k b => ?_, k4⟩
  rw [val_purge hone (fun v hv => (hW2.2.2.2.2.2.2.1 v hv).1)]
  exact val_incl h1W hlt hold hval k b
