/-! ===== the reference: commit, from state to state; written by wip/gen/refc.py ===== -/
theorem refi_next {H H' : aH} {fa fa' : Int32} {li : Nat} {dn dn' cw cw' cl cl' : Int32} {tb : Nat → Int8} {l l' : Nat} {rs rs' : Int32} {g0 : Nat → Int8} {p p' : Nat} {ms ms' : List aMV} {op op' : Nat → Bool} {se : Nat → Nat} {wss : Nat → List aE} {kd pa sz nl : Nat → Nat} {nm : Nat → Int8} {ps : List aPc} (h : RefI H fa li dn cw cl tb l rs g0 p ms op se wss kd pa sz nl nm ps) (hn : ∃ us ba bo, H'[195]? = some (kO 12 (mfs fa' (nI li) dn' cw' cl' (nI l') rs' (nI p') (nI ms'.length) (nI us) (nI ps.length) (nI (plen ps)) ba bo)) ∧ MVIs H' ba bo us ms') (h5 : H'[205]? = some (kZ 8 op')) (hf : ∀ a, ¬ (a = 195 ∨ 198 ≤ a ∧ a ≤ 204 ∨ a = 223) → a ≠ 205 → H'[a]? = H[a]?) : RefI H' fa' li dn' cw' cl' tb l' rs' g0 p' ms' op' se wss kd pa sz nl nm ps := by
  obtain ⟨us, ba, bo, q1, q2, q3, q4, q5, q6, q7, q8, q9⟩ := h
  obtain ⟨us', ba', bo', n1, n2⟩ := hn
  exact ⟨us', ba', bo', n1, n2, h5, (hf 206 (by omega) (by omega)).trans q4, q5.far (fun a ha => hf a (by omega) (by omega)), q6.far (fun a a1 a2 => hf a (by omega) (by omega)), q7.far (fun a a1 a2 => hf a (by omega) (by omega)), (hf 196 (by omega) (by omega)).trans q8, (hf 197 (by omega) (by omega)).trans q9⟩
theorem ri_mcommitR0 {sc : Nat × (Nat → Int32)} {d l : Nat} {H : aH} {fa cw cl rs : Int32} {li : Nat} {tb : Nat → Int8} {g0 : Nat → Int8} {p : Nat} {ms : List aMV} {op : Nat → Bool} {se : Nat → Nat} {wss : Nat → List aE} {kd pa sz nl : Nat → Nat} {nm : Nat → Int8} {ps : List aPc} {t : Nat} (h : RefI H fa li 0 cw cl tb l rs g0 p ms op se wss kd pa sz nl nm ps) (hk : RefOk l p ms se kd pa sz nl ps) (ht : t < 8) (hop : op t = true) (hws : wss t = []) : RI sc (d + 4) mr_295 [.ref 196, .int (nI t)] H (fun z H' => z = nI p ∧ RefI H' 0 li 0 cw cl tb l rs g0 p (ms.filter (keepM (va_up op t false) se p (kmM ms))) (va_up op t false) se wss kd pa sz nl nm ps ∧ ∀ a, ¬ (195 ≤ a ∧ a < 224) → H'[a]? = H[a]?) := by
  have h' := h
  obtain ⟨us, ba, bo, hm, hV, h5, h6, ⟨ro, fi, wk, wn, wz, wb, hR, hT⟩, hT2, hPc, -⟩ := h'
  obtain ⟨k1, k2, k3, k4, k5, k6, k7, k8⟩ := hk
  obtain ⟨z, H', r1, r2, us', r3, r4, r5, r6⟩ := ri_mcommit0 (sc := sc) (d := d) hm hV k3 hR (hT t ht) ht hop h5 h6 k4 k2 hws
  exact ⟨z, H', r1, r2, refi_next h ⟨us', bo, ba, r3, r4⟩ r5 r6, fun a ha => r6 a (by omega) (by omega)⟩
theorem ri_mcommitR1 {sc : Nat × (Nat → Int32)} {d l : Nat} {H : aH} {fa cw cl rs : Int32} {li : Nat} {tb : Nat → Int8} {g0 : Nat → Int8} {p : Nat} {ms : List aMV} {op : Nat → Bool} {se : Nat → Nat} {wss : Nat → List aE} {kd pa sz nl : Nat → Nat} {nm : Nat → Int8} {ps : List aPc} {t : Nat} (h : RefI H fa li 0 cw cl tb l rs g0 p ms op se wss kd pa sz nl nm ps) (hk : RefOk l p ms se kd pa sz nl ps) (ht : t < 8) (hop : op t = true) (hws : wss t ≠ []) (hcol : (wss t).any (fun e => colM ms p (se t) e.1) = true) (h1M : OneM ms) : RI sc (d + 4) mr_295 [.ref 196, .int (nI t)] H (fun z H' => z = 0 ∧ RefI H' 4 li 0 cw cl tb l rs g0 p (ms.filter (keepM (va_up op t false) se p (kmM ms))) (va_up op t false) se wss kd pa sz nl nm ps ∧ ∀ a, ¬ (195 ≤ a ∧ a < 224) → H'[a]? = H[a]?) := by
  have h' := h
  obtain ⟨us, ba, bo, hm, hV, h5, h6, ⟨ro, fi, wk, wn, wz, wb, hR, hT⟩, hT2, hPc, -⟩ := h'
  obtain ⟨k1, k2, k3, k4, k5, k6, k7, k8⟩ := hk
  obtain ⟨z, H', r1, r2, us', r3, r4, r5, r6⟩ := ri_mcommit1 (sc := sc) (d := d) hm hV k3 hR (hT t ht) ht hop h5 h6 k4 k2 hws hcol h1M
  exact ⟨z, H', r1, r2, refi_next h ⟨us', bo, ba, r3, r4⟩ r5 r6, fun a ha => r6 a (by omega) (by omega)⟩
theorem ri_mcommitR2 {sc : Nat × (Nat → Int32)} {d l : Nat} {H : aH} {fa cw cl rs : Int32} {li : Nat} {tb : Nat → Int8} {g0 : Nat → Int8} {p : Nat} {ms : List aMV} {op : Nat → Bool} {se : Nat → Nat} {wss : Nat → List aE} {kd pa sz nl : Nat → Nat} {nm : Nat → Int8} {ps : List aPc} {t : Nat} (h : RefI H fa li 0 cw cl tb l rs g0 p ms op se wss kd pa sz nl nm ps) (hk : RefOk l p ms se kd pa sz nl ps) (ht : t < 8) (hop : op t = true) (hws : wss t ≠ []) (hcol : (wss t).any (fun e => colM ms p (se t) e.1) = false) (h1M : OneM ms) (hcap : ms.length + (wss t).length ≤ 1500) (hby : eOff (ms.map eMV) ms.length + eOff (wss t) (wss t).length ≤ 48000) (hk2 : MSOk (ms ++ addM (p + 1) (wss t))) (hle : li < ndR op se (nI t) (p + 1) (ms ++ addM (p + 1) (wss t)) kd nl ps) (hs2 : ndR op se (nI t) (p + 1) (ms ++ addM (p + 1) (wss t)) kd nl ps < 2 ^ 31) : RI sc (d + 4) mr_295 [.ref 196, .int (nI t)] H (fun z H' => z = 0 ∧ RefI H' 5 li 0 cw cl tb l rs g0 p ms op se wss kd pa sz nl nm ps ∧ ∀ a, ¬ (195 ≤ a ∧ a < 224) → H'[a]? = H[a]?) := by
  have h' := h
  obtain ⟨us, ba, bo, hm, hV, h5, h6, ⟨ro, fi, wk, wn, wz, wb, hR, hT⟩, hT2, hPc, -⟩ := h'
  obtain ⟨k1, k2, k3, k4, k5, k6, k7, k8⟩ := hk
  obtain ⟨pf, px, pz, pa', hd, hMP, hj, -⟩ := id hPc
  have hs0 : sum0 (fun p => 27 + pz p) ps.length = 27 * ps.length + plen ps := by
    have h9 := sum0_plen (pz := pz) (ps := ps) (fun j x hx => (hj j x hx).2.2.1) ps.length (Nat.le_refl _)
    rw [List.take_of_length_le (Nat.le_refl _)] at h9
    exact h9
  have hnd : (sumF (fun f => if kd f = 0 then 0 else 62 + nl f) 200 + sum0 (fun p => 27 + pz p) ps.length) + ((ms ++ addM (p + 1) (wss t)).map (wM op se (nI t) (p + 1) (kmM (ms ++ addM (p + 1) (wss t))))).sum = ndR op se (nI t) (p + 1) (ms ++ addM (p + 1) (wss t)) kd nl ps := by
    rw [hs0]
    rfl
  obtain ⟨z, H', r1, r2, r3, r4, r6⟩ := ri_mcommit2 (sc := sc) (d := d) hm hV k3 hR (hT t ht) ht hop h5 h6 k4 k2 hws hcol h1M hcap hby hk2 hT2 k5 hMP.2.2.1 k6 (by rw [hnd]; exact hle) (by rw [hnd]; exact hs2)
  exact ⟨z, H', r1, r2, refi_next h ⟨us, ba, bo, r3, r4⟩ ((r6 205 (by decide) (by decide)).trans h5) (fun a a1 a2 => r6 a (by omega) (by omega)), fun a ha => r6 a (by omega) (by omega)⟩
theorem ri_mcommitR3 {sc : Nat × (Nat → Int32)} {d l : Nat} {H : aH} {fa cw cl rs : Int32} {li : Nat} {tb : Nat → Int8} {g0 : Nat → Int8} {p : Nat} {ms : List aMV} {op : Nat → Bool} {se : Nat → Nat} {wss : Nat → List aE} {kd pa sz nl : Nat → Nat} {nm : Nat → Int8} {ps : List aPc} {t : Nat} (h : RefI H fa li 0 0 cl tb l rs g0 p ms op se wss kd pa sz nl nm ps) (hk : RefOk l p ms se kd pa sz nl ps) (ht : t < 8) (hop : op t = true) (hws : wss t ≠ []) (hcol : (wss t).any (fun e => colM ms p (se t) e.1) = false) (h1M : OneM ms) (hcap : ms.length + (wss t).length ≤ 1500) (hby : eOff (ms.map eMV) ms.length + eOff (wss t) (wss t).length ≤ 48000) (hk2 : MSOk (ms ++ addM (p + 1) (wss t))) (hle : ndR op se (nI t) (p + 1) (ms ++ addM (p + 1) (wss t)) kd nl ps ≤ li) (hlim : li < 2 ^ 31) : RI sc (d + 4) mr_295 [.ref 196, .int (nI t)] H (fun z H' => z = nI (p + 1) ∧ RefI H' 0 li 0 0 cl tb l rs g0 (p + 1) ((ms ++ addM (p + 1) (wss t)).filter (keepM (va_up op t false) se (p + 1) (kmM (ms ++ addM (p + 1) (wss t))))) (va_up op t false) se wss kd pa sz nl nm ps ∧ ∀ a, ¬ (195 ≤ a ∧ a < 224) → H'[a]? = H[a]?) := by
  have h' := h
  obtain ⟨us, ba, bo, hm, hV, h5, h6, ⟨ro, fi, wk, wn, wz, wb, hR, hT⟩, hT2, hPc, -⟩ := h'
  obtain ⟨k1, k2, k3, k4, k5, k6, k7, k8⟩ := hk
  obtain ⟨pf, px, pz, pa', hd, hMP, hj, -⟩ := id hPc
  have hs0 : sum0 (fun p => 27 + pz p) ps.length = 27 * ps.length + plen ps := by
    have h9 := sum0_plen (pz := pz) (ps := ps) (fun j x hx => (hj j x hx).2.2.1) ps.length (Nat.le_refl _)
    rw [List.take_of_length_le (Nat.le_refl _)] at h9
    exact h9
  have hnd : (sumF (fun f => if kd f = 0 then 0 else 62 + nl f) 200 + sum0 (fun p => 27 + pz p) ps.length) + ((ms ++ addM (p + 1) (wss t)).map (wM op se (nI t) (p + 1) (kmM (ms ++ addM (p + 1) (wss t))))).sum = ndR op se (nI t) (p + 1) (ms ++ addM (p + 1) (wss t)) kd nl ps := by
    rw [hs0]
    rfl
  obtain ⟨z, H', r1, r2, us', r3, r4, r5, r6⟩ := ri_mcommit3 (sc := sc) (d := d) hm hV k3 hR (hT t ht) ht hop h5 h6 k4 k2 hws hcol h1M hcap hby hk2 hT2 k5 hMP.2.2.1 k6 (by rw [hnd]; exact hle) hlim
  exact ⟨z, H', r1, r2, refi_next h ⟨us', bo, ba, r3, r4⟩ r5 r6, fun a ha => r6 a (by omega) (by omega)⟩
theorem ri_mcommitR4 {sc : Nat × (Nat → Int32)} {d l : Nat} {H : aH} {fa cw cl rs : Int32} {li : Nat} {tb : Nat → Int8} {g0 : Nat → Int8} {p : Nat} {ms : List aMV} {op : Nat → Bool} {se : Nat → Nat} {wss : Nat → List aE} {kd pa sz nl : Nat → Nat} {nm : Nat → Int8} {ps : List aPc} {t : Nat} (h : RefI H fa li 0 1 1 tb l rs g0 p ms op se wss kd pa sz nl nm ps) (hk : RefOk l p ms se kd pa sz nl ps) (ht : t < 8) (hop : op t = true) (hws : wss t ≠ []) (hcol : (wss t).any (fun e => colM ms p (se t) e.1) = false) (h1M : OneM ms) (hcap : ms.length + (wss t).length ≤ 1500) (hby : eOff (ms.map eMV) ms.length + eOff (wss t) (wss t).length ≤ 48000) (hk2 : MSOk (ms ++ addM (p + 1) (wss t))) (hle : ndR op se (nI t) (p + 1) (ms ++ addM (p + 1) (wss t)) kd nl ps ≤ li) (hlim : li < 2 ^ 31) : RI sc (d + 4) mr_295 [.ref 196, .int (nI t)] H (fun z H' => z = 0 ∧ RefI H' 2 li 1 0 1 tb 0 0 g0 (p + 1) ((ms ++ addM (p + 1) (wss t)).filter (keepM (fun j => if j < 8 then false else op j) se (p + 1) (kmM (ms ++ addM (p + 1) (wss t))))) (fun j => if j < 8 then false else op j) se wss kd pa sz nl nm ps ∧ ∀ a, ¬ (195 ≤ a ∧ a < 224) → H'[a]? = H[a]?) := by
  have h' := h
  obtain ⟨us, ba, bo, hm, hV, h5, h6, ⟨ro, fi, wk, wn, wz, wb, hR, hT⟩, hT2, hPc, -⟩ := h'
  obtain ⟨k1, k2, k3, k4, k5, k6, k7, k8⟩ := hk
  obtain ⟨pf, px, pz, pa', hd, hMP, hj, -⟩ := id hPc
  have hs0 : sum0 (fun p => 27 + pz p) ps.length = 27 * ps.length + plen ps := by
    have h9 := sum0_plen (pz := pz) (ps := ps) (fun j x hx => (hj j x hx).2.2.1) ps.length (Nat.le_refl _)
    rw [List.take_of_length_le (Nat.le_refl _)] at h9
    exact h9
  have hnd : (sumF (fun f => if kd f = 0 then 0 else 62 + nl f) 200 + sum0 (fun p => 27 + pz p) ps.length) + ((ms ++ addM (p + 1) (wss t)).map (wM op se (nI t) (p + 1) (kmM (ms ++ addM (p + 1) (wss t))))).sum = ndR op se (nI t) (p + 1) (ms ++ addM (p + 1) (wss t)) kd nl ps := by
    rw [hs0]
    rfl
  obtain ⟨z, H', r1, r2, us', r3, r4, r5, r6⟩ := ri_mcommit4 (sc := sc) (d := d) hm hV k3 hR (hT t ht) ht hop h5 h6 k4 k2 hws hcol h1M hcap hby hk2 hT2 k5 hMP.2.2.1 k6 (by rw [hnd]; exact hle) hlim
  exact ⟨z, H', r1, r2, refi_next h ⟨us', bo, ba, r3, r4⟩ r5 r6, fun a ha => r6 a (by omega) (by omega)⟩
theorem ri_mcommitR5 {sc : Nat × (Nat → Int32)} {d l : Nat} {H : aH} {fa cw cl rs : Int32} {li : Nat} {tb : Nat → Int8} {g0 : Nat → Int8} {p : Nat} {ms : List aMV} {op : Nat → Bool} {se : Nat → Nat} {wss : Nat → List aE} {kd pa sz nl : Nat → Nat} {nm : Nat → Int8} {ps : List aPc} {t : Nat} (h : RefI H fa li 0 1 0 tb l rs g0 p ms op se wss kd pa sz nl nm ps) (hk : RefOk l p ms se kd pa sz nl ps) (ht : t < 8) (hop : op t = true) (hws : wss t ≠ []) (hcol : (wss t).any (fun e => colM ms p (se t) e.1) = false) (h1M : OneM ms) (hcap : ms.length + (wss t).length ≤ 1500) (hby : eOff (ms.map eMV) ms.length + eOff (wss t) (wss t).length ≤ 48000) (hk2 : MSOk (ms ++ addM (p + 1) (wss t))) (hle : ndR op se (nI t) (p + 1) (ms ++ addM (p + 1) (wss t)) kd nl ps ≤ li) (hlim : li < 2 ^ 31) : RI sc (d + 4) mr_295 [.ref 196, .int (nI t)] H (fun z H' => z = 0 ∧ RefI H' 2 li 1 0 0 tb 0 0 g0 p (ms.filter (keepM (fun j => if j < 8 then false else op j) se p (kmM ms))) (fun j => if j < 8 then false else op j) se wss kd pa sz nl nm ps ∧ ∀ a, ¬ (195 ≤ a ∧ a < 224) → H'[a]? = H[a]?) := by
  have h' := h
  obtain ⟨us, ba, bo, hm, hV, h5, h6, ⟨ro, fi, wk, wn, wz, wb, hR, hT⟩, hT2, hPc, -⟩ := h'
  obtain ⟨k1, k2, k3, k4, k5, k6, k7, k8⟩ := hk
  obtain ⟨pf, px, pz, pa', hd, hMP, hj, -⟩ := id hPc
  have hs0 : sum0 (fun p => 27 + pz p) ps.length = 27 * ps.length + plen ps := by
    have h9 := sum0_plen (pz := pz) (ps := ps) (fun j x hx => (hj j x hx).2.2.1) ps.length (Nat.le_refl _)
    rw [List.take_of_length_le (Nat.le_refl _)] at h9
    exact h9
  have hnd : (sumF (fun f => if kd f = 0 then 0 else 62 + nl f) 200 + sum0 (fun p => 27 + pz p) ps.length) + ((ms ++ addM (p + 1) (wss t)).map (wM op se (nI t) (p + 1) (kmM (ms ++ addM (p + 1) (wss t))))).sum = ndR op se (nI t) (p + 1) (ms ++ addM (p + 1) (wss t)) kd nl ps := by
    rw [hs0]
    rfl
  obtain ⟨z, H', r1, r2, us', r3, r4, r5, r6⟩ := ri_mcommit5 (sc := sc) (d := d) hm hV k3 hR (hT t ht) ht hop h5 h6 k4 k2 hws hcol h1M hcap hby hk2 hT2 k5 hMP.2.2.1 k6 (by rw [hnd]; exact hle) hlim
  exact ⟨z, H', r1, r2, refi_next h ⟨us', bo, ba, r3, r4⟩ r5 r6, fun a ha => r6 a (by omega) (by omega)⟩
