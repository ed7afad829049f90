/-! ===== bounds: a batch takes at most five logs; what the reference holds fits; by hand ===== -/
theorem szW_sum (ws : List aE) : (szW ws).sum = eOff ws ws.length + 9 * ws.length + 9 := by
  unfold szW
  rw [List.sum_append]
  have h : ∀ ws : List aE, (ws.map (fun e => eLen e + 9)).sum = eOff ws ws.length + 9 * ws.length := by
    intro ws
    induction ws with
    | nil => rfl
    | cons e t ih =>
      rw [List.map_cons, List.sum_cons, ih, List.length_cons, eOff]
      omega
  rw [h ws]
  show _ + (9 + 0) = _
  omega
theorem opn_bat {ws : List aE} (h1 : ws.length ≤ 40) (h2 : eOff ws ws.length ≤ 4100) : ∀ w tp, opnN w tp (szW ws) ≤ 5 := fun w tp => by
  have hs := szW_sum ws
  cases w with
  | false =>
    have := opn_false (M := 3) (tp := tp) (ns := szW ws) (by omega) (by omega)
    omega
  | true =>
    have := (opn_pair (szW ws) tp).2
    omega
theorem wM_val {op : Nat → Bool} {se : Nat → Nat} {x : Int32} {pr : Nat} {L : List (List Nat × Nat)} {w : aMV} (h : ¬ wM op se x pr L w = 0) : wM op se x pr L w = 24 + eLen (eMV w) := by
  unfold wM at h ⊢
  revert h
  generalize (stK L w.1 w.2.1 pr || opA op x (fun t => stK L w.1 w.2.1 (se t)) 8) = a
  generalize opA op x (fun t => decide (se t < w.2.1)) 8 = b
  intro h
  unfold mwg at h ⊢
  unfold eLen eMV
  obtain ⟨k, m, z⟩ := w
  show (if a = false then 0 else if z.map List.length = none then (if b = true then 24 + k.length else 0) else 24 + k.length + (z.map List.length).getD 0) = 24 + (k.length + (z.getD []).length)
  have h : ¬ (if a = false then 0 else if z.map List.length = none then (if b = true then 24 + k.length else 0) else 24 + k.length + (z.map List.length).getD 0) = 0 := h
  by_cases ha : a = false
  · rw [if_pos ha] at h
    exact absurd rfl h
  · rw [if_neg ha] at h ⊢
    cases z with
    | none =>
      have h : ¬ (if b = true then 24 + k.length else 0) = 0 := h
      show (if b = true then 24 + k.length else 0) = 24 + (k.length + 0)
      by_cases hb : b = true
      · rw [if_pos hb]
        rfl
      · rw [if_neg hb] at h
        exact absurd rfl h
    | some l =>
      show 24 + k.length + l.length = 24 + (k.length + l.length)
      omega
theorem ms_need {f : aMV → Nat} : ∀ (ms : List aMV), (∀ w ∈ ms, f w = 24 + eLen (eMV w)) → (ms.map f).sum = 24 * ms.length + eOff (ms.map eMV) ms.length
  | [], _ => rfl
  | w :: t, h => by
    have ih := ms_need t (fun x hx => h x (List.mem_cons_of_mem _ hx))
    rw [List.map_cons, List.sum_cons, ih, h w List.mem_cons_self, List.length_cons, List.map_cons, eOff]
    omega
theorem ms_nd {op : Nat → Bool} {sm : Nat → Nat} {P : Nat} {ms : List aMV} {kd nl : Nat → Nat} {ps : List aPc} (h : PrM op sm P ms) : 24 * ms.length + eOff (ms.map eMV) ms.length + (27 * ps.length + plen ps) ≤ ndR op sm (-1) P ms kd nl ps := by
  have h1 := ms_need (f := wM op sm (-1) P (kmM ms)) ms (fun w hw => wM_val (by
    have hk := h w hw
    unfold keepM at hk
    rwa [Bool.not_eq_true', decide_eq_false_iff_not] at hk))
  unfold ndR
  omega
theorem ms_bat {ky : List (List Nat)} {P : Nat} {ms : List aMV} {ws : List aE} (hn : 24 * ms.length + eOff (ms.map eMV) ms.length ≤ 32768) (hk : MSOk ms) (h40 : ws.length ≤ 40) (hof : eOff (ws.map pfx) (ws.map pfx).length ≤ 4100) (hK : ∀ e ∈ ws.map pfx, EntK ky e) (hP : P + 1 < 2 ^ 30) : ms.length + ws.length ≤ 1500 ∧ eOff (ms.map eMV) ms.length + eOff ws ws.length ≤ 48000 ∧ MSOk (ms ++ addM (P + 1) ws) := by
  have h1 := eOff_pfx ws ws.length (Nat.le_refl _)
  rw [List.length_map] at hof
  have h2 := addM_off ms ws (P + 1) ws.length (Nat.le_refl _)
  rw [List.take_of_length_le (Nat.le_refl _)] at h2
  have hl : (addM (P + 1) ws).length = ws.length := List.length_map _
  refine ⟨by omega, by omega, by rw [List.length_append, hl]; omega, by rw [h2]; omega, fun w hw => ?_⟩
  rcases List.mem_append.mp hw with r | r
  · exact hk.2.2 w r
  · obtain ⟨e, he, rfl⟩ := List.mem_map.mp r
    have h9 := (hK (pfx e) (List.mem_map.mpr ⟨e, he, rfl⟩)).len.2.1
    have h8 : e.1.length + 1 ≤ 41 := h9
    exact ⟨by show e.1.length ≤ 40; omega, hP⟩
