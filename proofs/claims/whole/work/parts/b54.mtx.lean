/-! ===== what a mount finds on the chip, against the reference; by hand ===== -/
theorem mt_le {op : Nat → Bool} {sm : Nat → Nat} {P : Nat} {vg : List aV} {es : List aT} {L : List aCh} (ho : ∀ t, t < 8 → op t = false) (hT : WTab vg es) (hL : WLog vg es L) (h1 : OneV vg) (hP : ∀ v ∈ vg, v.2.1 ≤ P) : ∀ v ∈ mtV op sm P es L, v.2.1 ≤ P := fun v hv => by
  obtain ⟨a, ha⟩ := mt_nw ho hT hL h1 hv
  have h9 := hP _ ha.1
  exact h9
theorem fn_eq {op : Nat → Bool} {sm : Nat → Nat} {P : Nat} {vg : List aV} {es : List aT} {L : List aCh} (ho : ∀ t, t < 8 → op t = false) (hT : WTab vg es) (hL : WLog vg es L) (h1 : OneV vg) (hP : ∀ v ∈ vg, v.2.1 ≤ P) : fnV op sm P es L = ((mtV op sm P es L).filter (fun v => !(ouV v))).map toldV := by
  unfold fnV
  rw [List.filter_map]
  congr 1
  refine List.filter_congr (fun v hv => ?_)
  have hm : v.2.1 ≤ P := mt_le ho hT hL h1 hP v hv
  have hin : toldV v ∈ (mtV op sm P es L).map toldV := List.mem_map.mpr ⟨v, hv, rfl⟩
  show keepS op sm P (kmV ((mtV op sm P es L).map toldV)) (toldV v) = !(ouV v)
  by_cases hn : v.2.2.2.1 = none
  · have ho1 : ouV v = true := decide_eq_true hn
    rw [ho1]
    cases e : keepS op sm P (kmV ((mtV op sm P es L).map toldV)) (toldV v) with
    | false => rfl
    | true => exact Bool.noConfusion ((keep_closed ho e).2 hn)
  · have ho1 : ouV v = false := decide_eq_false hn
    rw [ho1]
    cases e : keepS op sm P (kmV ((mtV op sm P es L).map toldV)) (toldV v) with
    | true => rfl
    | false => exact absurd (keep_out (w := toldV v) hm (ss_nw (ss_told mt_ss) hin) e).1 hn
theorem ss_srt {vs : List aV} (h : SS vs) : SrtV vs := List.Pairwise.imp (fun q => Or.inl q) h
theorem rlx_mount {op opr : Nat → Bool} {sm smr : Nat → Nat} {P : Nat} {c : Nat → Int8} {vg : List aV} {es : List aT} {L : List aCh} {ms : List aMV} {kd pa sz nl : Nat → Nat} {nm : Nat → Int8} {ps : List aPc} (ho : ∀ t, t < 8 → op t = false) (hor : ∀ t, t < 8 → opr t = false) (hT : WTab vg es) (hL : WLog vg es L) (hP : ∀ v ∈ vg, v.2.1 ≤ P) (h : RlX opr smr ms kd pa sz nl nm ps c vg) : RlX op sm (ms.filter (keepM opr smr P (kmM ms))) kd pa sz nl nm ps c (mtV op sm P es L) := by
  obtain ⟨hs, hR, hN, hPc⟩ := h
  have h1 := hs.one
  have hme : SS (mtV op sm P es L) := mt_ss
  have hsm := ss_srt hme
  have hle := mt_le (op := op) (sm := sm) ho hT hL h1 hP
  have hle2 : ∀ v ∈ (mtV op sm P es L).map toldV, v.2.1 ≤ P := fun v hv => by
    obtain ⟨w, hw, rfl⟩ := List.mem_map.mp hv
    exact hle w hw
  have hval : ∀ k b, ValAt c (mtV op sm P es L) k b ↔ ValAt c vg k b := fun k b => by
    have e1 : ValAt c (fnV op sm P es L) k b ↔ ValAt c (mtV op sm P es L) k b := (val_purge hsm.tld.one hle2 k b).trans (val_told (fun _ _ _ => rfl) k b)
    exact e1.symm.trans (val_mount ho hT hL h1 hP (fun _ _ _ => rfl) k b)
  refine ⟨hsm, ?_, hN.val hval, hPc.val hval⟩
  obtain ⟨zb, q1, q2⟩ := rel_mount (c' := c) ho hor hT hL h1 hP (fun _ _ _ => rfl) hR (rel_nd hR hs) op sm
  have e1 : (fnV op sm P es L).filter (fun v => usV v && !(zb v)) = (fnV op sm P es L).filter (fun v => usV v) := List.filter_congr (fun v hv => by
    cases hu : usV v with
    | false => rfl
    | true =>
      cases hz : zb v with
      | false => rfl
      | true =>
        have := (q2 v hv hu hz).1
        have hn := ((mt_fin ho hT hL h1 hP v).mp hv).1
        exact absurd (of_decide_eq_true this) hn)
  rw [e1, fn_eq ho hT hL h1 hP, List.filter_map, List.map_map] at q1
  refine ⟨ouV, ?_, fun z hz hu ho2 => ⟨ho2, opA_closed ho _ _, fun v hv e hlt => ?_⟩⟩
  · have e2 : (mtV op sm P es L).filter (fun v => usV v && !(ouV v)) = ((mtV op sm P es L).filter (fun v => !(ouV v))).filter ((fun v => usV v) ∘ toldV) := by
      rw [List.filter_filter]
      rfl
    rw [e2]
    exact q1
  · have e3 := hsm.one
    have := ss_nw hme hz
    have h9 := (ss_nw hme hv).2 z hz e.symm
    omega
