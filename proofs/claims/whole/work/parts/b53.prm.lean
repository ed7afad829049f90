/-! ===== the reference is pruned behind each call; by hand ===== -/
theorem wM_sub {op : Nat → Bool} {se : Nat → Nat} {x : Int32} {pr : Nat} {L L' : List (List Nat × Nat)} {w : aMV} (hs : ∀ y ∈ L', y ∈ L) (h : ¬ wM op se x pr L w = 0) : ¬ wM op se x pr L' w = 0 := by
  unfold wM at h ⊢
  have hst : (stK L w.1 w.2.1 pr || opA op x (fun t => stK L w.1 w.2.1 (se t)) 8) = true := by
    cases e : (stK L w.1 w.2.1 pr || opA op x (fun t => stK L w.1 w.2.1 (se t)) 8) with
    | true => rfl
    | false =>
      rw [e] at h
      exact absurd rfl h
  have hst' : (stK L' w.1 w.2.1 pr || opA op x (fun t => stK L' w.1 w.2.1 (se t)) 8) = true := by
    rw [Bool.or_eq_true] at hst ⊢
    exact hst.imp (stK_sub hs) (opA_imp (fun t e => stK_sub hs e))
  rw [hst'] 
  rw [hst] at h
  exact h
theorem PrM.purge {op : Nat → Bool} {sm : Nat → Nat} {P : Nat} {ms : List aMV} : PrM op sm P (ms.filter (keepM op sm P (kmM ms))) := fun m hm => by
  have h := (List.mem_filter.mp hm).2
  unfold keepM at h ⊢
  rw [Bool.not_eq_true', decide_eq_false_iff_not] at h ⊢
  refine wM_sub (fun x hx => ?_) h
  obtain ⟨w, hw, e⟩ := List.mem_map.mp hx
  exact List.mem_map.mpr ⟨w, (List.mem_filter.mp hw).1, e⟩
