/-! ===== what a renewal writes is less than what is needed; class; by hand ===== -/
theorem fK_wg {v : aV} (h : KeyW v) : fK v ≤ wgV v := by
  obtain ⟨k1, k2, k3⟩ := h
  unfold fK wgV wgt
  by_cases e0 : v.1.headD 0 = 0
  · rw [if_pos e0]; omega
  · rw [if_neg e0]
    have := k3 e0
    split <;> omega
theorem keep_toldmv {op : Nat → Bool} {sm : Nat → Nat} {pr : Nat} {L : List (List Nat × Nat)} {blk : Option Nat} {Q : Nat → Nat} {i : Nat} {v : aV} : keepS op sm pr L (toldV (mvV blk Q i v)) = needS op sm (-1) pr L (usV v) (ouV v) v.1 v.2.1 := by
  have hs := mvV_same (blk := blk) (Q := Q) (j := i) (v := v)
  unfold keepS
  have e1 : usV (toldV (mvV blk Q i v)) = usV v := by unfold usV; rw [show (toldV (mvV blk Q i v)).1 = v.1 from hs.1]
  have e2 : ouV (toldV (mvV blk Q i v)) = ouV v := by unfold ouV; rw [show (toldV (mvV blk Q i v)).2.2.2.1 = v.2.2.2.1 from hs.2.2.1]
  rw [e1, e2, show (toldV (mvV blk Q i v)).1 = v.1 from hs.1, show (toldV (mvV blk Q i v)).2.1 = v.2.1 from hs.2.1, show (toldV (mvV blk Q i v)).2.2.2.2 = false from rfl, Bool.and_false, Bool.false_and, Bool.or_false]
theorem rnW_need {op : Nat → Bool} {sm : Nat → Nat} {pr : Nat} {L : List (List Nat × Nat)} {Q : Nat → Nat} : ∀ (vs : List aV) (i : Nat), (∀ v ∈ vs, KeyW v) → ((((mvL none Q i vs).map toldV).filter (keepS op sm pr L)).map fK).sum ≤ sumN op sm (-1) pr L vs
  | [], _, _ => Nat.le_refl _
  | v :: vs, i, h => by
    have ih := rnW_need (op := op) (sm := sm) (pr := pr) (L := L) (Q := Q) vs (i + 1) (fun w hw => h w (List.mem_cons_of_mem _ hw))
    have hw := fK_wg (h v List.mem_cons_self)
    have hs := mvV_same (blk := none) (Q := Q) (j := i) (v := v)
    have hf : fK (toldV (mvV none Q i v)) = fK v := by unfold fK; rw [show (toldV (mvV none Q i v)).1 = v.1 from hs.1]
    show ((List.filter (keepS op sm pr L) (toldV (mvV none Q i v) :: (mvL none Q (i + 1) vs).map toldV)).map fK).sum ≤ _
    unfold sumN at ih ⊢
    rw [List.filter_cons, keep_toldmv, List.map_cons, List.sum_cons]
    by_cases hn : needS op sm (-1) pr L (usV v) (ouV v) v.1 v.2.1 = true
    · rw [if_pos hn, if_pos hn, List.map_cons, List.sum_cons, hf]
      omega
    · rw [if_neg hn, if_neg hn]
      omega
theorem kmV_toldmv {blk : Option Nat} {Q : Nat → Nat} {vs : List aV} : kmV ((mvL blk Q 0 vs).map toldV) = kmV vs := by
  have e : ∀ l : List aV, kmV (l.map toldV) = kmV l := fun l => by
    unfold kmV
    rw [List.map_map]
    rfl
  rw [e, kmV_mvL]
theorem mvS_need {op : Nat → Bool} {sm : Nat → Nat} {pr : Nat} {L : List (List Nat × Nat)} : ∀ (vs : List aV), (∀ v ∈ vs, KeyW v) → (∀ v ∈ vs, v.2.2.2.1 ≠ none → needS op sm (-1) pr L (usV v) (ouV v) v.1 v.2.1 = true) → (mvS none vs).sum ≤ sumN op sm (-1) pr L vs
  | [], _, _ => Nat.le_refl _
  | v :: vs, h, hn => by
    have ih := mvS_need (op := op) (sm := sm) (pr := pr) (L := L) vs (fun w hw => h w (List.mem_cons_of_mem _ hw)) (fun w hw => hn w (List.mem_cons_of_mem _ hw))
    have hw := szV_le (h v List.mem_cons_self)
    unfold mvS sumN at ih ⊢
    rw [List.filter_cons, List.map_cons, List.sum_cons]
    by_cases hb : inB none v = true
    · rw [if_pos hb, if_pos (hn v List.mem_cons_self (inB_none.mp hb)), List.map_cons, List.sum_cons]
      omega
    · rw [if_neg hb]
      omega
/-- memory holds what is needed, and what was taken out of late -/
def PgV (op : Nat → Bool) (sm : Nat → Nat) (P : Nat) (vs : List aV) : Prop := ∀ v ∈ vs, keepS op sm P (kmV vs) v = true
theorem PgV.val {op : Nat → Bool} {sm : Nat → Nat} {P : Nat} {vs : List aV} (h : PgV op sm P vs) : ∀ v ∈ vs, v.2.2.2.1 ≠ none → needS op sm (-1) P (kmV vs) (usV v) (ouV v) v.1 v.2.1 = true := fun v hv hn => by
  have h1 := h v hv
  unfold keepS at h1
  have ho : ouV v = false := decide_eq_false hn
  rw [ho, Bool.and_false, Bool.or_false] at h1
  rw [ho]
  exact h1
theorem ren_room {op : Nat → Bool} {sm : Nat → Nat} {B P tp : Nat} {vs : List aV} (hN : sumN op sm (-1) P (kmV vs) vs ≤ B * 256) (hB : B % 8 = 0) (hB8 : 8 ≤ B) (hp : PgV op sm P vs) (hk : ∀ v ∈ vs, KeyW v) : (mvS none vs).sum ≤ sumN op sm (-1) P (kmV vs) vs ∧ opnN false tp (mvS none vs) ≤ 2 * (B / 8) - 1 ∧ ∀ Q, ((rnW op sm P Q vs).map fK).sum ≤ 2048 * (B / 8) := by
  have h1 := mvS_need (op := op) (sm := sm) (pr := P) (L := kmV vs) vs hk hp.val
  refine ⟨h1, opn_false (by omega) (by omega), fun Q => ?_⟩
  have h2 := rnW_need (op := op) (sm := sm) (pr := P) (L := kmV vs) (Q := Q) vs 0 hk
  unfold rnW
  rw [kmV_toldmv]
  omega
theorem stK_sub {L L' : List (List Nat × Nat)} {k : List Nat} {m pr : Nat} (hs : ∀ x ∈ L', x ∈ L) (h : stK L k m pr = true) : stK L' k m pr = true := by
  rw [stK_iff] at h ⊢
  exact ⟨h.1, fun b hb => h.2 b (hs _ hb)⟩
theorem opA_imp {op : Nat → Bool} {x : Int32} {P Q : Nat → Bool} {n : Nat} (h : ∀ t, P t = true → Q t = true) (hp : opA op x P n = true) : opA op x Q n = true := by
  unfold opA at hp ⊢
  rw [List.any_eq_true] at hp ⊢
  obtain ⟨t, ht, e⟩ := hp
  refine ⟨t, ht, ?_⟩
  simp only [Bool.and_eq_true] at e ⊢
  exact ⟨e.1, h t e.2⟩
theorem needS_sub {op : Nat → Bool} {sm : Nat → Nat} {x : Int32} {pr : Nat} {L L' : List (List Nat × Nat)} {us ou : Bool} {k : List Nat} {m : Nat} (hs : ∀ x ∈ L', x ∈ L) (h : needS op sm x pr L us ou k m = true) : needS op sm x pr L' us ou k m = true := by
  unfold needS at h ⊢
  by_cases hu : us = false
  · rw [if_pos hu] at h ⊢
    rw [Bool.and_eq_true] at h ⊢
    exact ⟨stK_sub hs h.1, h.2⟩
  · rw [if_neg hu] at h ⊢
    rw [Bool.and_eq_true, Bool.or_eq_true (stK L k m pr)] at h
    rw [Bool.and_eq_true, Bool.or_eq_true (stK L' k m pr)]
    exact ⟨h.1, h.2.imp (stK_sub hs) (opA_imp (fun t e => stK_sub hs e))⟩
theorem keepS_sub {op : Nat → Bool} {sm : Nat → Nat} {pr : Nat} {L L' : List (List Nat × Nat)} {v : aV} (hs : ∀ x ∈ L', x ∈ L) (h : keepS op sm pr L v = true) : keepS op sm pr L' v = true := by
  unfold keepS at h ⊢
  rw [Bool.or_eq_true] at h ⊢
  refine h.imp (needS_sub hs) (fun e => ?_)
  rw [Bool.and_eq_true, Bool.and_eq_true] at e ⊢
  exact ⟨⟨stK_sub hs e.1.1, e.1.2⟩, e.2⟩
/-- behind a purge all is as it must be -/
theorem PgV.purge {op : Nat → Bool} {sm : Nat → Nat} {P : Nat} {vs : List aV} : PgV op sm P (vs.filter (keepS op sm P (kmV vs))) := fun v hv => keepS_sub (fun x hx => by
  obtain ⟨w, hw, e⟩ := List.mem_map.mp hx
  exact List.mem_map.mpr ⟨w, (List.mem_filter.mp hw).1, e⟩) (List.mem_filter.mp hv).2
