/-! ===== what the class's memory has to do with the reference's, as one relation; by hand ===== -/
/-- the user's versions, nodes and pieces of the reference are what chip and memory tell -/
def RlX (op : Nat → Bool) (sm : Nat → Nat) (ms : List aMV) (kd pa sz nl : Nat → Nat) (nm : Nat → Int8) (ps : List aPc) (c : Nat → Int8) (vs : List aV) : Prop := SrtV vs ∧ RelU op sm c vs ms ∧ NodR c vs kd pa sz nl nm ∧ PcR c vs ps
/-- the reference is pruned -/
def PrM (op : Nat → Bool) (sm : Nat → Nat) (P : Nat) (ms : List aMV) : Prop := ∀ m ∈ ms, keepM op sm P (kmM ms) m = true
theorem SrtV.tld {vs : List aV} (h : SrtV vs) : SrtV (vs.map toldV) := by
  unfold SrtV
  rw [List.pairwise_map]
  exact h
theorem xc_rel {op : Nat → Bool} {sm : Nat → Nat} {P : Nat} {ms : List aMV} {kd pa sz nl : Nat → Nat} {nm : Nat → Int8} {ps : List aPc} (hM : PrM op sm P ms) : XC op sm P (RlX op sm ms kd pa sz nl nm ps) := by
  have key : ∀ c vs, SrtV vs → (∀ v ∈ vs, v.2.1 ≤ P) → RlX op sm ms kd pa sz nl nm ps c vs → RlX op sm ms kd pa sz nl nm ps c ((vs.map toldV).filter (keepS op sm P (kmV (vs.map toldV)))) := fun c vs hs hp h => by
    obtain ⟨h1, h2, h3, h4⟩ := h
    have ht : ∀ v ∈ vs, v.2.2.2.1 ≠ none → valB c v = valB c v := fun _ _ _ => rfl
    have hp2 : ∀ v ∈ vs.map toldV, v.2.1 ≤ P := fun v hv => by
      obtain ⟨w, hw, rfl⟩ := List.mem_map.mp hv
      exact hp w hw
    have r1 := rel_prune (pr := P) (h2.same h1.one (same_told ht)) hp2
    rw [List.filter_eq_self.mpr (fun m hm => hM m hm)] at r1
    have hval : ∀ k b, ValAt c ((vs.map toldV).filter (keepS op sm P (kmV (vs.map toldV)))) k b ↔ ValAt c vs k b := fun k b => (val_purge hs.tld.one hp2 k b).trans (val_told ht k b)
    exact ⟨hs.told, r1, h3.val hval, h4.val hval⟩
  refine ⟨fun c c' vs hv h => ?_, key, fun c c' vs blk Q hs hp hv h => ?_⟩
  · obtain ⟨h1, h2, h3, h4⟩ := h
    exact ⟨h1, h2.same h1.one (same_chip hv), h3.val (val_chip hv), h4.val (val_chip hv)⟩
  · obtain ⟨h1, h2, h3, h4⟩ := h
    exact key c' _ h1.mv (mvL_le hp) ⟨h1.mv, h2.same h1.one (same_mvA (i := 0) (fun j v hj hn => by rw [Nat.zero_add]; exact hv j v hj hn)), h3.val (val_mv hv), h4.val (val_mv hv)⟩
/-- what is needed is what the reference says -/
theorem rlx_need {ky : List (List Nat)} {op : Nat → Bool} {sm : Nat → Nat} {x : Int32} {P : Nat} {c : Nat → Int8} {vs : List aV} {ms : List aMV} {kd pa sz nl : Nat → Nat} {nm : Nat → Int8} {ps : List aPc} (hV : ∀ v ∈ vs, VOk ky P v) (h : RlX op sm ms kd pa sz nl nm ps c vs) (hp : OneP ps) : sumN op sm x P (kmV vs) vs = ndR op sm x P ms kd nl ps := need_same h.1 hV (fun v hv => (hV v hv).1) h.2.1 h.2.2.1 h.2.2.2 hp
