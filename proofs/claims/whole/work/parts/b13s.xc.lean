/-! ===== what is told of values and versions, and stays while the chip is cared for; class; by hand ===== -/
theorem tbK_free {B : Nat} {l : List Nat} : ∀ {rs : List aR}, LsOk B l rs → frL B l rs + tbK rs = frL B l []
  | [], _ => rfl
  | x :: rs, h => by
    have h1 := frL_run h
    have h2 := tbK_free h.tail
    show frL B l (x :: rs) + (x.2.2.2.length + tbK rs) = _
    omega
theorem tbK_le {B : Nat} {l : List Nat} {rs : List aR} (h : LsOk B l rs) : tbK rs ≤ B := by
  have h1 := tbK_free h
  have h2 : frL B l [] ≤ B := cntB_le _ _
  omega
/-- a relation of chip and memory that does not mind where values lie, nor what is not needed -/
def XC (op : Nat → Bool) (sm : Nat → Nat) (P : Nat) (X : (Nat → Int8) → List aV → Prop) : Prop := (∀ c c' vs, (∀ v ∈ vs, v.2.2.2.1 ≠ none → valB c' v = valB c v) → X c vs → X c' vs) ∧ (∀ c vs, SrtV vs → (∀ v ∈ vs, v.2.1 ≤ P) → X c vs → X c ((vs.map toldV).filter (keepS op sm P (kmV (vs.map toldV))))) ∧ ∀ c c' vs blk Q, SrtV vs → (∀ v ∈ vs, v.2.1 ≤ P) → (∀ j v, vs[j]? = some v → v.2.2.2.1 ≠ none → valB c' (mvV blk Q j v) = valB c v) → X c vs → X c' (((mvL blk Q 0 vs).map toldV).filter (keepS op sm P (kmV ((mvL blk Q 0 vs).map toldV))))
theorem mvL_le {blk : Option Nat} {Q : Nat → Nat} {vs : List aV} {P : Nat} (h : ∀ v ∈ vs, v.2.1 ≤ P) : ∀ v ∈ mvL blk Q 0 vs, v.2.1 ≤ P := fun u hu => by
  obtain ⟨j, v, hv, e⟩ := mem_mvL hu
  rw [e, mvV_same.2.1]
  exact h v (List.mem_of_getElem? hv)
theorem told_le {vs : List aV} {p : aV → Bool} {P : Nat} (h : ∀ v ∈ vs, v.2.1 ≤ P) : ∀ v ∈ (vs.map toldV).filter p, v.2.1 ≤ P := fun u hu => by
  obtain ⟨w, hw, e⟩ := mem_told hu
  rw [e]
  exact h w hw
theorem XC.ren {op : Nat → Bool} {sm : Nat → Nat} {P : Nat} {X : (Nat → Int8) → List aV → Prop} (hX : XC op sm P X) {c c' : Nat → Int8} {vs : List aV} {Q : Nat → Nat} (hs : SrtV vs) (hp : ∀ v ∈ vs, v.2.1 ≤ P) (hv : ∀ j v, vs[j]? = some v → v.2.2.2.1 ≠ none → valB c' (mvV none Q j v) = valB c v) (h : X c vs) : X c' (rnV op sm P Q vs) := by
  have s1 := hs.mv (blk := none) (Q := Q)
  have p1 := mvL_le (blk := none) (Q := Q) hp
  have h2 : X c' (rnW op sm P Q vs) := hX.2.2 c c' vs none Q hs hp hv h
  have s2 : SrtV (rnW op sm P Q vs) := s1.told
  have p2 : ∀ v ∈ rnW op sm P Q vs, v.2.1 ≤ P := told_le p1
  exact hX.2.1 c' _ s2 p2 h2
theorem XC.sp {op : Nat → Bool} {sm : Nat → Nat} {P : Nat} {X : (Nat → Int8) → List aV → Prop} (hX : XC op sm P X) {c c' : Nat → Int8} {vs : List aV} (hs : SrtV vs) (hp : ∀ v ∈ vs, v.2.1 ≤ P) (hv : ∀ v ∈ vs, v.2.2.2.1 ≠ none → valB c' v = valB c v) (h : X c vs) : X c' ((vs.map toldV).filter (keepS op sm P (kmV (vs.map toldV)))) := hX.2.1 c' vs hs hp (hX.1 c c' vs hv h)
theorem rnV_len {op : Nat → Bool} {sm : Nat → Nat} {P : Nat} {Q : Nat → Nat} {vs : List aV} : (rnV op sm P Q vs).length ≤ vs.length := by
  refine Nat.le_trans (List.length_filter_le _ _) ?_
  rw [List.length_map]
  refine Nat.le_trans (List.length_filter_le _ _) ?_
  rw [List.length_map, mvL_len]
  exact Nat.le_refl _
theorem rnV_told {op : Nat → Bool} {sm : Nat → Nat} {P : Nat} {Q : Nat → Nat} {vs : List aV} : ∀ v ∈ rnV op sm P Q vs, v.2.2.2.2 = false := fun v hv => by
  obtain ⟨w, -, e⟩ := mem_told hv
  rw [e]
  rfl
theorem alone_no {vs : List aV} (h : ∀ v ∈ vs, v.2.2.2.2 = false) : aloneE vs = [] := by
  unfold aloneE
  rw [List.filter_eq_nil_iff.mpr (fun v hv => by rw [h v hv]; exact Bool.false_ne_true)]
  rfl
theorem encR_sum : ∀ (rs : List aR), (rs.flatMap encR).length = 7 * rs.length + tbK rs
  | [] => rfl
  | x :: rs => by
    rw [List.flatMap_cons, List.length_append, encR_len, encR_sum rs, List.length_cons]
    show 7 + x.2.2.2.length + (7 * rs.length + tbK rs) = 7 * (rs.length + 1) + (x.2.2.2.length + tbK rs)
    omega
/-- levels of tables -/
def Lv3 (rs : List aR) : Prop := ∀ x ∈ rs, x.1 ≤ 3
theorem Lv3.opt {x : aR} {rs : List aR} (h : Lv3 rs) (hx : x.1 ≤ 3) : Lv3 ((if 0 < x.2.1 then [x] else []) ++ rs) := fun y hy => by
  rcases List.mem_append.mp hy with e | e
  · split at e
    · rw [List.mem_singleton.mp e]; exact hx
    · exact absurd e List.not_mem_nil
  · exact h y e
theorem Lv3.one {x : aR} (hx : x.1 ≤ 3) : Lv3 (if 0 < x.2.1 then [x] else []) := fun y e => by
  split at e
  · rw [List.mem_singleton.mp e]; exact hx
  · exact absurd e List.not_mem_nil
theorem Lv3.mg {x : aR} {rs : List aR} {f en : Nat} (h : Lv3 rs) (hx : x.1 ≤ 3) : Lv3 (mgRs rs f en x) := fun y hy => by
  unfold mgRs at hy
  rcases List.mem_append.mp hy with e | e
  · rcases List.mem_append.mp e with e | e
    · exact h y (List.mem_of_mem_take e)
    · split at e
      · rw [List.mem_singleton.mp e]; exact hx
      · exact absurd e List.not_mem_nil
  · exact h y (List.mem_of_mem_drop e)
/-- what the chip holds behind a renewal, where the power fails later -/
def FaX (ky : List (List Nat)) (H : aH) (B N bb S P : Nat) (op : Nat → Bool) (sm : Nat → Nat) (n : Nat) (X : (Nat → Int8) → List aV → Prop) : Prop := ∃ S' c lgs rs vs tss L, S' ≤ S ∧ FaS ky H B N bb S' op sm P c lgs rs vs tss L ∧ X c vs ∧ B / 8 * 3 ≤ frL B lgs rs ∧ rs.length ≤ 23 ∧ vs.length ≤ n ∧ Lv3 rs
/-- what the making of room leaves, and a mount -/
def RmP (ky : List (List Nat)) (H : aH) (B N bb S P : Nat) (op : Nat → Bool) (sm : Nat → Nat) (n f r : Nat) (X : (Nat → Int8) → List aV → Prop) : Prop := ∃ S' lgs fr ff wr tp rs us c P1 gs vs tss L, S' ≤ S ∧ UpS H B N bb S' op sm lgs fr ff wr tp rs us c P1 gs vs ∧ StW ky B P P1 rs gs c vs tss L ∧ X c vs ∧ f ≤ frL B lgs rs ∧ rs.length ≤ r ∧ vs.length ≤ n
/-- few are in memory alone -/
def Xa (X : (Nat → Int8) → List aV → Prop) : (Nat → Int8) → List aV → Prop := fun c vs => X c vs ∧ aloN vs ≤ 95
theorem aloN_told {vs : List aV} (h : ∀ v ∈ vs, v.2.2.2.2 = false) : aloN vs = 0 := by
  unfold aloN
  rw [List.filter_eq_nil_iff.mpr (fun v hv => by rw [h v hv]; exact Bool.false_ne_true)]
  rfl
theorem told_f {vs : List aV} {p : aV → Bool} : ∀ v ∈ (vs.map toldV).filter p, v.2.2.2.2 = false := fun v hv => by
  obtain ⟨w, -, e⟩ := mem_told hv
  rw [e]
  rfl
theorem RB.mono {sc : Nat × (Nat → Int32)} {d : Nat} {M : aM} {av : List Value} {H : aH} {ok ok' bad bad' : aH → Prop} (h : RB sc d M av H ok bad) (h1 : ∀ H', ok H' → ok' H') (h2 : ∀ H', bad H' → bad' H') : RB sc d M av H ok' bad' := by
  rcases h with ⟨H', a, b⟩ | ⟨H', a, b⟩
  · exact Or.inl ⟨H', a, h1 H' b⟩
  · exact Or.inr ⟨H', a, h2 H' b⟩
