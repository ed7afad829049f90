/-! ===== how many blocks are free; class; by hand ===== -/
theorem cntB_imp {f g : Nat → Bool} : ∀ (n : Nat), (∀ i, i < n → f i = true → g i = true) → cntB f n ≤ cntB g n
  | 0, _ => Nat.le_refl _
  | n + 1, h => by
    have ih := cntB_imp n (fun i hi => h i (by omega))
    show cntB f n + (if f n then 1 else 0) ≤ cntB g n + (if g n then 1 else 0)
    cases e : f n with
    | false => show cntB f n + 0 ≤ _; omega
    | true =>
      rw [h n (by omega) e]
      show cntB f n + 1 ≤ cntB g n + 1
      omega
theorem frL_imp {B : Nat} {l l' : List Nat} {rs rs' : List aR} (h : ∀ b, b < B → usedB l' rs' b = true → usedB l rs b = true) : frL B l rs ≤ frL B l' rs' := by
  refine cntB_imp B (fun i hi e => ?_)
  cases e2 : usedB l' rs' i with
  | false => rfl
  | true =>
    have := h i hi e2
    rw [this] at e
    exact Bool.noConfusion e
theorem frL_sub {B : Nat} {l l' : List Nat} {rs : List aR} (h : ∀ x ∈ l', x ∈ l) : frL B l rs ≤ frL B l' rs := frL_imp (fun b _ e => by
  rcases usedB_iff.mp e with e | e | e
  · exact usedB_iff.mpr (Or.inl e)
  · exact usedB_iff.mpr (Or.inr (Or.inl (h _ e)))
  · exact usedB_iff.mpr (Or.inr (Or.inr e)))
theorem bool_ext {a b : Bool} (h : a = true ↔ b = true) : a = b := by
  cases a with
  | true => exact (h.mp rfl).symm
  | false =>
    cases b with
    | true => exact h.mpr rfl
    | false => rfl
theorem usedB_run {l : List Nat} {x : aR} {rs : List aR} (b : Nat) : usedB l (x :: rs) b = usedB (l ++ x.2.2.2) rs b := by
  refine bool_ext ?_
  rw [usedB_iff, usedB_iff]
  constructor
  · rintro (h | h | ⟨y, hy, h⟩)
    · exact Or.inl h
    · exact Or.inr (Or.inl (List.mem_append.mpr (Or.inl h)))
    · rcases List.mem_cons.mp hy with e | e
      · rw [e] at h
        exact Or.inr (Or.inl (List.mem_append.mpr (Or.inr h)))
      · exact Or.inr (Or.inr ⟨y, e, h⟩)
  · rintro (h | h | ⟨y, hy, h⟩)
    · exact Or.inl h
    · rcases List.mem_append.mp h with h | h
      · exact Or.inr (Or.inl h)
      · exact Or.inr (Or.inr ⟨x, List.mem_cons_self, h⟩)
    · exact Or.inr (Or.inr ⟨y, List.mem_cons_of_mem _ hy, h⟩)
theorem LsOk.run {B : Nat} {l : List Nat} {x : aR} {rs : List aR} (h : LsOk B l (x :: rs)) : LsOk B (l ++ x.2.2.2) rs := by
  obtain ⟨h1, h2, h3⟩ := h
  refine ⟨fun y hy => ?_, fun y hy => h2 y (List.mem_cons_of_mem _ hy), ?_⟩
  · rcases List.mem_append.mp hy with e | e
    · exact h1 y e
    · exact (h2 x List.mem_cons_self).2.2.2 y e
  · rw [List.flatMap_cons] at h3
    rw [List.append_assoc]
    exact h3
theorem LsOk.tail {B : Nat} {l : List Nat} {x : aR} {rs : List aR} (h : LsOk B l (x :: rs)) : LsOk B l rs := by
  obtain ⟨h1, h2, h3⟩ := h
  refine ⟨h1, fun y hy => h2 y (List.mem_cons_of_mem _ hy), h3.sublist ?_⟩
  rw [List.flatMap_cons]
  exact (List.Sublist.refl _).append (List.sublist_append_right _ _)
theorem frL_run {B : Nat} {l : List Nat} {x : aR} {rs : List aR} (h : LsOk B l (x :: rs)) : frL B l (x :: rs) + x.2.2.2.length = frL B l rs := by
  rw [← frL_more (l := x.2.2.2) (lgs := l) (rs := rs) h.run]
  congr 1
  exact freeN_congr (fun b _ => usedB_run b)
/-- a table that is there, or none -/
theorem frL_opt {B : Nat} {l : List Nat} {x : aR} {rs : List aR} (h : LsOk B l ((if 0 < x.2.1 then [x] else []) ++ rs)) : frL B l rs ≤ frL B l ((if 0 < x.2.1 then [x] else []) ++ rs) + x.2.2.2.length := by
  by_cases e : 0 < x.2.1
  · rw [if_pos e] at h ⊢
    have := frL_run (x := x) (rs := rs) h
    show _ ≤ frL B l (x :: rs) + _
    omega
  · rw [if_neg e, List.nil_append]
    omega
theorem frL_logs {B : Nat} {l : List Nat} {rs : List aR} (h : LsOk B l rs) : frL B l rs + l.length = frL B [] rs := frL_more (l := l) (lgs := []) h
theorem frL_len {B : Nat} {l : List Nat} {rs : List aR} (h : LsOk B l rs) : l.length + frL B l rs ≤ B := by
  have h1 := frL_logs h
  have h2 : frL B [] rs ≤ B := cntB_le _ _
  omega
theorem frL_nil : ∀ {B : Nat}, 2 ≤ B → frL B [] [] + 2 = B := fun {B} hB => by
  have key : ∀ n, cntB (fun b => !(usedB [] [] (b + 2))) n = n := fun n => by
    induction n with
    | zero => rfl
    | succ n ih =>
      show cntB _ n + (if (!(usedB [] [] (n + 2))) then 1 else 0) = n + 1
      have e : usedB [] [] (n + 2) = false := by
        cases e : usedB [] [] (n + 2) with
        | false => rfl
        | true =>
          rcases usedB_iff.mp e with e | e | ⟨x, hx, _⟩
          · omega
          · exact absurd e List.not_mem_nil
          · exact absurd hx List.not_mem_nil
      rw [ih, e]
      rfl
  have sh : ∀ n, cntB (fun b => !(usedB [] [] b)) (n + 2) = cntB (fun b => !(usedB [] [] (b + 2))) n := fun n => by
    induction n with
    | zero => rfl
    | succ n ih =>
      show cntB _ (n + 2) + _ = cntB _ n + _
      rw [ih]
  obtain ⟨n, rfl⟩ : ∃ n, B = n + 2 := ⟨B - 2, by omega⟩
  show cntB (fun b => !(usedB [] [] b)) (n + 2) + 2 = n + 2
  rw [sh, key]
theorem ids_le {n k : Nat} (h : k * 2048 < n + 2048) : k ≤ (n + 2048 - 1) / 2048 := by omega
theorem alBk_le {vs : List aV} : alB vs ≤ 2048 * alBk vs := by
  unfold alBk
  omega
/-- behind a renewal -/
theorem frL_ren {B K T : Nat} {l : List Nat} {x : aR} (hB : 2 ≤ B) (h : LsOk B l (if 0 < x.2.1 then [x] else [])) (hl : l.length ≤ K) (hx : x.2.2.2.length ≤ T) : B ≤ frL B l (if 0 < x.2.1 then [x] else []) + K + T + 2 := by
  have h0 := frL_nil hB
  by_cases e : 0 < x.2.1
  · rw [if_pos e] at h ⊢
    have h1 := frL_run (x := x) (rs := []) h
    have h2 := frL_logs h.tail
    omega
  · rw [if_neg e] at h ⊢
    have h2 := frL_logs h
    omega
