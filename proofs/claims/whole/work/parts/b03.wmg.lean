/-! ===== a merge over the tables; class; by hand ===== -/
theorem remL_list {tss : List (List aT)} {f : Nat} : ∀ {n : Nat}, f + n ≤ tss.length → remL (fun c => tss.getD c []) (fun _ => 0) f n = ((tss.drop f).take n).flatten
  | 0, _ => by rw [List.take_zero]; rfl
  | n + 1, h => by
    have hi : n < (tss.drop f).length := by rw [List.length_drop]; omega
    show remL _ _ f n ++ ((tss.getD (f + n) []).drop 0) = _
    rw [remL_list (n := n) (by omega), List.drop_zero, List.take_succ, List.flatten_append]
    congr 1
    rw [List.getElem?_drop, List.getD_eq_getElem?_getD, List.getElem?_eq_getElem (show f + n < tss.length by omega)]
    show tss[f + n] = [tss[f + n]].flatten
    rw [List.flatten_cons, List.flatten_nil, List.append_nil]
theorem fm_sub {l1 l2 : List aT} (h : l1.Sublist l2) : (l1.flatMap encE).length ≤ (l2.flatMap encE).length := by
  induction h with
  | slnil => exact Nat.le_refl _
  | cons a _ ih => rw [List.flatMap_cons, List.length_append]; omega
  | cons_cons a _ ih => rw [List.flatMap_cons, List.flatMap_cons, List.length_append, List.length_append]; omega
theorem ord_len {ess : Nat → List aT} {f n : Nat} : ∀ (i : Nat) (ix : Nat → Nat), ((mgOrd ess f n ix i).flatMap encE).length ≤ ((remL ess ix f n).flatMap encE).length ∧ (mgOrd ess f n ix i).length ≤ (remL ess ix f n).length
  | 0, ix => ⟨Nat.zero_le _, Nat.zero_le _⟩
  | i + 1, ix => by
    rw [mgOrd]
    cases hl : leastN (mgHd ess ix) f n with
    | none => exact ⟨Nat.zero_le _, Nat.zero_le _⟩
    | some p =>
      obtain ⟨m1, m2, m3⟩ := least_mem hl
      obtain ⟨A, B, h1, h2, -⟩ := rem_split m1 m2 m3
      obtain ⟨r1, r2⟩ := ord_len (ess := ess) (f := f) (n := n) i (va_up ix p.1 (ix p.1 + 1))
      rw [h2, List.flatMap_append, List.length_append] at r1
      rw [h2, List.length_append] at r2
      rw [h1]
      dsimp only
      rw [List.flatMap_cons, List.flatMap_append, List.flatMap_cons, List.length_append, List.length_append, List.length_append, List.length_cons, List.length_append, List.length_cons]
      omega
/-- all that is to be known of a merge's output -/
theorem mg_tab {vs : List aV} {wh : Bool} {ess : Nat → List aT} {f n lm E : Nat} {M : List aT} (hM : remL ess (fun _ => 0) f n = M) (hs : ∀ c, f ≤ c → c < f + n → SortE (ess c)) (hk : ∀ x ∈ M, 1 ≤ x.1.length) (hE : M.length ≤ E) : (∀ x ∈ (mgRun vs wh ess f n (fun _ => 0, [], lm, []) E).2.2.2, x ∈ M) ∧ SortE (mgRun vs wh ess f n (fun _ => 0, [], lm, []) E).2.2.2 ∧ (∀ e, FstE M e → tellsV vs e = true → e ∈ (mgRun vs wh ess f n (fun _ => 0, [], lm, []) E).2.2.2) ∧ (wh = false → ∀ e, WinE M e → hidesV vs e = true → e ∈ (mgRun vs wh ess f n (fun _ => 0, [], lm, []) E).2.2.2) ∧ (wh = true → ∀ e ∈ (mgRun vs wh ess f n (fun _ => 0, [], lm, []) E).2.2.2, tellsV vs e = true) ∧ ∀ i, ((mgRun vs wh ess f n (fun _ => 0, [], lm, []) i).2.2.2.flatMap encE).length ≤ (M.flatMap encE).length ∧ (mgRun vs wh ess f n (fun _ => 0, [], lm, []) i).2.2.2.length ≤ M.length := by
  obtain ⟨o1, o2, o3⟩ := ord_spec (ess := ess) (f := f) (n := n) hs E (fun _ => 0) (by rw [hM]; exact hE)
  rw [hM] at o1 o3
  have hout : ∀ i, (mgRun vs wh ess f n (fun _ => 0, [], lm, []) i).2.2.2 = mgFil vs wh [] lm (mgOrd ess f n (fun _ => 0) i) := fun i => by
    rw [mgRun_out, List.nil_append]
  have hne : ∀ x ∈ M, ¬ [] = x.1 := fun x hx q => by
    have := hk x hx
    rw [← q] at this
    exact absurd this (by decide)
  refine ⟨fun x hx => ?_, ?_, fun e he ht => ?_, fun hw e he hh => ?_, fun hw e he => ?_, fun i => ?_⟩
  · rw [hout] at hx
    exact o1.mem_iff.mp ((fil_sub _ _ _).mem hx)
  · rw [hout]
    refine (fil_bef (vs := vs) (wh := wh) (mgOrd ess f n (fun _ => 0) E) ([], lm, 0, none) o2 (fun x hx q => ?_)).2
    unfold befE at q
    rw [Bool.or_eq_true, Bool.and_eq_true, decide_eq_true_iff, decide_eq_true_iff, decide_eq_true_iff] at q
    rcases q with q | q
    · rw [cmpL_nil2] at q; omega
    · exact hne x (o1.mem_iff.mp hx) q.1.symm
  · rw [hout]
    exact fil_tells ht _ _ _ (fun q => hne e he.mem q.1) (o3 e he)
  · rw [hout, hw]
    exact fil_hides hh _ _ _ o2 (hne e he.1.mem) ⟨o3 e he.1, fun x hx => he.2 x (o1.mem_iff.mp hx)⟩
  · rw [hout] at he
    rcases fil_mem _ _ _ he with q | q
    · exact q
    · rw [hw] at q; exact Bool.noConfusion q.1
  · rw [hout]
    have h1 := ord_len (ess := ess) (f := f) (n := n) i (fun _ => 0)
    rw [hM] at h1
    have h2 := fil_sub (vs := vs) (wh := wh) (mgOrd ess f n (fun _ => 0) i) [] lm
    exact ⟨Nat.le_trans (fm_sub h2) h1.1, Nat.le_trans h2.length_le h1.2⟩
/-- the tables hold these entries -/
def RsOk (c : Nat → Int8) (B : Nat) (rs : List aR) (tss : List (List aT)) : Prop := rs.length = tss.length ∧ ∀ (i : Nat) (x : aR) (t : List aT), rs[i]? = some x → tss[i]? = some t → RunOk c B x t
theorem RunOk.far {c c' : Nat → Int8} {B : Nat} {x : aR} {es : List aT} (h : RunOk c B x es) (hf : ∀ b ∈ x.2.2.2, ∀ q, q / 2048 = b → c' q = c q) : RunOk c' B x es := by
  obtain ⟨h1, h2, h3, h4, h5, h6, h7⟩ := h
  refine ⟨h1, h2, ?_, h4, h5, h6, h7⟩
  rw [← h3]
  refine sl_congr _ _ _ (fun j hj => ?_)
  rw [Nat.zero_add]
  have hjl : j / 2048 < x.2.2.2.length := by omega
  unfold strm
  refine hf (x.2.2.2.getD (j / 2048) 0) ?_ _ ?_
  · rw [List.getD_eq_getElem?_getD, List.getElem?_eq_getElem hjl]
    exact List.getElem_mem hjl
  · omega
theorem RsOk.far {c c' : Nat → Int8} {B : Nat} {rs : List aR} {tss : List (List aT)} (h : RsOk c B rs tss) (hf : ∀ x ∈ rs, ∀ b ∈ x.2.2.2, ∀ q, q / 2048 = b → c' q = c q) : RsOk c' B rs tss := ⟨h.1, fun i x t h1 h2 => (h.2 i x t h1 h2).far (hf x (List.mem_of_getElem? h1))⟩
theorem RsOk.cons {c : Nat → Int8} {B : Nat} {rs : List aR} {tss : List (List aT)} {x : aR} {t : List aT} (h : RsOk c B rs tss) (hx : RunOk c B x t) : RsOk c B (x :: rs) (t :: tss) := by
  refine ⟨congrArg (· + 1) h.1, fun i y s h1 h2 => ?_⟩
  cases i with
  | zero =>
    rw [← Option.some.inj h1, ← Option.some.inj h2]
    exact hx
  | succ i => exact h.2 i y s h1 h2
theorem RsOk.take {c : Nat → Int8} {B : Nat} {rs : List aR} {tss : List (List aT)} (h : RsOk c B rs tss) (n : Nat) : RsOk c B (rs.take n) (tss.take n) := by
  refine ⟨by rw [List.length_take, List.length_take, h.1], fun i x t h1 h2 => ?_⟩
  have hi : i < n := by
    have := get_lt h1
    rw [List.length_take] at this
    omega
  rw [List.getElem?_take_of_lt hi] at h1 h2
  exact h.2 i x t h1 h2
theorem RsOk.drop {c : Nat → Int8} {B : Nat} {rs : List aR} {tss : List (List aT)} (h : RsOk c B rs tss) (n : Nat) : RsOk c B (rs.drop n) (tss.drop n) := by
  refine ⟨by rw [List.length_drop, List.length_drop, h.1], fun i x t h1 h2 => ?_⟩
  rw [List.getElem?_drop] at h1 h2
  exact h.2 _ x t h1 h2
theorem RsOk.app {c : Nat → Int8} {B : Nat} {rs rs' : List aR} {tss tss' : List (List aT)} (h : RsOk c B rs tss) (h' : RsOk c B rs' tss') : RsOk c B (rs ++ rs') (tss ++ tss') := by
  refine ⟨by rw [List.length_append, List.length_append, h.1, h'.1], fun i x t h1 h2 => ?_⟩
  by_cases hi : i < rs.length
  · rw [List.getElem?_append_left hi] at h1
    rw [List.getElem?_append_left (by rw [← h.1]; exact hi)] at h2
    exact h.2 i x t h1 h2
  · rw [List.getElem?_append_right (by omega)] at h1
    rw [List.getElem?_append_right (by have := h.1; omega), ← h.1] at h2
    exact h'.2 _ x t h1 h2
/-- a table without entries is not put in -/
def opt (t : List aT) : List (List aT) := if t = [] then [] else [t]
theorem opt_flat {t : List aT} : (opt t).flatten = t := by
  unfold opt
  split
  · rename_i h; rw [h]; rfl
  · rw [List.flatten_cons, List.flatten_nil, List.append_nil]
theorem run_opt {c : Nat → Int8} {B : Nat} {x : aR} {t : List aT} (h : RunOk c B x t) : RsOk c B (if 0 < x.2.1 then [x] else []) (opt t) := by
  unfold opt
  have h2 := h.2.1
  by_cases ht : t = []
  · rw [if_pos ht, if_neg (by rw [h2, ht]; exact Nat.not_lt_zero _)]
    exact ⟨rfl, fun i y s h1 _ => by cases h1⟩
  · have : 0 < x.2.1 := by
      rw [h2]
      cases t with
      | nil => exact absurd rfl ht
      | cons e t =>
        have := encE_pos (e := e)
        rw [List.flatMap_cons, List.length_append]
        omega
    rw [if_neg ht, if_pos this]
    exact RsOk.cons ⟨rfl, fun i y s h1 _ => by cases h1⟩ h
theorem flat_cut {tss : List (List aT)} {f en : Nat} (h : f ≤ en) : tss.flatten = (tss.take f).flatten ++ (((tss.drop f).take (en - f)).flatten ++ (tss.drop en).flatten) := by
  have e1 : tss.drop f = (tss.drop f).take (en - f) ++ tss.drop en := by
    have := (List.take_append_drop (en - f) (tss.drop f)).symm
    rw [List.drop_drop, show f + (en - f) = en by omega] at this
    exact this
  rw [← List.flatten_append, ← e1, ← List.flatten_append, List.take_append_drop]
/-- bytes and entries of tables that lie one behind another -/
theorem RsOk.sums {c : Nat → Int8} {B : Nat} : ∀ {rs : List aR} {tss : List (List aT)}, RsOk c B rs tss → (rs.map (fun x => x.2.1)).sum = (tss.flatten.flatMap encE).length ∧ (rs.map (fun x => x.2.2.1)).sum = tss.flatten.length
  | [], [], _ => ⟨rfl, rfl⟩
  | [], _ :: _, h => by cases h.1
  | _ :: _, [], h => by cases h.1
  | x :: rs, t :: tss, h => by
    have h0 : RunOk c B x t := h.2 0 x t rfl rfl
    obtain ⟨i1, i2⟩ := RsOk.sums (rs := rs) (tss := tss) ⟨Nat.succ.inj h.1, fun i y s h1 h2 => h.2 (i + 1) y s h1 h2⟩
    rw [List.map_cons, List.map_cons, List.sum_cons, List.sum_cons, List.flatten_cons, List.flatMap_append, List.length_append, List.length_append, i1, i2, h0.1, h0.2.1]
    exact ⟨rfl, rfl⟩
