/-! ===== how much tables hold, and that merging makes them no bigger; class; by hand ===== -/
theorem tbK_app : ∀ (a b : List aR), tbK (a ++ b) = tbK a + tbK b := fun a b => by
  unfold tbK
  rw [List.map_append, List.sum_append]
theorem RsOk.seg {c : Nat → Int8} {B : Nat} {rs : List aR} {tss : List (List aT)} (h : RsOk c B rs tss) (f n : Nat) : RsOk c B ((rs.drop f).take n) ((tss.drop f).take n) := ⟨by rw [List.length_take, List.length_take, List.length_drop, List.length_drop, h.1], fun i x t hx ht => by
  have hi : i < n := by have := get_lt hx; rw [List.length_take] at this; omega
  rw [List.getElem?_take_of_lt hi, List.getElem?_drop] at hx ht
  exact h.2 _ x t hx ht⟩
theorem ent_bytes : ∀ (es : List aT), (∀ e ∈ es, EOk e) → 11 * es.length ≤ (es.flatMap encE).length
  | [], _ => Nat.le_refl _
  | e :: es, h => by
    have ih := ent_bytes es (fun x hx => h x (List.mem_cons_of_mem _ hx))
    have := (h e List.mem_cons_self).1
    rw [List.flatMap_cons, List.length_append, encE_len, List.length_cons]
    omega
theorem rs_bytes {c : Nat → Int8} {B : Nat} : ∀ {rs : List aR} {tss : List (List aT)}, RsOk c B rs tss → (tss.flatten.flatMap encE).length ≤ 2048 * tbK rs ∧ 11 * tss.flatten.length ≤ 2048 * tbK rs
  | [], [], _ => ⟨Nat.le_refl _, Nat.le_refl _⟩
  | [], _ :: _, h => (Nat.succ_ne_zero _ h.1.symm).elim
  | _ :: _, [], h => (Nat.succ_ne_zero _ h.1).elim
  | x :: rs, t :: tss, h => by
    have hx := h.2 0 x t rfl rfl
    obtain ⟨i1, i2⟩ := rs_bytes (c := c) (B := B) (rs := rs) (tss := tss) ⟨Nat.succ.inj h.1, fun i y u hy hu => h.2 (i + 1) y u hy hu⟩
    have hb := ent_bytes t hx.2.2.2.2.1
    have h2 := hx.2.1
    have h4 := hx.2.2.2.1
    show (((t :: tss).flatten).flatMap encE).length ≤ 2048 * (x.2.2.2.length + tbK rs) ∧ 11 * ((t :: tss).flatten).length ≤ 2048 * (x.2.2.2.length + tbK rs)
    rw [List.flatten_cons, List.flatMap_append, List.length_append, List.length_append]
    omega
theorem sub_bytes {a b : List aT} (h : a.Sublist b) : (a.flatMap encE).length ≤ (b.flatMap encE).length := by
  induction h with
  | slnil => exact Nat.le_refl _
  | cons x h ih =>
    rw [List.flatMap_cons, List.length_append]
    omega
  | cons_cons x h ih =>
    rw [List.flatMap_cons, List.flatMap_cons, List.length_append, List.length_append]
    omega
theorem seg_split {α : Type} {l : List α} {f en : Nat} (hfe : f ≤ en) : l = l.take f ++ (l.drop f).take (en - f) ++ l.drop en := by
  have h1 : l.drop f = (l.drop f).take (en - f) ++ (l.drop f).drop (en - f) := (List.take_append_drop _ _).symm
  rw [List.drop_drop, show f + (en - f) = en by omega] at h1
  conv => lhs; rw [← List.take_append_drop f l, h1]
  rw [List.append_assoc]
theorem mg_tbK {rs : List aR} {f en n : Nat} {x : aR} (hfe : f ≤ en) (hx : x.2.2.2.length * 2048 < n + 2048) (hn : n ≤ 2048 * tbK ((rs.drop f).take (en - f))) : tbK (mgRs rs f en x) ≤ tbK rs := by
  have hs : tbK rs = tbK (rs.take f) + tbK ((rs.drop f).take (en - f)) + tbK (rs.drop en) := by
    conv => lhs; rw [seg_split (l := rs) hfe, tbK_app, tbK_app]
  unfold mgRs
  rw [tbK_app, tbK_app]
  have ho : tbK (if 0 < x.2.1 then [x] else []) ≤ x.2.2.2.length := by
    split
    · show x.2.2.2.length + 0 ≤ _; omega
    · exact Nat.zero_le _
  omega
theorem mg_len {rs : List aR} {f en : Nat} {x : aR} (hfe : f + 2 ≤ en) (her : en ≤ rs.length) : (mgRs rs f en x).length + 1 ≤ rs.length := by
  unfold mgRs
  rw [List.length_append, List.length_append, List.length_take, List.length_drop]
  have : (if 0 < x.2.1 then [x] else ([] : List aR)).length ≤ 1 := by
    split
    · exact Nat.le_refl _
    · exact Nat.zero_le _
  omega
