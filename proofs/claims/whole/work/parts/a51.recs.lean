/-! ===== records of the log: their bytes, whole and torn, one behind another; pure; by hand ===== -/
/-- a record: kind, key, the number in its length's field, moment, value -/
abbrev aRd : Type := Nat × List Nat × Nat × Nat × List Nat
def encL (r : aRd) : List Nat := [r.1] ++ ([r.2.1.length] ++ (beB 2 r.2.2.1 ++ (beB 4 r.2.2.2.1 ++ ((r.2.1 ++ r.2.2.2.2) ++ [90]))))
def LOk (r : aRd) : Prop := 1 ≤ r.1 ∧ r.1 ≤ 4 ∧ r.2.1.length ≤ 41 ∧ r.2.2.1 < 65536 ∧ r.2.2.2.1 < 2 ^ 31 ∧ r.2.2.2.2.length = (if r.1 = 3 then 0 else r.2.2.1) ∧ (r.1 = 3 → r.2.1 = [])
theorem encL_len (r : aRd) : (encL r).length = 9 + r.2.1.length + r.2.2.2.2.length := by
  unfold encL
  rw [List.length_append, List.length_append, List.length_append, List.length_append, List.length_append, List.length_append, beB_len, beB_len, List.length_singleton, List.length_singleton, List.length_singleton]
  omega
theorem encL_parts {c : Nat → Int8} {a : Nat} {r : aRd} (h : sl c a (encL r).length = encL r) : ub (c a) = r.1 ∧ ub (c (a + 1)) = r.2.1.length ∧ sl c (a + 2) 2 = beB 2 r.2.2.1 ∧ sl c (a + 4) 4 = beB 4 r.2.2.2.1 ∧ sl c (a + 8) r.2.1.length = r.2.1 ∧ sl c (a + 8 + r.2.1.length) r.2.2.2.2.length = r.2.2.2.2 ∧ ub (c (a + (encL r).length - 1)) = 90 := by
  rw [encL_len, show 9 + r.2.1.length + r.2.2.2.2.length = 1 + (1 + (2 + (4 + ((r.2.1.length + r.2.2.2.2.length) + 1)))) by omega] at h
  unfold encL at h
  obtain ⟨a1, h⟩ := sl_split h rfl
  obtain ⟨a2, h⟩ := sl_split h rfl
  obtain ⟨a3, h⟩ := sl_split h (beB_len _ _)
  obtain ⟨a4, h⟩ := sl_split h (beB_len _ _)
  obtain ⟨h, a7⟩ := sl_split h List.length_append
  obtain ⟨a5, a6⟩ := sl_split h rfl
  refine ⟨(List.cons.inj a1).1, (List.cons.inj a2).1, a3, a4, a5, a6, ?_⟩
  rw [encL_len, show a + (9 + r.2.1.length + r.2.2.2.2.length) - 1 = a + 1 + 1 + 2 + 4 + (r.2.1.length + r.2.2.2.2.length) by omega]
  exact (List.cons.inj a7).1
theorem encL_szR {c : Nat → Int8} {a : Nat} {r : aRd} (h : sl c a (encL r).length = encL r) (hr : LOk r) : szR c a = (encL r).length := by
  obtain ⟨p1, p2, p3, -⟩ := encL_parts h
  obtain ⟨r1, r2, r3, r4, r5, r6, r7⟩ := hr
  unfold szR
  rw [p1, p2, p3, beN_beB0 (by omega), encL_len, r6]
theorem wholeR_iff {c : Nat → Int8} {a : Nat} : wholeR c a = true ↔ 9 ≤ 2048 - a % 2048 ∧ 1 ≤ ub (c a) ∧ ub (c a) ≤ 4 ∧ ub (c (a + 1)) ≤ 41 ∧ szR c a ≤ 2048 - a % 2048 ∧ ub (c (a + szR c a - 1)) = 90 := by
  unfold wholeR
  rw [Bool.and_eq_true, Bool.and_eq_true, Bool.and_eq_true, Bool.and_eq_true, Bool.and_eq_true, decide_eq_true_iff, decide_eq_true_iff, decide_eq_true_iff, decide_eq_true_iff, decide_eq_true_iff, decide_eq_true_iff]
  constructor
  · rintro ⟨⟨⟨h1, h2, h3⟩, h4⟩, h5, h6⟩; exact ⟨h1, h2, h3, h4, h5, h6⟩
  · rintro ⟨h1, h2, h3, h4, h5, h6⟩; exact ⟨⟨⟨h1, h2, h3⟩, h4⟩, h5, h6⟩
set_option maxRecDepth 20000 in
theorem encL_whole {c : Nat → Int8} {a : Nat} {r : aRd} (h : sl c a (encL r).length = encL r) (hr : LOk r) (hf : a % 2048 + (encL r).length ≤ 2048) : wholeR c a = true := by
  have hs := encL_szR h hr
  have hl := encL_len r
  obtain ⟨p1, p2, p3, p4, p5, p6, p7⟩ := encL_parts h
  obtain ⟨r1, r2, r3, r4, r5, r6, r7⟩ := hr
  exact wholeR_iff.mpr ⟨by omega, by omega, by omega, by omega, by rw [hs]; omega, by rw [hs]; exact p7⟩
set_option maxRecDepth 20000 in
/-- erased bytes are no record -/
theorem ers_rec {c : Nat → Int8} {a : Nat} (h : ub (c a) = 255) : ¬ wholeR c a = true := fun e => by
  obtain ⟨-, -, e1, -⟩ := wholeR_iff.mp e
  omega
set_option maxRecDepth 20000 in
/-- a record that was cut is not whole -/
theorem torn_rec {c c' : Nat → Int8} {a k : Nat} {r : aRd} (hE : Ers c a (a - a % 2048 + 2048)) (hW : WrP c c' a ((encL r).take k)) (hk : k < (encL r).length) (hr : LOk r) (hf : a % 2048 + (encL r).length ≤ 2048) : ¬ wholeR c' a = true := by
  intro h
  obtain ⟨a1, a2, a3, a4, a5, a6⟩ := wholeR_iff.mp h
  obtain ⟨w1, w2⟩ := hW
  have hl : ((encL r).take k).length = k := by rw [List.length_take]; omega
  rw [hl] at w1 w2
  have hrest : ∀ q, a + k ≤ q → q < a - a % 2048 + 2048 → ub (c' q) = 255 := fun q q1 q2 => by
    rw [w2 q (Or.inr q1)]
    exact hE q (by omega) q2
  have hm := Nat.mod_le a 2048
  have hsz : 9 ≤ szR c' a := by unfold szR; omega
  by_cases hk0 : k = 0
  · rw [hrest _ (by omega) (by omega)] at a3
    omega
  by_cases hk1 : k = 1
  · rw [hrest (a + 1) (by omega) (by omega)] at a4
    omega
  have hs : k < szR c' a := by
    by_cases hk4 : k < 4
    · omega
    · have e4 : sl c' a 4 = (encL r).take 4 := by rw [← sl_take k 4 _ (by omega), w1, List.take_take, Nat.min_eq_left (by omega)]
      have e5 : (encL r).take 4 = [r.1] ++ ([r.2.1.length] ++ beB 2 r.2.2.1) := by
        unfold encL
        show r.1 :: r.2.1.length :: List.take 2 (beB 2 r.2.2.1 ++ _) = _
        rw [List.take_append_of_le_length (by rw [beB_len]; omega), List.take_of_length_le (by rw [beB_len]; omega)]
        rfl
      rw [e5] at e4
      obtain ⟨g1, e4⟩ := sl_split (n := 1) (m := 1 + 2) e4 rfl
      obtain ⟨g2, g3⟩ := sl_split (n := 1) (m := 2) e4 rfl
      obtain ⟨r1, r2, r3, r4, r5, r6, r7⟩ := hr
      have : szR c' a = (encL r).length := by
        unfold szR
        rw [show ub (c' a) = r.1 from (List.cons.inj g1).1, show ub (c' (a + 1)) = r.2.1.length from (List.cons.inj g2).1, show sl c' (a + 2) 2 = beB 2 r.2.2.1 from g3, beN_beB0 (by omega), encL_len, r6]
      omega
  rw [hrest _ (by omega) (by omega)] at a6
  omega
/-- records one behind another -/
def ChR (c : Nat → Int8) : Nat → List aRd → Prop
  | _, [] => True
  | a, r :: rs => sl c a (encL r).length = encL r ∧ LOk r ∧ ChR c (a + (encL r).length) rs
def lenL : List aRd → Nat
  | [] => 0
  | r :: rs => (encL r).length + lenL rs
/-- records with their addresses -/
def adL : Nat → List aRd → List (Nat × aRd)
  | _, [] => []
  | a, r :: rs => (a, r) :: adL (a + (encL r).length) rs
theorem lenL_app : ∀ (xs ys : List aRd), lenL (xs ++ ys) = lenL xs + lenL ys
  | [], ys => by rw [List.nil_append]; show _ = 0 + _; omega
  | x :: xs, ys => by
    show (encL x).length + lenL (xs ++ ys) = (encL x).length + lenL xs + lenL ys
    rw [lenL_app xs ys]
    omega
theorem adL_app : ∀ (a : Nat) (xs ys : List aRd), adL a (xs ++ ys) = adL a xs ++ adL (a + lenL xs) ys
  | a, [], ys => by rfl
  | a, x :: xs, ys => by
    show (a, x) :: adL (a + (encL x).length) (xs ++ ys) = (a, x) :: (adL (a + (encL x).length) xs ++ adL (a + ((encL x).length + lenL xs)) ys)
    rw [adL_app _ xs ys, Nat.add_assoc]
theorem ChR.app {c : Nat → Int8} : ∀ {a : Nat} {xs : List aRd} {r : aRd}, ChR c a xs → sl c (a + lenL xs) (encL r).length = encL r → LOk r → ChR c a (xs ++ [r])
  | a, [], r, _, h1, h2 => ⟨h1, h2, trivial⟩
  | a, x :: xs, r, ⟨a1, a2, a3⟩, h1, h2 => ⟨a1, a2, ChR.app a3 (by rw [Nat.add_assoc]; exact h1) h2⟩
theorem ChR.congr {c c' : Nat → Int8} : ∀ {a : Nat} {xs : List aRd}, ChR c a xs → (∀ q, a ≤ q → q < a + lenL xs → c' q = c q) → ChR c' a xs
  | a, [], _, _ => trivial
  | a, x :: xs, ⟨a1, a2, a3⟩, h => by
    have h : ∀ q, a ≤ q → q < a + ((encL x).length + lenL xs) → c' q = c q := h
    refine ⟨?_, a2, ChR.congr a3 (fun q q1 q2 => h q (by omega) (by omega))⟩
    rw [sl_congr (encL x).length a a (fun q hq => h (a + q) (by omega) (by omega))]
    exact a1
/-- a record among them -/
theorem ChR.mem {c : Nat → Int8} : ∀ {a : Nat} {xs : List aRd} {x : Nat × aRd}, ChR c a xs → x ∈ adL a xs → sl c x.1 (encL x.2).length = encL x.2 ∧ LOk x.2 ∧ a ≤ x.1 ∧ x.1 + (encL x.2).length ≤ a + lenL xs
  | a, y :: xs, x, ⟨a1, a2, a3⟩, h => by
    show _ ∧ _ ∧ _ ∧ x.1 + (encL x.2).length ≤ a + ((encL y).length + lenL xs)
    rcases List.mem_cons.mp h with e | e
    · rw [e]
      exact ⟨a1, a2, Nat.le_refl _, by show a + (encL y).length ≤ _; omega⟩
    · obtain ⟨i1, i2, i3, i4⟩ := ChR.mem a3 e
      exact ⟨i1, i2, by omega, by omega⟩
/-- a part of the log: its block, the offset of its first record, its records -/
abbrev aSg : Type := Nat × Nat × List aRd
def endG (s : aSg) : Nat := s.2.1 + lenL s.2.2
def flG (s : aSg) : List (Nat × aRd) := adL (s.1 * 2048 + s.2.1) s.2.2
/-- what a mount finds there -/
def SegC (c : Nat → Int8) (s : aSg) : Prop := ChR c (s.1 * 2048 + s.2.1) s.2.2 ∧ endG s ≤ 2048 ∧ (endG s < 2048 → ¬ wholeR c (s.1 * 2048 + endG s) = true)
/-- the parts that are to be replayed -/
def FrC (c : Nat → Int8) (lgs : List Nat) (fr ff : Nat) (gs : List aSg) : Prop := gs.length = fr ∧ fr ≤ lgs.length ∧ gs.map (fun s => s.1) = lgs.drop (lgs.length - fr) ∧ (∀ i s, gs[i]? = some s → s.2.1 = (if i = 0 then ff else 0)) ∧ ∀ s ∈ gs, SegC c s
/-- and the last of them takes more -/
def FrW (c : Nat → Int8) (lgs : List Nat) (fr ff : Nat) (wr : Bool) (tp : Nat) (gs : List aSg) : Prop := FrC c lgs fr ff gs ∧ (wr = true → ∃ gi s, gs = gi ++ [s] ∧ endG s = tp ∧ Ers c (s.1 * 2048 + tp) (s.1 * 2048 + 2048))
set_option maxRecDepth 20000 in
theorem wholeR_congr {c c' : Nat → Int8} {a : Nat} (h : ∀ q, a ≤ q → q < a - a % 2048 + 2048 → c' q = c q) : wholeR c' a = true → wholeR c a = true := fun e => by
  have hm := Nat.mod_le a 2048
  obtain ⟨a1, a2, a3, a4, a5, a6⟩ := wholeR_iff.mp e
  have hs : szR c' a = szR c a := by
    unfold szR
    rw [h a (by omega) (by omega), h (a + 1) (by omega) (by omega), sl_congr 2 (a + 2) (a + 2) (fun q hq => h (a + 2 + q) (by omega) (by omega))]
  have h9 : 9 ≤ szR c' a := by unfold szR; omega
  rw [h a (by omega) (by omega)] at a2 a3
  rw [h (a + 1) (by omega) (by omega)] at a4
  rw [hs] at a5 a6 h9
  rw [h _ (by omega) (by omega)] at a6
  exact wholeR_iff.mpr ⟨a1, a2, a3, a4, a5, a6⟩
set_option maxRecDepth 20000 in
theorem SegC.far {c c' : Nat → Int8} {s : aSg} (h : SegC c s) (hc : ∀ q, q / 2048 = s.1 → c' q = c q) : SegC c' s := by
  obtain ⟨h1, h2, h3⟩ := h
  have h2' : s.2.1 + lenL s.2.2 ≤ 2048 := h2
  refine ⟨h1.congr (fun q q1 q2 => hc q (by omega)), h2, fun e e2 => h3 e (wholeR_congr (fun q q1 q2 => hc q ?_) e2)⟩
  have : (s.1 * 2048 + endG s) % 2048 = endG s := by omega
  omega
theorem FrC.far {c c' : Nat → Int8} {lgs : List Nat} {fr ff : Nat} {gs : List aSg} (h : FrC c lgs fr ff gs) (hc : ∀ q, q / 2048 ∈ lgs → c' q = c q) : FrC c' lgs fr ff gs := by
  obtain ⟨h1, h2, h3, h4, h5⟩ := h
  refine ⟨h1, h2, h3, h4, fun s hs => (h5 s hs).far (fun q hq => hc q ?_)⟩
  rw [hq]
  refine List.mem_of_mem_drop (i := lgs.length - fr) ?_
  rw [← h3]
  exact List.mem_map.mpr ⟨s, hs, rfl⟩
set_option maxRecDepth 20000 in
theorem FrW.far {c c' : Nat → Int8} {lgs : List Nat} {fr ff : Nat} {wr : Bool} {tp : Nat} {gs : List aSg} (h : FrW c lgs fr ff wr tp gs) (hc : ∀ q, q / 2048 ∈ lgs → c' q = c q) : FrW c' lgs fr ff wr tp gs := by
  obtain ⟨h1, h2⟩ := h
  refine ⟨h1.far hc, fun e => ?_⟩
  obtain ⟨gi, s, g1, g2, g3⟩ := h2 e
  refine ⟨gi, s, g1, g2, fun q q1 q2 => ?_⟩
  have hm : s.1 ∈ lgs := by
    refine List.mem_of_mem_drop (i := lgs.length - fr) ?_
    rw [← h1.2.2.1, g1]
    exact List.mem_map.mpr ⟨s, List.mem_append.mpr (Or.inr (List.mem_singleton.mpr rfl)), rfl⟩
  rw [hc q (by rw [show q / 2048 = s.1 by omega]; exact hm)]
  exact g3 q q1 q2
/-- the last part's block is the last log -/
theorem FrC.last {c : Nat → Int8} {lgs : List Nat} {fr ff : Nat} {gi : List aSg} {s : aSg} (h : FrC c lgs fr ff (gi ++ [s])) : lgs[lgs.length - 1]? = some s.1 ∧ 1 ≤ fr := by
  obtain ⟨h1, h2, h3, -⟩ := h
  rw [List.length_append, List.length_singleton] at h1
  have e : (lgs.drop (lgs.length - fr))[fr - 1]? = some s.1 := by
    rw [← h3, List.map_append, List.getElem?_append_right (by rw [List.length_map]; omega), List.length_map, show fr - 1 - gi.length = 0 by omega]
    rfl
  rw [List.getElem?_drop] at e
  refine ⟨?_, by omega⟩
  rw [← e]
  congr 1
  omega
set_option maxRecDepth 20000 in
theorem FrW.app {c c' : Nat → Int8} {lgs : List Nat} {fr ff tp : Nat} {gi : List aSg} {s : aSg} {r : aRd} (h : FrC c lgs fr ff (gi ++ [s])) (hn : lgs.Nodup) (he : endG s = tp) (hE : Ers c (s.1 * 2048 + tp) (s.1 * 2048 + 2048)) (hW : WrP c c' (s.1 * 2048 + tp) (encL r)) (hr : LOk r) (hf : tp + (encL r).length ≤ 2048) : FrW c' lgs fr ff true (tp + (encL r).length) (gi ++ [(s.1, s.2.1, s.2.2 ++ [r])]) := by
  obtain ⟨h1, h2, h3, h4, h5⟩ := h
  have hne : ∀ x ∈ gi, x.1 ≠ s.1 := fun x hx e => by
    have hd : (lgs.drop (lgs.length - fr)).Nodup := hn.sublist (List.drop_sublist _ _)
    rw [← h3, List.map_append] at hd
    have := (List.nodup_append.mp hd).2.2 x.1 (List.mem_map.mpr ⟨x, hx, rfl⟩) s.1 (List.mem_map.mpr ⟨s, List.mem_singleton.mpr rfl, rfl⟩)
    exact this e
  have hend : endG (s.1, s.2.1, s.2.2 ++ [r]) = tp + (encL r).length := by
    show s.2.1 + lenL (s.2.2 ++ [r]) = _
    rw [lenL_app]
    show s.2.1 + (lenL s.2.2 + ((encL r).length + 0)) = _
    have : s.2.1 + lenL s.2.2 = tp := he
    omega
  have he' : s.2.1 + lenL s.2.2 = tp := he
  have hE2 : Ers c' (s.1 * 2048 + (tp + (encL r).length)) (s.1 * 2048 + 2048) := fun q q1 q2 => by
    rw [hW.2 q (Or.inr (by omega))]
    exact hE q (by omega) q2
  refine ⟨⟨?_, h2, ?_, ?_, ?_⟩, fun _ => ⟨gi, _, rfl, hend, hE2⟩⟩
  · rw [← h1, List.length_append, List.length_append]
    rfl
  · rw [← h3, List.map_append, List.map_append]
    rfl
  · intro i x hx
    by_cases hi : i < gi.length
    · rw [List.getElem?_append_left hi] at hx
      exact h4 i x (by rw [List.getElem?_append_left hi]; exact hx)
    · rw [List.getElem?_append_right (by omega)] at hx
      have e0 := get_lt hx
      have e0 : i - gi.length < 1 := e0
      have ei : i = gi.length := by omega
      rw [ei, Nat.sub_self] at hx
      have hx : (s.1, s.2.1, s.2.2 ++ [r]) = x := Option.some.inj hx
      rw [← hx, ei]
      exact h4 gi.length s (by rw [List.getElem?_append_right (Nat.le_refl _), Nat.sub_self]; rfl)
  · intro x hx
    rcases List.mem_append.mp hx with e | e
    · exact (h5 x (List.mem_append.mpr (Or.inl e))).far (fun q hq => hW.2 q (by have := hne x e; omega))
    · rw [List.mem_singleton.mp e]
      obtain ⟨g1, g2, g3⟩ := h5 s (List.mem_append.mpr (Or.inr (List.mem_singleton.mpr rfl)))
      refine ⟨?_, by rw [hend]; exact hf, fun e2 => ?_⟩
      · show ChR c' (s.1 * 2048 + s.2.1) (s.2.2 ++ [r])
        refine (g1.congr (fun q q1 q2 => hW.2 q (Or.inl (by omega)))).app ?_ hr
        rw [show s.1 * 2048 + s.2.1 + lenL s.2.2 = s.1 * 2048 + tp by omega]
        exact hW.1
      · rw [hend] at e2 ⊢
        exact ers_rec (hE2 _ (Nat.le_refl _) (by show s.1 * 2048 + (tp + (encL r).length) < _; omega))
set_option maxRecDepth 20000 in
theorem FrC.torn {c c' : Nat → Int8} {lgs : List Nat} {fr ff tp k : Nat} {gi : List aSg} {s : aSg} {r : aRd} (h : FrC c lgs fr ff (gi ++ [s])) (hn : lgs.Nodup) (he : endG s = tp) (hE : Ers c (s.1 * 2048 + tp) (s.1 * 2048 + 2048)) (hW : WrP c c' (s.1 * 2048 + tp) ((encL r).take k)) (hk : k < (encL r).length) (hr : LOk r) (hf : tp + (encL r).length ≤ 2048) : FrC c' lgs fr ff (gi ++ [s]) := by
  obtain ⟨h1, h2, h3, h4, h5⟩ := h
  have hne : ∀ x ∈ gi, x.1 ≠ s.1 := fun x hx e => by
    have hd : (lgs.drop (lgs.length - fr)).Nodup := hn.sublist (List.drop_sublist _ _)
    rw [← h3, List.map_append] at hd
    have := (List.nodup_append.mp hd).2.2 x.1 (List.mem_map.mpr ⟨x, hx, rfl⟩) s.1 (List.mem_map.mpr ⟨s, List.mem_singleton.mpr rfl, rfl⟩)
    exact this e
  have he' : s.2.1 + lenL s.2.2 = tp := he
  have hlt : ((encL r).take k).length = k := by rw [List.length_take]; omega
  refine ⟨h1, h2, h3, h4, fun x hx => ?_⟩
  rcases List.mem_append.mp hx with e | e
  · refine (h5 x (List.mem_append.mpr (Or.inl e))).far (fun q hq => hW.2 q ?_)
    have := hne x e
    rw [hlt]
    omega
  · rw [List.mem_singleton.mp e]
    obtain ⟨g1, g2, g3⟩ := h5 s (List.mem_append.mpr (Or.inr (List.mem_singleton.mpr rfl)))
    refine ⟨g1.congr (fun q q1 q2 => hW.2 q (Or.inl (by omega))), g2, fun e2 => ?_⟩
    rw [he]
    have hmod : (s.1 * 2048 + tp) % 2048 = tp := by rw [he] at e2; omega
    refine torn_rec (r := r) (fun q q1 q2 => hE q q1 (by omega)) hW hk hr (by omega)
set_option maxRecDepth 20000 in
theorem FrW.opn {c c' : Nat → Int8} {lgs : List Nat} {fr ff : Nat} {gs : List aSg} {b : Nat} (h : FrC c lgs fr ff gs) (hc : ∀ q, q / 2048 ∈ lgs → c' q = c q) (hb : ∀ q, b * 2048 ≤ q → q < b * 2048 + 2048 → c' q = -1) : FrW c' (lgs ++ [b]) (fr + 1) (if fr = 0 then 0 else ff) true 0 (gs ++ [(b, 0, [])]) := by
  obtain ⟨h1, h2, h3, h4, h5⟩ := h.far hc
  have hE : Ers c' (b * 2048 + 0) (b * 2048 + 2048) := fun q q1 q2 => by
    rw [hb q (by omega) q2]
    rfl
  refine ⟨⟨?_, ?_, ?_, ?_, ?_⟩, fun _ => ⟨gs, _, rfl, rfl, hE⟩⟩
  · rw [List.length_append, h1]
    rfl
  · rw [List.length_append]
    show fr + 1 ≤ lgs.length + 1
    omega
  · rw [List.map_append, h3, List.length_append]
    show _ ++ [b] = List.drop (lgs.length + 1 - (fr + 1)) _
    rw [show lgs.length + 1 - (fr + 1) = lgs.length - fr by omega, List.drop_append_of_le_length (by omega)]
  · intro i x hx
    by_cases hi : i < gs.length
    · rw [List.getElem?_append_left hi] at hx
      rw [h4 i x hx]
      by_cases e : i = 0
      · rw [if_pos e, if_pos e, if_neg (by omega)]
      · rw [if_neg e, if_neg e]
    · rw [List.getElem?_append_right (by omega)] at hx
      have e0 := get_lt hx
      have e0 : i - gs.length < 1 := e0
      rw [show i - gs.length = 0 by omega] at hx
      have hx : (b, 0, []) = x := Option.some.inj hx
      rw [← hx]
      by_cases e : i = 0
      · rw [if_pos e, if_pos (by omega)]
      · rw [if_neg e]
  · intro x hx
    rcases List.mem_append.mp hx with e | e
    · exact h5 x e
    · rw [List.mem_singleton.mp e]
      exact ⟨trivial, by show 0 + 0 ≤ 2048; omega, fun _ => ers_rec (hE _ (by show b * 2048 + 0 ≤ b * 2048 + (0 + 0); omega) (by show b * 2048 + (0 + 0) < _; omega))⟩
set_option maxRecDepth 20000 in
/-- behind passLog -/
theorem FrW.pass {c : Nat → Int8} {lgs : List Nat} {fr ff : Nat} {wr : Bool} {tp : Nat} {gs : List aSg} (h : FrW c lgs fr ff wr tp gs) (htp : tp ≤ 2048) : ∃ gs', FrW c lgs (if wr then 1 else 0) (if wr then tp else 0) wr tp gs' ∧ gs'.flatMap flG = [] := by
  obtain ⟨h1, h2⟩ := h
  cases wr with
  | false =>
    refine ⟨[], ⟨⟨rfl, Nat.zero_le _, ?_, fun i s hs => ?_, fun s hs => absurd hs List.not_mem_nil⟩, fun e => Bool.noConfusion e⟩, rfl⟩
    · show [] = lgs.drop (lgs.length - 0)
      rw [Nat.sub_zero, List.drop_length]
    · exact absurd (get_lt hs) (Nat.not_lt_zero _)
  | true =>
    obtain ⟨gi, s, g1, g2, g3⟩ := h2 rfl
    rw [g1] at h1
    obtain ⟨l1, l2⟩ := h1.last
    have hl := get_lt l1
    refine ⟨[(s.1, tp, [])], ⟨⟨rfl, by show 1 ≤ lgs.length; omega, ?_, fun i x hx => ?_, fun x hx => ?_⟩, fun _ => ⟨[], _, rfl, by show tp + 0 = tp; omega, g3⟩⟩, rfl⟩
    · show [s.1] = lgs.drop (lgs.length - 1)
      rw [List.drop_eq_getElem_cons (by omega), List.drop_of_length_le (by omega)]
      rw [List.getElem?_eq_getElem (by omega)] at l1
      rw [Option.some.inj l1]
    · have e0 := get_lt hx
      have e0 : i < 1 := e0
      rw [show i = 0 by omega] at hx ⊢
      have hx : (s.1, tp, []) = x := Option.some.inj hx
      rw [← hx]
      rfl
    · rw [List.mem_singleton.mp hx]
      refine ⟨trivial, by show tp + 0 ≤ 2048; omega, fun e => ?_⟩
      have e : tp + 0 < 2048 := e
      exact ers_rec (g3 _ (by show s.1 * 2048 + tp ≤ s.1 * 2048 + (tp + 0); omega) (by show s.1 * 2048 + (tp + 0) < _; omega))
/-- a record that is met in a replay -/
def meetR (vs : List aV) (x : Nat × aRd) : List aV := meetV (x.2.2.1, x.2.2.2.2.1, x.1, (if x.2.1 = 2 then none else some x.2.2.2.1), true) vs
/-- a step of a replay: what waits, the moment, what is known -/
def rpS (st : List (Nat × aRd) × Nat × List aV) (x : Nat × aRd) : List (Nat × aRd) × Nat × List aV := if x.2.1 = 3 then (if x.2.2.2.1 = st.1.length then ([], x.2.2.2.2.1, st.1.foldl meetR st.2.2) else ([], st.2.1, st.2.2)) else if x.2.1 ≠ 4 ∧ st.1.length < 40 then (st.1 ++ [x], st.2.1, st.2.2) else st
