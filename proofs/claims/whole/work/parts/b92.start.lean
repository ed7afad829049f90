/-! ===== the state behind the constructors is one of the invariant; written by wip/gen/start2.py ===== -/
/-- the heap behind the constructors, for any number of blocks -/
def hpB (B : Nat) : aH := hpV (nI B) (kB (B * 2048) (fun j => if j < B * 2048 then (-1 : Int32).toInt8 else (fun _ => 0) j)) (kI B (fun _ => 0)) (nI (20 * B)) (kB (20 * B * 41) (fun _ => 0)) (kI (20 * B) (fun _ => 0)) (kI (20 * B) (fun _ => 0)) (kI (20 * B) (fun _ => 0)) (kI (20 * B) (fun _ => 0)) (kZ (20 * B) (fun _ => false)) (kI (20 * B) (fun _ => 0)) (kI (20 * B) (fun j => if j < 20 * B then nI (20 * B) - 1 - nI j else (fun _ => 0) j)) (nI B) (kZ B (fun j => if j < B then decide (j < 2) else (fun _ => false) j)) (kI B (fun _ => 0)) (kZ (20 * B) (fun _ => false)) (kI B (fun _ => 0)) (nI (B * 256))
set_option maxRecDepth 100000 in
theorem hp64_B : hp64i = hpB 64 := hp64_V.trans rfl
set_option maxRecDepth 100000 in
theorem hp96_B : hp96i = hpB 96 := hp96_V.trans rfl
set_option maxRecDepth 100000 in
theorem hp128_B : hp128i = hpB 128 := hp128_V.trans rfl
/-- the tree's kinds at the start -/
def kd0 : Nat → Nat := va_up (fun _ => 0) 0 2
theorem kd0_i : (va_up (fun _ => (0 : Int32)) 0 2) = fun j => nI (kd0 j) := by
  funext j
  unfold kd0
  by_cases e : j = 0
  · rw [e, up_at, up_at]
    rfl
  · rw [up_ne e, up_ne e]
    rfl
theorem kd0_0 {f : Nat} (h : 1 ≤ f) : kd0 f = 0 := up_ne (by omega)
theorem i32_sub2 (y z w r : Int32) (h : y = r + z + w) : y - z - w = r := by grind
theorem sp0_i {N : Nat} : (fun j => if j < N then nI N - 1 - nI j else (fun _ => (0 : Int32)) j) = fun j => nI (if j < N then N - 1 - j else 0) := by
  funext j
  by_cases e : j < N
  · rw [if_pos e, if_pos e]
    refine i32_sub2 _ _ _ _ ?_
    rw [show (1 : Int32) = nI 1 from rfl, nI_add, nI_add, show N - 1 - j + 1 + j = N by omega]
  · rw [if_neg e, if_neg e]
    rfl
theorem nil_get {α : Type} {i : Nat} {x : α} {p : Prop} (h : ([] : List α)[i]? = some x) : p := by
  rw [List.getElem?_nil] at h
  cases h
theorem batch0 {H : aH} {b : Nat} (h0 : H[b]? = some (kO 0 [.ref (b + 1 + 1), .ref (b + 2 + 1), .ref (b + 3 + 1), .ref (b + 4 + 1), .ref (b + 5 + 1), .int 0, .int 0])) (h1 : H[b + 1]? = some (kB 4100 (fun _ => 0))) (h2 : H[b + 2]? = some (kI 40 (fun _ => 0))) (h3 : H[b + 3]? = some (kI 40 (fun _ => 0))) (h4 : H[b + 4]? = some (kI 40 (fun _ => 0))) : BatchIs H b [] := ⟨fun _ => 0, fun _ => 0, fun _ => 0, fun _ => some 0, ⟨h0, h1, h2, h3, h4⟩, fun i e h => nil_get h, Nat.zero_le _, Nat.zero_le _⟩
section ST
variable {B : Nat}
set_option maxRecDepth 100000 in
theorem st_bat : ∀ t, t < 8 → BatchIs (hpB B) (11 + 6 * t) [] ∧ ∃ Q : Nat → Nat, (hpB B)[11 + 6 * t + 5]? = some (kI 40 (fun j => nI (Q j))) := fun t ht => by
  rcases (show t = 0 ∨ t = 1 ∨ t = 2 ∨ t = 3 ∨ t = 4 ∨ t = 5 ∨ t = 6 ∨ t = 7 by omega) with e | e | e | e | e | e | e | e <;> subst e
  · exact ⟨batch0 rfl rfl rfl rfl rfl, fun _ => 0, rfl⟩
  · exact ⟨batch0 rfl rfl rfl rfl rfl, fun _ => 0, rfl⟩
  · exact ⟨batch0 rfl rfl rfl rfl rfl, fun _ => 0, rfl⟩
  · exact ⟨batch0 rfl rfl rfl rfl rfl, fun _ => 0, rfl⟩
  · exact ⟨batch0 rfl rfl rfl rfl rfl, fun _ => 0, rfl⟩
  · exact ⟨batch0 rfl rfl rfl rfl rfl, fun _ => 0, rfl⟩
  · exact ⟨batch0 rfl rfl rfl rfl rfl, fun _ => 0, rfl⟩
  · exact ⟨batch0 rfl rfl rfl rfl rfl, fun _ => 0, rfl⟩
set_option maxRecDepth 100000 in
theorem st_tree : TreeIs (hpB B) (kd0, fun _ => 0, fun _ => 0, fun _ => 0, fun _ => 0, 0) := ⟨rfl, (show (hpB B)[66]? = some (kI 201 (va_up (fun _ => 0) 0 2)) from rfl).trans (by rw [kd0_i]), rfl, rfl, rfl, rfl⟩
set_option maxRecDepth 100000 in
theorem st_cls : ClsA (hpB B) B 0 1 0 0 0 0 (fun _ => 0) 0 (fun _ => 0) 0 (fun _ => []) (kd0, fun _ => 0, fun _ => 0, fun _ => 0, fun _ => 0, 0) := ⟨rfl, rfl, rfl, rfl, rfl, ⟨0, _, rfl, rfl⟩, ⟨_, rfl, by decide⟩, fun t ht => st_bat t ht, ⟨⟨[], batch0 rfl rfl rfl rfl rfl⟩, ⟨fun _ => 0, rfl⟩⟩, st_tree⟩
set_option maxRecDepth 100000 in
theorem st_run : ∀ j, j < 24 → ∃ x, RunIs (hpB B) (88 + 2 * j) x := fun j hj => by
  refine ⟨(0, 0, 0, []), fun _ => 0, ?_, ?_, fun i b h => nil_get h, Nat.zero_le _⟩
  · rcases (show j = 0 ∨ j = 1 ∨ j = 2 ∨ j = 3 ∨ j = 4 ∨ j = 5 ∨ j = 6 ∨ j = 7 ∨ j = 8 ∨ j = 9 ∨ j = 10 ∨ j = 11 ∨ j = 12 ∨ j = 13 ∨ j = 14 ∨ j = 15 ∨ j = 16 ∨ j = 17 ∨ j = 18 ∨ j = 19 ∨ j = 20 ∨ j = 21 ∨ j = 22 ∨ j = 23 by omega) with e | e | e | e | e | e | e | e | e | e | e | e | e | e | e | e | e | e | e | e | e | e | e | e <;> subst e <;> rfl
  · rcases (show j = 0 ∨ j = 1 ∨ j = 2 ∨ j = 3 ∨ j = 4 ∨ j = 5 ∨ j = 6 ∨ j = 7 ∨ j = 8 ∨ j = 9 ∨ j = 10 ∨ j = 11 ∨ j = 12 ∨ j = 13 ∨ j = 14 ∨ j = 15 ∨ j = 16 ∨ j = 17 ∨ j = 18 ∨ j = 19 ∨ j = 20 ∨ j = 21 ∨ j = 22 ∨ j = 23 by omega) with e | e | e | e | e | e | e | e | e | e | e | e | e | e | e | e | e | e | e | e | e | e | e | e <;> subst e <;> rfl
set_option maxRecDepth 100000 in
theorem st_lay : LayIs (hpB B) B [] 0 0 false 0 [] 0 2048 0 2 (fun j => if j < B then decide (j < 2) else (fun _ => false) j) := ⟨fun _ => 0, fun j => 88 + 2 * j, ⟨rfl, rfl, rfl⟩, fun i b h => nil_get h, Nat.zero_le _, ⟨_, rfl, by decide⟩, fun j hj => ⟨j, hj, rfl⟩, fun i j hi hj e => by
  have e : 88 + 2 * i = 88 + 2 * j := e
  omega, fun j x h => nil_get h, fun j hj => st_run j hj, Nat.zero_le _⟩
set_option maxRecDepth 100000 in
theorem st_cur : CursA (hpB B) := fun c hc => by
  refine ⟨fun _ => 0, .null, 0, 0, 0, 0, 0, 1, ?_, ?_⟩
  · rcases (show c = 0 ∨ c = 1 ∨ c = 2 ∨ c = 3 ∨ c = 4 ∨ c = 5 ∨ c = 6 ∨ c = 7 ∨ c = 8 ∨ c = 9 ∨ c = 10 ∨ c = 11 ∨ c = 12 ∨ c = 13 ∨ c = 14 ∨ c = 15 ∨ c = 16 ∨ c = 17 ∨ c = 18 ∨ c = 19 ∨ c = 20 ∨ c = 21 ∨ c = 22 ∨ c = 23 by omega) with e | e | e | e | e | e | e | e | e | e | e | e | e | e | e | e | e | e | e | e | e | e | e | e <;> subst e <;> rfl
  · rcases (show c = 0 ∨ c = 1 ∨ c = 2 ∨ c = 3 ∨ c = 4 ∨ c = 5 ∨ c = 6 ∨ c = 7 ∨ c = 8 ∨ c = 9 ∨ c = 10 ∨ c = 11 ∨ c = 12 ∨ c = 13 ∨ c = 14 ∨ c = 15 ∨ c = 16 ∨ c = 17 ∨ c = 18 ∨ c = 19 ∨ c = 20 ∨ c = 21 ∨ c = 22 ∨ c = 23 by omega) with e | e | e | e | e | e | e | e | e | e | e | e | e | e | e | e | e | e | e | e | e | e | e | e <;> subst e <;> rfl
set_option maxRecDepth 100000 in
theorem st_aux : AuxA (hpB B) B (20 * B) := ⟨rfl, ⟨0, 0, by decide, rfl⟩, ⟨_, rfl⟩, ⟨fun _ => 0, rfl⟩, ⟨_, rfl⟩, ⟨_, rfl, by decide⟩, st_cur, ⟨0, _, by decide, rfl, rfl⟩, ⟨_, rfl⟩⟩
set_option maxRecDepth 100000 in
theorem st_vers (hB : B ≤ 128) : VersIs (hpB B) (20 * B) [] := by
  refine ⟨fun _ => 0, fun _ => 0, fun _ => 0, fun _ => 0, fun _ => some 0, fun _ => false, fun _ => 0, fun j => if j < 20 * B then 20 * B - 1 - j else 0, 0, 20 * B, 0, ⟨rfl, rfl, rfl, rfl, rfl, rfl, rfl, rfl, ?_⟩, ⟨⟨by omega, Nat.zero_le _, Nat.le_refl _, fun p hp => absurd hp (Nat.not_lt_zero p), fun i hi => ?_, fun s hs => ⟨Nat.zero_le _, (show 0 < 2 ^ 30 by decide), (show 0 < 2 ^ 30 by decide), (show 0 < 2 ^ 30 by decide)⟩⟩, fun p q hp => absurd hp (Nat.not_lt_zero p), by omega, fun i p hi hp => absurd hp (Nat.not_lt_zero p), fun i j hi hj e => ?_, fun i hi => rfl, rfl, fun p hp => absurd hp (Nat.not_lt_zero p), fun p q h1 h2 => absurd h2 (Nat.not_lt_zero q)⟩, rfl⟩
  · exact (show (hpB B)[82]? = some (kI (20 * B) (fun j => if j < 20 * B then nI (20 * B) - 1 - nI j else (fun _ => 0) j)) from rfl).trans (by rw [sp0_i])
  · show (if i < 20 * B then 20 * B - 1 - i else 0) < 20 * B
    rw [if_pos hi]
    omega
  · have e : (if i < 20 * B then 20 * B - 1 - i else 0) = (if j < 20 * B then 20 * B - 1 - j else 0) := e
    rw [if_pos hi, if_pos hj] at e
    omega
/-- the chip's bytes at the start -/
def c0 (B : Nat) : Nat → Int8 := fun j => if j < B * 2048 then (-1 : Int32).toInt8 else (fun _ => 0) j
theorem c0_255 {q : Nat} (h : q < B * 2048) : ub (c0 B q) = 255 := by
  unfold c0
  rw [if_pos h]
  rfl
theorem st_mast (hB : 2 ≤ B) : Mast (c0 B) 0 0 0 [] [] 0 2048 0 := by
  have hl : ∀ m, m < 2 → lastF (c0 B) m 2048 5 none = none := fun m hm => lastF_stop (fun e => by
    have h1 := c0_255 (B := B) (q := m * 2048) (by omega)
    rw [h1] at e
    exact absurd e.1 (by decide))
  exact ⟨⟨by decide, Nat.le_refl _, Or.inl ⟨hl 0 (by decide), hl 1 (by decide), rfl, rfl, rfl, rfl, rfl, rfl, rfl, rfl⟩⟩, by decide⟩
set_option maxRecDepth 100000 in
theorem st_ups (hB : 2 ≤ B) (hB2 : B ≤ 128) : UpS (hpB B) B (20 * B) 0 0 (fun _ => false) (fun _ => 0) [] 0 0 false 0 [] (fun j => if j < B then decide (j < 2) else (fun _ => false) j) (c0 B) 0 [] [] := by
  refine ⟨⟨fun _ => 0, none, 0, 2048, 0, 2, st_lay, ⟨rfl, rfl, rfl⟩, ⟨fun k hk => (by cases hk), fun e => absurd rfl e, fun _ => rfl⟩, by decide, st_mast hB, fun e => absurd e (by decide), Nat.le_refl _, fun e => (by cases e), ⟨_, rfl⟩, ⟨_, rfl⟩, ⟨_, rfl⟩⟩, ⟨fun x hx => absurd hx List.not_mem_nil, fun x hx => absurd hx List.not_mem_nil, List.nodup_nil⟩, fun b hb => ?_, ⟨⟨rfl, Nat.le_refl _, rfl, fun i s h => nil_get h, fun s hs => absurd hs List.not_mem_nil⟩, fun e => (by cases e)⟩, Nat.zero_le _, Nat.zero_le _, st_vers hB2, fun v hv => absurd hv List.not_mem_nil, ⟨rfl, rfl, rfl⟩, st_aux⟩
  show (if b < B then decide (b < 2) else false) = usedB [] [] b
  rw [if_pos hb]
  unfold usedB
  rw [List.any_nil, Bool.or_false, show ([] : List Nat).contains b = false from rfl, Bool.or_false]
theorem st_stw : StW [] B 0 0 [] [] (c0 B) [] [] [] := ⟨⟨rfl, fun i x t h => nil_get h⟩, fun t ht => absurd ht List.not_mem_nil, ⟨fun v hv => absurd hv List.not_mem_nil, fun e he => absurd he List.not_mem_nil, fun e he => absurd he.1.mem List.not_mem_nil⟩, ⟨fun x hx => absurd hx List.not_mem_nil, List.Pairwise.nil, fun u hu => absurd hu List.not_mem_nil, fun u hu => absurd hu List.not_mem_nil, fun v hv => absurd hv List.not_mem_nil⟩, rfl, rfl, fun v hv => absurd hv List.not_mem_nil, fun e he => absurd he List.not_mem_nil, fun x hx => absurd hx List.not_mem_nil⟩
theorem st_rel : Xb (RlX (fun _ => false) (fun _ => 0) [] kd0 (fun _ => 0) (fun _ => 0) (fun _ => 0) (fun _ => 0) []) (c0 B) [] := by
  refine ⟨⟨List.Pairwise.nil, ⟨fun _ => false, List.Perm.refl _, fun z hz => absurd hz List.not_mem_nil⟩, fun f h1 h2 b => ⟨fun q => ?_, fun q => absurd (kd0_0 h1) q.1⟩, fun f i b => ⟨fun q => ?_, fun q => ?_⟩⟩, Nat.zero_le _⟩
  · obtain ⟨v, hv, -⟩ := q
    exact absurd hv.1 List.not_mem_nil
  · obtain ⟨v, hv, -⟩ := q
    exact absurd hv.1 List.not_mem_nil
  · obtain ⟨y, hy, -⟩ := q
    exact absurd hy List.not_mem_nil
theorem st_upq (hB : B = 64 ∨ B = 96 ∨ B = 128) : UpQ [] (48 * 0) (hpB B) B (20 * B) 0 0 (fun _ => false) (fun _ => 0) (nB B) (Xb (RlX (fun _ => false) (fun _ => 0) [] kd0 (fun _ => 0) (fun _ => 0) (fun _ => 0) (fun _ => 0) [])) := by
  have hf := frL_nil (B := B) (by omega)
  exact ⟨0, [], 0, 0, false, 0, [], _, c0 B, 0, [], [], [], [], st_ups (by omega) (by omega), st_stw, st_rel, fun v hv => absurd hv List.not_mem_nil, ⟨by omega, Nat.zero_le _, Nat.le_refl _, fun x hx => absurd hx List.not_mem_nil⟩, Nat.zero_le _⟩
set_option maxRecDepth 100000 in
theorem st_ref : RefI (hpB B) 0 (B * 256) 0 0 0 (fun _ => 0) 0 0 (fun _ => 0) 0 [] (fun _ => false) (fun _ => 0) (fun _ => []) kd0 (fun _ => 0) (fun _ => 0) (fun _ => 0) (fun _ => 0) [] := ⟨0, 203, 204, rfl, ⟨⟨_, fun _ => 0, fun _ => 0, fun _ => 0, fun _ => some 0, fun _ => 0, ⟨rfl, rfl, rfl, rfl, rfl, rfl⟩, fun i e h => nil_get h, fun v w h => nil_get h⟩, rfl, ⟨_, rfl⟩, ⟨_, rfl⟩, by decide, Or.inl rfl, Or.inr rfl⟩, rfl, rfl, ⟨fun _ => 0, fun _ => 0, fun _ => 0, fun _ => 0, fun _ => some 0, _, ⟨rfl, rfl, rfl, rfl, rfl, rfl⟩, fun t ht => ⟨rfl, rfl, Nat.zero_le _, Nat.zero_le _, fun i e h => nil_get h⟩⟩, ⟨(show (hpB B)[213]? = some (kI 201 (va_up (fun _ => 0) 0 2)) from rfl).trans (by rw [kd0_i]), rfl, rfl, rfl, rfl⟩, ⟨fun _ => 0, fun _ => 0, fun _ => 0, fun _ => 0, _, ⟨rfl, rfl, rfl, rfl, rfl⟩, fun j x h => nil_get h, fun i j hi => absurd hi (Nat.not_lt_zero i)⟩, rfl, rfl⟩
theorem kd0_ok : TreeOk kd0 (fun _ => 0) (fun _ => 0) (fun _ => 0) := fun v hv => by
  refine ⟨?_, Nat.zero_le _, Nat.zero_le _, Nat.zero_le _⟩
  by_cases e : v = 0
  · rw [e]
    exact Nat.le_refl _
  · rw [kd0_0 (by omega)]
    exact Nat.zero_le _
theorem kd0_sum {g : Nat → Nat} (n : Nat) : sumF (fun f => if kd0 f = 0 then 0 else g f) n = 0 := by
  rw [sumF_congr (h := fun _ => 0) n (fun f h1 _ => if_pos (kd0_0 h1)), sumF_zero]
theorem kd0_w : TrW kd0 (fun _ => 0) := ⟨rfl, fun v h1 h2 h3 => absurd (kd0_0 h1) h3⟩
/-- the invariant holds at the start -/
theorem st_inv (hB : B = 64 ∨ B = 96 ∨ B = 128) : InvI 0 (hpB B) := by
  refine Or.inl ⟨[], B, 20 * B, 0, 0, 0, 0, 0, 0, fun _ => 0, 0, fun _ => 0, 0, fun _ => [], (kd0, fun _ => 0, fun _ => 0, fun _ => 0, fun _ => 0, 0), fun _ => false, fun _ => 0, [], kd0, fun _ => 0, fun _ => 0, fun _ => 0, fun _ => 0, [], 0, 0, fun _ => 0, hB, rfl, by decide, Nat.le_refl _, by decide, by decide, by decide, st_cls, st_upq hB, st_ref, ⟨Nat.zero_le _, by decide, ⟨Nat.zero_le _, Nat.zero_le _, fun w hw => absurd hw List.not_mem_nil⟩, fun t ht => (show 0 < 2 ^ 31 by decide), kd0_ok, Nat.zero_le _, Nat.zero_le _, fun x hx => absurd hx List.not_mem_nil⟩, fun m hm => absurd hm List.not_mem_nil, ⟨List.Pairwise.nil, fun x hx => absurd hx List.not_mem_nil⟩, ?_, fun t ht => (show 0 < 2 ^ 30 by decide), fun t ht => ⟨fun a b e f ha => nil_get ha, fun e he => absurd he List.not_mem_nil, fun e he => absurd he List.not_mem_nil⟩, ⟨fun f hf => rfl, fun f hf hn => ⟨rfl, rfl, rfl, rfl⟩, ?_⟩, rfl, fun j hj => absurd hj (Nat.not_lt_zero j), ⟨Or.inl rfl, Or.inl rfl, ⟨Nat.zero_le _, ⟨rfl, rfl, rfl⟩, rfl, rfl, rfl⟩, kd0_ok, fun t ht => ⟨Nat.zero_le _, Nat.zero_le _⟩, fun x hx => absurd hx List.not_mem_nil, fun t ht q => (by cases q), Nat.le_refl _, kd0_w⟩, _, rfl⟩
  · unfold ndR
    rw [kd0_sum]
    exact Nat.zero_le _
  · show 0 = sumF (fun v => if kd0 v = 0 then 0 else 1) 200
    rw [kd0_sum (g := fun _ => 1)]
end ST
