/-! ===== a table that is being written: its blocks, its page; by hand ===== -/
/-- what was given out of a table so far: es; c0, us0: as it began -/
def DP (c0 c : Nat → Int8) (B : Nat) (us0 us : Nat → Bool) (x : aR) (pg : Nat → Int8) (bf : Nat) (es : List aT) : Prop := x.2.2.1 = es.length ∧ x.2.1 ≤ x.2.2.2.length * 2048 ∧ (0 < bf → x.2.1 = x.2.2.2.length * 2048) ∧ sl (strm c x.2.2.2) 0 x.2.1 ++ sl pg 0 bf = es.flatMap encE ∧ x.2.2.2.Nodup ∧ (∀ b ∈ x.2.2.2, b < B ∧ us0 b = false) ∧ (∀ b, us b = (us0 b || x.2.2.2.contains b)) ∧ ∀ q, ¬ q / 2048 ∈ x.2.2.2 → c q = c0 q
theorem strm_ext {c c' : Nat → Int8} {ids ids' : List Nat} {n : Nat} (hn : n ≤ ids.length * 2048) (h : ∀ q, q / 2048 ∈ ids → c' q = c q) : sl (strm c' (ids ++ ids')) 0 n = sl (strm c ids) 0 n := by
  refine sl_congr n 0 0 (fun q hq => ?_)
  rw [Nat.zero_add]
  have hlt : q / 2048 < ids.length := by omega
  obtain ⟨b, hb⟩ := lt_get hlt
  unfold strm
  rw [List.getD_eq_getElem?_getD, List.getD_eq_getElem?_getD, List.getElem?_append_left hlt, hb]
  show c' (b * 2048 + q % 2048) = c (b * 2048 + q % 2048)
  refine h _ ?_
  rw [show (b * 2048 + q % 2048) / 2048 = b by omega]
  exact List.mem_of_getElem? hb
theorem strm_new {c f : Nat → Int8} {ids : List Nat} {b n : Nat} (hn : n ≤ 2048) : sl (strm (blkW c b f n) (ids ++ [b])) (ids.length * 2048) n = sl f 0 n := by
  refine sl_congr n _ 0 (fun q hq => ?_)
  unfold strm
  rw [show (ids.length * 2048 + q) / 2048 = ids.length by omega, show (ids.length * 2048 + q) % 2048 = q by omega, List.getD_eq_getElem?_getD, List.getElem?_append_right (Nat.le_refl _), Nat.sub_self]
  show blkW c b f n (b * 2048 + q) = _
  unfold blkW
  exact cpy_in hq
/-- a page goes out -/
theorem DP.page {c0 c : Nat → Int8} {B : Nat} {us0 us : Nat → Bool} {x : aR} {pg pg' : Nat → Int8} {bf n b : Nat} {es : List aT} (h : DP c0 c B us0 us x pg bf es) (hn : min bf 2048 = n) (hn1 : 1 ≤ n) (hb : b < B) (hub : us b = false) (hpg : sl pg' 0 (bf - n) = sl pg n (bf - n)) : DP c0 (blkW c b pg n) B us0 (va_up us b true) (x.1, x.2.1 + n, x.2.2.1, x.2.2.2 ++ [b]) pg' (bf - n) es := by
  obtain ⟨h1, h2, h3, h4, h5, h6, h7, h8⟩ := h
  have hx := h3 (by omega)
  have hub2 := h7 b
  rw [hub] at hub2
  have hnb : us0 b = false ∧ x.2.2.2.contains b = false := by
    cases e1 : us0 b <;> cases e2 : x.2.2.2.contains b <;> rw [e1, e2] at hub2 <;> first | exact ⟨rfl, rfl⟩ | cases hub2
  have hnm : ¬ b ∈ x.2.2.2 := fun e => by rw [List.contains_iff_mem.mpr e] at hnb; cases hnb.2
  refine ⟨h1, ?_, fun h0 => ?_, ?_, ?_, fun b' hb' => ?_, fun b' => ?_, fun q hq => ?_⟩
  · show x.2.1 + n ≤ (x.2.2.2 ++ [b]).length * 2048
    rw [List.length_append]
    show x.2.1 + n ≤ (x.2.2.2.length + 1) * 2048
    omega
  · show x.2.1 + n = (x.2.2.2 ++ [b]).length * 2048
    rw [List.length_append]
    show x.2.1 + n = (x.2.2.2.length + 1) * 2048
    omega
  · show sl (strm (blkW c b pg n) (x.2.2.2 ++ [b])) 0 (x.2.1 + n) ++ sl pg' 0 (bf - n) = _
    rw [sl_append, strm_ext (c := c) (by omega) (fun q hq => agB_blkW (by omega) q (fun e => hnm (by rw [← e]; exact hq))), Nat.zero_add]
    rw [show sl (strm (blkW c b pg n) (x.2.2.2 ++ [b])) x.2.1 n = sl pg 0 n by rw [hx]; exact strm_new (by omega)]
    rw [hpg, ← h4, List.append_assoc]
    congr 1
    have := sl_append (f := pg) n (bf - n) 0
    rw [show n + (bf - n) = bf by omega, Nat.zero_add] at this
    exact this.symm
  · exact List.nodup_append.mpr ⟨h5, List.pairwise_singleton _ _, fun a ha b' hb' e => hnm (by rw [List.mem_singleton.mp hb'] at e; rw [← e]; exact ha)⟩
  · rcases List.mem_append.mp hb' with e | e
    · exact h6 b' e
    · rw [List.mem_singleton.mp e]; exact ⟨hb, hnb.1⟩
  · show va_up us b true b' = (us0 b' || (x.2.2.2 ++ [b]).contains b')
    rw [con_snoc]
    unfold va_up
    by_cases e : b' = b
    · rw [if_pos e, decide_eq_true e, Bool.or_true, Bool.or_true]
    · rw [if_neg e, decide_eq_false e, Bool.or_false]; exact h7 b'
  · have hq1 : ¬ q / 2048 ∈ x.2.2.2 := fun e => hq (List.mem_append.mpr (Or.inl e))
    rw [agB_blkW (by omega) q (fun e => hq (List.mem_append.mpr (Or.inr (List.mem_singleton.mpr e))))]
    exact h8 q hq1
/-- an entry more -/
theorem DP.emit {c0 c : Nat → Int8} {B : Nat} {us0 us : Nat → Bool} {x : aR} {pg pg' : Nat → Int8} {bf bf' : Nat} {es : List aT} {e : aT} (h : DP c0 c B us0 us x pg bf es) (hx : x.2.1 = x.2.2.2.length * 2048) (hpg : sl pg' 0 bf' = sl pg 0 bf ++ encE e) : DP c0 c B us0 us (x.1, x.2.1, x.2.2.1 + 1, x.2.2.2) pg' bf' (es ++ [e]) := by
  obtain ⟨h1, h2, h3, h4, h5, h6, h7, h8⟩ := h
  refine ⟨?_, h2, fun _ => hx, ?_, h5, h6, h7, h8⟩
  · show x.2.2.1 + 1 = _
    rw [List.length_append, h1]
    rfl
  · show sl (strm c x.2.2.2) 0 x.2.1 ++ _ = _
    rw [hpg, List.flatMap_append, List.flatMap_cons, List.flatMap_nil, List.append_nil, ← h4, List.append_assoc]
theorem DP.bytes {c0 c : Nat → Int8} {B : Nat} {us0 us : Nat → Bool} {x : aR} {pg : Nat → Int8} {bf : Nat} {es : List aT} (h : DP c0 c B us0 us x pg bf es) : x.2.1 + bf = (es.flatMap encE).length := by
  have := congrArg List.length h.2.2.2.1
  rw [List.length_append, sl_length, sl_length] at this
  exact this
/-- all of it is written -/
theorem DP.done {c0 c : Nat → Int8} {B : Nat} {us0 us : Nat → Bool} {x : aR} {pg : Nat → Int8} {es : List aT} (h : DP c0 c B us0 us x pg 0 es) (hE : ∀ e ∈ es, EOk e) (hl : x.2.2.2.length ≤ 64) : RunOk c B x es := by
  have hb := h.bytes
  obtain ⟨h1, h2, h3, h4, h5, h6, h7, h8⟩ := h
  refine ⟨h1, by omega, ?_, h2, hE, fun b hb => (h6 b hb).1, hl⟩
  have h4 : sl (strm c x.2.2.2) 0 x.2.1 ++ [] = _ := h4
  rwa [List.append_nil] at h4
theorem DP.begin {c : Nat → Int8} {B l : Nat} {us : Nat → Bool} {pg : Nat → Int8} : DP c c B us us (l, 0, 0, []) pg 0 [] := by
  refine ⟨rfl, Nat.zero_le _, fun h => absurd h (Nat.lt_irrefl _), rfl, List.Pairwise.nil, fun b hb => absurd hb List.not_mem_nil, fun b => ?_, fun q _ => rfl⟩
  show us b = (us b || false)
  rw [Bool.or_false]
/-- how many blocks are free -/
def freeN (us : Nat → Bool) (B : Nat) : Nat := cntB (fun b => !(us b)) B
theorem free_ex {us : Nat → Bool} {B : Nat} (h : 1 ≤ freeN us B) : ∃ b, b < B ∧ us b = false := by
  unfold freeN at h
  induction B with
  | zero => exact absurd h (show ¬ 1 ≤ 0 by decide)
  | succ B ih =>
    rw [cntB] at h
    cases hu : us B with
    | false => exact ⟨B, Nat.lt_succ_self B, hu⟩
    | true =>
      rw [hu] at h
      obtain ⟨b, h1, h2⟩ := ih h
      exact ⟨b, by omega, h2⟩
theorem free_take {us : Nat → Bool} {B b : Nat} (hb : b < B) (hub : us b = false) : freeN (va_up us b true) B + 1 = freeN us B := by
  unfold freeN
  have := cntB_upd (f := fun j => !(us j)) (g := fun j => !(va_up us b true j)) (k := b) B hb (fun j hj hjk => by show (!va_up us b true j) = !(us j); rw [up_ne hjk])
  have e1 : (!(us b)) = true := by rw [hub]; rfl
  have e2 : (!(va_up us b true b)) = false := by rw [up_at]; rfl
  have this : cntB (fun j => !(va_up us b true j)) B + (if (!(us b)) = true then 1 else 0) = cntB (fun j => !(us j)) B + (if (!(va_up us b true b)) = true then 1 else 0) := this
  rw [e1, e2, if_pos rfl, if_neg (by decide)] at this
  exact this
theorem usesL_0 {lgs : List Nat} {rs : List aR} {b : Nat} (h : usedB lgs rs b = false) : usesL lgs rs b = 0 := by
  have h1 : ¬ (b < 2 ∨ b ∈ lgs ∨ ∃ x ∈ rs, b ∈ x.2.2.2) := fun e => by rw [usedB_iff.mpr e] at h; cases h
  unfold usesL
  rw [if_neg (fun e => h1 (Or.inl e)), List.count_eq_zero.mpr (fun e => h1 (Or.inr (Or.inl e)))]
  have : ∀ (l : List aR), (∀ x ∈ l, ¬ b ∈ x.2.2.2) → (l.map (fun x => x.2.2.2.count b)).sum = 0 := by
    intro l
    induction l with
    | nil => intro _; rfl
    | cons a t ih =>
      intro hl
      rw [List.map_cons, List.sum_cons, List.count_eq_zero.mpr (hl a List.mem_cons_self), ih (fun x hx => hl x (List.mem_cons_of_mem _ hx))]
  rw [this rs (fun x hx e => h1 (Or.inr (Or.inr ⟨x, hx, e⟩)))]
