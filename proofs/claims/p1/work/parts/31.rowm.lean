/-! ===== the class's rows of bytes, in any state: Row.add, Row.addInt; what stands before every call ===== -/
theorem args_v0 {M : aM} {H : aH} {a c : Nat} {fs st : List Value} (hS : mS M = 0) (hP : mP M = 0) (hL : 1 ≤ mL M) (hK : mK M = c) (hc : H[a]? = some (kO c fs)) (hs : cats st ≤ 8) : argsOf M 0 H (.ref (a + 1) :: st) = some ([.ref (a + 1)], st) := by
  unfold argsOf isOb
  rw [hS, hP, hK]
  dsimp only [List.drop, List.take]
  rw [hc]
  dsimp only
  simp only [beq_self_eq_true]
  rw [show Nat.ble (cats st) 8 = true from Nat.ble_eq_true_of_le hs, show Nat.ble (1 + cats []) (mL M) = true from Nat.ble_eq_true_of_le hL]
  rfl
theorem args_v1 {M : aM} {H : aH} {a c : Nat} {fs st : List Value} {x : Int32} (hS : mS M = 0) (hP : mP M = 1) (hL : 2 ≤ mL M) (hK : mK M = c) (hc : H[a]? = some (kO c fs)) (hs : cats st ≤ 8) : argsOf M 0 H (.int x :: .ref (a + 1) :: st) = some ([.ref (a + 1), .int x], st) := by
  unfold argsOf isOb
  rw [hS, hP, hK]
  dsimp only [List.drop, List.take]
  rw [hc]
  dsimp only
  simp only [beq_self_eq_true]
  rw [show Nat.ble (cats st) 8 = true from Nat.ble_eq_true_of_le hs, show Nat.ble (1 + cats [.int x]) (mL M) = true from Nat.ble_eq_true_of_le hL]
  rfl
theorem set4 {H : aH} {a b : Nat} (h : b ≠ a) (X X' Y Y' : aC) : (((H.set b X).set a Y).set b X').set a Y' = (H.set b X').set a Y' := by
  rw [List.set_comm Y X' (Ne.symm h), List.set_set, List.set_set]
/-- a row of bytes: its object, its bytes, its length, all in place -/
def RowAt (H : aH) (a b n : Nat) (f : Nat → Int8) (l : Nat) : Prop := H[a]? = some (kO 5 [.ref (b + 1), .int (nI l)]) ∧ H[b]? = some (kB n f) ∧ b ≠ a ∧ n < 2 ^ 31
/-- the heap with that row -/
def rowSet (H : aH) (a b n : Nat) (f : Nat → Int8) (l : Nat) : aH := (H.set b (kB n f)).set a (kO 5 [.ref (b + 1), .int (nI l)])
theorem RowAt.set {H : aH} {a b n : Nat} {f : Nat → Int8} {l : Nat} (h : RowAt H a b n f l) (f' : Nat → Int8) (l' : Nat) : RowAt (rowSet H a b n f' l') a b n f' l' := by
  obtain ⟨h1, h2, h3, h4⟩ := h
  refine ⟨?_, ?_, h3, h4⟩
  · unfold rowSet
    exact get_set (c := kO 5 [.ref (b + 1), .int (nI l)]) (by rw [List.getElem?_set, if_neg h3]; exact h1)
  · unfold rowSet
    rw [List.getElem?_set, if_neg (Ne.symm h3)]
    exact get_set h2
theorem rowSet_set {H : aH} {a b n : Nat} {f f' : Nat → Int8} {l l' : Nat} (h : b ≠ a) : rowSet (rowSet H a b n f l) a b n f' l' = rowSet H a b n f' l' := set4 h _ _ _ _
theorem rc_add {sc : Nat × (Nat → Int32)} {d : Nat} {H : aH} {a b n l : Nat} {f : Nat → Int8} {v : Int32} (h : RowAt H a b n f l) (hl : l < n) : RC sc d mr_21 [.ref (a + 1), .int v] H (.inl none) (rowSet H a b n (va_up f l v.toInt8) (l + 1)) 0 0 := by
  obtain ⟨h1, h2, h3, hn⟩ := h
  refine RP.blk 1 (pc' := 1) (lv' := [(0, .ref (a + 1)), (1, .int v)]) (st' := [.ref (a + 1)]) (H' := H) (kc' := 0) (ks' := 0) rfl ?_
  refine RP.get (ci := 5) rfl h1 rfl rfl ?_
  refine RP.brF rfl rfl rfl (decide_eq_false (nI_pos (by omega))) ?_
  refine RP.blk 1 (pc' := 8) (lv' := [(0, .ref (a + 1)), (1, .int v)]) (st' := [.ref (a + 1)]) (H' := H) (kc' := 0) (ks' := 0) rfl ?_
  refine RP.get (ci := 5) rfl h1 rfl rfl ?_
  refine RP.blk 1 (pc' := 12) (lv' := [(0, .ref (a + 1)), (1, .int v)]) (st' := [.ref (a + 1), .int (nI l)]) (H' := H) (kc' := 0) (ks' := 0) rfl ?_
  refine RP.get (ci := 5) rfl h1 rfl rfl ?_
  refine RP.len rfl h2 rfl ?_
  refine RP.brF rfl rfl rfl (decide_eq_false (nI_ge hl hn)) ?_
  refine RP.blk 1 (pc' := 20) (lv' := [(0, .ref (a + 1)), (1, .int v)]) (st' := [.ref (a + 1)]) (H' := H) (kc' := 0) (ks' := 0) rfl ?_
  refine RP.get (ci := 5) rfl h1 rfl rfl ?_
  refine RP.blk 1 (pc' := 24) (lv' := [(0, .ref (a + 1)), (1, .int v)]) (st' := [.ref (a + 1), .ref (b + 1)]) (H' := H) (kc' := 0) (ks' := 0) rfl ?_
  refine RP.get (ci := 5) rfl h1 rfl rfl ?_
  refine RP.blk 2 (pc' := 29) (lv' := [(0, .ref (a + 1)), (1, .int v)]) (st' := [.int v.toInt8.toInt32, .int (nI l), .ref (b + 1)]) (H' := H) (kc' := 0) (ks' := 0) rfl ?_
  refine RP.bast rfl h2 (inR_n hl hn) ?_
  rw [nI_clamp (by omega), Int8.toInt8_toInt32]
  have h1' : (H.set b (kB n (va_up f l v.toInt8)))[a]? = some (kO 5 [.ref (b + 1), .int (nI l)]) := by rw [List.getElem?_set, if_neg h3]; exact h1
  refine RP.blk 2 (pc' := 32) (lv' := [(0, .ref (a + 1)), (1, .int v)]) (st' := [.ref (a + 1), .ref (a + 1)]) (H' := _) (kc' := 0) (ks' := 0) rfl ?_
  refine RP.get (ci := 5) rfl h1' rfl rfl ?_
  refine RP.blk 2 (pc' := 37) (lv' := [(0, .ref (a + 1)), (1, .int v)]) (st' := [.int (nI l + 1), .ref (a + 1)]) (H' := _) (kc' := 0) (ks' := 0) rfl ?_
  rw [nI_1]
  refine RP.put (ci := 5) rfl h1' rfl rfl (Nat.le_of_ble_eq_true rfl) ?_
  exact RP.done (c := 0) (s := 0) rfl rfl rfl rfl
/-- four bytes more -/
def up4 (f : Nat → Int8) (l : Nat) (v : Int32) : Nat → Int8 := va_up (va_up (va_up (va_up f l (v >>> (24 &&& 31)).toInt8) (l + 1) (v >>> (16 &&& 31)).toInt8) (l + 2) (v >>> (8 &&& 31)).toInt8) (l + 3) v.toInt8
theorem rc_addInt {sc : Nat × (Nat → Int32)} {d : Nat} {H : aH} {a b n l : Nat} {f : Nat → Int8} {v : Int32} (h : RowAt H a b n f l) (hl : l + 4 ≤ n) : RC sc (d + 1) mr_20 [.ref (a + 1), .int v] H (.inl none) (rowSet H a b n (up4 f l v) (l + 4)) 0 0 := by
  have h3 := h.2.2.1
  refine RP.blk 4 (pc' := 5) (lv' := [(0, .ref (a + 1)), (1, .int v)]) (st' := [.int (v >>> (24 &&& 31)), .ref (a + 1)]) (H' := H) (kc' := 0) (ks' := 0) rfl ?_
  refine RP.call (v := none) (st' := []) rfl rfl rfl rfl rfl rfl (args_v1 rfl rfl (by decide) rfl h.1 (by decide)) (rc_add h (by omega)) ?_
  have g1 := h.set (va_up f l (v >>> (24 &&& 31)).toInt8) (l + 1)
  refine RP.blk 4 (pc' := 13) (lv' := [(0, .ref (a + 1)), (1, .int v)]) (st' := [.int (v >>> (16 &&& 31)), .ref (a + 1)]) (H' := _) (kc' := 0) (ks' := 0) rfl ?_
  refine RP.call (v := none) (st' := []) rfl rfl rfl rfl rfl rfl (args_v1 rfl rfl (by decide) rfl g1.1 (by decide)) (rc_add g1 (by omega)) ?_
  rw [rowSet_set h3]
  have g2 := h.set (va_up (va_up f l (v >>> (24 &&& 31)).toInt8) (l + 1) (v >>> (16 &&& 31)).toInt8) (l + 2)
  refine RP.blk 4 (pc' := 21) (lv' := [(0, .ref (a + 1)), (1, .int v)]) (st' := [.int (v >>> (8 &&& 31)), .ref (a + 1)]) (H' := _) (kc' := 0) (ks' := 0) rfl ?_
  refine RP.call (v := none) (st' := []) rfl rfl rfl rfl rfl rfl (args_v1 rfl rfl (by decide) rfl g2.1 (by decide)) (rc_add g2 (by omega)) ?_
  rw [rowSet_set h3]
  have g3 := h.set (va_up (va_up (va_up f l (v >>> (24 &&& 31)).toInt8) (l + 1) (v >>> (16 &&& 31)).toInt8) (l + 2) (v >>> (8 &&& 31)).toInt8) (l + 3)
  refine RP.blk 2 (pc' := 26) (lv' := [(0, .ref (a + 1)), (1, .int v)]) (st' := [.int v, .ref (a + 1)]) (H' := _) (kc' := 0) (ks' := 0) rfl ?_
  refine RP.call (v := none) (st' := []) rfl rfl rfl rfl rfl rfl (args_v1 rfl rfl (by decide) rfl g3.1 (by decide)) (rc_add g3 (by omega)) ?_
  rw [rowSet_set h3]
  exact RP.done (c := 0) (s := 0) rfl rfl rfl rfl
/-! what stands before the calls of the face -/
theorem rc_up {sc : Nat × (Nat → Int32)} {d : Nat} {H : aH} {o : Nat} {fs : List Value} (h : H[o]? = some (kO 11 fs)) (hu : fs[13]? = some (.int 1)) : RC sc d mr_18 [.ref (o + 1)] H (.inl none) H 0 0 := by
  refine RP.blk 1 (pc' := 1) (lv' := [(0, .ref (o + 1))]) (st' := [.ref (o + 1)]) (H' := H) (kc' := 0) (ks' := 0) rfl ?_
  refine RP.get (ci := 11) rfl h rfl hu ?_
  refine RP.brT rfl rfl rfl (by decide) ?_
  exact RP.done (c := 0) (s := 0) rfl rfl rfl rfl
theorem rc_down {sc : Nat × (Nat → Int32)} {d : Nat} {H : aH} {o : Nat} {fs : List Value} (h : H[o]? = some (kO 11 fs)) (hu : fs[13]? = some (.int 0)) : RC sc d mr_18 [.ref (o + 1)] H (.inr 1) H 1 6 := by
  refine RP.blk 1 (pc' := 1) (lv' := [(0, .ref (o + 1))]) (st' := [.ref (o + 1)]) (H' := H) (kc' := 0) (ks' := 0) rfl ?_
  refine RP.get (ci := 11) rfl h rfl hu ?_
  refine RP.brF rfl rfl rfl (by decide) ?_
  exact RP.done (c := 1) (s := 6) rfl rfl rfl rfl
theorem rc_room {sc : Nat × (Nat → Int32)} {d : Nat} {H : aH} {o a b n l k : Nat} {f : Nat → Int8} {fs : List Value} (h : H[o]? = some (kO 11 fs)) (ht : fs[1]? = some (.ref (a + 1))) (hr : RowAt H a b n f l) (hk : l + k ≤ 2000) : RC sc d mr_19 [.ref (o + 1), .int (nI k)] H (.inl none) H 0 0 := by
  refine RP.blk 1 (pc' := 1) (lv' := [(0, .ref (o + 1)), (1, .int (nI k))]) (st' := [.ref (o + 1)]) (H' := H) (kc' := 0) (ks' := 0) rfl ?_
  refine RP.get (ci := 11) rfl h rfl ht ?_
  refine RP.get (ci := 5) rfl hr.1 rfl rfl ?_
  refine RP.blk 3 (pc' := 12) (lv' := [(0, .ref (o + 1)), (1, .int (nI k))]) (st' := [.int 2000, .int (nI l + nI k)]) (H' := H) (kc' := 0) (ks' := 0) rfl ?_
  rw [nI_add]
  refine RP.brT rfl rfl rfl (decide_eq_true (show nI (l + k) ≤ 2000 from nI_le (b := 2000) hk (by decide))) ?_
  exact RP.done (c := 0) (s := 0) rfl rfl rfl rfl
theorem rc_noroom {sc : Nat × (Nat → Int32)} {d : Nat} {H : aH} {o a b n l k : Nat} {f : Nat → Int8} {fs : List Value} (h : H[o]? = some (kO 11 fs)) (ht : fs[1]? = some (.ref (a + 1))) (hr : RowAt H a b n f l) (hk : 2000 < l + k) (hb : l + k < 2 ^ 31) : RC sc d mr_19 [.ref (o + 1), .int (nI k)] H (.inr 2) H 1 6 := by
  refine RP.blk 1 (pc' := 1) (lv' := [(0, .ref (o + 1)), (1, .int (nI k))]) (st' := [.ref (o + 1)]) (H' := H) (kc' := 0) (ks' := 0) rfl ?_
  refine RP.get (ci := 11) rfl h rfl ht ?_
  refine RP.get (ci := 5) rfl hr.1 rfl rfl ?_
  refine RP.blk 3 (pc' := 12) (lv' := [(0, .ref (o + 1)), (1, .int (nI k))]) (st' := [.int 2000, .int (nI l + nI k)]) (H' := H) (kc' := 0) (ks' := 0) rfl ?_
  rw [nI_add]
  refine RP.brF rfl rfl rfl (decide_eq_false (show ¬ nI (l + k) ≤ 2000 from nI_ge (a := 2000) hk hb)) ?_
  exact RP.done (c := 1) (s := 6) rfl rfl rfl rfl
theorem row_other {H : aH} {a b n o : Nat} {f : Nat → Int8} {l : Nat} {c : aC} (h : H[o]? = some c) (h1 : o ≠ a) (h2 : o ≠ b) : (rowSet H a b n f l)[o]? = some c := by
  unfold rowSet
  rw [List.getElem?_set, if_neg (Ne.symm h1), List.getElem?_set, if_neg (Ne.symm h2)]
  exact h
theorem args_v5 {M : aM} {H : aH} {a c : Nat} {fs st : List Value} {x1 x2 x3 x4 x5 : Int32} (hS : mS M = 0) (hP : mP M = 5) (hL : 6 ≤ mL M) (hK : mK M = c) (hc : H[a]? = some (kO c fs)) (hs : cats st ≤ 8) : argsOf M 0 H (.int x5 :: .int x4 :: .int x3 :: .int x2 :: .int x1 :: .ref (a + 1) :: st) = some ([.ref (a + 1), .int x1, .int x2, .int x3, .int x4, .int x5], st) := by
  unfold argsOf isOb
  rw [hS, hP, hK]
  dsimp only [List.drop, List.take]
  rw [hc]
  dsimp only
  simp only [beq_self_eq_true]
  rw [show Nat.ble (cats st) 8 = true from Nat.ble_eq_true_of_le hs, show Nat.ble (1 + cats [.int x5, .int x4, .int x3, .int x2, .int x1]) (mL M) = true from Nat.ble_eq_true_of_le hL]
  rfl
/-- feed, where there is room and the store is up -/
theorem rc_feed {sc : Nat × (Nat → Int32)} {d : Nat} {H : aH} {o a b n l : Nat} {f : Nat → Int8} {fs : List Value} {x1 x2 x3 x4 x5 : Int32} (h : H[o]? = some (kO 11 fs)) (hu : fs[13]? = some (.int 1)) (ht : fs[1]? = some (.ref (a + 1))) (hr : RowAt H a b n f l) (hoa : o ≠ a) (hob : o ≠ b) (hn : 2000 ≤ n) (hk : l + 20 ≤ 2000) :
    RC sc (d + 2) mr_17 [.ref (o + 1), .int x1, .int x2, .int x3, .int x4, .int x5] H (.inl (some (.int (nI (l + 20))))) (rowSet H a b n (up4 (up4 (up4 (up4 (up4 f l x1) (l + 4) x2) (l + 8) x3) (l + 12) x4) (l + 16) x5) (l + 20)) 0 0 := by
  have h3 := hr.2.2.1
  refine RP.blk 1 (pc' := 1) (lv' := [(0, .ref (o + 1)), (1, .int x1), (2, .int x2), (3, .int x3), (4, .int x4), (5, .int x5)]) (st' := [.ref (o + 1)]) (H' := H) (kc' := 0) (ks' := 0) rfl ?_
  refine RP.call (v := none) (st' := []) rfl rfl rfl rfl rfl rfl (args_v0 rfl rfl (by decide) rfl h (by decide)) (rc_up h hu) ?_
  refine RP.blk 2 (pc' := 7) (lv' := [(0, .ref (o + 1)), (1, .int x1), (2, .int x2), (3, .int x3), (4, .int x4), (5, .int x5)]) (st' := [.int (nI 20), .ref (o + 1)]) (H' := H) (kc' := 0) (ks' := 0) rfl ?_
  refine RP.call (v := none) (st' := []) rfl rfl rfl rfl rfl rfl (args_v1 rfl rfl (by decide) rfl h (by decide)) (rc_room h ht hr hk) ?_
  refine RP.blk 1 (pc' := 11) (lv' := [(0, .ref (o + 1)), (1, .int x1), (2, .int x2), (3, .int x3), (4, .int x4), (5, .int x5)]) (st' := [.ref (o + 1)]) (H' := H) (kc' := 0) (ks' := 0) rfl ?_
  refine RP.get (ci := 11) rfl h rfl ht ?_
  refine RP.blk 1 (pc' := 15) (lv' := [(0, .ref (o + 1)), (1, .int x1), (2, .int x2), (3, .int x3), (4, .int x4), (5, .int x5)]) (st' := [.int x1, .ref (a + 1)]) (H' := H) (kc' := 0) (ks' := 0) rfl ?_
  refine RP.call (v := none) (st' := []) rfl rfl rfl rfl rfl rfl (args_v1 rfl rfl (by decide) rfl hr.1 (by decide)) (rc_addInt hr (by omega)) ?_
  have r1 := hr.set (up4 f l x1) (l + 4)
  have o1 := row_other (n := n) (f := up4 f l x1) (l := l + 4) h hoa hob
  refine RP.blk 1 (pc' := 19) (lv' := [(0, .ref (o + 1)), (1, .int x1), (2, .int x2), (3, .int x3), (4, .int x4), (5, .int x5)]) (st' := [.ref (o + 1)]) (H' := _) (kc' := 0) (ks' := 0) rfl ?_
  refine RP.get (ci := 11) rfl o1 rfl ht ?_
  refine RP.blk 1 (pc' := 23) (lv' := [(0, .ref (o + 1)), (1, .int x1), (2, .int x2), (3, .int x3), (4, .int x4), (5, .int x5)]) (st' := [.int x2, .ref (a + 1)]) (H' := _) (kc' := 0) (ks' := 0) rfl ?_
  refine RP.call (v := none) (st' := []) rfl rfl rfl rfl rfl rfl (args_v1 rfl rfl (by decide) rfl r1.1 (by decide)) (rc_addInt r1 (by omega)) ?_
  rw [rowSet_set h3]
  have r2 := hr.set (up4 (up4 f l x1) (l + 4) x2) (l + 8)
  have o2 := row_other (n := n) (f := up4 (up4 f l x1) (l + 4) x2) (l := l + 8) h hoa hob
  refine RP.blk 1 (pc' := 27) (lv' := [(0, .ref (o + 1)), (1, .int x1), (2, .int x2), (3, .int x3), (4, .int x4), (5, .int x5)]) (st' := [.ref (o + 1)]) (H' := _) (kc' := 0) (ks' := 0) rfl ?_
  refine RP.get (ci := 11) rfl o2 rfl ht ?_
  refine RP.blk 1 (pc' := 31) (lv' := [(0, .ref (o + 1)), (1, .int x1), (2, .int x2), (3, .int x3), (4, .int x4), (5, .int x5)]) (st' := [.int x3, .ref (a + 1)]) (H' := _) (kc' := 0) (ks' := 0) rfl ?_
  refine RP.call (v := none) (st' := []) rfl rfl rfl rfl rfl rfl (args_v1 rfl rfl (by decide) rfl r2.1 (by decide)) (rc_addInt r2 (by omega)) ?_
  rw [rowSet_set h3]
  have r3 := hr.set (up4 (up4 (up4 f l x1) (l + 4) x2) (l + 8) x3) (l + 12)
  have o3 := row_other (n := n) (f := up4 (up4 (up4 f l x1) (l + 4) x2) (l + 8) x3) (l := l + 12) h hoa hob
  refine RP.blk 1 (pc' := 35) (lv' := [(0, .ref (o + 1)), (1, .int x1), (2, .int x2), (3, .int x3), (4, .int x4), (5, .int x5)]) (st' := [.ref (o + 1)]) (H' := _) (kc' := 0) (ks' := 0) rfl ?_
  refine RP.get (ci := 11) rfl o3 rfl ht ?_
  refine RP.blk 1 (pc' := 40) (lv' := [(0, .ref (o + 1)), (1, .int x1), (2, .int x2), (3, .int x3), (4, .int x4), (5, .int x5)]) (st' := [.int x4, .ref (a + 1)]) (H' := _) (kc' := 0) (ks' := 0) rfl ?_
  refine RP.call (v := none) (st' := []) rfl rfl rfl rfl rfl rfl (args_v1 rfl rfl (by decide) rfl r3.1 (by decide)) (rc_addInt r3 (by omega)) ?_
  rw [rowSet_set h3]
  have r4 := hr.set (up4 (up4 (up4 (up4 f l x1) (l + 4) x2) (l + 8) x3) (l + 12) x4) (l + 16)
  have o4 := row_other (n := n) (f := up4 (up4 (up4 (up4 f l x1) (l + 4) x2) (l + 8) x3) (l + 12) x4) (l := l + 16) h hoa hob
  refine RP.blk 1 (pc' := 44) (lv' := [(0, .ref (o + 1)), (1, .int x1), (2, .int x2), (3, .int x3), (4, .int x4), (5, .int x5)]) (st' := [.ref (o + 1)]) (H' := _) (kc' := 0) (ks' := 0) rfl ?_
  refine RP.get (ci := 11) rfl o4 rfl ht ?_
  refine RP.blk 1 (pc' := 49) (lv' := [(0, .ref (o + 1)), (1, .int x1), (2, .int x2), (3, .int x3), (4, .int x4), (5, .int x5)]) (st' := [.int x5, .ref (a + 1)]) (H' := _) (kc' := 0) (ks' := 0) rfl ?_
  refine RP.call (v := none) (st' := []) rfl rfl rfl rfl rfl rfl (args_v1 rfl rfl (by decide) rfl r4.1 (by decide)) (rc_addInt r4 (by omega)) ?_
  rw [rowSet_set h3]
  have r5 := hr.set (up4 (up4 (up4 (up4 (up4 f l x1) (l + 4) x2) (l + 8) x3) (l + 12) x4) (l + 16) x5) (l + 20)
  have o5 := row_other (n := n) (f := up4 (up4 (up4 (up4 (up4 f l x1) (l + 4) x2) (l + 8) x3) (l + 12) x4) (l + 16) x5) (l := l + 20) h hoa hob
  refine RP.blk 1 (pc' := 53) (lv' := [(0, .ref (o + 1)), (1, .int x1), (2, .int x2), (3, .int x3), (4, .int x4), (5, .int x5)]) (st' := [.ref (o + 1)]) (H' := _) (kc' := 0) (ks' := 0) rfl ?_
  refine RP.get (ci := 11) rfl o5 rfl ht ?_
  refine RP.get (ci := 5) rfl r5.1 rfl rfl ?_
  exact RP.done (c := 0) (s := 0) rfl rfl rfl rfl
