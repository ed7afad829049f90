/-! ===== small rules for contracts over facts: conditions of numbers, arrays at a number, arguments ===== -/
section CN
variable {x y : Int32}
theorem cT_lt (a b : Nat) (h : a < b := by omega) (hb : b < 2 ^ 31 := by omega) (hx : x = nI a := by rfl) (hy : y = nI b := by rfl) : cond32 .lt x y = true := by subst hx hy; exact decide_eq_true (nI_lt h hb)
theorem cF_lt (a b : Nat) (h : b ≤ a := by omega) (hb : a < 2 ^ 31 := by omega) (hx : x = nI a := by rfl) (hy : y = nI b := by rfl) : cond32 .lt x y = false := by subst hx hy; exact decide_eq_false (nI_nlt h hb)
theorem cT_ge (a b : Nat) (h : b ≤ a := by omega) (hb : a < 2 ^ 31 := by omega) (hx : x = nI a := by rfl) (hy : y = nI b := by rfl) : cond32 .ge x y = true := by subst hx hy; exact decide_eq_true (nI_le h hb)
theorem cF_ge (a b : Nat) (h : a < b := by omega) (hb : b < 2 ^ 31 := by omega) (hx : x = nI a := by rfl) (hy : y = nI b := by rfl) : cond32 .ge x y = false := by subst hx hy; exact decide_eq_false (nI_ge h hb)
theorem cT_gt (a b : Nat) (h : b < a := by omega) (hb : a < 2 ^ 31 := by omega) (hx : x = nI a := by rfl) (hy : y = nI b := by rfl) : cond32 .gt x y = true := by subst hx hy; exact decide_eq_true (nI_lt h hb)
theorem cF_gt (a b : Nat) (h : a ≤ b := by omega) (hb : b < 2 ^ 31 := by omega) (hx : x = nI a := by rfl) (hy : y = nI b := by rfl) : cond32 .gt x y = false := by subst hx hy; exact decide_eq_false (nI_nlt h hb)
theorem cT_le (a b : Nat) (h : a ≤ b := by omega) (hb : b < 2 ^ 31 := by omega) (hx : x = nI a := by rfl) (hy : y = nI b := by rfl) : cond32 .le x y = true := by subst hx hy; exact decide_eq_true (nI_le h hb)
theorem cF_le (a b : Nat) (h : b < a := by omega) (hb : a < 2 ^ 31 := by omega) (hx : x = nI a := by rfl) (hy : y = nI b := by rfl) : cond32 .le x y = false := by subst hx hy; exact decide_eq_false (nI_ge h hb)
theorem cT_eq (a b : Nat) (h : a = b := by omega) (hx : x = nI a := by rfl) (hy : y = nI b := by rfl) : cond32 .eq x y = true := by subst hx hy h; exact decide_eq_true rfl
theorem cF_eq (a b : Nat) (h : a ≠ b := by omega) (ha : a < 2 ^ 31 := by omega) (hb : b < 2 ^ 31 := by omega) (hx : x = nI a := by rfl) (hy : y = nI b := by rfl) : cond32 .eq x y = false := by subst hx hy; exact decide_eq_false (fun e => h ((nI_eq ha hb).mp e))
theorem cF_ne (a b : Nat) (h : a = b := by omega) (hx : x = nI a := by rfl) (hy : y = nI b := by rfl) : cond32 .ne x y = false := by subst hx hy h; exact bnf rfl
theorem cT_ne (a b : Nat) (h : a ≠ b := by omega) (ha : a < 2 ^ 31 := by omega) (hb : b < 2 ^ 31 := by omega) (hx : x = nI a := by rfl) (hy : y = nI b := by rfl) : cond32 .ne x y = true := by subst hx hy; exact bnt (fun e => h ((nI_eq ha hb).mp e))
end CN
section AN
variable {sc : Nat × (Nat → Int32)} {d : Nat} {M : aM} {pc nx : Nat} {lv : aL} {st : List Value} {H : aH} {kc ks : Nat} {r : tO × aH × Nat × Nat}
theorem RP.ialdN {a n j : Nat} {f : Nat → Int32} (hI : lkI pc (mT M) = some (nx, .iaload)) (hc : H[a]? = some (kI n f)) (hj : j < n) (hn : n < 2 ^ 31) (k : RP sc d M nx lv (.int (f j) :: st) H kc ks r) : RP sc d M pc lv (.int (nI j) :: .ref (a + 1) :: st) H kc ks r := by
  refine RP.iald hI hc (inR_n hj hn) ?_
  rw [nI_clamp (by omega)]
  exact k
theorem RP.baldN {a n j : Nat} {f : Nat → Int8} (hI : lkI pc (mT M) = some (nx, .baload)) (hc : H[a]? = some (kB n f)) (hj : j < n) (hn : n < 2 ^ 31) (k : RP sc d M nx lv (.int (f j).toInt32 :: st) H kc ks r) : RP sc d M pc lv (.int (nI j) :: .ref (a + 1) :: st) H kc ks r := by
  refine RP.bald hI hc (inR_n hj hn) ?_
  rw [nI_clamp (by omega)]
  exact k
theorem RP.zaldN {a n j : Nat} {f : Nat → Bool} (hI : lkI pc (mT M) = some (nx, .baload)) (hc : H[a]? = some (kZ n f)) (hj : j < n) (hn : n < 2 ^ 31) (k : RP sc d M nx lv (.int (if f j then 1 else 0) :: st) H kc ks r) : RP sc d M pc lv (.int (nI j) :: .ref (a + 1) :: st) H kc ks r := by
  refine RP.zald hI hc (inR_n hj hn) ?_
  rw [nI_clamp (by omega)]
  exact k
theorem RP.iastN {a n j : Nat} {f : Nat → Int32} {x : Int32} (hI : lkI pc (mT M) = some (nx, .iastore)) (hc : H[a]? = some (kI n f)) (hj : j < n) (hn : n < 2 ^ 31) (k : RP sc d M nx lv st (H.set a (kI n (va_up f j x))) kc ks r) : RP sc d M pc lv (.int x :: .int (nI j) :: .ref (a + 1) :: st) H kc ks r := by
  refine RP.iast hI hc (inR_n hj hn) ?_
  rw [nI_clamp (by omega)]
  exact k
theorem RP.bastN {a n j : Nat} {f : Nat → Int8} {x : Int32} (hI : lkI pc (mT M) = some (nx, .bastore)) (hc : H[a]? = some (kB n f)) (hj : j < n) (hn : n < 2 ^ 31) (k : RP sc d M nx lv st (H.set a (kB n (va_up f j x.toInt8))) kc ks r) : RP sc d M pc lv (.int x :: .int (nI j) :: .ref (a + 1) :: st) H kc ks r := by
  refine RP.bast hI hc (inR_n hj hn) ?_
  rw [nI_clamp (by omega)]
  exact k
theorem RP.zastN {a n j : Nat} {f : Nat → Bool} {x : Int32} (hI : lkI pc (mT M) = some (nx, .bastore)) (hc : H[a]? = some (kZ n f)) (hj : j < n) (hn : n < 2 ^ 31) (k : RP sc d M nx lv st (H.set a (kZ n (va_up f j (decide (x &&& 1 = 1))))) kc ks r) : RP sc d M pc lv (.int x :: .int (nI j) :: .ref (a + 1) :: st) H kc ks r := by
  refine RP.zast hI hc (inR_n hj hn) ?_
  rw [nI_clamp (by omega)]
  exact k
end AN
theorem args_v {M : aM} {H : aH} {a c : Nat} {fs : List Value} (xs st : List Value) (hS : mS M = 0) (hP : mP M = xs.length) (hL : 1 + cats xs ≤ mL M) (hK : mK M = c) (hc : H[a]? = some (kO c fs)) (hs : cats st ≤ 8) : argsOf M 0 H (xs ++ .ref (a + 1) :: st) = some (.ref (a + 1) :: xs.reverse, st) := by
  unfold argsOf isOb
  rw [hS, hP, hK]
  try dsimp only
  rw [List.drop_left, List.take_left]
  try dsimp only
  rw [hc]
  try dsimp only
  simp only [beq_self_eq_true]
  rw [show Nat.ble (cats st) 8 = true from Nat.ble_eq_true_of_le hs, show Nat.ble (1 + cats xs) (mL M) = true from Nat.ble_eq_true_of_le hL, show Nat.ble xs.length (xs ++ .ref (a + 1) :: st).length = true from Nat.ble_eq_true_of_le (by rw [List.length_append]; omega)]
  rfl
theorem fs_ne {l : List Value} {i j : Nat} {v : Value} (h : j ≠ i) : (l.set i v)[j]? = l[j]? := by rw [List.getElem?_set, if_neg (Ne.symm h)]
theorem fs_eq {l : List Value} {i : Nat} {v : Value} (h : i < l.length) : (l.set i v)[i]? = some v := by rw [List.getElem?_set, if_pos rfl, if_pos h]
theorem len_set {l : List Value} {i n : Nat} {v : Value} (h : l.length = n) : (l.set i v).length = n := by rw [List.length_set]; exact h
theorem lt_len {l : List Value} {k n : Nat} (h : l.length = n) (hk : k < n) : k < l.length := by rw [h]; exact hk
theorem rowSet_self {H : aH} {a b n : Nat} {f : Nat → Int8} {l : Nat} (h : RowAt H a b n f l) : rowSet H a b n f l = H := by
  unfold rowSet
  rw [set_self h.2.1, set_self h.1]
