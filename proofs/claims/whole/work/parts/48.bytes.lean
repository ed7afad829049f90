/-! ===== bytes as numbers, slices, their order ===== -/
/-- a byte's number, 0 to 255 -/
def ub (x : Int8) : Nat := x.toBitVec.toNat
theorem ub_lt (x : Int8) : ub x < 256 := x.toBitVec.isLt
theorem ub_and (x : Int8) : x.toInt32 &&& 255 = nI (ub x) := by
  have key : ∀ n, n < 256 → (Int8.ofBitVec (BitVec.ofNat 8 n)).toInt32 &&& 255 = nI n := by decide +kernel
  have h := key x.toBitVec.toNat x.toBitVec.isLt
  rw [BitVec.ofNat_toNat, BitVec.setWidth_eq] at h
  exact h
theorem ub_inj {x y : Int8} (h : ub x = ub y) : x = y := Int8.toBitVec_inj.mp (BitVec.eq_of_toNat_eq h)
theorem minI {a b : Nat} (ha : a < 2 ^ 31) (hb : b < 2 ^ 31) : (if nI b < nI a then nI b else nI a) = nI (min a b) := by
  by_cases h : b < a
  · rw [if_pos (nI_lt h ha), Nat.min_eq_right (by omega)]
  · rw [if_neg (nI_nlt (by omega) hb), Nat.min_eq_left (by omega)]
theorem maxI {a b : Nat} (ha : a < 2 ^ 31) (hb : b < 2 ^ 31) : (if nI a < nI b then nI b else nI a) = nI (max a b) := by
  by_cases h : a < b
  · rw [if_pos (nI_lt h hb), Nat.max_eq_right (by omega)]
  · rw [if_neg (nI_nlt (by omega) ha), Nat.max_eq_left (by omega)]
/-- n bytes from i on -/
def sl (f : Nat → Int8) : Nat → Nat → List Nat
  | _, 0 => []
  | i, n + 1 => ub (f i) :: sl f (i + 1) n
theorem sl_length (f : Nat → Int8) : ∀ (n i : Nat), (sl f i n).length = n
  | 0, _ => rfl
  | n + 1, i => by rw [sl, List.length_cons, sl_length f n]
theorem sl_congr {f g : Nat → Int8} : ∀ (n i j : Nat), (∀ q, q < n → f (i + q) = g (j + q)) → sl f i n = sl g j n
  | 0, _, _, _ => rfl
  | n + 1, i, j, h => by
    rw [sl, sl, show f i = g j from h 0 (by omega), sl_congr n (i + 1) (j + 1) (fun q hq => by have := h (q + 1) (by omega); rw [show i + (q + 1) = i + 1 + q by omega, show j + (q + 1) = j + 1 + q by omega] at this; exact this)]
theorem sl_get {f : Nat → Int8} : ∀ (n i q : Nat), q < n → (sl f i n)[q]? = some (ub (f (i + q)))
  | n + 1, i, 0, _ => rfl
  | n + 1, i, q + 1, h => by
    rw [sl, List.getElem?_cons_succ, sl_get n (i + 1) q (by omega), show i + 1 + q = i + (q + 1) by omega]
theorem sl_inj {f g : Nat → Int8} {n i j : Nat} (h : sl f i n = sl g j n) : ∀ q, q < n → f (i + q) = g (j + q) := by
  intro q hq
  have h1 := sl_get (f := f) n i q hq
  rw [h, sl_get (f := g) n j q hq] at h1
  exact (ub_inj (Option.some.inj h1)).symm
/-- the order of slices, as the class and the reference count it -/
def cmpL : List Nat → List Nat → Int
  | x :: xs, y :: ys => if x = y then cmpL xs ys else (x : Int) - y
  | xs, ys => (xs.length : Int) - ys.length
theorem cmpL_nil (ys : List Nat) : cmpL [] ys = - (ys.length : Int) := by
  rw [cmpL]
  · simp
  · intro x xs y ys' h; cases h
theorem cmpL_nil2 : ∀ (xs : List Nat), cmpL xs [] = (xs.length : Int)
  | [] => by rw [cmpL_nil]; simp
  | x :: xs => by
    rw [cmpL]
    · simp
    · intro x xs y ys' h1 h2; cases h2
theorem cmpL_self : ∀ (xs : List Nat), cmpL xs xs = 0
  | [] => by rw [cmpL_nil]; simp
  | x :: xs => by rw [cmpL, if_pos rfl]; exact cmpL_self xs
theorem cmpL_eq : ∀ {xs ys : List Nat}, cmpL xs ys = 0 ↔ xs = ys
  | [], [] => by rw [cmpL_nil]; simp
  | [], y :: ys => by
    rw [cmpL_nil]
    constructor
    · intro h; rw [List.length_cons] at h; omega
    · intro h; cases h
  | x :: xs, [] => by
    rw [cmpL_nil2]
    constructor
    · intro h; rw [List.length_cons] at h; omega
    · intro h; cases h
  | x :: xs, y :: ys => by
    rw [cmpL]
    by_cases h : x = y
    · rw [if_pos h, cmpL_eq, h]
      simp
    · rw [if_neg h]
      constructor
      · intro e; exact absurd (by omega) h
      · intro e; cases e; exact absurd rfl h
theorem cmpL_anti : ∀ (xs ys : List Nat), cmpL ys xs = - cmpL xs ys
  | [], ys => by rw [cmpL_nil, cmpL_nil2]; omega
  | x :: xs, [] => by rw [cmpL_nil, cmpL_nil2]
  | x :: xs, y :: ys => by
    rw [cmpL, cmpL]
    by_cases h : x = y
    · rw [if_pos h, if_pos h.symm, cmpL_anti xs ys]
    · rw [if_neg h, if_neg (fun e => h e.symm)]; omega
theorem cmpL_trans : ∀ {xs ys zs : List Nat}, cmpL xs ys < 0 → cmpL ys zs < 0 → cmpL xs zs < 0
  | [], ys, zs, h1, h2 => by
    rw [cmpL_nil] at h1 ⊢
    cases zs with
    | nil => rw [cmpL_nil2] at h2; omega
    | cons z zs => rw [List.length_cons]; omega
  | x :: xs, [], zs, h1, h2 => by rw [cmpL_nil2] at h1; omega
  | x :: xs, y :: ys, [], h1, h2 => by rw [cmpL_nil2] at h2; omega
  | x :: xs, y :: ys, z :: zs, h1, h2 => by
    rw [cmpL] at h1 h2 ⊢
    by_cases e1 : x = y
    · rw [if_pos e1] at h1
      subst e1
      by_cases e2 : x = z
      · rw [if_pos e2] at h2 ⊢
        exact cmpL_trans h1 h2
      · rw [if_neg e2] at h2 ⊢
        exact h2
    · rw [if_neg e1] at h1
      by_cases e2 : y = z
      · subst e2
        rw [if_neg e1]
        exact h1
      · rw [if_neg e2] at h2
        rw [if_neg (by omega)]
        omega
theorem cmpL_bound : ∀ (xs ys : List Nat) (B : Nat), (∀ x ∈ xs, x ≤ B) → (∀ y ∈ ys, y ≤ B) → xs.length ≤ B → ys.length ≤ B → - (B : Int) ≤ cmpL xs ys ∧ cmpL xs ys ≤ B
  | [], ys, B, _, _, _, h => by rw [cmpL_nil]; omega
  | x :: xs, [], B, _, _, h, _ => by rw [cmpL_nil2]; omega
  | x :: xs, y :: ys, B, h1, h2, h3, h4 => by
    rw [cmpL]
    by_cases e : x = y
    · rw [if_pos e]
      rw [List.length_cons] at h3 h4
      exact cmpL_bound xs ys B (fun a ha => h1 a (List.mem_cons_of_mem _ ha)) (fun a ha => h2 a (List.mem_cons_of_mem _ ha)) (by omega) (by omega)
    · rw [if_neg e]
      have := h1 x List.mem_cons_self
      have := h2 y List.mem_cons_self
      omega
/-- bytes copied: k of them, from i of f to j of g -/
def cpy (f : Nat → Int8) (i : Nat) (g : Nat → Int8) (j k : Nat) : Nat → Int8 := fun q => if j ≤ q ∧ q < j + k then f (i + (q - j)) else g q
theorem cpy_0 {f g : Nat → Int8} {i j : Nat} : cpy f i g j 0 = g := by
  funext q
  exact if_neg (by omega)
theorem cpy_in {f g : Nat → Int8} {i j k q : Nat} (h : q < k) : cpy f i g j k (j + q) = f (i + q) := by
  unfold cpy
  rw [if_pos (by omega), show j + q - j = q by omega]
theorem cpy_out {f g : Nat → Int8} {i j k q : Nat} (h : q < j ∨ j + k ≤ q) : cpy f i g j k q = g q := if_neg (by omega)
theorem sl_cpy {f g : Nat → Int8} {i j k : Nat} : sl (cpy f i g j k) j k = sl f i k := sl_congr k j i (fun q hq => cpy_in hq)
theorem sl_cpy_out {f g : Nat → Int8} {i j k p n : Nat} (h : p + n ≤ j ∨ j + k ≤ p) : sl (cpy f i g j k) p n = sl g p n := sl_congr n p p (fun q hq => cpy_out (by omega))
theorem sl_append {f : Nat → Int8} : ∀ (n m i : Nat), sl f i (n + m) = sl f i n ++ sl f (i + n) m
  | 0, m, i => by rw [Nat.zero_add]; rfl
  | n + 1, m, i => by
    rw [show n + 1 + m = (n + m) + 1 by omega, sl, sl, sl_append n m (i + 1), List.cons_append, show i + 1 + n = i + (n + 1) by omega]
