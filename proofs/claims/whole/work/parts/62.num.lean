/-! ===== numbers as bytes, the highest first ===== -/
theorem or_nI {a b : Nat} (ha : a < 2 ^ 32) (hb : b < 2 ^ 32) : nI a ||| nI b = nI (a ||| b) := by
  apply Int32.toBitVec_inj.mp
  apply BitVec.eq_of_toNat_eq
  show (BitVec.ofNat 32 a ||| BitVec.ofNat 32 b).toNat = (BitVec.ofNat 32 (a ||| b)).toNat
  rw [BitVec.toNat_or, BitVec.toNat_ofNat, BitVec.toNat_ofNat, BitVec.toNat_ofNat, Nat.mod_eq_of_lt ha, Nat.mod_eq_of_lt hb, Nat.mod_eq_of_lt (Nat.or_lt_two_pow ha hb)]
theorem shl_or {S b : Nat} (hb : b < 256) (h : S * 256 + b < 2 ^ 31) : (nI S <<< ((8 : Int32) &&& 31)) ||| nI b = nI (S * 256 + b) := by
  have h8 : S * 2 ^ 8 = S * 256 := rfl
  have h1 : S * 256 < 2 ^ 32 := Nat.lt_of_le_of_lt (Nat.le_add_right _ b) (Nat.lt_trans h (by decide))
  have h2 : b < 2 ^ 32 := Nat.lt_trans hb (by decide)
  have e : S * 256 ||| b = S * 256 + b := by
    have h3 := Nat.shiftLeft_add_eq_or_of_lt (show b < 2 ^ 8 from hb) S
    rw [Nat.shiftLeft_eq, h8] at h3
    exact h3.symm
  rw [pk_shlN ((8 : Int32) &&& 31) 8 (by decide +kernel) (by rw [h8]; exact h1), h8, or_nI h1 h2, e]
/-- the number that bytes tell, behind s -/
def beN : Nat → List Nat → Nat
  | s, [] => s
  | s, b :: l => beN (s * 256 + b) l
theorem beN_ge : ∀ (l : List Nat) (s : Nat), s ≤ beN s l
  | [], s => Nat.le_refl s
  | b :: l, s => Nat.le_trans (by omega) (beN_ge l (s * 256 + b))
theorem numI_be {f : Nat → Int8} : ∀ (n i S : Nat), beN S (sl f i n) < 2 ^ 31 → numI f i n (nI S) = nI (beN S (sl f i n))
  | 0, _, _, _ => rfl
  | n + 1, i, S, h => by
    rw [sl, beN] at h ⊢
    have h1 := beN_ge (sl f (i + 1) n) (S * 256 + ub (f i))
    rw [numI, shl_or (ub_lt _) (by omega)]
    exact numI_be n (i + 1) _ h
theorem numI_0 {f : Nat → Int8} {n i : Nat} (h : beN 0 (sl f i n) < 2 ^ 31) : numI f i n 0 = nI (beN 0 (sl f i n)) := numI_be n i 0 h
/-- n bytes of x -/
def beB : Nat → Nat → List Nat
  | 0, _ => []
  | n + 1, x => x / 256 ^ n % 256 :: beB n x
theorem beB_length : ∀ (n x : Nat), (beB n x).length = n
  | 0, _ => rfl
  | n + 1, x => by rw [beB, List.length_cons, beB_length n x]
theorem beN_beB : ∀ (n s x : Nat), beN s (beB n x) = s * 256 ^ n + x % 256 ^ n
  | 0, s, x => by rw [beB, beN, Nat.pow_zero, Nat.mod_one]; omega
  | n + 1, s, x => by
    rw [beB, beN, beN_beB n, Nat.pow_succ, Nat.mod_mul, Nat.add_mul, Nat.mul_assoc, Nat.mul_comm 256 (256 ^ n), Nat.mul_comm (x / 256 ^ n % 256)]
    omega
theorem beN_beB0 {n x : Nat} (h : x < 256 ^ n) : beN 0 (beB n x) = x := by
  rw [beN_beB, Nat.mod_eq_of_lt h]
  omega
theorem ub_i8 {m : Nat} (hm : m < 2 ^ 32) : ub (nI m).toInt8 = m % 256 := by
  show ((BitVec.ofNat 32 m).signExtend 8).toNat = m % 256
  rw [BitVec.signExtend_eq_setWidth_of_le _ (by decide), BitVec.toNat_setWidth, BitVec.toNat_ofNat, Nat.mod_eq_of_lt hm]
theorem numB_ub {x i : Nat} (hx : x < 2 ^ 31) (hi : i < 4) : ub (numB (nI x) i) = x / 256 ^ i % 256 := by
  unfold numB
  have e : ((nI (8 * i) &&& 31).toBitVec.smod 32).toNat = 8 * i := by
    match i, hi with
    | 0, _ => decide +kernel
    | 1, _ => decide +kernel
    | 2, _ => decide +kernel
    | 3, _ => decide +kernel
    | i + 4, h => exact absurd h (by omega)
  rw [pk_shrN hx _ (8 * i) e, ub_i8 (Nat.lt_of_le_of_lt (Nat.div_le_self _ _) (by omega)), show 2 ^ (8 * i) = 256 ^ i from Nat.pow_mul 2 8 i]
theorem sl_numF' {f : Nat → Int8} {p n x : Nat} (hx : x < 2 ^ 31) (hn : n ≤ 4) : ∀ k, k ≤ n → sl (numF f p n (nI x) n) (p + (n - k)) k = beB k x
  | 0, _ => rfl
  | k + 1, h => by
    rw [sl, beB]
    have e : numF f p n (nI x) n (p + (n - (k + 1))) = numB (nI x) k := by
      unfold numF
      rw [if_pos (by omega), show p + n - 1 - (p + (n - (k + 1))) = k by omega]
    rw [e, numB_ub hx (by omega), show p + (n - (k + 1)) + 1 = p + (n - k) by omega, sl_numF' hx hn k (by omega)]
theorem sl_numF {f : Nat → Int8} {p n x : Nat} (hx : x < 2 ^ 31) (hn : n ≤ 4) : sl (numF f p n (nI x) n) p n = beB n x := by
  have h := sl_numF' (f := f) (p := p) hx hn n (Nat.le_refl n)
  rw [Nat.sub_self] at h
  exact h
theorem sl_numF_out {f : Nat → Int8} {p n q m : Nat} {v : Int32} (h : q + m ≤ p ∨ p + n ≤ q) : sl (numF f p n v n) q m = sl f q m := sl_congr m q q (fun j hj => if_neg (by omega))
