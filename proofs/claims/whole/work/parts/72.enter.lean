/-! ===== the reference: a change is entered; written by wip/gen/enter.py ===== -/
theorem up_at {α : Type} {f : Nat → α} {i : Nat} {x : α} : va_up f i x i = x := if_pos rfl
theorem cpy_up {f g : Nat → Int8} {b i : Nat} : va_up (cpy f 0 g b i) (b + i) (f i) = cpy f 0 g b (i + 1) := by
  funext q
  unfold va_up cpy
  by_cases h1 : q = b + i
  · rw [if_pos h1, if_pos (by omega), h1, show 0 + (b + i - b) = i by omega]
  · rw [if_neg h1]
    by_cases h2 : b ≤ q ∧ q < b + i
    · rw [if_pos h2, if_pos (by omega)]
    · rw [if_neg h2, if_neg (by omega)]
theorem rc_mrowOf_none {sc : Nat × (Nat → Int32)} {a na j m d t : Nat} {H : aH} {ro fi wk wn : Nat → Nat} {wz : Nat → Option Nat} {wb : Nat → Int8} {fa li dn cw cl tp rs pr ve us pi hu : Int32} {ba bo : Nat} {g : Nat → Int8} (hm : H[195]? = some (kO 12 (mfs fa li dn cw cl tp rs pr ve us pi hu ba bo))) (h : MRAt H ro fi wk wn wz wb) (hk : MROk ro fi wk wn wz t) (h1 : H[a]? = some (kB na g)) (hna : na < 2 ^ 30) (hj : j + m ≤ na) (hx : ∀ q, q < ro t → ¬ sl wb (wk (32 * t + q)) (wn (32 * t + q)) = sl g j m) : RC sc (d + 1) mr_285 [.ref 196, .int (nI t), .ref (a + 1), .int (nI j), .int (nI m)] H (.inl (some (.int (-1)))) H 0 0 := by
  obtain ⟨x, H', k1, k2, k3⟩ := ri_mrowOf (sc := sc) (d := d) hm h hk h1 hna hj
  rw [k2] at k1
  rcases k3 with ⟨i, hi, -, h5, -⟩ | ⟨h4, -⟩
  · exact absurd h5 (hx i hi)
  · rw [h4] at k1
    exact k1
theorem rc_mrowOf_some {sc : Nat × (Nat → Int32)} {a na j m d t i : Nat} {H : aH} {ro fi wk wn : Nat → Nat} {wz : Nat → Option Nat} {wb : Nat → Int8} {fa li dn cw cl tp rs pr ve us pi hu : Int32} {ba bo : Nat} {g : Nat → Int8} (hm : H[195]? = some (kO 12 (mfs fa li dn cw cl tp rs pr ve us pi hu ba bo))) (h : MRAt H ro fi wk wn wz wb) (hk : MROk ro fi wk wn wz t) (h1 : H[a]? = some (kB na g)) (hna : na < 2 ^ 30) (hj : j + m ≤ na) (hi : i < ro t) (he : sl wb (wk (32 * t + i)) (wn (32 * t + i)) = sl g j m) (hx : ∀ q, q < i → ¬ sl wb (wk (32 * t + q)) (wn (32 * t + q)) = sl g j m) : RC sc (d + 1) mr_285 [.ref 196, .int (nI t), .ref (a + 1), .int (nI j), .int (nI m)] H (.inl (some (.int (nI (32 * t + i))))) H 0 0 := by
  obtain ⟨x, H', k1, k2, k3⟩ := ri_mrowOf (sc := sc) (d := d) hm h hk h1 hna hj
  rw [k2] at k1
  rcases k3 with ⟨q, hq, h4, h5, h6⟩ | ⟨-, h4⟩
  · have e : q = i := by
      rcases Nat.lt_trichotomy q i with e | e | e
      · exact absurd h5 (hx q e)
      · exact e
      · exact absurd he (h6 i e)
    rw [h4, e] at k1
    exact k1
  · exact absurd he (h4 i hi)
theorem rq_menter {sc : Nat × (Nat → Int32)} {d t n k : Nat} {H : aH} {ro fi wk wn : Nat → Nat} {wz : Nat → Option Nat} {wb g : Nat → Int8} {v : Option Nat} {fa li dn cw cl rs pr ve us pi hu : Int32} {ba bo : Nat} {x5 x6 : Int32} (hm : H[195]? = some (kO 12 (mfs fa li dn cw cl 0 rs pr ve us pi hu ba bo))) (h : MRAt H ro fi wk wn wz wb) (h196 : H[196]? = some (kB 2000 g)) (ht : t < 8) (hr : ro t < 32) (hf : fi t + n ≤ 4000) (hn : n ≤ 2000) : RQ sc d mr_284 108 [(6, .int x6), (5, .int x5), (4, .int (nI n)), (0, .ref 196), (1, .int (nI t)), (2, .int (nI k)), (3, .int (lI v))] [] H 0 0 (fun r => ∃ x H', r = (.inl (some (.int x)), H', 0, 0) ∧ x = nI (ro t + 1) ∧ MRAt H' (va_up ro t (ro t + 1)) (va_up fi t (fi t + n)) (va_up wk (32 * t + ro t) (4000 * t + fi t)) (va_up wn (32 * t + ro t) k) (va_up wz (32 * t + ro t) v) (cpy g 0 wb (4000 * t + fi t) n) ∧ ∀ a, ¬ (207 ≤ a ∧ a < 213) → H'[a]? = H[a]?) := by
  refine RQ.blk 3 (pc' := 112) (lv' := [(6, .int x6), (5, .int x5), (4, .int (nI n)), (0, .ref 196), (1, .int (nI t)), (2, .int (nI k)), (3, .int (lI v))]) (st' := [.int (32 * nI t)]) (H' := _) (kc' := 0) (ks' := 0) rfl ?_
  rw [show (32 * nI t : Int32) = nI (32 * t) from pk_mul 32 t]
  refine RQ.blk 1 (pc' := 113) (lv' := [(6, .int x6), (5, .int x5), (4, .int (nI n)), (0, .ref 196), (1, .int (nI t)), (2, .int (nI k)), (3, .int (lI v))]) (st' := [.ref 196, .int (nI (32 * t))]) (H' := _) (kc' := 0) (ks' := 0) rfl ?_
  refine RQ.get (ci := 12) rfl hm rfl rfl ?_
  refine RQ.blk 1 (pc' := 117) (lv' := [(6, .int x6), (5, .int x5), (4, .int (nI n)), (0, .ref 196), (1, .int (nI t)), (2, .int (nI k)), (3, .int (lI v))]) (st' := [.int (nI t), .ref 208, .int (nI (32 * t))]) (H' := _) (kc' := 0) (ks' := 0) rfl ?_
  refine RQ.ialdN (j := t) rfl h.1 (by omega) (by decide) ?_
  refine RQ.blk 1 (pc' := 119) (lv' := [(6, .int x6), (5, .int x5), (4, .int (nI n)), (0, .ref 196), (1, .int (nI t)), (2, .int (nI k)), (3, .int (lI v))]) (st' := [.int (nI (32 * t) + nI (ro t))]) (H' := _) (kc' := 0) (ks' := 0) rfl ?_
  rw [show (nI (32 * t) + nI (ro t) : Int32) = nI (32 * t + (ro t)) from nI_add (32 * t) (ro t)]
  refine RQ.blk 2 (pc' := 122) (lv' := [(7, .int (nI (32 * t + (ro t)))), (6, .int x6), (5, .int x5), (4, .int (nI n)), (0, .ref 196), (1, .int (nI t)), (2, .int (nI k)), (3, .int (lI v))]) (st' := [.ref 196]) (H' := _) (kc' := 0) (ks' := 0) rfl ?_
  refine RQ.get (ci := 12) rfl hm rfl rfl ?_
  refine RQ.blk 4 (pc' := 132) (lv' := [(7, .int (nI (32 * t + (ro t)))), (6, .int x6), (5, .int x5), (4, .int (nI n)), (0, .ref 196), (1, .int (nI t)), (2, .int (nI k)), (3, .int (lI v))]) (st' := [.int (4000 * nI t), .int (nI (32 * t + (ro t))), .ref 210]) (H' := _) (kc' := 0) (ks' := 0) rfl ?_
  rw [show (4000 * nI t : Int32) = nI (4000 * t) from pk_mul 4000 t]
  refine RQ.blk 1 (pc' := 133) (lv' := [(7, .int (nI (32 * t + (ro t)))), (6, .int x6), (5, .int x5), (4, .int (nI n)), (0, .ref 196), (1, .int (nI t)), (2, .int (nI k)), (3, .int (lI v))]) (st' := [.ref 196, .int (nI (4000 * t)), .int (nI (32 * t + (ro t))), .ref 210]) (H' := _) (kc' := 0) (ks' := 0) rfl ?_
  refine RQ.get (ci := 12) rfl hm rfl rfl ?_
  refine RQ.blk 1 (pc' := 137) (lv' := [(7, .int (nI (32 * t + (ro t)))), (6, .int x6), (5, .int x5), (4, .int (nI n)), (0, .ref 196), (1, .int (nI t)), (2, .int (nI k)), (3, .int (lI v))]) (st' := [.int (nI t), .ref 209, .int (nI (4000 * t)), .int (nI (32 * t + (ro t))), .ref 210]) (H' := _) (kc' := 0) (ks' := 0) rfl ?_
  refine RQ.ialdN (j := t) rfl h.2.1 (by omega) (by decide) ?_
  refine RQ.blk 1 (pc' := 139) (lv' := [(7, .int (nI (32 * t + (ro t)))), (6, .int x6), (5, .int x5), (4, .int (nI n)), (0, .ref 196), (1, .int (nI t)), (2, .int (nI k)), (3, .int (lI v))]) (st' := [.int (nI (4000 * t) + nI (fi t)), .int (nI (32 * t + (ro t))), .ref 210]) (H' := _) (kc' := 0) (ks' := 0) rfl ?_
  rw [show (nI (4000 * t) + nI (fi t) : Int32) = nI (4000 * t + (fi t)) from nI_add (4000 * t) (fi t)]
  refine RQ.iastN (j := 32 * t + ro t) rfl h.2.2.1 (by omega) (by decide) ?_
  refine RQ.blk 1 (pc' := 141) (lv' := [(7, .int (nI (32 * t + (ro t)))), (6, .int x6), (5, .int x5), (4, .int (nI n)), (0, .ref 196), (1, .int (nI t)), (2, .int (nI k)), (3, .int (lI v))]) (st' := [.ref 196]) (H' := _) (kc' := 0) (ks' := 0) rfl ?_
  refine RQ.get (ci := 12) rfl ((set_far (by decide)).trans hm) rfl rfl ?_
  refine RQ.blk 2 (pc' := 147) (lv' := [(7, .int (nI (32 * t + (ro t)))), (6, .int x6), (5, .int x5), (4, .int (nI n)), (0, .ref 196), (1, .int (nI t)), (2, .int (nI k)), (3, .int (lI v))]) (st' := [.int (nI k), .int (nI (32 * t + (ro t))), .ref 211]) (H' := _) (kc' := 0) (ks' := 0) rfl ?_
  refine RQ.iastN (j := 32 * t + ro t) rfl ((set_far (by decide)).trans h.2.2.2.1) (by omega) (by decide) ?_
  refine RQ.blk 1 (pc' := 149) (lv' := [(7, .int (nI (32 * t + (ro t)))), (6, .int x6), (5, .int x5), (4, .int (nI n)), (0, .ref 196), (1, .int (nI t)), (2, .int (nI k)), (3, .int (lI v))]) (st' := [.ref 196]) (H' := _) (kc' := 0) (ks' := 0) rfl ?_
  refine RQ.get (ci := 12) rfl ((set_far (by decide)).trans ((set_far (by decide)).trans hm)) rfl rfl ?_
  refine RQ.blk 2 (pc' := 155) (lv' := [(7, .int (nI (32 * t + (ro t)))), (6, .int x6), (5, .int x5), (4, .int (nI n)), (0, .ref 196), (1, .int (nI t)), (2, .int (nI k)), (3, .int (lI v))]) (st' := [.int (lI v), .int (nI (32 * t + (ro t))), .ref 212]) (H' := _) (kc' := 0) (ks' := 0) rfl ?_
  refine RQ.iastN (j := 32 * t + ro t) rfl ((set_far (by decide)).trans ((set_far (by decide)).trans h.2.2.2.2.1)) (by omega) (by decide) ?_
  refine RQ.blk 2 (pc' := 159) (lv' := [(8, .int 0), (7, .int (nI (32 * t + (ro t)))), (6, .int x6), (5, .int x5), (4, .int (nI n)), (0, .ref 196), (1, .int (nI t)), (2, .int (nI k)), (3, .int (lI v))]) (st' := []) (H' := _) (kc' := 0) (ks' := 0) rfl ?_
  have h4 : MRAt _ ro fi (va_up wk (32 * t + ro t) (4000 * t + fi t)) (va_up wn (32 * t + ro t) k) (va_up wz (32 * t + ro t) v) (cpy g 0 wb (4000 * t + fi t) 0) := ⟨(set_far (by decide)).trans ((set_far (by decide)).trans ((set_far (by decide)).trans h.1)), (set_far (by decide)).trans ((set_far (by decide)).trans ((set_far (by decide)).trans h.2.1)), ((set_far (by decide)).trans ((set_far (by decide)).trans (get_set h.2.2.1))).trans (congrArg (fun f => some (kI 256 f)) up_nI), ((set_far (by decide)).trans (get_set ((set_far (by decide)).trans h.2.2.2.1))).trans (congrArg (fun f => some (kI 256 f)) up_nI), (get_set ((set_far (by decide)).trans ((set_far (by decide)).trans h.2.2.2.2.1))).trans (congrArg (fun f => some (kI 256 f)) up_lI), by rw [cpy_0]; exact (set_far (by decide)).trans ((set_far (by decide)).trans ((set_far (by decide)).trans h.2.2.2.2.2))⟩
  refine RQ.while (S := Nat) (pc := 159) (fun i H' => i ≤ n ∧ MRAt H' ro fi (va_up wk (32 * t + ro t) (4000 * t + fi t)) (va_up wn (32 * t + ro t) k) (va_up wz (32 * t + ro t) v) (cpy g 0 wb (4000 * t + fi t) i) ∧ ∀ a, ¬ (207 ≤ a ∧ a < 213) → H'[a]? = H[a]?) (fun i => [(8, .int (nI i)), (7, .int (nI (32 * t + ro t))), (6, .int x6), (5, .int x5), (4, .int (nI n)), (0, .ref 196), (1, .int (nI t)), (2, .int (nI k)), (3, .int (lI v))]) (fun i => n - i) ?_ 0 _ ⟨Nat.zero_le _, h4, fun a ha => (set_far (by omega)).trans ((set_far (by omega)).trans (set_far (by omega)))⟩
  rintro i H1 ⟨hi, h5, h6⟩ ih
  have hm2 := (h6 195 (by omega)).trans hm
  have h196b := (h6 196 (by omega)).trans h196
  refine RQ.blk 2 (pc' := 163) (lv' := [(8, .int (nI i)), (7, .int (nI (32 * t + ro t))), (6, .int x6), (5, .int x5), (4, .int (nI n)), (0, .ref 196), (1, .int (nI t)), (2, .int (nI k)), (3, .int (lI v))]) (st' := [.int (nI n), .int (nI i)]) (H' := _) (kc' := 0) (ks' := 0) rfl ?_
  by_cases hlt : i < n
  ·
    refine RQ.brF rfl rfl rfl (cF_ge i n) ?_
    refine RQ.blk 1 (pc' := 167) (lv' := [(8, .int (nI i)), (7, .int (nI (32 * t + ro t))), (6, .int x6), (5, .int x5), (4, .int (nI n)), (0, .ref 196), (1, .int (nI t)), (2, .int (nI k)), (3, .int (lI v))]) (st' := [.ref 196]) (H' := _) (kc' := 0) (ks' := 0) rfl ?_
    refine RQ.get (ci := 12) rfl hm2 rfl rfl ?_
    refine RQ.blk 1 (pc' := 171) (lv' := [(8, .int (nI i)), (7, .int (nI (32 * t + ro t))), (6, .int x6), (5, .int x5), (4, .int (nI n)), (0, .ref 196), (1, .int (nI t)), (2, .int (nI k)), (3, .int (lI v))]) (st' := [.ref 196, .ref 213]) (H' := _) (kc' := 0) (ks' := 0) rfl ?_
    refine RQ.get (ci := 12) rfl hm2 rfl rfl ?_
    refine RQ.blk 1 (pc' := 176) (lv' := [(8, .int (nI i)), (7, .int (nI (32 * t + ro t))), (6, .int x6), (5, .int x5), (4, .int (nI n)), (0, .ref 196), (1, .int (nI t)), (2, .int (nI k)), (3, .int (lI v))]) (st' := [.int (nI (32 * t + ro t)), .ref 210, .ref 213]) (H' := _) (kc' := 0) (ks' := 0) rfl ?_
    refine RQ.ialdN (j := 32 * t + ro t) rfl h5.2.2.1 (by omega) (by decide) ?_
    first | rw [up_at] | simp only [up_at]
    refine RQ.blk 2 (pc' := 180) (lv' := [(8, .int (nI i)), (7, .int (nI (32 * t + ro t))), (6, .int x6), (5, .int x5), (4, .int (nI n)), (0, .ref 196), (1, .int (nI t)), (2, .int (nI k)), (3, .int (lI v))]) (st' := [.int (nI (4000 * t + fi t) + nI i), .ref 213]) (H' := _) (kc' := 0) (ks' := 0) rfl ?_
    rw [show (nI (4000 * t + fi t) + nI i : Int32) = nI (4000 * t + fi t + i) from nI_add (4000 * t + fi t) i]
    refine RQ.blk 1 (pc' := 181) (lv' := [(8, .int (nI i)), (7, .int (nI (32 * t + ro t))), (6, .int x6), (5, .int x5), (4, .int (nI n)), (0, .ref 196), (1, .int (nI t)), (2, .int (nI k)), (3, .int (lI v))]) (st' := [.ref 196, .int (nI (4000 * t + fi t + i)), .ref 213]) (H' := _) (kc' := 0) (ks' := 0) rfl ?_
    refine RQ.get (ci := 12) rfl hm2 rfl rfl ?_
    refine RQ.blk 1 (pc' := 186) (lv' := [(8, .int (nI i)), (7, .int (nI (32 * t + ro t))), (6, .int x6), (5, .int x5), (4, .int (nI n)), (0, .ref 196), (1, .int (nI t)), (2, .int (nI k)), (3, .int (lI v))]) (st' := [.int (nI i), .ref 197, .int (nI (4000 * t + fi t + i)), .ref 213]) (H' := _) (kc' := 0) (ks' := 0) rfl ?_
    refine RQ.baldN (j := i) rfl h196b (by omega) (by decide) ?_
    refine RQ.bastN (j := 4000 * t + fi t + i) rfl h5.2.2.2.2.2 (by omega) (by decide) ?_
    rw [Int8.toInt8_toInt32, cpy_up]
    refine RQ.blk 1 (pc' := 191) (lv' := [(8, .int (nI i + 1)), (7, .int (nI (32 * t + ro t))), (6, .int x6), (5, .int x5), (4, .int (nI n)), (0, .ref 196), (1, .int (nI t)), (2, .int (nI k)), (3, .int (lI v))]) (st' := []) (H' := _) (kc' := 0) (ks' := 0) rfl ?_
    rw [show (nI i + 1 : Int32) = nI (i + 1) from nI_add i 1]
    refine RQ.blk 1 (pc' := 159) (lv' := [(8, .int (nI (i + 1))), (7, .int (nI (32 * t + ro t))), (6, .int x6), (5, .int x5), (4, .int (nI n)), (0, .ref 196), (1, .int (nI t)), (2, .int (nI k)), (3, .int (lI v))]) (st' := []) (H' := _) (kc' := 0) (ks' := 0) rfl ?_
    exact ih (i + 1) _ ⟨by omega, ⟨(set_far (by decide)).trans h5.1, (set_far (by decide)).trans h5.2.1, (set_far (by decide)).trans h5.2.2.1, (set_far (by decide)).trans h5.2.2.2.1, (set_far (by decide)).trans h5.2.2.2.2.1, get_set h5.2.2.2.2.2⟩, fun a ha => (set_far (by omega)).trans (h6 a ha)⟩ (by omega)
  · have hie : i = n := by omega
    rw [hie] at h5
    refine RQ.brT rfl rfl rfl (cT_ge i n) ?_
    refine RQ.blk 1 (pc' := 195) (lv' := [(8, .int (nI i)), (7, .int (nI (32 * t + ro t))), (6, .int x6), (5, .int x5), (4, .int (nI n)), (0, .ref 196), (1, .int (nI t)), (2, .int (nI k)), (3, .int (lI v))]) (st' := [.ref 196]) (H' := _) (kc' := 0) (ks' := 0) rfl ?_
    refine RQ.get (ci := 12) rfl hm2 rfl rfl ?_
    refine RQ.blk 2 (pc' := 200) (lv' := [(8, .int (nI i)), (7, .int (nI (32 * t + ro t))), (6, .int x6), (5, .int x5), (4, .int (nI n)), (0, .ref 196), (1, .int (nI t)), (2, .int (nI k)), (3, .int (lI v))]) (st' := [.int (nI t), .ref 209, .int (nI t), .ref 209]) (H' := _) (kc' := 0) (ks' := 0) rfl ?_
    refine RQ.ialdN (j := t) rfl h5.2.1 (by omega) (by decide) ?_
    refine RQ.blk 2 (pc' := 204) (lv' := [(8, .int (nI i)), (7, .int (nI (32 * t + ro t))), (6, .int x6), (5, .int x5), (4, .int (nI n)), (0, .ref 196), (1, .int (nI t)), (2, .int (nI k)), (3, .int (lI v))]) (st' := [.int (nI (fi t) + nI n), .int (nI t), .ref 209]) (H' := _) (kc' := 0) (ks' := 0) rfl ?_
    rw [show (nI (fi t) + nI n : Int32) = nI (fi t + n) from nI_add (fi t) n]
    refine RQ.iastN (j := t) rfl h5.2.1 (by omega) (by decide) ?_
    refine RQ.blk 1 (pc' := 206) (lv' := [(8, .int (nI i)), (7, .int (nI (32 * t + ro t))), (6, .int x6), (5, .int x5), (4, .int (nI n)), (0, .ref 196), (1, .int (nI t)), (2, .int (nI k)), (3, .int (lI v))]) (st' := [.ref 196]) (H' := _) (kc' := 0) (ks' := 0) rfl ?_
    refine RQ.get (ci := 12) rfl ((set_far (by decide)).trans hm2) rfl rfl ?_
    refine RQ.blk 2 (pc' := 211) (lv' := [(8, .int (nI i)), (7, .int (nI (32 * t + ro t))), (6, .int x6), (5, .int x5), (4, .int (nI n)), (0, .ref 196), (1, .int (nI t)), (2, .int (nI k)), (3, .int (lI v))]) (st' := [.int (nI t), .ref 208, .int (nI t), .ref 208]) (H' := _) (kc' := 0) (ks' := 0) rfl ?_
    refine RQ.ialdN (j := t) rfl ((set_far (by decide)).trans h5.1) (by omega) (by decide) ?_
    refine RQ.blk 2 (pc' := 214) (lv' := [(8, .int (nI i)), (7, .int (nI (32 * t + ro t))), (6, .int x6), (5, .int x5), (4, .int (nI n)), (0, .ref 196), (1, .int (nI t)), (2, .int (nI k)), (3, .int (lI v))]) (st' := [.int (nI (ro t) + 1), .int (nI t), .ref 208]) (H' := _) (kc' := 0) (ks' := 0) rfl ?_
    rw [show (nI (ro t) + 1 : Int32) = nI (ro t + 1) from nI_add (ro t) 1]
    refine RQ.iastN (j := t) rfl ((set_far (by decide)).trans h5.1) (by omega) (by decide) ?_
    refine RQ.blk 1 (pc' := 216) (lv' := [(8, .int (nI i)), (7, .int (nI (32 * t + ro t))), (6, .int x6), (5, .int x5), (4, .int (nI n)), (0, .ref 196), (1, .int (nI t)), (2, .int (nI k)), (3, .int (lI v))]) (st' := [.ref 196]) (H' := _) (kc' := 0) (ks' := 0) rfl ?_
    refine RQ.get (ci := 12) rfl ((set_far (by decide)).trans ((set_far (by decide)).trans hm2)) rfl rfl ?_
    refine RQ.blk 1 (pc' := 220) (lv' := [(8, .int (nI i)), (7, .int (nI (32 * t + ro t))), (6, .int x6), (5, .int x5), (4, .int (nI n)), (0, .ref 196), (1, .int (nI t)), (2, .int (nI k)), (3, .int (lI v))]) (st' := [.int (nI t), .ref 208]) (H' := _) (kc' := 0) (ks' := 0) rfl ?_
    refine RQ.ialdN (j := t) rfl (get_set ((set_far (by decide)).trans h5.1)) (by omega) (by decide) ?_
    first | rw [up_at] | simp only [up_at]
    exact RQ.done (c := 0) (s := 0) rfl rfl rfl rfl ⟨_, _, rfl, rfl, ⟨(get_set ((set_far (by decide)).trans h5.1)).trans (congrArg (fun f => some (kI 8 f)) up_nI), ((set_far (by decide)).trans (get_set h5.2.1)).trans (congrArg (fun f => some (kI 8 f)) up_nI), (set_far (by decide)).trans ((set_far (by decide)).trans h5.2.2.1), (set_far (by decide)).trans ((set_far (by decide)).trans h5.2.2.2.1), (set_far (by decide)).trans ((set_far (by decide)).trans h5.2.2.2.2.1), (set_far (by decide)).trans ((set_far (by decide)).trans h5.2.2.2.2.2)⟩, fun a ha => ((set_far (by omega)).trans (set_far (by omega))).trans (h6 a ha)⟩
