/-! ===== the reference's enter over lists ===== -/
/-- what transaction t has written, in the reference's arrays -/
def TxL (ro fi wk wn : Nat → Nat) (wz : Nat → Option Nat) (wb : Nat → Int8) (t : Nat) (ws : List aE) : Prop := ro t = ws.length ∧ fi t = eOff ws ws.length ∧ ws.length ≤ 32 ∧ eOff ws ws.length ≤ 4000 ∧ LayE wb (4000 * t) (fun i => wk (32 * t + i)) (fun i => wn (32 * t + i)) (fun i => wz (32 * t + i)) ws
/-- what each transaction has written, in the reference -/
def MRIs (H : aH) (wss : Nat → List aE) : Prop := ∃ ro fi wk wn wz wb, MRAt H ro fi wk wn wz wb ∧ ∀ t, t < 8 → TxL ro fi wk wn wz wb t (wss t)
theorem LayE.congr {D D' : Nat → Int8} {b : Nat} {S K S' K' : Nat → Nat} {E E' : Nat → Option Nat} {ws : List aE} (h : LayE D b S K E ws) (h1 : ∀ i, i < ws.length → S' i = S i ∧ K' i = K i ∧ E' i = E i) (h2 : ∀ q, b ≤ q → q < b + eOff ws ws.length → D' q = D q) : LayE D' b S' K' E' ws := by
  intro i e hi
  have hl : i < ws.length := (List.getElem?_eq_some_iff.mp hi).1
  obtain ⟨g1, g2, g3, g4⟩ := h i e hi
  obtain ⟨k1, k2, k3⟩ := h1 i hl
  rw [k1, k2, k3]
  refine ⟨g1, g2, g3, ?_⟩
  rw [← g4]
  have h5 := eOff_succ hi
  have h6 := eOff_mono ws (show i + 1 ≤ ws.length by omega)
  exact sl_congr _ _ _ (fun q hq => h2 _ (by omega) (by omega))
theorem TxL.other {ro fi wk wn ro' fi' wk' wn' : Nat → Nat} {wz wz' : Nat → Option Nat} {wb wb' : Nat → Int8} {t : Nat} {ws : List aE} (h : TxL ro fi wk wn wz wb t ws) (h1 : ro' t = ro t) (h2 : fi' t = fi t) (h3 : ∀ i, i < 32 → wk' (32 * t + i) = wk (32 * t + i) ∧ wn' (32 * t + i) = wn (32 * t + i) ∧ wz' (32 * t + i) = wz (32 * t + i)) (h4 : ∀ q, 4000 * t ≤ q → q < 4000 * t + 4000 → wb' q = wb q) : TxL ro' fi' wk' wn' wz' wb' t ws := by
  obtain ⟨g1, g2, g3, g4, g5⟩ := h
  exact ⟨h1.trans g1, h2.trans g2, g3, g4, g5.congr (fun i hi => h3 i (by omega)) (fun q hq1 hq2 => h4 q hq1 (by omega))⟩
theorem TxL.ok {ro fi wk wn : Nat → Nat} {wz : Nat → Option Nat} {wb : Nat → Int8} {t : Nat} {ws : List aE} (h : TxL ro fi wk wn wz wb t ws) (ht : t < 8) : MROk ro fi wk wn wz t := by
  obtain ⟨g1, g2, g3, g4, g5⟩ := h
  refine ⟨ht, by omega, by omega, fun i hi => ?_⟩
  rw [g1] at hi
  have hg : ws[i]? = some ws[i] := List.getElem?_eq_getElem hi
  obtain ⟨k1, k2, k3, -⟩ := g5 i _ hg
  have h5 := eOff_succ hg
  have h6 := eOff_mono ws (show i + 1 ≤ ws.length by omega)
  have k4 : (wz (32 * t + i)).getD 0 = _ := eGet (E := fun i => wz (32 * t + i)) k3
  unfold eLen at h5
  dsimp only at k1 k2
  rw [k1, k2, k4, g2]
  omega
theorem TxL.key {ro fi wk wn : Nat → Nat} {wz : Nat → Option Nat} {wb : Nat → Int8} {t : Nat} {ws : List aE} (h : TxL ro fi wk wn wz wb t ws) {i : Nat} {e : aE} (hi : ws[i]? = some e) : sl wb (wk (32 * t + i)) (wn (32 * t + i)) = e.1 := h.2.2.2.2.key hi
theorem entry_len {f : Nat → Int8} {k : Nat} {v : Option Nat} : eLen (sl f 0 k, v.map (fun m => sl f k m)) = k + v.getD 0 := by
  unfold eLen
  cases v with
  | none => show (sl f 0 k).length + 0 = _; rw [sl_length]; rfl
  | some m => show (sl f 0 k).length + (sl f k m).length = _; rw [sl_length, sl_length]; rfl
theorem entry_sl {f : Nat → Int8} {k : Nat} {v : Option Nat} : sl f 0 (k + v.getD 0) = sl f 0 k ++ (v.map (fun m => sl f k m)).getD [] := by
  rw [sl_append, Nat.zero_add]
  cases v with
  | none => rfl
  | some m => rfl
theorem entry_map {f : Nat → Int8} {k : Nat} {v : Option Nat} : v = (v.map (fun m => sl f k m)).map List.length := by
  cases v with
  | none => rfl
  | some m => exact congrArg some (sl_length f m k).symm
/-- a change is entered: where it fits -/
theorem ri_menterL {sc : Nat × (Nat → Int32)} {d t n k : Nat} {op : Nat → Bool} {H : aH} {g : Nat → Int8} {v : Option Nat} {wss : Nat → List aE} {fa li dn cw cl rs pr ve us pi hu : Int32} {ba bo : Nat} (hm : H[195]? = some (kO 12 (mfs fa li dn cw cl (nI n) rs pr ve us pi hu ba bo))) (h : MRIs H wss) (h205 : H[205]? = some (kZ 8 op)) (h196 : H[196]? = some (kB 2000 g)) (ht : t < 8) (hop : op t = true) (hn : n = k + v.getD 0) (hn2 : n ≤ 2000) (hfit : (dropK (wss t) (sl g 0 k)).length + 1 ≤ 32 ∧ eOff (dropK (wss t) (sl g 0 k)) (dropK (wss t) (sl g 0 k)).length + k + v.getD 0 ≤ 4000) :
    RI sc (d + 2) mr_284 [.ref 196, .int (nI t), .int (nI k), .int (lI v)] H (fun x H' => x = nI ((dropK (wss t) (sl g 0 k)).length + 1) ∧ MRIs H' (va_up wss t (dropK (wss t) (sl g 0 k) ++ [(sl g 0 k, v.map (fun m => sl g k m))])) ∧ H'[195]? = some (kO 12 (mfs fa li dn cw cl 0 rs pr ve us pi hu ba bo)) ∧ ∀ a, ¬ (207 ≤ a ∧ a < 213) → a ≠ 195 → H'[a]? = H[a]?) := by
  obtain ⟨ro, fi, wk, wn, wz, wb, hA, hT⟩ := h
  have hTt := hT t ht
  have hk := hTt.ok ht
  obtain ⟨g1, g2, g3, g4, g5⟩ := hTt
  cases hix : ixK (wss t) (sl g 0 k) with
  | none =>
    have hd : dropK (wss t) (sl g 0 k) = wss t := by unfold dropK; rw [hix]
    rw [hd] at hfit ⊢
    obtain ⟨x, H', k1, k2, k3, k4, k5⟩ := ri_menter_new (sc := sc) (d := d) (k := k) hm hA hk h205 h196 (by omega) hn2 hop (fun q hq e => by
      rw [g1] at hq
      have hg : (wss t)[q]? = some (wss t)[q] := List.getElem?_eq_getElem hq
      exact ixK_none hix q _ hg ((g5.key hg).symm.trans e)) (by omega) (by omega) (v := v)
    refine ⟨x, H', k1, by rw [k2, g1], ⟨_, _, _, _, _, _, k3, fun t' ht' => ?_⟩, k4, k5⟩
    by_cases e : t' = t
    · subst e
      rw [up_at]
      have el : (wss t' ++ [(sl g 0 k, v.map (fun m => sl g k m))]).length = (wss t').length + 1 := by rw [List.length_append]; rfl
      have eo : eOff (wss t' ++ [(sl g 0 k, v.map (fun m => sl g k m))]) ((wss t').length + 1) = eOff (wss t') (wss t').length + (k + v.getD 0) := by rw [eOff_end, entry_len]
      refine ⟨by rw [up_at, el, g1], by rw [up_at, el, eo, g2, hn], by rw [el]; omega, by rw [el, eo]; omega, ?_⟩
      refine g5.snoc (fun q _ hq => cpy_out (Or.inl (by omega))) (fun i hi => ⟨if_neg (by omega), if_neg (by omega), if_neg (by omega)⟩) ?_ ?_ ?_ ?_
      · show va_up wk _ _ (32 * t' + (wss t').length) = _
        rw [← g1, up_at, g2, g1]
      · show va_up wn _ _ (32 * t' + (wss t').length) = (sl g 0 k).length
        rw [← g1, up_at, sl_length]
      · show va_up wz _ _ (32 * t' + (wss t').length) = _
        rw [← g1, up_at]
        exact entry_map
      · rw [entry_len, ← g2, ← hn, sl_cpy, hn]
        exact entry_sl
    · rw [show va_up wss t _ t' = wss t' from if_neg e]
      exact (hT t' ht').other (if_neg e) (if_neg e) (fun i hi => ⟨if_neg (by omega), if_neg (by omega), if_neg (by omega)⟩) (fun q hq1 hq2 => cpy_out (by omega))
  | some i =>
    have hd : dropK (wss t) (sl g 0 k) = (wss t).eraseIdx i := by unfold dropK; rw [hix]
    obtain ⟨⟨e0, hi0, he0⟩, hbef⟩ := ixK_some hix
    have hil : i < (wss t).length := (List.getElem?_eq_some_iff.mp hi0).1
    obtain ⟨q1, q2, q3, -⟩ := g5 i _ hi0
    dsimp only at q1 q2
    have hM : wn (32 * t + i) + (wz (32 * t + i)).getD 0 = eLen e0 := by
      rw [q2, eGet (E := fun i => wz (32 * t + i)) q3]
      rfl
    have h10 := eOff_erase_ge (j := (wss t).length - 1) hi0 (by omega)
    rw [show (wss t).length - 1 + 1 = (wss t).length by omega] at h10
    have hle := len_erase (ws := wss t) hil
    rw [hd] at hfit ⊢
    rw [hle] at hfit ⊢
    have h16 := eOff_succ hi0
    have h17 := eOff_mono (wss t) (show i + 1 ≤ (wss t).length by omega)
    obtain ⟨x, H', k1, k2, k3, k4, k5⟩ := ri_menter_old (sc := sc) (d := d) (k := k) (i := i) hm hA hk h205 h196 (by omega) hn2 hop (by omega) ((g5.key hi0).trans he0) (fun q hq e => by
      have hg : (wss t)[q]? = some (wss t)[q] := List.getElem?_eq_getElem (by omega)
      exact hbef q _ hq hg ((g5.key hg).symm.trans e)) (fun j hj1 hj2 => by
      rw [g1] at hj2
      have h18 := (g5 j _ (List.getElem?_eq_getElem hj2)).1
      have h19 := eOff_mono (wss t) (show i + 1 ≤ j by omega)
      dsimp only at h18
      omega) (by omega) (v := v)
    rw [hM] at k3
    refine ⟨x, H', k1, by rw [k2, g1], ⟨_, _, _, _, _, _, k3, fun t' ht' => ?_⟩, k4, k5⟩
    by_cases e : t' = t
    · subst e
      rw [up_at]
      have el : ((wss t').eraseIdx i ++ [(sl g 0 k, v.map (fun m => sl g k m))]).length = (wss t').length - 1 + 1 := by rw [List.length_append, hle]; rfl
      have eo : eOff ((wss t').eraseIdx i ++ [(sl g 0 k, v.map (fun m => sl g k m))]) ((wss t').length - 1 + 1) = eOff ((wss t').eraseIdx i) ((wss t').length - 1) + (k + v.getD 0) := by rw [← hle, eOff_end, entry_len, hle]
      refine ⟨by rw [up_at, el, g1], by rw [up_at, el, eo]; omega, by rw [el]; omega, by rw [el, eo]; omega, ?_⟩
      have hL2 : LayE (shB wb (eLen e0) (wk (32 * t' + i)) (4000 * t' + fi t' - eLen e0)) (4000 * t') (fun j => shF wk (fun z => z - eLen e0) (32 * t' + i) (32 * t' + (ro t' - 1)) (32 * t' + j)) (fun j => shF wn (fun z => z) (32 * t' + i) (32 * t' + (ro t' - 1)) (32 * t' + j)) (fun j => shF wz (fun z => z) (32 * t' + i) (32 * t' + (ro t' - 1)) (32 * t' + j)) ((wss t').eraseIdx i) := by
        refine g5.erase hi0 (fun q hq1 hq2 => if_neg (by omega)) (fun q hq1 hq2 => if_pos (by omega)) (fun j hj => ⟨if_neg (by omega), if_neg (by omega), if_neg (by omega)⟩) (fun j hj1 hj2 => ⟨?_, ?_, ?_⟩)
        · exact if_pos (by omega)
        · exact if_pos (by omega)
        · exact if_pos (by omega)
      refine hL2.snoc (fun q _ hq => cpy_out (Or.inl (by rw [hle] at hq; omega))) (fun j hj => ⟨if_neg (by rw [hle] at hj; omega), if_neg (by rw [hle] at hj; omega), if_neg (by rw [hle] at hj; omega)⟩) ?_ ?_ ?_ ?_
      · show va_up _ _ _ (32 * t' + ((wss t').eraseIdx i).length) = _
        rw [hle, ← g1, up_at]
        rw [g1]
        omega
      · show va_up _ _ _ (32 * t' + ((wss t').eraseIdx i).length) = (sl g 0 k).length
        rw [hle, ← g1, up_at, sl_length]
      · show va_up _ _ _ (32 * t' + ((wss t').eraseIdx i).length) = _
        rw [hle, ← g1, up_at]
        exact entry_map
      · rw [entry_len, hle, show 4000 * t' + eOff ((wss t').eraseIdx i) ((wss t').length - 1) = 4000 * t' + (fi t' - eLen e0) by omega, ← hn, sl_cpy, hn]
        exact entry_sl
    · rw [show va_up wss t _ t' = wss t' from if_neg e]
      exact (hT t' ht').other ((if_neg e).trans (if_neg e)) ((if_neg e).trans (if_neg e)) (fun j hj => ⟨(if_neg (by omega)).trans (if_neg (by omega)), (if_neg (by omega)).trans (if_neg (by omega)), (if_neg (by omega)).trans (if_neg (by omega))⟩) (fun q hq1 hq2 => (cpy_out (by omega)).trans (if_neg (by omega)))
