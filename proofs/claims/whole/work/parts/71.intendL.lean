/-! ===== a change is intended: the list of changes; pure, and the class's contract over lists ===== -/
/-- the place of a key among changes -/
def ixK : List aE → List Nat → Option Nat
  | [], _ => none
  | e :: ws, k => if e.1 = k then some 0 else (ixK ws k).map (fun i => i + 1)
theorem ixK_none : ∀ {ws : List aE} {k : List Nat}, ixK ws k = none → ∀ (i : Nat) (e : aE), ws[i]? = some e → ¬ e.1 = k
  | [], _, _, i, e, h => by simp at h
  | a :: ws, k, h, i, e, hi => by
    rw [ixK] at h
    by_cases h1 : a.1 = k
    · rw [if_pos h1] at h; cases h
    · rw [if_neg h1] at h
      have h2 : ixK ws k = none := by
        cases h3 : ixK ws k with
        | none => rfl
        | some j => rw [h3] at h; cases h
      cases i with
      | zero =>
        have h4 : a = e := by simpa using hi
        rw [← h4]
        exact h1
      | succ i => exact ixK_none h2 i e (by simpa using hi)
theorem ixK_some : ∀ {ws : List aE} {k : List Nat} {i : Nat}, ixK ws k = some i → (∃ e, ws[i]? = some e ∧ e.1 = k) ∧ ∀ (j : Nat) (e : aE), j < i → ws[j]? = some e → ¬ e.1 = k
  | [], _, _, h => by cases h
  | a :: ws, k, i, h => by
    rw [ixK] at h
    by_cases h1 : a.1 = k
    · rw [if_pos h1] at h
      have h2 : 0 = i := by simpa using h
      subst h2
      exact ⟨⟨a, rfl, h1⟩, fun j e hj => absurd hj (Nat.not_lt_zero j)⟩
    · rw [if_neg h1] at h
      cases h3 : ixK ws k with
      | none => rw [h3] at h; cases h
      | some i' =>
        rw [h3] at h
        have h2 : i' + 1 = i := by simpa using h
        subst h2
        obtain ⟨⟨e, h4, h5⟩, h6⟩ := ixK_some h3
        refine ⟨⟨e, by simpa using h4, h5⟩, fun j e2 hj hj2 => ?_⟩
        cases j with
        | zero =>
          have h7 : a = e2 := by simpa using hj2
          rw [← h7]
          exact h1
        | succ j => exact h6 j e2 (by omega) (by simpa using hj2)
/-- the changes without that of the key -/
def dropK (ws : List aE) (k : List Nat) : List aE := match ixK ws k with
  | some i => ws.eraseIdx i
  | none => ws
/-- whose the key is stands before it -/
def pfx (e : aE) : aE := (0 :: e.1, e.2)
theorem pfx_len (e : aE) : eLen (pfx e) = eLen e + 1 := by
  show (0 :: e.1).length + (e.2.getD []).length = e.1.length + (e.2.getD []).length + 1
  rw [List.length_cons]
  omega
theorem eOff_pfx : ∀ (ws : List aE) (i : Nat), i ≤ ws.length → eOff (ws.map pfx) i = eOff ws i + i
  | ws, 0, _ => by cases ws <;> rfl
  | [], i + 1, h => absurd h (by simp)
  | e :: ws, i + 1, h => by
    rw [List.map_cons, eOff, eOff, pfx_len, eOff_pfx ws i (by simpa using h)]
    omega
theorem get_pfx {ws : List aE} {i : Nat} {e : aE} (h : (ws.map pfx)[i]? = some e) : ∃ e', ws[i]? = some e' ∧ e = pfx e' := by
  rw [List.getElem?_map] at h
  cases h1 : ws[i]? with
  | none => rw [h1] at h; cases h
  | some e' =>
    rw [h1] at h
    exact ⟨e', rfl, (Option.some.inj h).symm⟩
theorem len_erase {ws : List aE} {i : Nat} (h : i < ws.length) : (ws.eraseIdx i).length = ws.length - 1 := by
  rw [List.length_eraseIdx, if_pos h]
theorem map_erase : ∀ (ws : List aE) (i : Nat), (ws.eraseIdx i).map pfx = (ws.map pfx).eraseIdx i
  | [], _ => rfl
  | _ :: _, 0 => rfl
  | e :: ws, i + 1 => by rw [List.eraseIdx_cons_succ, List.map_cons, List.map_cons, List.eraseIdx_cons_succ, map_erase ws i]
theorem eOff_end (ws : List aE) (e : aE) : eOff (ws ++ [e]) (ws.length + 1) = eOff ws ws.length + eLen e := by
  have h : (ws ++ [e])[ws.length]? = some e := by rw [List.getElem?_append_right (Nat.le_refl _), Nat.sub_self]; rfl
  rw [eOff_succ h, eOff_snoc ws e _ (Nat.le_refl _)]
/-- the arrays behind Batch.drop -/
theorem LayE.drop {D : Nat → Int8} {S K : Nat → Nat} {E : Nat → Option Nat} {ws : List aE} {i : Nat} {e : aE} (h : LayE D 0 S K E ws) (hi : ws[i]? = some e) : LayE (cpy D (S i + (K i + (E i).getD 0)) D (S i) (eOff ws ws.length - S i - (K i + (E i).getD 0))) 0 (shF S (fun z => z - (K i + (E i).getD 0)) i (ws.length - 1)) (shF K (fun z => z) i (ws.length - 1)) (shF E (fun z => z) i (ws.length - 1)) (ws.eraseIdx i) := by
  obtain ⟨g1, g2, g3, -⟩ := h i e hi
  have hM : K i + (E i).getD 0 = eLen e := by rw [g2, eGet g3]; rfl
  have hS : S i = eOff ws i := by omega
  have h5 := eOff_succ hi
  have hl : i < ws.length := (List.getElem?_eq_some_iff.mp hi).1
  have h6 := eOff_mono ws (show i + 1 ≤ ws.length by omega)
  rw [hM, hS]
  refine h.erase hi (fun q _ hq => cpy_out (Or.inl (by omega))) (fun q hq1 hq2 => ?_) (fun j hj => ⟨if_neg (by omega), if_neg (by omega), if_neg (by omega)⟩) (fun j hj1 hj2 => ⟨if_pos (by omega), if_pos (by omega), if_pos (by omega)⟩)
  unfold cpy
  rw [if_pos (by omega)]
  exact congrArg D (by omega)
/-- and behind the new change -/
theorem LayE.put {D f g : Nat → Int8} {S K : Nat → Nat} {E : Nat → Option Nat} {ws : List aE} {k : Nat} {v : Option Nat} (h : LayE D 0 S K E ws) : LayE (cpy f k (cpy (prb f g k) 0 D (eOff ws ws.length) (k + 1)) (eOff ws ws.length + (k + 1)) (v.getD 0)) 0 (va_up S ws.length (eOff ws ws.length)) (va_up K ws.length (k + 1)) (va_up E ws.length v) (ws ++ [pfx (sl f 0 k, v.map (fun m => sl f k m))]) := by
  refine h.snoc (fun q _ hq => ?_) (fun i hi => ⟨if_neg (by omega), if_neg (by omega), if_neg (by omega)⟩) (by rw [va_up, if_pos rfl]; omega) ?_ ?_ ?_
  · rw [cpy_out (Or.inl (by omega)), cpy_out (Or.inl (by omega))]
  · rw [va_up, if_pos rfl]
    show k + 1 = (0 :: sl f 0 k).length
    rw [List.length_cons, sl_length]
  · rw [va_up, if_pos rfl]
    show v = (v.map (fun m => sl f k m)).map List.length
    cases v with
    | none => rfl
    | some m => exact congrArg some (sl_length f m k).symm
  · have e1 : eLen (pfx (sl f 0 k, v.map (fun m => sl f k m))) = (k + 1) + v.getD 0 := by
      rw [pfx_len]
      unfold eLen
      cases v with
      | none => show (sl f 0 k).length + 0 + 1 = _; rw [sl_length]; rfl
      | some m => show (sl f 0 k).length + (sl f k m).length + 1 = _; rw [sl_length, sl_length]; show k + m + 1 = k + 1 + m; omega
    rw [e1, sl_append, Nat.zero_add, sl_cpy, sl_cpy_out (Or.inl (by omega)), sl_cpy, sl_prb]
    cases v with
    | none => rfl
    | some m => rfl
/-- the sum of the entries' bytes, as user bytes -/
theorem keyEq {f g : Nat → Int8} {k : Nat} {e : aE} : (pfx e).1 = sl (prb f g k) 0 (k + 1) ↔ e.1 = sl f 0 k := by
  rw [sl_prb]
  show 0 :: e.1 = 0 :: sl f 0 k ↔ _
  constructor
  · intro h; exact List.tail_eq_of_cons_eq h
  · intro h; rw [h]
theorem BatchIs.mk' {H : aH} {b n u : Nat} {ws : List aE} {D : Nat → Int8} {S K : Nat → Nat} {E : Nat → Option Nat} (h : BatchAt H b D S K E n u) (hL : LayE D 0 S K E ws) (hn : ws.length = n) (hu : eOff ws n = u) (h1 : n ≤ 40) (h2 : u ≤ 4100) : BatchIs H b ws := by
  subst hn hu
  exact ⟨D, S, K, E, h, hL, h1, h2⟩
theorem ri_intendL {sc : Nat × (Nat → Int32)} {d k b l q : Nat} {H : aH} {bl pr up cw cl cp cb : Int32} {f g : Nat → Int8} {ws : List aE} {v : Option Nat} (h0 : H[0]? = some (kO 11 (fvs bl pr up cw cl cp cb))) (h1 : H[1]? = some (kO 5 [.ref 3, .int (nI l)])) (h2 : H[2]? = some (kB 2000 f)) (h5 : H[5]? = some (kO 5 [.ref 7, .int (nI q)])) (h6 : H[6]? = some (kB 41 g)) (hB : BatchIs H b (ws.map pfx)) (hb : 10 < b) (hkk : k ≤ 40) (hv : k + v.getD 0 ≤ 2000) (hl : ws.length ≤ 32) (hu : eOff ws ws.length ≤ 4000) (hks : ∀ e ∈ ws, 1 ≤ e.1.length) (hfit : (dropK ws (sl f 0 k)).length + 1 ≤ 32 ∧ eOff (dropK ws (sl f 0 k)) (dropK ws (sl f 0 k)).length + k + v.getD 0 ≤ 4000) : RI sc (d + 4) mr_39 [.ref 1, .ref (b + 1), .int (nI k), .int (lI v)] H (fun x H' => x = nI ((dropK ws (sl f 0 k)).length + 1) ∧ BatchIs H' b ((dropK ws (sl f 0 k) ++ [(sl f 0 k, v.map (fun m => sl f k m))]).map pfx) ∧ H'[5]? = some (kO 5 [.ref 7, .int (nI (k + 1))]) ∧ H'[6]? = some (kB 41 (prb f g k)) ∧ ∀ a, ¬ (b ≤ a ∧ a < b + 5) → a ≠ 5 → a ≠ 6 → H'[a]? = H[a]?) := by
  obtain ⟨D, S, K, E, hA, hL, hn40, hu41⟩ := hB
  have hn : (ws.map pfx).length = ws.length := List.length_map _
  have hk := hL.ok hn40 hu41
  have huo : eOff (ws.map pfx) (ws.map pfx).length = eOff ws ws.length + ws.length := by rw [hn]; exact eOff_pfx ws _ (Nat.le_refl _)
  have hkey : ∀ j, j < (ws.map pfx).length → ∃ e, ws[j]? = some e ∧ sl D (S j) (K j) = (pfx e).1 := by
    intro j hj
    obtain ⟨e, h7, h8⟩ := get_pfx (List.getElem?_eq_getElem hj)
    refine ⟨e, h7, ?_⟩
    have h9 := hL.key (List.getElem?_eq_getElem hj)
    rw [h8] at h9
    exact h9
  have elen : eLen (pfx (sl f 0 k, v.map (fun m => sl f k m))) = k + 1 + v.getD 0 := by
    rw [pfx_len]
    unfold eLen
    cases v with
    | none => show (sl f 0 k).length + 0 + 1 = _; rw [sl_length]; rfl
    | some m => show (sl f 0 k).length + (sl f k m).length + 1 = _; rw [sl_length, sl_length]; show k + m + 1 = k + 1 + m; omega
  cases hix : ixK ws (sl f 0 k) with
  | none =>
    have hd : dropK ws (sl f 0 k) = ws := by unfold dropK; rw [hix]
    rw [hd] at hfit ⊢
    obtain ⟨x, H', k1, k2, k3, k4, k5, k6⟩ := ri_intend_new (sc := sc) (d := d) h0 h1 h2 h5 h6 hA hk hb hkk hv (by omega) (fun j hj e => by
      obtain ⟨e1, h7, h8⟩ := hkey j hj
      exact ixK_none hix j e1 h7 (keyEq.mp (h8.symm.trans e))) (by omega) (by omega)
    refine ⟨x, H', k1, by rw [k2, hn], BatchIs.mk' k3 (by rw [List.map_append]; exact hL.put) ?_ ?_ (by omega) (by omega), k4, k5, k6⟩
    · rw [List.map_append, List.length_append]; rfl
    · rw [List.map_append]; show eOff (ws.map pfx ++ [pfx _]) ((ws.map pfx).length + 1) = _; rw [eOff_end, elen]
  | some i =>
    have hd : dropK ws (sl f 0 k) = ws.eraseIdx i := by unfold dropK; rw [hix]
    obtain ⟨⟨e0, hi0, he0⟩, hbef⟩ := ixK_some hix
    have hil : i < ws.length := (List.getElem?_eq_some_iff.mp hi0).1
    have hi1 : (ws.map pfx)[i]? = some (pfx e0) := by rw [List.getElem?_map, hi0]; rfl
    obtain ⟨g1, g2, g3, -⟩ := hL i _ hi1
    have hM : K i + (E i).getD 0 = eLen (pfx e0) := by rw [g2, eGet g3]; rfl
    have h10 := eOff_erase_ge (j := ws.length - 1) hi0 (by omega)
    rw [show ws.length - 1 + 1 = ws.length by omega] at h10
    have h11 : 1 ≤ K i := by rw [g2]; show 1 ≤ (0 :: e0.1).length; rw [List.length_cons]; omega
    have h13 := pfx_len e0
    have hle := len_erase (ws := ws) hil
    rw [hd] at hfit ⊢
    rw [hle] at hfit ⊢
    have h14 := eOff_len (ws.eraseIdx i) (fun a ha => hks a (List.mem_of_mem_eraseIdx ha))
    rw [hle] at h14
    have hLd := hL.drop hi1
    have hdl : ((ws.map pfx).eraseIdx i).length = (ws.map pfx).length - 1 := len_erase (by omega)
    have hdo : eOff ((ws.map pfx).eraseIdx i) ((ws.map pfx).length - 1) = eOff (ws.map pfx) (ws.map pfx).length - (K i + (E i).getD 0) := by
      have h15 := eOff_erase_ge (j := (ws.map pfx).length - 1) hi1 (by omega)
      rw [show (ws.map pfx).length - 1 + 1 = (ws.map pfx).length by omega] at h15
      omega
    have hkd := hLd.ok (by omega) (by rw [hdl, hdo]; omega)
    rw [hdl, hdo] at hkd
    have h16 := eOff_succ hi1
    have h17 := eOff_mono (ws.map pfx) (show i + 1 ≤ (ws.map pfx).length by omega)
    obtain ⟨x, H', k1, k2, k3, k4, k5, k6⟩ := ri_intend_old (sc := sc) (d := d) (i := i) h0 h1 h2 h5 h6 hA hk hb hkk hv (by omega) (by omega) ((hL.key hi1).trans (keyEq.mpr he0)) (fun j hj e => by
      obtain ⟨e1, h7, h8⟩ := hkey j (by omega)
      exact hbef j e1 hj h7 (keyEq.mp (h8.symm.trans e))) h11 (by omega) (fun j hj1 hj2 => by
      have h18 := (hL j _ (List.getElem?_eq_getElem hj2)).1
      have h19 := eOff_mono (ws.map pfx) (show i + 1 ≤ j by omega)
      omega) hkd (by omega) (by omega)
    have hP := hLd.put (f := f) (g := g) (k := k) (v := v)
    rw [hdl, hdo] at hP
    refine ⟨x, H', k1, by rw [k2, hn], BatchIs.mk' k3 (by rw [List.map_append, map_erase]; exact hP) ?_ ?_ (by omega) (by omega), k4, k5, k6⟩
    · rw [List.map_append, map_erase, List.length_append, hdl]; rfl
    · rw [List.map_append, map_erase]; show eOff ((ws.map pfx).eraseIdx i ++ [pfx _]) ((ws.map pfx).length - 1 + 1) = _; rw [← hdl, eOff_end, elen, hdl, hdo]
