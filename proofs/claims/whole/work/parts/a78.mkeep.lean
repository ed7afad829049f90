/-! ===== a piece is kept so long; reference; written by wip/gen/mkeep.py ===== -/
theorem i32_shift (x y z : Int32) : (x + y) + (z - (z + y)) = x := by grind
theorem nI_back {k a b : Nat} (h1 : a ≤ b) (h2 : b - a ≤ k) : nI k + (nI a - nI b) = nI (k - (b - a)) := by
  have e1 : nI k = nI (k - (b - a)) + nI (b - a) := by rw [nI_add, show k - (b - a) + (b - a) = k by omega]
  have e2 : nI b = nI a + nI (b - a) := by rw [nI_add, show a + (b - a) = b by omega]
  rw [e1, e2]
  exact i32_shift _ _ _
/-- the arrays of the reference's pieces -/
def MPAt (H : aH) (pf px pz pa : Nat → Nat) (hd : Nat → Int8) : Prop := H[218]? = some (kI 1300 (fun j => nI (pf j))) ∧ H[219]? = some (kI 1300 (fun j => nI (px j))) ∧ H[220]? = some (kI 1300 (fun j => nI (pz j))) ∧ H[221]? = some (kI 1300 (fun j => nI (pa j))) ∧ H[222]? = some (kB 40000 hd)
theorem MPAt.far {H H' : aH} {pf px pz pa : Nat → Nat} {hd : Nat → Int8} (h : MPAt H pf px pz pa hd) (hs : ∀ a, 218 ≤ a → a < 223 → H'[a]? = H[a]?) : MPAt H' pf px pz pa hd := ⟨(hs _ (by omega) (by omega)).trans h.1, (hs _ (by omega) (by omega)).trans h.2.1, (hs _ (by omega) (by omega)).trans h.2.2.1, (hs _ (by omega) (by omega)).trans h.2.2.2.1, (hs _ (by omega) (by omega)).trans h.2.2.2.2⟩
theorem dec_lt {a : Nat} (h : a < 2 ^ 30) : nI a + (-1) < nI a := by
  cases a with
  | zero => decide
  | succ n =>
    rw [nI_dec (by omega)]
    exact of_decide_eq_true (cT_lt (x := nI (n + 1 - 1)) (y := nI (n + 1)) (n + 1 - 1) (n + 1) (by omega) (by omega) rfl rfl)
set_option maxRecDepth 20000 in
theorem rn_keepG {sc : Nat × (Nat → Int32)} {d : Nat} {H : aH} {fa li dn cw cl tp rs pr ve us : Int32} {ba bo : Nat} {pf px pz pa : Nat → Nat} {hd : Nat → Int8} {p n pi hu : Nat} (hm : H[195]? = some (kO 12 (mfs fa li dn cw cl tp rs pr ve us (nI pi) (nI hu) ba bo))) (h : MPAt H pf px pz pa hd) (hp : p < pi) (hpi : pi ≤ 1300) (hb : ∀ j, j < pi → pa j + pz j ≤ hu) (hhu : hu ≤ 40000) (hn : n ≤ 512) (hg : pz p < n) (hroom : hu + (n - pz p) ≤ 40000) : RN sc d mr_316 [.ref 196, .int (nI p), .int (nI n)] H (fun H' => H'[195]? = some (kO 12 (mfs fa li dn cw cl tp rs pr ve us (nI pi) (nI (hu + (n - pz p))) ba bo)) ∧ MPAt H' pf px (va_up pz p n) (fun q => if q < pi ∧ ¬ q = p ∧ pa p + pz p ≤ pa q then pa q + (n - pz p) else pa q) (fun q => if q < (pa p + pz p) then hd q else if q < (pa p + pz p) + (n - pz p) then 0 else if q < hu + (n - pz p) then hd (q - (n - pz p)) else hd q) ∧ ∀ a, ¬ (a = 195 ∨ a = 220 ∨ a = 221 ∨ a = 222) → H'[a]? = H[a]?) := by
  have hpb := hb p hp
  have hpz : pz p ≤ 40000 := by omega
  refine RN.of ?_
  have tail : ∀ H0, H0 = H.set 222 (kB 40000 (fun q => if q < (pa p + pz p) then hd q else if q < (pa p + pz p) + (n - pz p) then 0 else if q < hu + (n - pz p) then hd (q - (n - pz p)) else hd q)) → RQ sc d mr_316 133 [(5, .int 0), (0, .ref 196), (1, .int (nI p)), (2, .int (nI n)), (3, .int (nI (n - pz p))), (4, .int (nI (pa p + pz p)))] [] H0 0 0 (fun r => ∃ H', r = (.inl none, H', 0, 0) ∧ H'[195]? = some (kO 12 (mfs fa li dn cw cl tp rs pr ve us (nI pi) (nI (hu + (n - pz p))) ba bo)) ∧ MPAt H' pf px (va_up pz p n) (fun q => if q < pi ∧ ¬ q = p ∧ pa p + pz p ≤ pa q then pa q + (n - pz p) else pa q) (fun q => if q < (pa p + pz p) then hd q else if q < (pa p + pz p) + (n - pz p) then 0 else if q < hu + (n - pz p) then hd (q - (n - pz p)) else hd q) ∧ ∀ a, ¬ (a = 195 ∨ a = 220 ∨ a = 221 ∨ a = 222) → H'[a]? = H[a]?) := by
    intro H0 e0
    refine RQ.while (S := Nat) (pc := 133) (fun k H' => k ≤ pi ∧ H' = ((H.set 222 (kB 40000 (fun q => if q < (pa p + pz p) then hd q else if q < (pa p + pz p) + (n - pz p) then 0 else if q < hu + (n - pz p) then hd (q - (n - pz p)) else hd q))).set 221 (kI 1300 (fun j => nI ((fun q => if q < k ∧ ¬ q = p ∧ (pa p + pz p) ≤ pa q then pa q + (n - pz p) else pa q) j))))) (fun k => [(5, .int (nI k)), (0, .ref 196), (1, .int (nI p)), (2, .int (nI n)), (3, .int (nI (n - pz p))), (4, .int (nI (pa p + pz p)))]) (fun k => pi - k) ?_ 0 H0 ⟨Nat.zero_le _, ?_⟩
    rotate_left
    · rw [e0]
      have e : (fun j => nI ((fun q => if q < 0 ∧ ¬ q = p ∧ (pa p + pz p) ≤ pa q then pa q + (n - pz p) else pa q) j)) = (fun j => nI (pa j)) := by funext j; show nI (if _ then _ else _) = _; rw [if_neg (fun e9 => absurd e9.1 (Nat.not_lt_zero _))]
      rw [e, set_self ((set_far (by decide)).trans h.2.2.2.1)]
    rintro k H2 ⟨hk, rfl⟩ ih
    have hm2 : ((H.set 222 (kB 40000 (fun q => if q < (pa p + pz p) then hd q else if q < (pa p + pz p) + (n - pz p) then 0 else if q < hu + (n - pz p) then hd (q - (n - pz p)) else hd q))).set 221 (kI 1300 (fun j => nI ((fun q => if q < k ∧ ¬ q = p ∧ (pa p + pz p) ≤ pa q then pa q + (n - pz p) else pa q) j))))[195]? = _ := (set_far (by decide)).trans ((set_far (by decide)).trans hm)
    have h2 : MPAt ((H.set 222 (kB 40000 (fun q => if q < (pa p + pz p) then hd q else if q < (pa p + pz p) + (n - pz p) then 0 else if q < hu + (n - pz p) then hd (q - (n - pz p)) else hd q))).set 221 (kI 1300 (fun j => nI ((fun q => if q < k ∧ ¬ q = p ∧ (pa p + pz p) ≤ pa q then pa q + (n - pz p) else pa q) j)))) pf px pz (fun q => if q < k ∧ ¬ q = p ∧ (pa p + pz p) ≤ pa q then pa q + (n - pz p) else pa q) (fun q => if q < (pa p + pz p) then hd q else if q < (pa p + pz p) + (n - pz p) then 0 else if q < hu + (n - pz p) then hd (q - (n - pz p)) else hd q) := ⟨(set_far (by decide)).trans ((set_far (by decide)).trans h.1), (set_far (by decide)).trans ((set_far (by decide)).trans h.2.1), (set_far (by decide)).trans ((set_far (by decide)).trans h.2.2.1), get_set ((set_far (by decide)).trans h.2.2.2.1), (set_far (by decide)).trans (get_set h.2.2.2.2)⟩
    by_cases hkl : k < pi
    ·
      have hbk := hb k hkl
      have hpk : (fun q => if q < k ∧ ¬ q = p ∧ (pa p + pz p) ≤ pa q then pa q + (n - pz p) else pa q) k = pa k := if_neg (fun e => Nat.lt_irrefl _ e.1)
      refine RQ.blk 2 (pc' := 136) (lv' := [(5, .int (nI k)), (0, .ref 196), (1, .int (nI p)), (2, .int (nI n)), (3, .int (nI (n - pz p))), (4, .int (nI (pa p + pz p)))]) (st' := [.ref 196, .int (nI k)]) (H' := _) (kc' := 0) (ks' := 0) rfl ?_
      refine RQ.get (ci := 12) rfl hm2 rfl rfl ?_
      refine RQ.brF rfl rfl rfl (cF_ge k pi) ?_
      refine RQ.blk 2 (pc' := 145) (lv' := [(5, .int (nI k)), (0, .ref 196), (1, .int (nI p)), (2, .int (nI n)), (3, .int (nI (n - pz p))), (4, .int (nI (pa p + pz p)))]) (st' := [.int (nI p), .int (nI k)]) (H' := _) (kc' := 0) (ks' := 0) rfl ?_
      by_cases hkp : k = p
      · refine RQ.brT rfl rfl rfl (cT_eq k p) ?_
        refine RQ.blk 1 (pc' := 174) (lv' := [(5, .int (nI k + 1)), (0, .ref 196), (1, .int (nI p)), (2, .int (nI n)), (3, .int (nI (n - pz p))), (4, .int (nI (pa p + pz p)))]) (st' := []) (H' := _) (kc' := 0) (ks' := 0) rfl ?_
        rw [show (nI k + 1 : Int32) = nI (k + 1) from nI_add k 1]
        refine RQ.blk 1 (pc' := 133) (lv' := [(5, .int (nI (k + 1))), (0, .ref 196), (1, .int (nI p)), (2, .int (nI n)), (3, .int (nI (n - pz p))), (4, .int (nI (pa p + pz p)))]) (st' := []) (H' := _) (kc' := 0) (ks' := 0) rfl ?_
        have hfn : (fun j => nI ((fun q => if q < k ∧ ¬ q = p ∧ (pa p + pz p) ≤ pa q then pa q + (n - pz p) else pa q) j)) = (fun j => nI ((fun q => if q < k + 1 ∧ ¬ q = p ∧ (pa p + pz p) ≤ pa q then pa q + (n - pz p) else pa q) j)) := by
          funext j
          show nI (if _ then _ else _) = nI (if _ then _ else _)
          rw [ite_iff (show (j < k ∧ ¬ j = p ∧ (pa p + pz p) ≤ pa j) ↔ (j < k + 1 ∧ ¬ j = p ∧ (pa p + pz p) ≤ pa j) from ⟨fun h9 => ⟨by omega, h9.2⟩, fun h9 => ⟨by by_cases ej : j = k; exfalso; rw [ej] at h9; have h8 := h9.2.2; exact h9.2.1 hkp; omega, h9.2⟩⟩)]
        rw [hfn]
        refine RQ.pick (a := [(5, .int (nI (k + 1))), (0, .ref 196), (1, .int (nI p)), (2, .int (nI n)), (3, .int (nI (n - pz p))), (4, .int (nI (pa p + pz p)))]) [0, 1, 2, 3, 4, 5] [5, 0, 1, 2, 3, 4] rfl rfl (by decide) ?_
        exact ih (k + 1) _ ⟨by omega, rfl⟩ (by omega)
      · refine RQ.brF rfl rfl rfl (cF_eq k p) ?_
        refine RQ.blk 1 (pc' := 149) (lv' := [(5, .int (nI k)), (0, .ref 196), (1, .int (nI p)), (2, .int (nI n)), (3, .int (nI (n - pz p))), (4, .int (nI (pa p + pz p)))]) (st' := [.ref 196]) (H' := _) (kc' := 0) (ks' := 0) rfl ?_
        refine RQ.get (ci := 12) rfl hm2 rfl rfl ?_
        refine RQ.blk 1 (pc' := 154) (lv' := [(5, .int (nI k)), (0, .ref 196), (1, .int (nI p)), (2, .int (nI n)), (3, .int (nI (n - pz p))), (4, .int (nI (pa p + pz p)))]) (st' := [.int (nI k), .ref 222]) (H' := _) (kc' := 0) (ks' := 0) rfl ?_
        refine RQ.ialdN (j := k) rfl h2.2.2.2.1 (by omega) (by decide) ?_
        rw [hpk]
        refine RQ.blk 1 (pc' := 157) (lv' := [(5, .int (nI k)), (0, .ref 196), (1, .int (nI p)), (2, .int (nI n)), (3, .int (nI (n - pz p))), (4, .int (nI (pa p + pz p)))]) (st' := [.int (nI (pa p + pz p)), .int (nI (pa k))]) (H' := _) (kc' := 0) (ks' := 0) rfl ?_
        by_cases hlt : pa k < (pa p + pz p)
        · refine RQ.brT rfl rfl rfl (cT_lt (pa k) (pa p + pz p)) ?_
          refine RQ.blk 1 (pc' := 174) (lv' := [(5, .int (nI k + 1)), (0, .ref 196), (1, .int (nI p)), (2, .int (nI n)), (3, .int (nI (n - pz p))), (4, .int (nI (pa p + pz p)))]) (st' := []) (H' := _) (kc' := 0) (ks' := 0) rfl ?_
          rw [show (nI k + 1 : Int32) = nI (k + 1) from nI_add k 1]
          refine RQ.blk 1 (pc' := 133) (lv' := [(5, .int (nI (k + 1))), (0, .ref 196), (1, .int (nI p)), (2, .int (nI n)), (3, .int (nI (n - pz p))), (4, .int (nI (pa p + pz p)))]) (st' := []) (H' := _) (kc' := 0) (ks' := 0) rfl ?_
          have hfn : (fun j => nI ((fun q => if q < k ∧ ¬ q = p ∧ (pa p + pz p) ≤ pa q then pa q + (n - pz p) else pa q) j)) = (fun j => nI ((fun q => if q < k + 1 ∧ ¬ q = p ∧ (pa p + pz p) ≤ pa q then pa q + (n - pz p) else pa q) j)) := by
            funext j
            show nI (if _ then _ else _) = nI (if _ then _ else _)
            rw [ite_iff (show (j < k ∧ ¬ j = p ∧ (pa p + pz p) ≤ pa j) ↔ (j < k + 1 ∧ ¬ j = p ∧ (pa p + pz p) ≤ pa j) from ⟨fun h9 => ⟨by omega, h9.2⟩, fun h9 => ⟨by by_cases ej : j = k; exfalso; rw [ej] at h9; have h8 := h9.2.2; omega; omega, h9.2⟩⟩)]
          rw [hfn]
          refine RQ.pick (a := [(5, .int (nI (k + 1))), (0, .ref 196), (1, .int (nI p)), (2, .int (nI n)), (3, .int (nI (n - pz p))), (4, .int (nI (pa p + pz p)))]) [0, 1, 2, 3, 4, 5] [5, 0, 1, 2, 3, 4] rfl rfl (by decide) ?_
          exact ih (k + 1) _ ⟨by omega, rfl⟩ (by omega)
        · refine RQ.brF rfl rfl rfl (cF_lt (pa k) (pa p + pz p)) ?_
          refine RQ.blk 1 (pc' := 161) (lv' := [(5, .int (nI k)), (0, .ref 196), (1, .int (nI p)), (2, .int (nI n)), (3, .int (nI (n - pz p))), (4, .int (nI (pa p + pz p)))]) (st' := [.ref 196]) (H' := _) (kc' := 0) (ks' := 0) rfl ?_
          refine RQ.get (ci := 12) rfl hm2 rfl rfl ?_
          refine RQ.blk 2 (pc' := 167) (lv' := [(5, .int (nI k)), (0, .ref 196), (1, .int (nI p)), (2, .int (nI n)), (3, .int (nI (n - pz p))), (4, .int (nI (pa p + pz p)))]) (st' := [.int (nI k), .ref 222, .int (nI k), .ref 222]) (H' := _) (kc' := 0) (ks' := 0) rfl ?_
          refine RQ.ialdN (j := k) rfl h2.2.2.2.1 (by omega) (by decide) ?_
          rw [hpk]
          refine RQ.blk 2 (pc' := 170) (lv' := [(5, .int (nI k)), (0, .ref 196), (1, .int (nI p)), (2, .int (nI n)), (3, .int (nI (n - pz p))), (4, .int (nI (pa p + pz p)))]) (st' := [.int (nI (pa k) + nI (n - pz p)), .int (nI k), .ref 222]) (H' := _) (kc' := 0) (ks' := 0) rfl ?_
          rw [show (nI (pa k) + nI (n - pz p) : Int32) = nI (pa k + (n - pz p)) from nI_add (pa k) (n - pz p)]
          refine RQ.iastN (j := k) rfl h2.2.2.2.1 (by omega) (by decide) ?_
          rw [up_nI]
          refine RQ.blk 1 (pc' := 174) (lv' := [(5, .int (nI k + 1)), (0, .ref 196), (1, .int (nI p)), (2, .int (nI n)), (3, .int (nI (n - pz p))), (4, .int (nI (pa p + pz p)))]) (st' := []) (H' := _) (kc' := 0) (ks' := 0) rfl ?_
          rw [show (nI k + 1 : Int32) = nI (k + 1) from nI_add k 1]
          refine RQ.blk 1 (pc' := 133) (lv' := [(5, .int (nI (k + 1))), (0, .ref 196), (1, .int (nI p)), (2, .int (nI n)), (3, .int (nI (n - pz p))), (4, .int (nI (pa p + pz p)))]) (st' := []) (H' := _) (kc' := 0) (ks' := 0) rfl ?_
          rw [set_set]
          have hfn : (fun j => nI (va_up (fun q => if q < k ∧ ¬ q = p ∧ (pa p + pz p) ≤ pa q then pa q + (n - pz p) else pa q) k (pa k + (n - pz p)) j)) = (fun j => nI ((fun q => if q < k + 1 ∧ ¬ q = p ∧ (pa p + pz p) ≤ pa q then pa q + (n - pz p) else pa q) j)) := by
            funext j
            by_cases e : j = k
            · rw [e, up_at]; show _ = nI (if _ then _ else _); rw [if_pos ⟨Nat.lt_succ_self _, hkp, by omega⟩]
            · rw [up_ne e]; show nI (if _ then _ else _) = nI (if _ then _ else _); rw [ite_iff (show (j < k ∧ ¬ j = p ∧ (pa p + pz p) ≤ pa j) ↔ (j < k + 1 ∧ ¬ j = p ∧ (pa p + pz p) ≤ pa j) from ⟨fun h9 => ⟨by omega, h9.2⟩, fun h9 => ⟨by omega, h9.2⟩⟩)]
          rw [hfn]
          refine RQ.pick (a := [(5, .int (nI (k + 1))), (0, .ref 196), (1, .int (nI p)), (2, .int (nI n)), (3, .int (nI (n - pz p))), (4, .int (nI (pa p + pz p)))]) [0, 1, 2, 3, 4, 5] [5, 0, 1, 2, 3, 4] rfl rfl (by decide) ?_
          exact ih (k + 1) _ ⟨by omega, rfl⟩ (by omega)
    ·
      refine RQ.blk 2 (pc' := 136) (lv' := [(5, .int (nI k)), (0, .ref 196), (1, .int (nI p)), (2, .int (nI n)), (3, .int (nI (n - pz p))), (4, .int (nI (pa p + pz p)))]) (st' := [.ref 196, .int (nI k)]) (H' := _) (kc' := 0) (ks' := 0) rfl ?_
      refine RQ.get (ci := 12) rfl hm2 rfl rfl ?_
      refine RQ.brT rfl rfl rfl (cT_ge k pi) ?_
      refine RQ.blk 2 (pc' := 179) (lv' := [(5, .int (nI k)), (0, .ref 196), (1, .int (nI p)), (2, .int (nI n)), (3, .int (nI (n - pz p))), (4, .int (nI (pa p + pz p)))]) (st' := [.ref 196, .ref 196]) (H' := _) (kc' := 0) (ks' := 0) rfl ?_
      refine RQ.get (ci := 12) rfl hm2 rfl rfl ?_
      refine RQ.blk 1 (pc' := 183) (lv' := [(5, .int (nI k)), (0, .ref 196), (1, .int (nI p)), (2, .int (nI n)), (3, .int (nI (n - pz p))), (4, .int (nI (pa p + pz p)))]) (st' := [.int (nI (n - pz p)), .int (nI hu), .ref 196]) (H' := _) (kc' := 0) (ks' := 0) rfl ?_
      refine RQ.blk 1 (pc' := 184) (lv' := [(5, .int (nI k)), (0, .ref 196), (1, .int (nI p)), (2, .int (nI n)), (3, .int (nI (n - pz p))), (4, .int (nI (pa p + pz p)))]) (st' := [.int (nI hu + nI (n - pz p)), .ref 196]) (H' := _) (kc' := 0) (ks' := 0) rfl ?_
      rw [show (nI hu + nI (n - pz p) : Int32) = nI (hu + (n - pz p)) from nI_add hu (n - pz p)]
      refine RQ.put (ci := 12) rfl hm2 rfl rfl (Nat.le_of_ble_eq_true rfl) ?_
      refine RQ.blk 1 (pc' := 188) (lv' := [(5, .int (nI k)), (0, .ref 196), (1, .int (nI p)), (2, .int (nI n)), (3, .int (nI (n - pz p))), (4, .int (nI (pa p + pz p)))]) (st' := [.ref 196]) (H' := _) (kc' := 0) (ks' := 0) rfl ?_
      refine RQ.get (ci := 12) rfl (get_set hm2) rfl rfl ?_
      refine RQ.blk 2 (pc' := 193) (lv' := [(5, .int (nI k)), (0, .ref 196), (1, .int (nI p)), (2, .int (nI n)), (3, .int (nI (n - pz p))), (4, .int (nI (pa p + pz p)))]) (st' := [.int (nI n), .int (nI p), .ref 221]) (H' := _) (kc' := 0) (ks' := 0) rfl ?_
      refine RQ.iastN (j := p) rfl ((set_far (by decide)).trans h2.2.2.1) (by omega) (by decide) ?_
      rw [up_nI]
      have hke : k = pi := by omega
      rw [hke]
      exact RQ.done (c := 0) (s := 0) rfl rfl rfl rfl ⟨_, rfl, (set_far (by decide)).trans (get_set ((set_far (by decide)).trans ((set_far (by decide)).trans hm))), ⟨(set_far (by decide)).trans ((set_far (by decide)).trans ((set_far (by decide)).trans ((set_far (by decide)).trans h.1))), (set_far (by decide)).trans ((set_far (by decide)).trans ((set_far (by decide)).trans ((set_far (by decide)).trans h.2.1))), get_set ((set_far (by decide)).trans ((set_far (by decide)).trans ((set_far (by decide)).trans h.2.2.1))), (set_far (by decide)).trans ((set_far (by decide)).trans (get_set ((set_far (by decide)).trans h.2.2.2.1))), (set_far (by decide)).trans ((set_far (by decide)).trans ((set_far (by decide)).trans (get_set h.2.2.2.2)))⟩, fun a ha => (set_far (by omega)).trans ((set_far (by omega)).trans ((set_far (by omega)).trans (set_far (by omega))))⟩
  refine RQ.blk 2 (pc' := 2) (lv' := [(0, .ref 196), (1, .int (nI p)), (2, .int (nI n))]) (st' := [.ref 196, .int (nI n)]) (H' := _) (kc' := 0) (ks' := 0) rfl ?_
  refine RQ.get (ci := 12) rfl hm rfl rfl ?_
  refine RQ.blk 1 (pc' := 6) (lv' := [(0, .ref 196), (1, .int (nI p)), (2, .int (nI n))]) (st' := [.int (nI p), .ref 221, .int (nI n)]) (H' := _) (kc' := 0) (ks' := 0) rfl ?_
  refine RQ.ialdN (j := p) rfl h.2.2.1 (by omega) (by decide) ?_
  refine RQ.blk 1 (pc' := 8) (lv' := [(0, .ref 196), (1, .int (nI p)), (2, .int (nI n))]) (st' := [.int (nI n - nI (pz p))]) (H' := _) (kc' := 0) (ks' := 0) rfl ?_
  rw [show (nI n - nI (pz p) : Int32) = nI (n - (pz p)) from pk_sub (a := n) (b := (pz p)) (by omega)]
  refine RQ.blk 2 (pc' := 10) (lv' := [(3, .int (nI (n - (pz p)))), (0, .ref 196), (1, .int (nI p)), (2, .int (nI n))]) (st' := [.ref 196]) (H' := _) (kc' := 0) (ks' := 0) rfl ?_
  refine RQ.get (ci := 12) rfl hm rfl rfl ?_
  refine RQ.blk 1 (pc' := 14) (lv' := [(3, .int (nI (n - (pz p)))), (0, .ref 196), (1, .int (nI p)), (2, .int (nI n))]) (st' := [.int (nI p), .ref 222]) (H' := _) (kc' := 0) (ks' := 0) rfl ?_
  refine RQ.ialdN (j := p) rfl h.2.2.2.1 (by omega) (by decide) ?_
  refine RQ.blk 1 (pc' := 16) (lv' := [(3, .int (nI (n - (pz p)))), (0, .ref 196), (1, .int (nI p)), (2, .int (nI n))]) (st' := [.ref 196, .int (nI (pa p))]) (H' := _) (kc' := 0) (ks' := 0) rfl ?_
  refine RQ.get (ci := 12) rfl hm rfl rfl ?_
  refine RQ.blk 1 (pc' := 20) (lv' := [(3, .int (nI (n - (pz p)))), (0, .ref 196), (1, .int (nI p)), (2, .int (nI n))]) (st' := [.int (nI p), .ref 221, .int (nI (pa p))]) (H' := _) (kc' := 0) (ks' := 0) rfl ?_
  refine RQ.ialdN (j := p) rfl h.2.2.1 (by omega) (by decide) ?_
  refine RQ.blk 1 (pc' := 22) (lv' := [(3, .int (nI (n - (pz p)))), (0, .ref 196), (1, .int (nI p)), (2, .int (nI n))]) (st' := [.int (nI (pa p) + nI (pz p))]) (H' := _) (kc' := 0) (ks' := 0) rfl ?_
  rw [show (nI (pa p) + nI (pz p) : Int32) = nI (pa p + (pz p)) from nI_add (pa p) (pz p)]
  refine RQ.blk 2 (pc' := 25) (lv' := [(4, .int (nI (pa p + (pz p)))), (3, .int (nI (n - (pz p)))), (0, .ref 196), (1, .int (nI p)), (2, .int (nI n))]) (st' := [.int (nI (n - (pz p)))]) (H' := _) (kc' := 0) (ks' := 0) rfl ?_
  refine RQ.brF rfl rfl rfl (cF_le (n - pz p) 0) ?_
  refine RQ.blk 1 (pc' := 29) (lv' := [(4, .int (nI (pa p + (pz p)))), (3, .int (nI (n - (pz p)))), (0, .ref 196), (1, .int (nI p)), (2, .int (nI n))]) (st' := [.ref 196]) (H' := _) (kc' := 0) (ks' := 0) rfl ?_
  refine RQ.get (ci := 12) rfl hm rfl rfl ?_
  refine RQ.blk 2 (pc' := 34) (lv' := [(4, .int (nI (pa p + (pz p)))), (3, .int (nI (n - (pz p)))), (0, .ref 196), (1, .int (nI p)), (2, .int (nI n))]) (st' := [.int (nI hu - 1)]) (H' := _) (kc' := 0) (ks' := 0) rfl ?_
  rw [show (nI hu - 1 : Int32) = nI hu + (-1) from Int32.sub_eq_add_neg ..]
  refine RQ.blk 1 (pc' := 36) (lv' := [(5, .int (nI hu + (-1))), (4, .int (nI (pa p + (pz p)))), (3, .int (nI (n - (pz p)))), (0, .ref 196), (1, .int (nI p)), (2, .int (nI n))]) (st' := []) (H' := _) (kc' := 0) (ks' := 0) rfl ?_
  refine RQ.pick (a := [(5, .int (nI hu + (-1))), (0, .ref 196), (1, .int (nI p)), (2, .int (nI n)), (3, .int (nI (n - (pz p)))), (4, .int (nI (pa p + (pz p))))]) [0, 3, 4, 5, 2, 1] [5, 4, 3, 0, 1, 2] rfl rfl (by decide) ?_
  refine RQ.while (S := Nat) (pc := 36) (fun i H' => (pa p + pz p) ≤ i ∧ i ≤ hu ∧ H' = H.set 222 (kB 40000 (fun q => if i + (n - pz p) ≤ q ∧ q < hu + (n - pz p) then hd (q - (n - pz p)) else hd q))) (fun i => [(5, .int (nI i + (-1))), (0, .ref 196), (1, .int (nI p)), (2, .int (nI n)), (3, .int (nI (n - pz p))), (4, .int (nI (pa p + pz p)))]) (fun i => i) ?_ hu H ⟨hpb, Nat.le_refl _, ?_⟩
  rotate_left
  · have e : (fun q => if hu + (n - pz p) ≤ q ∧ q < hu + (n - pz p) then hd (q - (n - pz p)) else hd q) = hd := by funext q; exact if_neg (by omega)
    rw [e, set_self h.2.2.2.2]
  rintro i H1 ⟨hi1, hi2, rfl⟩ ih
  have hm1 : (H.set 222 (kB 40000 (fun q => if i + (n - pz p) ≤ q ∧ q < hu + (n - pz p) then hd (q - (n - pz p)) else hd q)))[195]? = _ := (set_far (by decide)).trans hm
  have h1 : MPAt (H.set 222 (kB 40000 (fun q => if i + (n - pz p) ≤ q ∧ q < hu + (n - pz p) then hd (q - (n - pz p)) else hd q))) pf px pz pa (fun q => if i + (n - pz p) ≤ q ∧ q < hu + (n - pz p) then hd (q - (n - pz p)) else hd q) := ⟨(set_far (by decide)).trans h.1, (set_far (by decide)).trans h.2.1, (set_far (by decide)).trans h.2.2.1, (set_far (by decide)).trans h.2.2.2.1, get_set h.2.2.2.2⟩
  by_cases hie : i = (pa p + pz p)
  ·
    have hcond : cond32 .lt (nI i + (-1)) (nI (pa p + pz p)) = true := by
      rw [hie]
      refine decide_eq_true ?_
      exact dec_lt (by omega)
    refine RQ.blk 2 (pc' := 40) (lv' := [(5, .int (nI i + (-1))), (0, .ref 196), (1, .int (nI p)), (2, .int (nI n)), (3, .int (nI (n - pz p))), (4, .int (nI (pa p + pz p)))]) (st' := [.int (nI (pa p + pz p)), .int (nI i + (-1))]) (H' := _) (kc' := 0) (ks' := 0) rfl ?_
    refine RQ.brT rfl rfl rfl (hcond) ?_
    refine RQ.blk 2 (pc' := 69) (lv' := [(5, .int (nI (pa p + pz p))), (0, .ref 196), (1, .int (nI p)), (2, .int (nI n)), (3, .int (nI (n - pz p))), (4, .int (nI (pa p + pz p)))]) (st' := []) (H' := _) (kc' := 0) (ks' := 0) rfl ?_
    refine RQ.pick (a := [(5, .int (nI (pa p + pz p))), (0, .ref 196), (1, .int (nI p)), (2, .int (nI n)), (3, .int (nI (n - pz p))), (4, .int (nI (pa p + pz p)))]) [0, 1, 2, 3, 4, 5] [5, 0, 1, 2, 3, 4] rfl rfl (by decide) ?_
    refine RQ.while (S := Nat) (pc := 69) (fun k H' => (pa p + pz p) ≤ k ∧ k ≤ (pa p + pz p) + (n - pz p) ∧ H' = H.set 222 (kB 40000 (fun q => if q < (pa p + pz p) then hd q else if q < k then 0 else if (pa p + pz p) + (n - pz p) ≤ q ∧ q < hu + (n - pz p) then hd (q - (n - pz p)) else hd q))) (fun k => [(5, .int (nI k)), (0, .ref 196), (1, .int (nI p)), (2, .int (nI n)), (3, .int (nI (n - pz p))), (4, .int (nI (pa p + pz p)))]) (fun k => (pa p + pz p) + (n - pz p) - k) ?_ (pa p + pz p) _ ⟨Nat.le_refl _, by omega, ?_⟩
    rotate_left
    · congr 2
      funext q
      show (if i + (n - pz p) ≤ q ∧ q < hu + (n - pz p) then hd (q - (n - pz p)) else hd q) = (if q < (pa p + pz p) then hd q else if q < (pa p + pz p) then 0 else if (pa p + pz p) + (n - pz p) ≤ q ∧ q < hu + (n - pz p) then hd (q - (n - pz p)) else hd q)
      rw [hie]
      by_cases e : q < (pa p + pz p)
      · rw [if_pos e, if_neg (by omega)]
      · rw [if_neg e, if_neg e]
    clear ih
    rintro k H2 ⟨hk1, hk2, rfl⟩ ih
    have hm2 : (H.set 222 (kB 40000 (fun q => if q < (pa p + pz p) then hd q else if q < k then 0 else if (pa p + pz p) + (n - pz p) ≤ q ∧ q < hu + (n - pz p) then hd (q - (n - pz p)) else hd q)))[195]? = _ := (set_far (by decide)).trans hm
    have h2 : MPAt (H.set 222 (kB 40000 (fun q => if q < (pa p + pz p) then hd q else if q < k then 0 else if (pa p + pz p) + (n - pz p) ≤ q ∧ q < hu + (n - pz p) then hd (q - (n - pz p)) else hd q))) pf px pz pa (fun q => if q < (pa p + pz p) then hd q else if q < k then 0 else if (pa p + pz p) + (n - pz p) ≤ q ∧ q < hu + (n - pz p) then hd (q - (n - pz p)) else hd q) := ⟨(set_far (by decide)).trans h.1, (set_far (by decide)).trans h.2.1, (set_far (by decide)).trans h.2.2.1, (set_far (by decide)).trans h.2.2.2.1, get_set h.2.2.2.2⟩
    by_cases hkl : k < (pa p + pz p) + (n - pz p)
    ·
      refine RQ.blk 4 (pc' := 75) (lv' := [(5, .int (nI k)), (0, .ref 196), (1, .int (nI p)), (2, .int (nI n)), (3, .int (nI (n - pz p))), (4, .int (nI (pa p + pz p)))]) (st' := [.int (nI (pa p + pz p) + nI (n - pz p)), .int (nI k)]) (H' := _) (kc' := 0) (ks' := 0) rfl ?_
      rw [show (nI (pa p + pz p) + nI (n - pz p) : Int32) = nI (pa p + pz p + (n - pz p)) from nI_add (pa p + pz p) (n - pz p)]
      refine RQ.brF rfl rfl rfl (cF_ge k ((pa p + pz p) + (n - pz p))) ?_
      refine RQ.blk 1 (pc' := 79) (lv' := [(5, .int (nI k)), (0, .ref 196), (1, .int (nI p)), (2, .int (nI n)), (3, .int (nI (n - pz p))), (4, .int (nI (pa p + pz p)))]) (st' := [.ref 196]) (H' := _) (kc' := 0) (ks' := 0) rfl ?_
      refine RQ.get (ci := 12) rfl hm2 rfl rfl ?_
      refine RQ.blk 2 (pc' := 85) (lv' := [(5, .int (nI k)), (0, .ref 196), (1, .int (nI p)), (2, .int (nI n)), (3, .int (nI (n - pz p))), (4, .int (nI (pa p + pz p)))]) (st' := [.int 0, .int (nI k), .ref 223]) (H' := _) (kc' := 0) (ks' := 0) rfl ?_
      refine RQ.bastN (j := k) rfl h2.2.2.2.2 (by omega) (by decide) ?_
      rw [set_set]
      refine RQ.blk 1 (pc' := 89) (lv' := [(5, .int (nI k + 1)), (0, .ref 196), (1, .int (nI p)), (2, .int (nI n)), (3, .int (nI (n - pz p))), (4, .int (nI (pa p + pz p)))]) (st' := []) (H' := _) (kc' := 0) (ks' := 0) rfl ?_
      rw [show (nI k + 1 : Int32) = nI (k + 1) from nI_add k 1]
      refine RQ.blk 1 (pc' := 69) (lv' := [(5, .int (nI (k + 1))), (0, .ref 196), (1, .int (nI p)), (2, .int (nI n)), (3, .int (nI (n - pz p))), (4, .int (nI (pa p + pz p)))]) (st' := []) (H' := _) (kc' := 0) (ks' := 0) rfl ?_
      have hfn : va_up (fun q => if q < (pa p + pz p) then hd q else if q < k then 0 else if (pa p + pz p) + (n - pz p) ≤ q ∧ q < hu + (n - pz p) then hd (q - (n - pz p)) else hd q) k (0 : Int32).toInt8 = (fun q => if q < (pa p + pz p) then hd q else if q < k + 1 then 0 else if (pa p + pz p) + (n - pz p) ≤ q ∧ q < hu + (n - pz p) then hd (q - (n - pz p)) else hd q) := by
        funext q
        by_cases e : q = k
        · rw [e, up_at, if_neg (by omega), if_pos (by omega)]; rfl
        · rw [up_ne e]
          by_cases e2 : q < (pa p + pz p)
          · rw [if_pos e2, if_pos e2]
          · rw [if_neg e2, if_neg e2]
            by_cases e3 : q < k
            · rw [if_pos e3, if_pos (by omega)]
            · rw [if_neg e3, if_neg (show ¬ q < k + 1 by omega)]
      rw [hfn]
      refine RQ.pick (a := [(5, .int (nI (k + 1))), (0, .ref 196), (1, .int (nI p)), (2, .int (nI n)), (3, .int (nI (n - pz p))), (4, .int (nI (pa p + pz p)))]) [0, 1, 2, 3, 4, 5] [5, 0, 1, 2, 3, 4] rfl rfl (by decide) ?_
      exact ih (k + 1) _ ⟨by omega, by omega, rfl⟩ (by omega)
    ·
      refine RQ.blk 4 (pc' := 75) (lv' := [(5, .int (nI k)), (0, .ref 196), (1, .int (nI p)), (2, .int (nI n)), (3, .int (nI (n - pz p))), (4, .int (nI (pa p + pz p)))]) (st' := [.int (nI (pa p + pz p) + nI (n - pz p)), .int (nI k)]) (H' := _) (kc' := 0) (ks' := 0) rfl ?_
      rw [show (nI (pa p + pz p) + nI (n - pz p) : Int32) = nI (pa p + pz p + (n - pz p)) from nI_add (pa p + pz p) (n - pz p)]
      refine RQ.brT rfl rfl rfl (cT_ge k ((pa p + pz p) + (n - pz p))) ?_
      refine RQ.blk 3 (pc' := 133) (lv' := [(5, .int 0), (0, .ref 196), (1, .int (nI p)), (2, .int (nI n)), (3, .int (nI (n - pz p))), (4, .int (nI (pa p + pz p)))]) (st' := []) (H' := _) (kc' := 0) (ks' := 0) rfl ?_
      refine RQ.pick (a := [(5, .int 0), (0, .ref 196), (1, .int (nI p)), (2, .int (nI n)), (3, .int (nI (n - pz p))), (4, .int (nI (pa p + pz p)))]) [0, 1, 2, 3, 4, 5] [5, 0, 1, 2, 3, 4] rfl rfl (by decide) ?_
      have hfn : (fun q => if q < (pa p + pz p) then hd q else if q < k then 0 else if (pa p + pz p) + (n - pz p) ≤ q ∧ q < hu + (n - pz p) then hd (q - (n - pz p)) else hd q) = (fun q => if q < (pa p + pz p) then hd q else if q < (pa p + pz p) + (n - pz p) then 0 else if q < hu + (n - pz p) then hd (q - (n - pz p)) else hd q) := by
        funext q
        rw [show k = (pa p + pz p) + (n - pz p) by omega]
        by_cases e2 : q < (pa p + pz p)
        · rw [if_pos e2, if_pos e2]
        · rw [if_neg e2, if_neg e2]
          by_cases e3 : q < (pa p + pz p) + (n - pz p)
          · rw [if_pos e3, if_pos e3]
          · rw [if_neg e3, if_neg e3]
            by_cases e4 : q < hu + (n - pz p)
            · rw [if_pos ⟨by omega, e4⟩, if_pos e4]
            · rw [if_neg (fun e5 => e4 e5.2), if_neg e4]
      rw [hfn]
      exact tail _ rfl
  ·
    rw [nI_dec (by omega)]
    refine RQ.blk 2 (pc' := 40) (lv' := [(5, .int (nI (i - 1))), (0, .ref 196), (1, .int (nI p)), (2, .int (nI n)), (3, .int (nI (n - pz p))), (4, .int (nI (pa p + pz p)))]) (st' := [.int (nI (pa p + pz p)), .int (nI (i - 1))]) (H' := _) (kc' := 0) (ks' := 0) rfl ?_
    refine RQ.brF rfl rfl rfl (cF_lt (i - 1) (pa p + pz p)) ?_
    refine RQ.blk 1 (pc' := 44) (lv' := [(5, .int (nI (i - 1))), (0, .ref 196), (1, .int (nI p)), (2, .int (nI n)), (3, .int (nI (n - pz p))), (4, .int (nI (pa p + pz p)))]) (st' := [.ref 196]) (H' := _) (kc' := 0) (ks' := 0) rfl ?_
    refine RQ.get (ci := 12) rfl hm1 rfl rfl ?_
    refine RQ.blk 3 (pc' := 51) (lv' := [(5, .int (nI (i - 1))), (0, .ref 196), (1, .int (nI p)), (2, .int (nI n)), (3, .int (nI (n - pz p))), (4, .int (nI (pa p + pz p)))]) (st' := [.int (nI (i - 1) + nI (n - pz p)), .ref 223]) (H' := _) (kc' := 0) (ks' := 0) rfl ?_
    rw [show (nI (i - 1) + nI (n - pz p) : Int32) = nI ((i - 1) + (n - pz p)) from nI_add (i - 1) (n - pz p)]
    refine RQ.blk 1 (pc' := 52) (lv' := [(5, .int (nI (i - 1))), (0, .ref 196), (1, .int (nI p)), (2, .int (nI n)), (3, .int (nI (n - pz p))), (4, .int (nI (pa p + pz p)))]) (st' := [.ref 196, .int (nI ((i - 1) + (n - pz p))), .ref 223]) (H' := _) (kc' := 0) (ks' := 0) rfl ?_
    refine RQ.get (ci := 12) rfl hm1 rfl rfl ?_
    refine RQ.blk 1 (pc' := 57) (lv' := [(5, .int (nI (i - 1))), (0, .ref 196), (1, .int (nI p)), (2, .int (nI n)), (3, .int (nI (n - pz p))), (4, .int (nI (pa p + pz p)))]) (st' := [.int (nI (i - 1)), .ref 223, .int (nI ((i - 1) + (n - pz p))), .ref 223]) (H' := _) (kc' := 0) (ks' := 0) rfl ?_
    refine RQ.baldN (j := (i - 1)) rfl h1.2.2.2.2 (by omega) (by decide) ?_
    refine RQ.bastN (j := (i - 1 + (n - pz p))) rfl h1.2.2.2.2 (by omega) (by decide) ?_
    rw [set_set, Int8.toInt8_toInt32]
    refine RQ.blk 2 (pc' := 36) (lv' := [(5, .int ((nI (i - 1)) + (-1))), (0, .ref 196), (1, .int (nI p)), (2, .int (nI n)), (3, .int (nI (n - pz p))), (4, .int (nI (pa p + pz p)))]) (st' := []) (H' := _) (kc' := 0) (ks' := 0) rfl ?_
    have hfn : va_up (fun q => if i + (n - pz p) ≤ q ∧ q < hu + (n - pz p) then hd (q - (n - pz p)) else hd q) (i - 1 + (n - pz p)) ((fun q => if i + (n - pz p) ≤ q ∧ q < hu + (n - pz p) then hd (q - (n - pz p)) else hd q) (i - 1)) = (fun q => if i - 1 + (n - pz p) ≤ q ∧ q < hu + (n - pz p) then hd (q - (n - pz p)) else hd q) := by
      funext q
      by_cases e : q = i - 1 + (n - pz p)
      · rw [e, up_at]
        show (if i + (n - pz p) ≤ i - 1 ∧ i - 1 < hu + (n - pz p) then hd (i - 1 - (n - pz p)) else hd (i - 1)) = (if i - 1 + (n - pz p) ≤ i - 1 + (n - pz p) ∧ i - 1 + (n - pz p) < hu + (n - pz p) then hd (i - 1 + (n - pz p) - (n - pz p)) else hd (i - 1 + (n - pz p)))
        rw [if_neg (by omega), if_pos (by omega), Nat.add_sub_cancel]
      · rw [up_ne e]
        by_cases e2 : i + (n - pz p) ≤ q ∧ q < hu + (n - pz p)
        · rw [if_pos e2, if_pos (by omega)]
        · rw [if_neg e2, if_neg (by omega)]
    rw [hfn]
    refine RQ.pick (a := [(5, .int ((nI (i - 1)) + (-1))), (0, .ref 196), (1, .int (nI p)), (2, .int (nI n)), (3, .int (nI (n - pz p))), (4, .int (nI (pa p + pz p)))]) [0, 1, 2, 3, 4, 5] [5, 0, 1, 2, 3, 4] rfl rfl (by decide) ?_
    exact ih (i - 1) _ ⟨by omega, by omega, rfl⟩ (by omega)
set_option maxRecDepth 20000 in
theorem rn_keepS {sc : Nat × (Nat → Int32)} {d : Nat} {H : aH} {fa li dn cw cl tp rs pr ve us : Int32} {ba bo : Nat} {pf px pz pa : Nat → Nat} {hd : Nat → Int8} {p n pi hu : Nat} (hm : H[195]? = some (kO 12 (mfs fa li dn cw cl tp rs pr ve us (nI pi) (nI hu) ba bo))) (h : MPAt H pf px pz pa hd) (hp : p < pi) (hpi : pi ≤ 1300) (hb : ∀ j, j < pi → pa j + pz j ≤ hu) (hhu : hu ≤ 40000) (hn : n ≤ 512) (hg : n ≤ pz p) : RN sc d mr_316 [.ref 196, .int (nI p), .int (nI n)] H (fun H' => H'[195]? = some (kO 12 (mfs fa li dn cw cl tp rs pr ve us (nI pi) (nI (hu - (pz p - n))) ba bo)) ∧ MPAt H' pf px (va_up pz p n) (fun q => if q < pi ∧ ¬ q = p ∧ pa p + pz p ≤ pa q then pa q - (pz p - n) else pa q) (fun q => if (pa p + pz p) - (pz p - n) ≤ q ∧ q < hu - (pz p - n) then hd (q + (pz p - n)) else hd q) ∧ ∀ a, ¬ (a = 195 ∨ a = 220 ∨ a = 221 ∨ a = 222) → H'[a]? = H[a]?) := by
  have hpb := hb p hp
  have hpz : pz p ≤ 40000 := by omega
  refine RN.of ?_
  have tail : ∀ H0, H0 = H.set 222 (kB 40000 (fun q => if (pa p + pz p) - (pz p - n) ≤ q ∧ q < hu - (pz p - n) then hd (q + (pz p - n)) else hd q)) → RQ sc d mr_316 133 [(5, .int 0), (0, .ref 196), (1, .int (nI p)), (2, .int (nI n)), (3, .int (nI n - nI (pz p))), (4, .int (nI (pa p + pz p)))] [] H0 0 0 (fun r => ∃ H', r = (.inl none, H', 0, 0) ∧ H'[195]? = some (kO 12 (mfs fa li dn cw cl tp rs pr ve us (nI pi) (nI (hu - (pz p - n))) ba bo)) ∧ MPAt H' pf px (va_up pz p n) (fun q => if q < pi ∧ ¬ q = p ∧ pa p + pz p ≤ pa q then pa q - (pz p - n) else pa q) (fun q => if (pa p + pz p) - (pz p - n) ≤ q ∧ q < hu - (pz p - n) then hd (q + (pz p - n)) else hd q) ∧ ∀ a, ¬ (a = 195 ∨ a = 220 ∨ a = 221 ∨ a = 222) → H'[a]? = H[a]?) := by
    intro H0 e0
    refine RQ.while (S := Nat) (pc := 133) (fun k H' => k ≤ pi ∧ H' = ((H.set 222 (kB 40000 (fun q => if (pa p + pz p) - (pz p - n) ≤ q ∧ q < hu - (pz p - n) then hd (q + (pz p - n)) else hd q))).set 221 (kI 1300 (fun j => nI ((fun q => if q < k ∧ ¬ q = p ∧ (pa p + pz p) ≤ pa q then pa q - (pz p - n) else pa q) j))))) (fun k => [(5, .int (nI k)), (0, .ref 196), (1, .int (nI p)), (2, .int (nI n)), (3, .int (nI n - nI (pz p))), (4, .int (nI (pa p + pz p)))]) (fun k => pi - k) ?_ 0 H0 ⟨Nat.zero_le _, ?_⟩
    rotate_left
    · rw [e0]
      have e : (fun j => nI ((fun q => if q < 0 ∧ ¬ q = p ∧ (pa p + pz p) ≤ pa q then pa q - (pz p - n) else pa q) j)) = (fun j => nI (pa j)) := by funext j; show nI (if _ then _ else _) = _; rw [if_neg (fun e9 => absurd e9.1 (Nat.not_lt_zero _))]
      rw [e, set_self ((set_far (by decide)).trans h.2.2.2.1)]
    rintro k H2 ⟨hk, rfl⟩ ih
    have hm2 : ((H.set 222 (kB 40000 (fun q => if (pa p + pz p) - (pz p - n) ≤ q ∧ q < hu - (pz p - n) then hd (q + (pz p - n)) else hd q))).set 221 (kI 1300 (fun j => nI ((fun q => if q < k ∧ ¬ q = p ∧ (pa p + pz p) ≤ pa q then pa q - (pz p - n) else pa q) j))))[195]? = _ := (set_far (by decide)).trans ((set_far (by decide)).trans hm)
    have h2 : MPAt ((H.set 222 (kB 40000 (fun q => if (pa p + pz p) - (pz p - n) ≤ q ∧ q < hu - (pz p - n) then hd (q + (pz p - n)) else hd q))).set 221 (kI 1300 (fun j => nI ((fun q => if q < k ∧ ¬ q = p ∧ (pa p + pz p) ≤ pa q then pa q - (pz p - n) else pa q) j)))) pf px pz (fun q => if q < k ∧ ¬ q = p ∧ (pa p + pz p) ≤ pa q then pa q - (pz p - n) else pa q) (fun q => if (pa p + pz p) - (pz p - n) ≤ q ∧ q < hu - (pz p - n) then hd (q + (pz p - n)) else hd q) := ⟨(set_far (by decide)).trans ((set_far (by decide)).trans h.1), (set_far (by decide)).trans ((set_far (by decide)).trans h.2.1), (set_far (by decide)).trans ((set_far (by decide)).trans h.2.2.1), get_set ((set_far (by decide)).trans h.2.2.2.1), (set_far (by decide)).trans (get_set h.2.2.2.2)⟩
    by_cases hkl : k < pi
    ·
      have hbk := hb k hkl
      have hpk : (fun q => if q < k ∧ ¬ q = p ∧ (pa p + pz p) ≤ pa q then pa q - (pz p - n) else pa q) k = pa k := if_neg (fun e => Nat.lt_irrefl _ e.1)
      refine RQ.blk 2 (pc' := 136) (lv' := [(5, .int (nI k)), (0, .ref 196), (1, .int (nI p)), (2, .int (nI n)), (3, .int (nI n - nI (pz p))), (4, .int (nI (pa p + pz p)))]) (st' := [.ref 196, .int (nI k)]) (H' := _) (kc' := 0) (ks' := 0) rfl ?_
      refine RQ.get (ci := 12) rfl hm2 rfl rfl ?_
      refine RQ.brF rfl rfl rfl (cF_ge k pi) ?_
      refine RQ.blk 2 (pc' := 145) (lv' := [(5, .int (nI k)), (0, .ref 196), (1, .int (nI p)), (2, .int (nI n)), (3, .int (nI n - nI (pz p))), (4, .int (nI (pa p + pz p)))]) (st' := [.int (nI p), .int (nI k)]) (H' := _) (kc' := 0) (ks' := 0) rfl ?_
      by_cases hkp : k = p
      · refine RQ.brT rfl rfl rfl (cT_eq k p) ?_
        refine RQ.blk 1 (pc' := 174) (lv' := [(5, .int (nI k + 1)), (0, .ref 196), (1, .int (nI p)), (2, .int (nI n)), (3, .int (nI n - nI (pz p))), (4, .int (nI (pa p + pz p)))]) (st' := []) (H' := _) (kc' := 0) (ks' := 0) rfl ?_
        rw [show (nI k + 1 : Int32) = nI (k + 1) from nI_add k 1]
        refine RQ.blk 1 (pc' := 133) (lv' := [(5, .int (nI (k + 1))), (0, .ref 196), (1, .int (nI p)), (2, .int (nI n)), (3, .int (nI n - nI (pz p))), (4, .int (nI (pa p + pz p)))]) (st' := []) (H' := _) (kc' := 0) (ks' := 0) rfl ?_
        have hfn : (fun j => nI ((fun q => if q < k ∧ ¬ q = p ∧ (pa p + pz p) ≤ pa q then pa q - (pz p - n) else pa q) j)) = (fun j => nI ((fun q => if q < k + 1 ∧ ¬ q = p ∧ (pa p + pz p) ≤ pa q then pa q - (pz p - n) else pa q) j)) := by
          funext j
          show nI (if _ then _ else _) = nI (if _ then _ else _)
          rw [ite_iff (show (j < k ∧ ¬ j = p ∧ (pa p + pz p) ≤ pa j) ↔ (j < k + 1 ∧ ¬ j = p ∧ (pa p + pz p) ≤ pa j) from ⟨fun h9 => ⟨by omega, h9.2⟩, fun h9 => ⟨by by_cases ej : j = k; exfalso; rw [ej] at h9; have h8 := h9.2.2; exact h9.2.1 hkp; omega, h9.2⟩⟩)]
        rw [hfn]
        refine RQ.pick (a := [(5, .int (nI (k + 1))), (0, .ref 196), (1, .int (nI p)), (2, .int (nI n)), (3, .int (nI n - nI (pz p))), (4, .int (nI (pa p + pz p)))]) [0, 1, 2, 3, 4, 5] [5, 0, 1, 2, 3, 4] rfl rfl (by decide) ?_
        exact ih (k + 1) _ ⟨by omega, rfl⟩ (by omega)
      · refine RQ.brF rfl rfl rfl (cF_eq k p) ?_
        refine RQ.blk 1 (pc' := 149) (lv' := [(5, .int (nI k)), (0, .ref 196), (1, .int (nI p)), (2, .int (nI n)), (3, .int (nI n - nI (pz p))), (4, .int (nI (pa p + pz p)))]) (st' := [.ref 196]) (H' := _) (kc' := 0) (ks' := 0) rfl ?_
        refine RQ.get (ci := 12) rfl hm2 rfl rfl ?_
        refine RQ.blk 1 (pc' := 154) (lv' := [(5, .int (nI k)), (0, .ref 196), (1, .int (nI p)), (2, .int (nI n)), (3, .int (nI n - nI (pz p))), (4, .int (nI (pa p + pz p)))]) (st' := [.int (nI k), .ref 222]) (H' := _) (kc' := 0) (ks' := 0) rfl ?_
        refine RQ.ialdN (j := k) rfl h2.2.2.2.1 (by omega) (by decide) ?_
        rw [hpk]
        refine RQ.blk 1 (pc' := 157) (lv' := [(5, .int (nI k)), (0, .ref 196), (1, .int (nI p)), (2, .int (nI n)), (3, .int (nI n - nI (pz p))), (4, .int (nI (pa p + pz p)))]) (st' := [.int (nI (pa p + pz p)), .int (nI (pa k))]) (H' := _) (kc' := 0) (ks' := 0) rfl ?_
        by_cases hlt : pa k < (pa p + pz p)
        · refine RQ.brT rfl rfl rfl (cT_lt (pa k) (pa p + pz p)) ?_
          refine RQ.blk 1 (pc' := 174) (lv' := [(5, .int (nI k + 1)), (0, .ref 196), (1, .int (nI p)), (2, .int (nI n)), (3, .int (nI n - nI (pz p))), (4, .int (nI (pa p + pz p)))]) (st' := []) (H' := _) (kc' := 0) (ks' := 0) rfl ?_
          rw [show (nI k + 1 : Int32) = nI (k + 1) from nI_add k 1]
          refine RQ.blk 1 (pc' := 133) (lv' := [(5, .int (nI (k + 1))), (0, .ref 196), (1, .int (nI p)), (2, .int (nI n)), (3, .int (nI n - nI (pz p))), (4, .int (nI (pa p + pz p)))]) (st' := []) (H' := _) (kc' := 0) (ks' := 0) rfl ?_
          have hfn : (fun j => nI ((fun q => if q < k ∧ ¬ q = p ∧ (pa p + pz p) ≤ pa q then pa q - (pz p - n) else pa q) j)) = (fun j => nI ((fun q => if q < k + 1 ∧ ¬ q = p ∧ (pa p + pz p) ≤ pa q then pa q - (pz p - n) else pa q) j)) := by
            funext j
            show nI (if _ then _ else _) = nI (if _ then _ else _)
            rw [ite_iff (show (j < k ∧ ¬ j = p ∧ (pa p + pz p) ≤ pa j) ↔ (j < k + 1 ∧ ¬ j = p ∧ (pa p + pz p) ≤ pa j) from ⟨fun h9 => ⟨by omega, h9.2⟩, fun h9 => ⟨by by_cases ej : j = k; exfalso; rw [ej] at h9; have h8 := h9.2.2; omega; omega, h9.2⟩⟩)]
          rw [hfn]
          refine RQ.pick (a := [(5, .int (nI (k + 1))), (0, .ref 196), (1, .int (nI p)), (2, .int (nI n)), (3, .int (nI n - nI (pz p))), (4, .int (nI (pa p + pz p)))]) [0, 1, 2, 3, 4, 5] [5, 0, 1, 2, 3, 4] rfl rfl (by decide) ?_
          exact ih (k + 1) _ ⟨by omega, rfl⟩ (by omega)
        · refine RQ.brF rfl rfl rfl (cF_lt (pa k) (pa p + pz p)) ?_
          refine RQ.blk 1 (pc' := 161) (lv' := [(5, .int (nI k)), (0, .ref 196), (1, .int (nI p)), (2, .int (nI n)), (3, .int (nI n - nI (pz p))), (4, .int (nI (pa p + pz p)))]) (st' := [.ref 196]) (H' := _) (kc' := 0) (ks' := 0) rfl ?_
          refine RQ.get (ci := 12) rfl hm2 rfl rfl ?_
          refine RQ.blk 2 (pc' := 167) (lv' := [(5, .int (nI k)), (0, .ref 196), (1, .int (nI p)), (2, .int (nI n)), (3, .int (nI n - nI (pz p))), (4, .int (nI (pa p + pz p)))]) (st' := [.int (nI k), .ref 222, .int (nI k), .ref 222]) (H' := _) (kc' := 0) (ks' := 0) rfl ?_
          refine RQ.ialdN (j := k) rfl h2.2.2.2.1 (by omega) (by decide) ?_
          rw [hpk]
          refine RQ.blk 2 (pc' := 170) (lv' := [(5, .int (nI k)), (0, .ref 196), (1, .int (nI p)), (2, .int (nI n)), (3, .int (nI n - nI (pz p))), (4, .int (nI (pa p + pz p)))]) (st' := [.int (nI (pa k) + (nI n - nI (pz p))), .int (nI k), .ref 222]) (H' := _) (kc' := 0) (ks' := 0) rfl ?_
          rw [nI_back hg (by omega)]
          refine RQ.iastN (j := k) rfl h2.2.2.2.1 (by omega) (by decide) ?_
          rw [up_nI]
          refine RQ.blk 1 (pc' := 174) (lv' := [(5, .int (nI k + 1)), (0, .ref 196), (1, .int (nI p)), (2, .int (nI n)), (3, .int (nI n - nI (pz p))), (4, .int (nI (pa p + pz p)))]) (st' := []) (H' := _) (kc' := 0) (ks' := 0) rfl ?_
          rw [show (nI k + 1 : Int32) = nI (k + 1) from nI_add k 1]
          refine RQ.blk 1 (pc' := 133) (lv' := [(5, .int (nI (k + 1))), (0, .ref 196), (1, .int (nI p)), (2, .int (nI n)), (3, .int (nI n - nI (pz p))), (4, .int (nI (pa p + pz p)))]) (st' := []) (H' := _) (kc' := 0) (ks' := 0) rfl ?_
          rw [set_set]
          have hfn : (fun j => nI (va_up (fun q => if q < k ∧ ¬ q = p ∧ (pa p + pz p) ≤ pa q then pa q - (pz p - n) else pa q) k (pa k - (pz p - n)) j)) = (fun j => nI ((fun q => if q < k + 1 ∧ ¬ q = p ∧ (pa p + pz p) ≤ pa q then pa q - (pz p - n) else pa q) j)) := by
            funext j
            by_cases e : j = k
            · rw [e, up_at]; show _ = nI (if _ then _ else _); rw [if_pos ⟨Nat.lt_succ_self _, hkp, by omega⟩]
            · rw [up_ne e]; show nI (if _ then _ else _) = nI (if _ then _ else _); rw [ite_iff (show (j < k ∧ ¬ j = p ∧ (pa p + pz p) ≤ pa j) ↔ (j < k + 1 ∧ ¬ j = p ∧ (pa p + pz p) ≤ pa j) from ⟨fun h9 => ⟨by omega, h9.2⟩, fun h9 => ⟨by omega, h9.2⟩⟩)]
          rw [hfn]
          refine RQ.pick (a := [(5, .int (nI (k + 1))), (0, .ref 196), (1, .int (nI p)), (2, .int (nI n)), (3, .int (nI n - nI (pz p))), (4, .int (nI (pa p + pz p)))]) [0, 1, 2, 3, 4, 5] [5, 0, 1, 2, 3, 4] rfl rfl (by decide) ?_
          exact ih (k + 1) _ ⟨by omega, rfl⟩ (by omega)
    ·
      refine RQ.blk 2 (pc' := 136) (lv' := [(5, .int (nI k)), (0, .ref 196), (1, .int (nI p)), (2, .int (nI n)), (3, .int (nI n - nI (pz p))), (4, .int (nI (pa p + pz p)))]) (st' := [.ref 196, .int (nI k)]) (H' := _) (kc' := 0) (ks' := 0) rfl ?_
      refine RQ.get (ci := 12) rfl hm2 rfl rfl ?_
      refine RQ.brT rfl rfl rfl (cT_ge k pi) ?_
      refine RQ.blk 2 (pc' := 179) (lv' := [(5, .int (nI k)), (0, .ref 196), (1, .int (nI p)), (2, .int (nI n)), (3, .int (nI n - nI (pz p))), (4, .int (nI (pa p + pz p)))]) (st' := [.ref 196, .ref 196]) (H' := _) (kc' := 0) (ks' := 0) rfl ?_
      refine RQ.get (ci := 12) rfl hm2 rfl rfl ?_
      refine RQ.blk 1 (pc' := 183) (lv' := [(5, .int (nI k)), (0, .ref 196), (1, .int (nI p)), (2, .int (nI n)), (3, .int (nI n - nI (pz p))), (4, .int (nI (pa p + pz p)))]) (st' := [.int (nI n - nI (pz p)), .int (nI hu), .ref 196]) (H' := _) (kc' := 0) (ks' := 0) rfl ?_
      refine RQ.blk 1 (pc' := 184) (lv' := [(5, .int (nI k)), (0, .ref 196), (1, .int (nI p)), (2, .int (nI n)), (3, .int (nI n - nI (pz p))), (4, .int (nI (pa p + pz p)))]) (st' := [.int (nI hu + (nI n - nI (pz p))), .ref 196]) (H' := _) (kc' := 0) (ks' := 0) rfl ?_
      rw [nI_back hg (by omega)]
      refine RQ.put (ci := 12) rfl hm2 rfl rfl (Nat.le_of_ble_eq_true rfl) ?_
      refine RQ.blk 1 (pc' := 188) (lv' := [(5, .int (nI k)), (0, .ref 196), (1, .int (nI p)), (2, .int (nI n)), (3, .int (nI n - nI (pz p))), (4, .int (nI (pa p + pz p)))]) (st' := [.ref 196]) (H' := _) (kc' := 0) (ks' := 0) rfl ?_
      refine RQ.get (ci := 12) rfl (get_set hm2) rfl rfl ?_
      refine RQ.blk 2 (pc' := 193) (lv' := [(5, .int (nI k)), (0, .ref 196), (1, .int (nI p)), (2, .int (nI n)), (3, .int (nI n - nI (pz p))), (4, .int (nI (pa p + pz p)))]) (st' := [.int (nI n), .int (nI p), .ref 221]) (H' := _) (kc' := 0) (ks' := 0) rfl ?_
      refine RQ.iastN (j := p) rfl ((set_far (by decide)).trans h2.2.2.1) (by omega) (by decide) ?_
      rw [up_nI]
      have hke : k = pi := by omega
      rw [hke]
      exact RQ.done (c := 0) (s := 0) rfl rfl rfl rfl ⟨_, rfl, (set_far (by decide)).trans (get_set ((set_far (by decide)).trans ((set_far (by decide)).trans hm))), ⟨(set_far (by decide)).trans ((set_far (by decide)).trans ((set_far (by decide)).trans ((set_far (by decide)).trans h.1))), (set_far (by decide)).trans ((set_far (by decide)).trans ((set_far (by decide)).trans ((set_far (by decide)).trans h.2.1))), get_set ((set_far (by decide)).trans ((set_far (by decide)).trans ((set_far (by decide)).trans h.2.2.1))), (set_far (by decide)).trans ((set_far (by decide)).trans (get_set ((set_far (by decide)).trans h.2.2.2.1))), (set_far (by decide)).trans ((set_far (by decide)).trans ((set_far (by decide)).trans (get_set h.2.2.2.2)))⟩, fun a ha => (set_far (by omega)).trans ((set_far (by omega)).trans ((set_far (by omega)).trans (set_far (by omega))))⟩
  refine RQ.blk 2 (pc' := 2) (lv' := [(0, .ref 196), (1, .int (nI p)), (2, .int (nI n))]) (st' := [.ref 196, .int (nI n)]) (H' := _) (kc' := 0) (ks' := 0) rfl ?_
  refine RQ.get (ci := 12) rfl hm rfl rfl ?_
  refine RQ.blk 1 (pc' := 6) (lv' := [(0, .ref 196), (1, .int (nI p)), (2, .int (nI n))]) (st' := [.int (nI p), .ref 221, .int (nI n)]) (H' := _) (kc' := 0) (ks' := 0) rfl ?_
  refine RQ.ialdN (j := p) rfl h.2.2.1 (by omega) (by decide) ?_
  refine RQ.blk 2 (pc' := 9) (lv' := [(3, .int (nI n - nI (pz p))), (0, .ref 196), (1, .int (nI p)), (2, .int (nI n))]) (st' := []) (H' := _) (kc' := 0) (ks' := 0) rfl ?_
  refine RQ.blk 1 (pc' := 10) (lv' := [(3, .int (nI n - nI (pz p))), (0, .ref 196), (1, .int (nI p)), (2, .int (nI n))]) (st' := [.ref 196]) (H' := _) (kc' := 0) (ks' := 0) rfl ?_
  refine RQ.get (ci := 12) rfl hm rfl rfl ?_
  refine RQ.blk 1 (pc' := 14) (lv' := [(3, .int (nI n - nI (pz p))), (0, .ref 196), (1, .int (nI p)), (2, .int (nI n))]) (st' := [.int (nI p), .ref 222]) (H' := _) (kc' := 0) (ks' := 0) rfl ?_
  refine RQ.ialdN (j := p) rfl h.2.2.2.1 (by omega) (by decide) ?_
  refine RQ.blk 1 (pc' := 16) (lv' := [(3, .int (nI n - nI (pz p))), (0, .ref 196), (1, .int (nI p)), (2, .int (nI n))]) (st' := [.ref 196, .int (nI (pa p))]) (H' := _) (kc' := 0) (ks' := 0) rfl ?_
  refine RQ.get (ci := 12) rfl hm rfl rfl ?_
  refine RQ.blk 1 (pc' := 20) (lv' := [(3, .int (nI n - nI (pz p))), (0, .ref 196), (1, .int (nI p)), (2, .int (nI n))]) (st' := [.int (nI p), .ref 221, .int (nI (pa p))]) (H' := _) (kc' := 0) (ks' := 0) rfl ?_
  refine RQ.ialdN (j := p) rfl h.2.2.1 (by omega) (by decide) ?_
  refine RQ.blk 1 (pc' := 22) (lv' := [(3, .int (nI n - nI (pz p))), (0, .ref 196), (1, .int (nI p)), (2, .int (nI n))]) (st' := [.int (nI (pa p) + nI (pz p))]) (H' := _) (kc' := 0) (ks' := 0) rfl ?_
  rw [show (nI (pa p) + nI (pz p) : Int32) = nI (pa p + (pz p)) from nI_add (pa p) (pz p)]
  refine RQ.blk 2 (pc' := 25) (lv' := [(4, .int (nI (pa p + (pz p)))), (3, .int (nI n - nI (pz p))), (0, .ref 196), (1, .int (nI p)), (2, .int (nI n))]) (st' := [.int (nI n - nI (pz p))]) (H' := _) (kc' := 0) (ks' := 0) rfl ?_
  refine RQ.brT rfl rfl rfl (by have := neg_le (a := n) (b := pz p) (by omega) (by omega) hg; exact decide_eq_true this) ?_
  refine RQ.blk 2 (pc' := 99) (lv' := [(5, .int (nI (pa p + (pz p)))), (4, .int (nI (pa p + (pz p)))), (3, .int (nI n - nI (pz p))), (0, .ref 196), (1, .int (nI p)), (2, .int (nI n))]) (st' := []) (H' := _) (kc' := 0) (ks' := 0) rfl ?_
  refine RQ.pick (a := [(5, .int (nI (pa p + (pz p)))), (0, .ref 196), (1, .int (nI p)), (2, .int (nI n)), (3, .int (nI n - nI (pz p))), (4, .int (nI (pa p + (pz p))))]) [0, 3, 4, 5, 2, 1] [5, 4, 3, 0, 1, 2] rfl rfl (by decide) ?_
  refine RQ.while (S := Nat) (pc := 99) (fun k H' => (pa p + pz p) ≤ k ∧ k ≤ hu ∧ H' = H.set 222 (kB 40000 (fun q => if (pa p + pz p) - (pz p - n) ≤ q ∧ q < k - (pz p - n) then hd (q + (pz p - n)) else hd q))) (fun k => [(5, .int (nI k)), (0, .ref 196), (1, .int (nI p)), (2, .int (nI n)), (3, .int (nI n - nI (pz p))), (4, .int (nI (pa p + pz p)))]) (fun k => hu - k) ?_ (pa p + pz p) H ⟨Nat.le_refl _, hpb, ?_⟩
  rotate_left
  · have e : (fun q => if (pa p + pz p) - (pz p - n) ≤ q ∧ q < (pa p + pz p) - (pz p - n) then hd (q + (pz p - n)) else hd q) = hd := by funext q; exact if_neg (by omega)
    rw [e, set_self h.2.2.2.2]
  rintro k H2 ⟨hk1, hk2, rfl⟩ ih
  have hm2 : (H.set 222 (kB 40000 (fun q => if (pa p + pz p) - (pz p - n) ≤ q ∧ q < k - (pz p - n) then hd (q + (pz p - n)) else hd q)))[195]? = _ := (set_far (by decide)).trans hm
  have h2 : MPAt (H.set 222 (kB 40000 (fun q => if (pa p + pz p) - (pz p - n) ≤ q ∧ q < k - (pz p - n) then hd (q + (pz p - n)) else hd q))) pf px pz pa (fun q => if (pa p + pz p) - (pz p - n) ≤ q ∧ q < k - (pz p - n) then hd (q + (pz p - n)) else hd q) := ⟨(set_far (by decide)).trans h.1, (set_far (by decide)).trans h.2.1, (set_far (by decide)).trans h.2.2.1, (set_far (by decide)).trans h.2.2.2.1, get_set h.2.2.2.2⟩
  by_cases hkl : k < hu
  ·
    refine RQ.blk 2 (pc' := 102) (lv' := [(5, .int (nI k)), (0, .ref 196), (1, .int (nI p)), (2, .int (nI n)), (3, .int (nI n - nI (pz p))), (4, .int (nI (pa p + pz p)))]) (st' := [.ref 196, .int (nI k)]) (H' := _) (kc' := 0) (ks' := 0) rfl ?_
    refine RQ.get (ci := 12) rfl hm2 rfl rfl ?_
    refine RQ.brF rfl rfl rfl (cF_ge k hu) ?_
    refine RQ.blk 1 (pc' := 109) (lv' := [(5, .int (nI k)), (0, .ref 196), (1, .int (nI p)), (2, .int (nI n)), (3, .int (nI n - nI (pz p))), (4, .int (nI (pa p + pz p)))]) (st' := [.ref 196]) (H' := _) (kc' := 0) (ks' := 0) rfl ?_
    refine RQ.get (ci := 12) rfl hm2 rfl rfl ?_
    refine RQ.blk 2 (pc' := 115) (lv' := [(5, .int (nI k)), (0, .ref 196), (1, .int (nI p)), (2, .int (nI n)), (3, .int (nI n - nI (pz p))), (4, .int (nI (pa p + pz p)))]) (st' := [.int (nI n - nI (pz p)), .int (nI k), .ref 223]) (H' := _) (kc' := 0) (ks' := 0) rfl ?_
    refine RQ.blk 1 (pc' := 116) (lv' := [(5, .int (nI k)), (0, .ref 196), (1, .int (nI p)), (2, .int (nI n)), (3, .int (nI n - nI (pz p))), (4, .int (nI (pa p + pz p)))]) (st' := [.int (nI k + (nI n - nI (pz p))), .ref 223]) (H' := _) (kc' := 0) (ks' := 0) rfl ?_
    rw [nI_back hg (by omega)]
    refine RQ.blk 1 (pc' := 117) (lv' := [(5, .int (nI k)), (0, .ref 196), (1, .int (nI p)), (2, .int (nI n)), (3, .int (nI n - nI (pz p))), (4, .int (nI (pa p + pz p)))]) (st' := [.ref 196, .int (nI (k - (pz p - n))), .ref 223]) (H' := _) (kc' := 0) (ks' := 0) rfl ?_
    refine RQ.get (ci := 12) rfl hm2 rfl rfl ?_
    refine RQ.blk 1 (pc' := 122) (lv' := [(5, .int (nI k)), (0, .ref 196), (1, .int (nI p)), (2, .int (nI n)), (3, .int (nI n - nI (pz p))), (4, .int (nI (pa p + pz p)))]) (st' := [.int (nI k), .ref 223, .int (nI (k - (pz p - n))), .ref 223]) (H' := _) (kc' := 0) (ks' := 0) rfl ?_
    refine RQ.baldN (j := k) rfl h2.2.2.2.2 (by omega) (by decide) ?_
    refine RQ.bastN (j := (k - (pz p - n))) rfl h2.2.2.2.2 (by omega) (by decide) ?_
    rw [set_set, Int8.toInt8_toInt32]
    refine RQ.blk 1 (pc' := 127) (lv' := [(5, .int (nI k + 1)), (0, .ref 196), (1, .int (nI p)), (2, .int (nI n)), (3, .int (nI n - nI (pz p))), (4, .int (nI (pa p + pz p)))]) (st' := []) (H' := _) (kc' := 0) (ks' := 0) rfl ?_
    rw [show (nI k + 1 : Int32) = nI (k + 1) from nI_add k 1]
    refine RQ.blk 1 (pc' := 99) (lv' := [(5, .int (nI (k + 1))), (0, .ref 196), (1, .int (nI p)), (2, .int (nI n)), (3, .int (nI n - nI (pz p))), (4, .int (nI (pa p + pz p)))]) (st' := []) (H' := _) (kc' := 0) (ks' := 0) rfl ?_
    have hfn : va_up (fun q => if (pa p + pz p) - (pz p - n) ≤ q ∧ q < k - (pz p - n) then hd (q + (pz p - n)) else hd q) (k - (pz p - n)) ((fun q => if (pa p + pz p) - (pz p - n) ≤ q ∧ q < k - (pz p - n) then hd (q + (pz p - n)) else hd q) k) = (fun q => if (pa p + pz p) - (pz p - n) ≤ q ∧ q < k + 1 - (pz p - n) then hd (q + (pz p - n)) else hd q) := by
      funext q
      by_cases e : q = k - (pz p - n)
      · rw [e, up_at]
        show (if (pa p + pz p) - (pz p - n) ≤ k ∧ k < k - (pz p - n) then hd (k + (pz p - n)) else hd k) = (if (pa p + pz p) - (pz p - n) ≤ k - (pz p - n) ∧ k - (pz p - n) < k + 1 - (pz p - n) then hd (k - (pz p - n) + (pz p - n)) else hd (k - (pz p - n)))
        rw [if_neg (by omega), if_pos (by omega), Nat.sub_add_cancel (by omega)]
      · rw [up_ne e]
        by_cases e2 : (pa p + pz p) - (pz p - n) ≤ q ∧ q < k - (pz p - n)
        · rw [if_pos e2, if_pos (by omega)]
        · rw [if_neg e2, if_neg (by omega)]
    rw [hfn]
    refine RQ.pick (a := [(5, .int (nI (k + 1))), (0, .ref 196), (1, .int (nI p)), (2, .int (nI n)), (3, .int (nI n - nI (pz p))), (4, .int (nI (pa p + pz p)))]) [0, 1, 2, 3, 4, 5] [5, 0, 1, 2, 3, 4] rfl rfl (by decide) ?_
    exact ih (k + 1) _ ⟨by omega, by omega, rfl⟩ (by omega)
  ·
    refine RQ.blk 2 (pc' := 102) (lv' := [(5, .int (nI k)), (0, .ref 196), (1, .int (nI p)), (2, .int (nI n)), (3, .int (nI n - nI (pz p))), (4, .int (nI (pa p + pz p)))]) (st' := [.ref 196, .int (nI k)]) (H' := _) (kc' := 0) (ks' := 0) rfl ?_
    refine RQ.get (ci := 12) rfl hm2 rfl rfl ?_
    refine RQ.brT rfl rfl rfl (cT_ge k hu) ?_
    refine RQ.blk 2 (pc' := 133) (lv' := [(5, .int 0), (0, .ref 196), (1, .int (nI p)), (2, .int (nI n)), (3, .int (nI n - nI (pz p))), (4, .int (nI (pa p + pz p)))]) (st' := []) (H' := _) (kc' := 0) (ks' := 0) rfl ?_
    refine RQ.pick (a := [(5, .int 0), (0, .ref 196), (1, .int (nI p)), (2, .int (nI n)), (3, .int (nI n - nI (pz p))), (4, .int (nI (pa p + pz p)))]) [0, 1, 2, 3, 4, 5] [5, 0, 1, 2, 3, 4] rfl rfl (by decide) ?_
    rw [show k = hu by omega]
    exact tail _ rfl
