/-! ===== the reference: prune as a whole; written by wip/gen/prune2.py ===== -/
theorem wV_lt {bf : Nat → Int8} {ko kn vo : Nat → Nat} {vz : Nat → Option Nat} {vm : Nat → Nat} {n p : Nat} {op : Nat → Bool} {se : Nat → Nat} {x : Int32} {v : Nat} (hk : MVOk ko kn vo vz vm n) (hv : v < n) : wV bf ko kn vz vm n p op se x v < 2 ^ 30 := by
  have h := hk.2 v hv
  unfold wV mwg
  split
  · decide
  · split
    · split
      · omega
      · decide
    · omega
theorem odG_at {α : Type} {kp : Nat → Bool} {f g : Nat → α} {v : Nat} : odG kp f g v v = f v := odG_ge v v (Nat.le_refl v)
theorem odG_up {α : Type} {kp : Nat → Bool} {f : Nat → α} {v : Nat} : va_up (odG kp f f v) (cntB kp v) (f v) v = f v := by
  unfold va_up
  split
  · rfl
  · exact odG_at
theorem lI_some {z : Option Nat} (h : ¬ z = none) : lI z = nI (z.getD 0) := by
  cases z with
  | none => exact absurd rfl h
  | some x => rfl
set_option maxRecDepth 3000 in
theorem rn_prune {sc : Nat × (Nat → Int32)} {d p n us0 : Nat} {H : aH} {bf ob : Nat → Int8} {ko kn vo : Nat → Nat} {vz : Nat → Option Nat} {vm : Nat → Nat} {fa li dn cw cl tp rs pi hu : Int32} {ba bo : Nat} {op : Nat → Bool} {se : Nat → Nat} {w0 : Nat → Int32} (hm : H[195]? = some (kO 12 (mfs fa li dn cw cl tp rs (nI p) (nI n) (nI us0) pi hu ba bo))) (h : MVAt H ba bf ko kn vo vz vm) (hk : MVOk ko kn vo vz vm n) (h5 : H[205]? = some (kZ 8 op)) (h6 : H[206]? = some (kI 8 (fun j => nI (se j)))) (hse : ∀ t, t < 8 → se t < 2 ^ 31) (hob : H[bo]? = some (kB 48000 ob)) (hw : H[223]? = some (kI 1500 w0)) (hbb : ba ≠ bo) (hba : ba = 203 ∨ ba = 204) (hbo : bo = 203 ∨ bo = 204) (hp : p < 2 ^ 31) (hus : usP (kpV bf ko kn vz vm n p op se) kn vz n ≤ 48000) {kp : Nat → Bool} (hkp : kp = (kpV bf ko kn vz vm n p op se)) : RN sc (d + 3) mr_270 [.ref 196] H (fun H' => H'[195]? = some (kO 12 (mfs fa li dn cw cl tp rs (nI p) (nI (cntB kp n)) (nI (usP kp kn vz n)) pi hu bo ba)) ∧ MVAt H' bo (obP kp bf ko kn vo vz ob n) (odG kp ko (usP kp kn vz) n) (odG kp kn kn n) (odG kp vo (fun q => usP kp kn vz q + kn q) n) (odG kp vz vz n) (odG kp vm vm n) ∧ H'[ba]? = some (kB 48000 bf) ∧ H'[223]? = some (kI 1500 (fun q => if q < n then nI (wV bf ko kn vz vm n p op se (-1) q) else w0 q)) ∧ (∀ a, ¬ (a = 195 ∨ 198 ≤ a ∧ a ≤ 204 ∨ a = 223) → H'[a]? = H[a]?)) := by
  have hn := hk.1
  rw [← hkp] at hus
  refine RN.of ?_
  refine RQ.blk 4 (pc' := 4) (lv' := [(1, .int 0), (0, .ref 196)]) (st' := [.int 0, .ref 196]) (H' := _) (kc' := 0) (ks' := 0) rfl ?_
  refine RQ.put (ci := 12) rfl hm rfl rfl (Nat.le_of_ble_eq_true rfl) ?_
  refine RQ.blk 2 (pc' := 9) (lv' := [(2, .int 0), (1, .int 0), (0, .ref 196)]) (st' := []) (H' := _) (kc' := 0) (ks' := 0) rfl ?_
  refine RQ.while (S := Nat) (pc := 9) (fun v H' => v ≤ n ∧ H'[195]? = some (kO 12 (mfs fa li dn cw cl tp rs (nI p) (nI n) (nI 0) pi hu ba bo)) ∧ MVAt H' ba bf ko kn vo vz vm ∧ H'[205]? = some (kZ 8 op) ∧ H'[206]? = some (kI 8 (fun j => nI (se j))) ∧ H'[bo]? = some (kB 48000 ob) ∧ H'[223]? = some (kI 1500 (fun q => if q < v then nI (wV bf ko kn vz vm n p op se (-1) q) else w0 q)) ∧ (∀ a, ¬ (a = 195 ∨ 198 ≤ a ∧ a ≤ 204 ∨ a = 223) → H'[a]? = H[a]?)) (fun v => [(2, .int (nI v)), (1, .int 0), (0, .ref 196)]) (fun v => n - v) ?_ 0 _ ⟨Nat.zero_le _, get_set hm, ⟨(set_far (by decide)).trans h.1, (set_far (by decide)).trans h.2.1, (set_far (by decide)).trans h.2.2.1, (set_far (by decide)).trans h.2.2.2.1, (set_far (by decide)).trans h.2.2.2.2.1, (set_far (by omega)).trans h.2.2.2.2.2⟩, (set_far (by decide)).trans h5, (set_far (by decide)).trans h6, (set_far (by omega)).trans hob, (set_far (by decide)).trans (hw.trans (congrArg (fun f => some (kI 1500 f)) (funext fun q => (if_neg (Nat.not_lt_zero q)).symm))), fun a ha => set_far (by omega)⟩
  rintro v H1 ⟨hv, g1, g2, g3, g4, g5, g6, g7⟩ ih
  refine RQ.blk 2 (pc' := 11) (lv' := [(2, .int (nI v)), (1, .int 0), (0, .ref 196)]) (st' := [.ref 196, .int (nI v)]) (H' := _) (kc' := 0) (ks' := 0) rfl ?_
  refine RQ.get (ci := 12) rfl g1 rfl rfl ?_
  by_cases hvn : v < n
  ·
    refine RQ.brF rfl rfl rfl (cF_ge v n) ?_
    refine RQ.blk 1 (pc' := 18) (lv' := [(2, .int (nI v)), (1, .int 0), (0, .ref 196)]) (st' := [.ref 196]) (H' := _) (kc' := 0) (ks' := 0) rfl ?_
    refine RQ.get (ci := 12) rfl g1 rfl rfl ?_
    refine RQ.blk 4 (pc' := 25) (lv' := [(2, .int (nI v)), (1, .int 0), (0, .ref 196)]) (st' := [.int (-1), .int (nI v), .ref 196, .int (nI v), .ref 224]) (H' := _) (kc' := 0) (ks' := 0) rfl ?_
    refine RQ.call (v := some (.int (nI (wV bf ko kn vz vm n p op se (-1) v)))) (st' := [.int (nI v), .ref 224]) rfl rfl rfl rfl rfl rfl (args_v [.int (-1), .int (nI v)] [.int (nI v), .ref 224] rfl rfl (Nat.le_of_ble_eq_true rfl) rfl g1 (Nat.le_of_ble_eq_true rfl)) (rc_mweight g1 g2 hk g3 g4 hse hvn hp) ?_
    refine RQ.iastN (j := v) rfl g6 (by omega) (by decide) ?_
    refine RQ.blk 1 (pc' := 32) (lv' := [(2, .int (nI v + 1)), (1, .int 0), (0, .ref 196)]) (st' := []) (H' := _) (kc' := 0) (ks' := 0) rfl ?_
    rw [show (nI v + 1 : Int32) = nI (v + 1) from nI_add v 1]
    refine RQ.blk 1 (pc' := 9) (lv' := [(2, .int (nI (v + 1))), (1, .int 0), (0, .ref 196)]) (st' := []) (H' := _) (kc' := 0) (ks' := 0) rfl ?_
    refine ih (v + 1) _ ⟨by omega, (set_far (by decide)).trans g1, ⟨set_far (by decide) |>.trans g2.1, set_far (by decide) |>.trans g2.2.1, set_far (by decide) |>.trans g2.2.2.1, set_far (by decide) |>.trans g2.2.2.2.1, set_far (by decide) |>.trans g2.2.2.2.2.1, set_far (by omega) |>.trans g2.2.2.2.2.2⟩, set_far (by decide) |>.trans g3, set_far (by decide) |>.trans g4, set_far (by omega) |>.trans g5, (get_set g6).trans (congrArg (fun f => some (kI 1500 f)) (funext fun q => ?_)), fun a ha => (set_far (by omega)).trans (g7 a ha)⟩ (by omega)
    unfold va_up
    by_cases e1 : q = v
    · rw [if_pos e1, if_pos (by omega), e1]
    · rw [if_neg e1]
      dsimp only
      by_cases e2 : q < v
      · rw [if_pos e2, if_pos (by omega)]
      · rw [if_neg e2, if_neg (by omega)]
  · have e0 : v = n := by omega
    subst e0
    refine RQ.brT rfl rfl rfl (cT_ge v v) ?_
    refine RQ.blk 2 (pc' := 37) (lv' := [(2, .int 0), (1, .int 0), (0, .ref 196)]) (st' := []) (H' := _) (kc' := 0) (ks' := 0) rfl ?_
    clear ih
    refine RQ.while (S := Nat) (pc := 37) (fun i H' => i ≤ v ∧ H'[195]? = some (kO 12 (mfs fa li dn cw cl tp rs (nI p) (nI v) (nI (usP kp kn vz i)) pi hu ba bo)) ∧ MVAt H' ba bf (odG kp ko (usP kp kn vz) i) (odG kp kn kn i) (odG kp vo (fun q => usP kp kn vz q + kn q) i) (odG kp vz vz i) (odG kp vm vm i) ∧ H'[bo]? = some (kB 48000 (obP kp bf ko kn vo vz ob i)) ∧ H'[223]? = some (kI 1500 (fun q => if q < v then nI (wV bf ko kn vz vm v p op se (-1) q) else w0 q)) ∧ (∀ a, ¬ (a = 195 ∨ 198 ≤ a ∧ a ≤ 204 ∨ a = 223) → H'[a]? = H[a]?)) (fun i => [(2, .int (nI i)), (1, .int (nI (cntB kp i))), (0, .ref 196)]) (fun i => v - i) ?_ 0 H1 ⟨Nat.zero_le _, g1, g2, g5, g6, g7⟩
    clear g1 g2 g3 g4 g5 g6 g7
    rintro i H2 ⟨hi, g1, g2, g5, g6, g7⟩ ih
    have hci := cntB_le kp i
    have hui := usP_mono (kp := kp) (kn := kn) (vz := vz) i v hi
    refine RQ.blk 2 (pc' := 39) (lv' := [(2, .int (nI i)), (1, .int (nI (cntB kp i))), (0, .ref 196)]) (st' := [.ref 196, .int (nI i)]) (H' := _) (kc' := 0) (ks' := 0) rfl ?_
    refine RQ.get (ci := 12) rfl g1 rfl rfl ?_
    by_cases hiv : i < v
    · have hwl := wV_lt (bf := bf) (p := p) (op := op) (se := se) (x := -1) hk hiv
      have hk_i := hk.2 i hiv
      have hui1 := usP_mono (kp := kp) (kn := kn) (vz := vz) (i + 1) v (by omega)
      have ek : kp i = !(decide (wV bf ko kn vz vm v p op se (-1) i = 0)) := by rw [hkp]; rfl
      refine RQ.brF rfl rfl rfl (cF_ge i v) ?_
      refine RQ.blk 1 (pc' := 46) (lv' := [(2, .int (nI i)), (1, .int (nI (cntB kp i))), (0, .ref 196)]) (st' := [.ref 196]) (H' := _) (kc' := 0) (ks' := 0) rfl ?_
      refine RQ.get (ci := 12) rfl g1 rfl rfl ?_
      refine RQ.blk 1 (pc' := 50) (lv' := [(2, .int (nI i)), (1, .int (nI (cntB kp i))), (0, .ref 196)]) (st' := [.int (nI i), .ref 224]) (H' := _) (kc' := 0) (ks' := 0) rfl ?_
      refine RQ.ialdN (j := i) rfl g6 (by omega) (by decide) ?_
      simp only [if_pos hiv]
      by_cases h0 : wV bf ko kn vz vm v p op se (-1) i = 0
      · have hki : kp i = false := by rw [ek, decide_eq_true h0]; rfl
        have ih := ih (i + 1) H2
        have e1 : cntB kp (i + 1) = cntB kp i := by rw [cntB, hki]; rfl
        have e2 : usP kp kn vz (i + 1) = usP kp kn vz i := by rw [usP, hki]; rfl
        have e3 : ∀ {α : Type} (f g : Nat → α), odG kp f g (i + 1) = odG kp f g i := fun f g => by rw [odG, hki]; rfl
        have e4 : obP kp bf ko kn vo vz ob (i + 1) = obP kp bf ko kn vo vz ob i := by rw [obP, hki]; rfl
        rw [e1, e2, e3, e3, e3, e3, e3, e4] at ih
        refine RQ.brF rfl rfl rfl (cF_ne (wV bf ko kn vz vm v p op se (-1) i) 0) ?_
        refine RQ.blk 2 (pc' := 257) (lv' := [(2, .int (nI i + 1)), (1, .int (nI (cntB kp i))), (0, .ref 196)]) (st' := []) (H' := _) (kc' := 0) (ks' := 0) rfl ?_
        rw [show (nI i + 1 : Int32) = nI (i + 1) from nI_add i 1]
        refine RQ.blk 1 (pc' := 37) (lv' := [(2, .int (nI (i + 1))), (1, .int (nI (cntB kp i))), (0, .ref 196)]) (st' := []) (H' := _) (kc' := 0) (ks' := 0) rfl ?_
        exact ih ⟨by omega, g1, g2, g5, g6, g7⟩ (by omega)
      · have hki : kp i = true := by rw [ek, decide_eq_false h0]; rfl
        have u1 : usP kp kn vz (i + 1) = usP kp kn vz i + (kn i + (vz i).getD 0) := by rw [usP, hki]; rfl
        have e1 : cntB kp (i + 1) = cntB kp i + 1 := by rw [cntB, hki]; rfl
        have rest : RQ sc (d + 3) mr_270 77 [(3, .int (nI ((vz i).getD 0))), (2, .int (nI i)), (1, .int (nI (cntB kp i))), (0, .ref 196)] [] H2 0 0 (fun r => ∃ H', r = (.inl none, H', 0, 0) ∧ ((fun H' => H'[195]? = some (kO 12 (mfs fa li dn cw cl tp rs (nI p) (nI (cntB kp v)) (nI (usP kp kn vz v)) pi hu bo ba)) ∧ MVAt H' bo (obP kp bf ko kn vo vz ob v) (odG kp ko (usP kp kn vz) v) (odG kp kn kn v) (odG kp vo (fun q => usP kp kn vz q + kn q) v) (odG kp vz vz v) (odG kp vm vm v) ∧ H'[ba]? = some (kB 48000 bf) ∧ H'[223]? = some (kI 1500 (fun q => if q < v then nI (wV bf ko kn vz vm v p op se (-1) q) else w0 q)) ∧ (∀ a, ¬ (a = 195 ∨ 198 ≤ a ∧ a ≤ 204 ∨ a = 223) → H'[a]? = H[a]?))) H') := by
          refine RQ.blk 2 (pc' := 80) (lv' := [(4, .int 0), (3, .int (nI ((vz i).getD 0))), (2, .int (nI i)), (1, .int (nI (cntB kp i))), (0, .ref 196)]) (st' := []) (H' := _) (kc' := 0) (ks' := 0) rfl ?_
          refine rq_pkey (v := i) g1 g2 g5 hbb hba hbo (by omega) (by rw [odG_at, odG_at]; omega) (by rw [odG_at]; omega) ?_
          rw [odG_at, odG_at]
          refine rq_pval (v := i) (zz := (vz i).getD 0) ((set_far (by omega)).trans g1) ⟨(set_far (by omega)).trans g2.1, (set_far (by omega)).trans g2.2.1, (set_far (by omega)).trans g2.2.2.1, (set_far (by omega)).trans g2.2.2.2.1, (set_far (by omega)).trans g2.2.2.2.2.1, (set_far (hbb)).trans g2.2.2.2.2.2⟩ (get_set g5) hbb hba hbo (by omega) (by rw [odG_at]; omega) (by rw [odG_at]; omega) ?_
          rw [odG_at, odG_at, set_set]
          refine RQ.blk 1 (pc' := 172) (lv' := [(4, .int (nI ((vz i).getD 0))), (3, .int (nI ((vz i).getD 0))), (2, .int (nI i)), (1, .int (nI (cntB kp i))), (0, .ref 196)]) (st' := [.ref 196]) (H' := _) (kc' := 0) (ks' := 0) rfl ?_
          refine RQ.get (ci := 12) rfl ((set_far (by omega)).trans g1) rfl rfl ?_
          refine RQ.blk 2 (pc' := 177) (lv' := [(4, .int (nI ((vz i).getD 0))), (3, .int (nI ((vz i).getD 0))), (2, .int (nI i)), (1, .int (nI (cntB kp i))), (0, .ref 196)]) (st' := [.ref 196, .int (nI (cntB kp i)), .ref 199]) (H' := _) (kc' := 0) (ks' := 0) rfl ?_
          refine RQ.get (ci := 12) rfl ((set_far (by omega)).trans g1) rfl rfl ?_
          refine RQ.iastN (j := cntB kp i) rfl ((set_far (by omega)).trans g2.1) (by omega) (by decide) ?_
          rw [up_nI]
          refine RQ.blk 1 (pc' := 182) (lv' := [(4, .int (nI ((vz i).getD 0))), (3, .int (nI ((vz i).getD 0))), (2, .int (nI i)), (1, .int (nI (cntB kp i))), (0, .ref 196)]) (st' := [.ref 196]) (H' := _) (kc' := 0) (ks' := 0) rfl ?_
          refine RQ.get (ci := 12) rfl ((set_far (by decide)).trans ((set_far (by omega)).trans g1)) rfl rfl ?_
          refine RQ.blk 2 (pc' := 187) (lv' := [(4, .int (nI ((vz i).getD 0))), (3, .int (nI ((vz i).getD 0))), (2, .int (nI i)), (1, .int (nI (cntB kp i))), (0, .ref 196)]) (st' := [.ref 196, .int (nI (cntB kp i)), .ref 200]) (H' := _) (kc' := 0) (ks' := 0) rfl ?_
          refine RQ.get (ci := 12) rfl ((set_far (by decide)).trans ((set_far (by omega)).trans g1)) rfl rfl ?_
          refine RQ.blk 1 (pc' := 191) (lv' := [(4, .int (nI ((vz i).getD 0))), (3, .int (nI ((vz i).getD 0))), (2, .int (nI i)), (1, .int (nI (cntB kp i))), (0, .ref 196)]) (st' := [.int (nI i), .ref 200, .int (nI (cntB kp i)), .ref 200]) (H' := _) (kc' := 0) (ks' := 0) rfl ?_
          refine RQ.ialdN (j := i) rfl ((set_far (by decide)).trans ((set_far (by omega)).trans g2.2.1)) (by omega) (by decide) ?_
          rw [odG_at]
          refine RQ.iastN (j := cntB kp i) rfl ((set_far (by decide)).trans ((set_far (by omega)).trans g2.2.1)) (by omega) (by decide) ?_
          rw [up_nI]
          refine RQ.blk 1 (pc' := 194) (lv' := [(4, .int (nI ((vz i).getD 0))), (3, .int (nI ((vz i).getD 0))), (2, .int (nI i)), (1, .int (nI (cntB kp i))), (0, .ref 196)]) (st' := [.ref 196]) (H' := _) (kc' := 0) (ks' := 0) rfl ?_
          refine RQ.get (ci := 12) rfl ((set_far (by decide)).trans ((set_far (by decide)).trans ((set_far (by omega)).trans g1))) rfl rfl ?_
          refine RQ.blk 2 (pc' := 199) (lv' := [(4, .int (nI ((vz i).getD 0))), (3, .int (nI ((vz i).getD 0))), (2, .int (nI i)), (1, .int (nI (cntB kp i))), (0, .ref 196)]) (st' := [.ref 196, .int (nI (cntB kp i)), .ref 201]) (H' := _) (kc' := 0) (ks' := 0) rfl ?_
          refine RQ.get (ci := 12) rfl ((set_far (by decide)).trans ((set_far (by decide)).trans ((set_far (by omega)).trans g1))) rfl rfl ?_
          refine RQ.blk 1 (pc' := 203) (lv' := [(4, .int (nI ((vz i).getD 0))), (3, .int (nI ((vz i).getD 0))), (2, .int (nI i)), (1, .int (nI (cntB kp i))), (0, .ref 196)]) (st' := [.ref 196, .int (nI (usP kp kn vz i)), .int (nI (cntB kp i)), .ref 201]) (H' := _) (kc' := 0) (ks' := 0) rfl ?_
          refine RQ.get (ci := 12) rfl ((set_far (by decide)).trans ((set_far (by decide)).trans ((set_far (by omega)).trans g1))) rfl rfl ?_
          refine RQ.blk 1 (pc' := 207) (lv' := [(4, .int (nI ((vz i).getD 0))), (3, .int (nI ((vz i).getD 0))), (2, .int (nI i)), (1, .int (nI (cntB kp i))), (0, .ref 196)]) (st' := [.int (nI i), .ref 200, .int (nI (usP kp kn vz i)), .int (nI (cntB kp i)), .ref 201]) (H' := _) (kc' := 0) (ks' := 0) rfl ?_
          refine RQ.ialdN (j := i) rfl (get_set ((set_far (by decide)).trans ((set_far (by omega)).trans g2.2.1))) (by omega) (by decide) ?_
          rw [odG_up]
          refine RQ.blk 1 (pc' := 209) (lv' := [(4, .int (nI ((vz i).getD 0))), (3, .int (nI ((vz i).getD 0))), (2, .int (nI i)), (1, .int (nI (cntB kp i))), (0, .ref 196)]) (st' := [.int (nI (usP kp kn vz i) + nI (kn i)), .int (nI (cntB kp i)), .ref 201]) (H' := _) (kc' := 0) (ks' := 0) rfl ?_
          rw [show (nI (usP kp kn vz i) + nI (kn i) : Int32) = nI (usP kp kn vz i + (kn i)) from nI_add (usP kp kn vz i) (kn i)]
          refine RQ.iastN (j := cntB kp i) rfl ((set_far (by decide)).trans ((set_far (by decide)).trans ((set_far (by omega)).trans g2.2.2.1))) (by omega) (by decide) ?_
          rw [up_nI]
          refine RQ.blk 1 (pc' := 211) (lv' := [(4, .int (nI ((vz i).getD 0))), (3, .int (nI ((vz i).getD 0))), (2, .int (nI i)), (1, .int (nI (cntB kp i))), (0, .ref 196)]) (st' := [.ref 196]) (H' := _) (kc' := 0) (ks' := 0) rfl ?_
          refine RQ.get (ci := 12) rfl ((set_far (by decide)).trans ((set_far (by decide)).trans ((set_far (by decide)).trans ((set_far (by omega)).trans g1)))) rfl rfl ?_
          refine RQ.blk 2 (pc' := 216) (lv' := [(4, .int (nI ((vz i).getD 0))), (3, .int (nI ((vz i).getD 0))), (2, .int (nI i)), (1, .int (nI (cntB kp i))), (0, .ref 196)]) (st' := [.ref 196, .int (nI (cntB kp i)), .ref 202]) (H' := _) (kc' := 0) (ks' := 0) rfl ?_
          refine RQ.get (ci := 12) rfl ((set_far (by decide)).trans ((set_far (by decide)).trans ((set_far (by decide)).trans ((set_far (by omega)).trans g1)))) rfl rfl ?_
          refine RQ.blk 1 (pc' := 220) (lv' := [(4, .int (nI ((vz i).getD 0))), (3, .int (nI ((vz i).getD 0))), (2, .int (nI i)), (1, .int (nI (cntB kp i))), (0, .ref 196)]) (st' := [.int (nI i), .ref 202, .int (nI (cntB kp i)), .ref 202]) (H' := _) (kc' := 0) (ks' := 0) rfl ?_
          refine RQ.ialdN (j := i) rfl ((set_far (by decide)).trans ((set_far (by decide)).trans ((set_far (by decide)).trans ((set_far (by omega)).trans g2.2.2.2.1)))) (by omega) (by decide) ?_
          rw [odG_at]
          refine RQ.iastN (j := cntB kp i) rfl ((set_far (by decide)).trans ((set_far (by decide)).trans ((set_far (by decide)).trans ((set_far (by omega)).trans g2.2.2.2.1)))) (by omega) (by decide) ?_
          rw [up_lI]
          refine RQ.blk 1 (pc' := 223) (lv' := [(4, .int (nI ((vz i).getD 0))), (3, .int (nI ((vz i).getD 0))), (2, .int (nI i)), (1, .int (nI (cntB kp i))), (0, .ref 196)]) (st' := [.ref 196]) (H' := _) (kc' := 0) (ks' := 0) rfl ?_
          refine RQ.get (ci := 12) rfl ((set_far (by decide)).trans ((set_far (by decide)).trans ((set_far (by decide)).trans ((set_far (by decide)).trans ((set_far (by omega)).trans g1))))) rfl rfl ?_
          refine RQ.blk 2 (pc' := 228) (lv' := [(4, .int (nI ((vz i).getD 0))), (3, .int (nI ((vz i).getD 0))), (2, .int (nI i)), (1, .int (nI (cntB kp i))), (0, .ref 196)]) (st' := [.ref 196, .int (nI (cntB kp i)), .ref 203]) (H' := _) (kc' := 0) (ks' := 0) rfl ?_
          refine RQ.get (ci := 12) rfl ((set_far (by decide)).trans ((set_far (by decide)).trans ((set_far (by decide)).trans ((set_far (by decide)).trans ((set_far (by omega)).trans g1))))) rfl rfl ?_
          refine RQ.blk 1 (pc' := 232) (lv' := [(4, .int (nI ((vz i).getD 0))), (3, .int (nI ((vz i).getD 0))), (2, .int (nI i)), (1, .int (nI (cntB kp i))), (0, .ref 196)]) (st' := [.int (nI i), .ref 203, .int (nI (cntB kp i)), .ref 203]) (H' := _) (kc' := 0) (ks' := 0) rfl ?_
          refine RQ.ialdN (j := i) rfl ((set_far (by decide)).trans ((set_far (by decide)).trans ((set_far (by decide)).trans ((set_far (by decide)).trans ((set_far (by omega)).trans g2.2.2.2.2.1))))) (by omega) (by decide) ?_
          rw [odG_at]
          refine RQ.iastN (j := cntB kp i) rfl ((set_far (by decide)).trans ((set_far (by decide)).trans ((set_far (by decide)).trans ((set_far (by decide)).trans ((set_far (by omega)).trans g2.2.2.2.2.1))))) (by omega) (by decide) ?_
          rw [up_nI]
          refine RQ.blk 2 (pc' := 236) (lv' := [(4, .int (nI ((vz i).getD 0))), (3, .int (nI ((vz i).getD 0))), (2, .int (nI i)), (1, .int (nI (cntB kp i))), (0, .ref 196)]) (st' := [.ref 196, .ref 196]) (H' := _) (kc' := 0) (ks' := 0) rfl ?_
          refine RQ.get (ci := 12) rfl ((set_far (by decide)).trans ((set_far (by decide)).trans ((set_far (by decide)).trans ((set_far (by decide)).trans ((set_far (by decide)).trans ((set_far (by omega)).trans g1)))))) rfl rfl ?_
          refine RQ.blk 1 (pc' := 240) (lv' := [(4, .int (nI ((vz i).getD 0))), (3, .int (nI ((vz i).getD 0))), (2, .int (nI i)), (1, .int (nI (cntB kp i))), (0, .ref 196)]) (st' := [.ref 196, .int (nI (usP kp kn vz i)), .ref 196]) (H' := _) (kc' := 0) (ks' := 0) rfl ?_
          refine RQ.get (ci := 12) rfl ((set_far (by decide)).trans ((set_far (by decide)).trans ((set_far (by decide)).trans ((set_far (by decide)).trans ((set_far (by decide)).trans ((set_far (by omega)).trans g1)))))) rfl rfl ?_
          refine RQ.blk 1 (pc' := 244) (lv' := [(4, .int (nI ((vz i).getD 0))), (3, .int (nI ((vz i).getD 0))), (2, .int (nI i)), (1, .int (nI (cntB kp i))), (0, .ref 196)]) (st' := [.int (nI i), .ref 200, .int (nI (usP kp kn vz i)), .ref 196]) (H' := _) (kc' := 0) (ks' := 0) rfl ?_
          refine RQ.ialdN (j := i) rfl ((set_far (by decide)).trans ((set_far (by decide)).trans ((set_far (by decide)).trans (get_set ((set_far (by decide)).trans ((set_far (by omega)).trans g2.2.1)))))) (by omega) (by decide) ?_
          rw [odG_up]
          refine RQ.blk 2 (pc' := 247) (lv' := [(4, .int (nI ((vz i).getD 0))), (3, .int (nI ((vz i).getD 0))), (2, .int (nI i)), (1, .int (nI (cntB kp i))), (0, .ref 196)]) (st' := [.int (nI (kn i) + nI ((vz i).getD 0)), .int (nI (usP kp kn vz i)), .ref 196]) (H' := _) (kc' := 0) (ks' := 0) rfl ?_
          rw [show (nI (kn i) + nI ((vz i).getD 0) : Int32) = nI (kn i + ((vz i).getD 0)) from nI_add (kn i) ((vz i).getD 0)]
          refine RQ.blk 1 (pc' := 248) (lv' := [(4, .int (nI ((vz i).getD 0))), (3, .int (nI ((vz i).getD 0))), (2, .int (nI i)), (1, .int (nI (cntB kp i))), (0, .ref 196)]) (st' := [.int (nI (usP kp kn vz i) + nI (kn i + ((vz i).getD 0))), .ref 196]) (H' := _) (kc' := 0) (ks' := 0) rfl ?_
          rw [show (nI (usP kp kn vz i) + nI (kn i + ((vz i).getD 0)) : Int32) = nI (usP kp kn vz i + (kn i + ((vz i).getD 0))) from nI_add (usP kp kn vz i) (kn i + ((vz i).getD 0))]
          refine RQ.put (ci := 12) rfl ((set_far (by decide)).trans ((set_far (by decide)).trans ((set_far (by decide)).trans ((set_far (by decide)).trans ((set_far (by decide)).trans ((set_far (by omega)).trans g1)))))) rfl rfl (Nat.le_of_ble_eq_true rfl) ?_
          refine RQ.blk 1 (pc' := 254) (lv' := [(1, .int (nI (cntB kp i) + 1)), (4, .int (nI ((vz i).getD 0))), (3, .int (nI ((vz i).getD 0))), (2, .int (nI i)), (0, .ref 196)]) (st' := []) (H' := _) (kc' := 0) (ks' := 0) rfl ?_
          rw [show (nI (cntB kp i) + 1 : Int32) = nI (cntB kp i + 1) from nI_add (cntB kp i) 1]
          refine RQ.blk 1 (pc' := 257) (lv' := [(2, .int (nI i + 1)), (1, .int (nI (cntB kp i + 1))), (4, .int (nI ((vz i).getD 0))), (3, .int (nI ((vz i).getD 0))), (0, .ref 196)]) (st' := []) (H' := _) (kc' := 0) (ks' := 0) rfl ?_
          rw [show (nI i + 1 : Int32) = nI (i + 1) from nI_add i 1]
          refine RQ.blk 1 (pc' := 37) (lv' := [(2, .int (nI (i + 1))), (1, .int (nI (cntB kp i + 1))), (4, .int (nI ((vz i).getD 0))), (3, .int (nI ((vz i).getD 0))), (0, .ref 196)]) (st' := []) (H' := _) (kc' := 0) (ks' := 0) rfl ?_
          have e3 : ∀ {α : Type} (f g : Nat → α), odG kp f g (i + 1) = va_up (odG kp f g i) (cntB kp i) (g i) := fun f g => by rw [odG, hki]; rfl
          have e4 : obP kp bf ko kn vo vz ob (i + 1) = cpy bf (vo i) (cpy bf (ko i) (obP kp bf ko kn vo vz ob i) (usP kp kn vz i) (kn i)) (usP kp kn vz i + kn i) ((vz i).getD 0) := by rw [obP, hki]; rfl
          have ih := ih (i + 1)
          rw [e1, u1, e3, e3, e3, e3, e3, e4] at ih
          exact RQ.pick [0, 1, 4] [2, 1, 4, 3, 0] rfl rfl (by decide) (ih _ ⟨by omega, get_set ((set_far (by decide)).trans ((set_far (by decide)).trans ((set_far (by decide)).trans ((set_far (by decide)).trans ((set_far (by decide)).trans ((set_far (by omega)).trans g1)))))), ⟨(set_far (by decide)).trans ((set_far (by decide)).trans ((set_far (by decide)).trans ((set_far (by decide)).trans ((set_far (by decide)).trans (get_set ((set_far (by omega)).trans g2.1)))))), (set_far (by decide)).trans ((set_far (by decide)).trans ((set_far (by decide)).trans ((set_far (by decide)).trans (get_set ((set_far (by decide)).trans ((set_far (by omega)).trans g2.2.1)))))), (set_far (by decide)).trans ((set_far (by decide)).trans ((set_far (by decide)).trans (get_set ((set_far (by decide)).trans ((set_far (by decide)).trans ((set_far (by omega)).trans g2.2.2.1)))))), (set_far (by decide)).trans ((set_far (by decide)).trans (get_set ((set_far (by decide)).trans ((set_far (by decide)).trans ((set_far (by decide)).trans ((set_far (by omega)).trans g2.2.2.2.1)))))), (set_far (by decide)).trans (get_set ((set_far (by decide)).trans ((set_far (by decide)).trans ((set_far (by decide)).trans ((set_far (by decide)).trans ((set_far (by omega)).trans g2.2.2.2.2.1)))))), (set_far (by omega)).trans ((set_far (by omega)).trans ((set_far (by omega)).trans ((set_far (by omega)).trans ((set_far (by omega)).trans ((set_far (by omega)).trans ((set_far hbb).trans g2.2.2.2.2.2))))))⟩, (set_far (by omega)).trans ((set_far (by omega)).trans ((set_far (by omega)).trans ((set_far (by omega)).trans ((set_far (by omega)).trans ((set_far (by omega)).trans (get_set g5)))))), (set_far (by decide)).trans ((set_far (by decide)).trans ((set_far (by decide)).trans ((set_far (by decide)).trans ((set_far (by decide)).trans ((set_far (by decide)).trans ((set_far (by omega)).trans g6)))))), fun a ha => ((set_far (by omega)).trans ((set_far (by omega)).trans ((set_far (by omega)).trans ((set_far (by omega)).trans ((set_far (by omega)).trans ((set_far (by omega)).trans (set_far (by omega)))))))).trans (g7 a ha)⟩ (by omega))
        refine RQ.brT rfl rfl rfl (cT_ne (wV bf ko kn vz vm v p op se (-1) i) 0) ?_
        refine RQ.blk 1 (pc' := 58) (lv' := [(2, .int (nI i)), (1, .int (nI (cntB kp i))), (0, .ref 196)]) (st' := [.ref 196]) (H' := _) (kc' := 0) (ks' := 0) rfl ?_
        refine RQ.get (ci := 12) rfl g1 rfl rfl ?_
        refine RQ.blk 1 (pc' := 62) (lv' := [(2, .int (nI i)), (1, .int (nI (cntB kp i))), (0, .ref 196)]) (st' := [.int (nI i), .ref 202]) (H' := _) (kc' := 0) (ks' := 0) rfl ?_
        refine RQ.ialdN (j := i) rfl g2.2.2.2.1 (by omega) (by decide) ?_
        rw [odG_at]
        by_cases hz : vz i = none
        · rw [hz] at rest
          refine RQ.brF rfl rfl rfl (decide_eq_false (Int32.not_le.mpr ((lI_neg (by omega)).mpr hz))) ?_
          refine RQ.blk 3 (pc' := 77) (lv' := [(3, .int 0), (2, .int (nI i)), (1, .int (nI (cntB kp i))), (0, .ref 196)]) (st' := []) (H' := _) (kc' := 0) (ks' := 0) rfl ?_
          exact rest
        ·
          refine RQ.brT rfl rfl rfl (decide_eq_true (Int32.not_lt.mp (fun e => hz ((lI_neg (by omega)).mp e)))) ?_
          refine RQ.blk 1 (pc' := 71) (lv' := [(2, .int (nI i)), (1, .int (nI (cntB kp i))), (0, .ref 196)]) (st' := [.ref 196]) (H' := _) (kc' := 0) (ks' := 0) rfl ?_
          refine RQ.get (ci := 12) rfl g1 rfl rfl ?_
          refine RQ.blk 1 (pc' := 75) (lv' := [(2, .int (nI i)), (1, .int (nI (cntB kp i))), (0, .ref 196)]) (st' := [.int (nI i), .ref 202]) (H' := _) (kc' := 0) (ks' := 0) rfl ?_
          refine RQ.ialdN (j := i) rfl g2.2.2.2.1 (by omega) (by decide) ?_
          rw [odG_at, lI_some hz]
          refine RQ.blk 1 (pc' := 77) (lv' := [(3, .int (nI ((vz i).getD 0))), (2, .int (nI i)), (1, .int (nI (cntB kp i))), (0, .ref 196)]) (st' := []) (H' := _) (kc' := 0) (ks' := 0) rfl ?_
          exact rest
    · have e0 : v = i := by omega
      subst e0
      refine RQ.brT rfl rfl rfl (cT_ge v v) ?_
      refine RQ.blk 2 (pc' := 262) (lv' := [(2, .int (nI v)), (1, .int (nI (cntB kp v))), (0, .ref 196)]) (st' := [.int (nI (cntB kp v)), .ref 196]) (H' := _) (kc' := 0) (ks' := 0) rfl ?_
      refine RQ.put (ci := 12) rfl g1 rfl rfl (Nat.le_of_ble_eq_true rfl) ?_
      refine RQ.blk 1 (pc' := 266) (lv' := [(2, .int (nI v)), (1, .int (nI (cntB kp v))), (0, .ref 196)]) (st' := [.ref 196]) (H' := _) (kc' := 0) (ks' := 0) rfl ?_
      refine RQ.get (ci := 12) rfl (get_set g1) rfl rfl ?_
      refine RQ.blk 3 (pc' := 272) (lv' := [(2, .ref (ba + 1)), (1, .int (nI (cntB kp v))), (0, .ref 196)]) (st' := [.ref 196, .ref 196]) (H' := _) (kc' := 0) (ks' := 0) rfl ?_
      refine RQ.get (ci := 12) rfl (get_set g1) rfl rfl ?_
      refine RQ.put (ci := 12) rfl (get_set g1) rfl rfl (Nat.le_of_ble_eq_true rfl) ?_
      refine RQ.blk 2 (pc' := 280) (lv' := [(2, .ref (ba + 1)), (1, .int (nI (cntB kp v))), (0, .ref 196)]) (st' := [.ref (ba + 1), .ref 196]) (H' := _) (kc' := 0) (ks' := 0) rfl ?_
      refine RQ.put (ci := 12) rfl (get_set (get_set g1)) rfl rfl (Nat.le_of_ble_eq_true rfl) ?_
      exact RQ.done (c := 0) (s := 0) rfl rfl rfl rfl ⟨_, rfl, get_set (get_set (get_set g1)), ⟨(set_far (by decide)).trans ((set_far (by decide)).trans ((set_far (by decide)).trans g2.1)), (set_far (by decide)).trans ((set_far (by decide)).trans ((set_far (by decide)).trans g2.2.1)), (set_far (by decide)).trans ((set_far (by decide)).trans ((set_far (by decide)).trans g2.2.2.1)), (set_far (by decide)).trans ((set_far (by decide)).trans ((set_far (by decide)).trans g2.2.2.2.1)), (set_far (by decide)).trans ((set_far (by decide)).trans ((set_far (by decide)).trans g2.2.2.2.2.1)), (set_far (by omega)).trans ((set_far (by omega)).trans ((set_far (by omega)).trans g5))⟩, (set_far (by omega)).trans ((set_far (by omega)).trans ((set_far (by omega)).trans g2.2.2.2.2.2)), (set_far (by decide)).trans ((set_far (by decide)).trans ((set_far (by decide)).trans g6)), fun a ha => ((set_far (by omega)).trans ((set_far (by omega)).trans (set_far (by omega)))).trans (g7 a ha)⟩
