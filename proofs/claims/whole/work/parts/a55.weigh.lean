/-! ===== what is needed in each log; the lightest; those in which nothing is needed go; class; written by wip/gen/weigh.py ===== -/
/-- what is needed in the block b -/
def ldN (vs : List aV) (b : Nat) : Nat := (vs.map (fun v => if v.2.2.2.1 ≠ none ∧ v.2.2.1 / 2048 = b then wgV v else 0)).sum
theorem ldN_take {vs : List aV} {p b : Nat} {v : aV} (h : vs[p]? = some v) : ldN (vs.take (p + 1)) b = ldN (vs.take p) b + (if v.2.2.2.1 ≠ none ∧ v.2.2.1 / 2048 = b then wgV v else 0) := by
  unfold ldN
  rw [List.take_add_one, h]
  show (List.map _ (vs.take p ++ [v])).sum = _
  rw [List.map_append, List.sum_append, List.map_singleton, List.sum_singleton]
/-- places lie on the chip -/
def PlB (B : Nat) (vs : List aV) : Prop := ∀ v ∈ vs, v.2.2.2.1 ≠ none → v.2.2.1 / 2048 < B
theorem rn_weigh {sc : Nat × (Nat → Int32)} {d mp hv N B : Nat} {H : aH} {vs : List aV} {f : Nat → Int32} (hV : VersIs H N vs) (hG : H[190]? = some (kO 4 (logF mp hv))) (hl : H[194]? = some (kI B f)) (hB : B ≤ 128) (hp : PlB B vs) : RN sc (d + 2) mr_135 [.ref 191] H (fun H' => ∃ g, H' = H.set 194 (kI B g) ∧ ∀ b, b < B → g b = nI (ldN vs b)) := by
  obtain ⟨kf, kl, mo, pl, le, al, od, sp, sz, ss, ac, hA, hW, hvs⟩ := hV
  have hN := hW.1.1
  have hszN := hW.1.2.1
  have hsz : vs.length = sz := by rw [hvs]; unfold vsL; rw [List.length_map, List.length_range]
  refine RN.of ?_
  refine RQ.blk 1 (pc' := 1) (lv' := [(0, .ref 191)]) (st' := [.ref 191]) (H' := _) (kc' := 0) (ks' := 0) rfl ?_
  refine RQ.get (ci := 4) rfl hG rfl rfl ?_
  refine RQ.blk 1 (pc' := 5) (lv' := [(0, .ref 191)]) (st' := [.int 0, .ref 195]) (H' := _) (kc' := 0) (ks' := 0) rfl ?_
  refine RQ.call (v := none) (st' := []) rfl rfl rfl rfl rfl rfl rfl (rc_fillI (v := 0) hl (by omega)) ?_
  refine RQ.blk 2 (pc' := 10) (lv' := [(1, .int 0), (0, .ref 191)]) (st' := []) (H' := _) (kc' := 0) (ks' := 0) rfl ?_
  refine RQ.while (S := Nat) (pc := 10) (fun p H' => ∃ g, p ≤ vs.length ∧ H' = H.set 194 (kI B g) ∧ ∀ b, b < B → g b = nI (ldN (vs.take p) b)) (fun p => [(1, .int (nI p)), (0, .ref 191)]) (fun p => vs.length - p) ?_ 0 _ ⟨_, Nat.zero_le _, rfl, fun b hb => if_pos hb⟩
  rintro p H1 ⟨g, hpv, rfl, hg⟩ ih
  have hA1 := hA.far (H' := H.set 194 (kI B g)) (fun a a1 a2 => set_far (by omega))
  have hl1 : (H.set 194 (kI B g))[194]? = some (kI B g) := get_set hl
  have hG1 : (H.set 194 (kI B g))[190]? = _ := (set_far (by decide)).trans hG
  by_cases hps : p < vs.length
  ·
    have hps2 : p < sz := by omega
    have hod := hW.1.2.2.2.1 p hps2
    have hso := hW.1.2.2.2.2.2 _ hod
    have hkl := hW.2.2.2.2.2.2.2.1 p hps2
    have hve : vs[p]? = some (verO kf kl mo pl le al (od p)) := by rw [hvs]; exact vsL_get hps2
    refine RQ.blk 2 (pc' := 12) (lv' := [(1, .int (nI p)), (0, .ref 191)]) (st' := [.ref 191, .int (nI p)]) (H' := _) (kc' := 0) (ks' := 0) rfl ?_
    refine RQ.get (ci := 4) rfl hG1 rfl rfl ?_
    refine RQ.get (ci := 10) rfl hA1.1 rfl rfl ?_
    refine RQ.brF rfl rfl rfl (cF_ge p sz) ?_
    refine RQ.blk 1 (pc' := 22) (lv' := [(1, .int (nI p)), (0, .ref 191)]) (st' := [.ref 191]) (H' := _) (kc' := 0) (ks' := 0) rfl ?_
    refine RQ.get (ci := 4) rfl hG1 rfl rfl ?_
    refine RQ.get (ci := 10) rfl hA1.1 rfl rfl ?_
    refine RQ.blk 1 (pc' := 29) (lv' := [(1, .int (nI p)), (0, .ref 191)]) (st' := [.int (nI p), .ref 82]) (H' := _) (kc' := 0) (ks' := 0) rfl ?_
    refine RQ.ialdN (j := p) rfl hA1.2.2.2.2.2.2.2.1 (by omega) (by omega) ?_
    refine RQ.blk 2 (pc' := 32) (lv' := [(2, .int (nI (od p))), (1, .int (nI p)), (0, .ref 191)]) (st' := [.ref 191]) (H' := _) (kc' := 0) (ks' := 0) rfl ?_
    refine RQ.get (ci := 4) rfl hG1 rfl rfl ?_
    refine RQ.get (ci := 10) rfl hA1.1 rfl rfl ?_
    refine RQ.blk 1 (pc' := 39) (lv' := [(2, .int (nI (od p))), (1, .int (nI p)), (0, .ref 191)]) (st' := [.int (nI (od p)), .ref 79]) (H' := _) (kc' := 0) (ks' := 0) rfl ?_
    refine RQ.ialdN (j := od p) rfl hA1.2.2.2.2.1 (by omega) (by omega) ?_
    refine RQ.blk 2 (pc' := 44) (lv' := [(2, .int (nI (od p))), (1, .int (nI p)), (0, .ref 191)]) (st' := [.int (nI (pl (od p)) / 2048)]) (H' := _) (kc' := 0) (ks' := 0) rfl ?_
    rw [show (nI (pl (od p)) / 2048 : Int32) = nI ((pl (od p)) / 2048) from pk_div (a := (pl (od p))) (d := 2048) (by omega) (by omega) (by omega)]
    refine RQ.blk 2 (pc' := 46) (lv' := [(3, .int (nI ((pl (od p)) / 2048))), (2, .int (nI (od p))), (1, .int (nI p)), (0, .ref 191)]) (st' := [.ref 191]) (H' := _) (kc' := 0) (ks' := 0) rfl ?_
    refine RQ.get (ci := 4) rfl hG1 rfl rfl ?_
    refine RQ.get (ci := 10) rfl hA1.1 rfl rfl ?_
    refine RQ.blk 1 (pc' := 53) (lv' := [(3, .int (nI ((pl (od p)) / 2048))), (2, .int (nI (od p))), (1, .int (nI p)), (0, .ref 191)]) (st' := [.int (nI (od p)), .ref 80]) (H' := _) (kc' := 0) (ks' := 0) rfl ?_
    refine RQ.ialdN (j := od p) rfl hA1.2.2.2.2.2.1 (by omega) (by omega) ?_
    cases c1 : le (od p) with
    | none =>
      refine RQ.brT rfl rfl rfl (by decide) ?_
      refine RQ.blk 1 (pc' := 90) (lv' := [(1, .int (nI p + 1)), (3, .int (nI ((pl (od p)) / 2048))), (2, .int (nI (od p))), (0, .ref 191)]) (st' := []) (H' := _) (kc' := 0) (ks' := 0) rfl ?_
      rw [show (nI p + 1 : Int32) = nI (p + 1) from nI_add p 1]
      refine RQ.blk 1 (pc' := 10) (lv' := [(1, .int (nI (p + 1))), (3, .int (nI ((pl (od p)) / 2048))), (2, .int (nI (od p))), (0, .ref 191)]) (st' := []) (H' := _) (kc' := 0) (ks' := 0) rfl ?_
      refine RQ.pick (a := [(1, .int (nI (p + 1))), (0, .ref 191)]) [0, 3] [1, 3, 2, 0] rfl rfl (by decide) ?_
      refine ih (p + 1) _ ⟨g, by omega, rfl, fun b hb => ?_⟩ (by omega)
      rw [ldN_take hve, hg b hb, if_neg (fun e2 => e2.1 (show le (od p) = none from c1)), Nat.add_zero]
    | some kc1 =>
      rw [show lI (some kc1) = nI kc1 from rfl]
      have hkb : kc1 < 2 ^ 30 := by have h9 := hso.2.2.2; rw [c1] at h9; exact h9
      have hbB : pl (od p) / 2048 < B := hp _ (List.mem_of_getElem? hve) (by show le (od p) ≠ none; rw [c1]; exact Option.some_ne_none _)
      refine RQ.brF rfl rfl rfl (cF_lt kc1 0) ?_
      refine RQ.blk 1 (pc' := 58) (lv' := [(3, .int (nI ((pl (od p)) / 2048))), (2, .int (nI (od p))), (1, .int (nI p)), (0, .ref 191)]) (st' := [.int (nI ((pl (od p)) / 2048))]) (H' := _) (kc' := 0) (ks' := 0) rfl ?_
      refine RQ.brF rfl rfl rfl (cF_lt ((pl (od p)) / 2048) 0) ?_
      refine RQ.blk 2 (pc' := 63) (lv' := [(3, .int (nI ((pl (od p)) / 2048))), (2, .int (nI (od p))), (1, .int (nI p)), (0, .ref 191)]) (st' := [.ref 191, .int (nI ((pl (od p)) / 2048))]) (H' := _) (kc' := 0) (ks' := 0) rfl ?_
      refine RQ.get (ci := 4) rfl hG1 rfl rfl ?_
      refine RQ.len rfl hl1 rfl ?_
      refine RQ.brF rfl rfl rfl (cF_ge (pl (od p) / 2048) B) ?_
      refine RQ.blk 1 (pc' := 71) (lv' := [(3, .int (nI ((pl (od p)) / 2048))), (2, .int (nI (od p))), (1, .int (nI p)), (0, .ref 191)]) (st' := [.ref 191]) (H' := _) (kc' := 0) (ks' := 0) rfl ?_
      refine RQ.get (ci := 4) rfl hG1 rfl rfl ?_
      refine RQ.blk 2 (pc' := 76) (lv' := [(3, .int (nI ((pl (od p)) / 2048))), (2, .int (nI (od p))), (1, .int (nI p)), (0, .ref 191)]) (st' := [.int (nI ((pl (od p)) / 2048)), .ref 195, .int (nI ((pl (od p)) / 2048)), .ref 195]) (H' := _) (kc' := 0) (ks' := 0) rfl ?_
      refine RQ.ialdN (j := (pl (od p)) / 2048) rfl hl1 (by omega) (by omega) ?_
      refine RQ.blk 1 (pc' := 78) (lv' := [(3, .int (nI ((pl (od p)) / 2048))), (2, .int (nI (od p))), (1, .int (nI p)), (0, .ref 191)]) (st' := [.ref 191, .int (g ((pl (od p)) / 2048)), .int (nI ((pl (od p)) / 2048)), .ref 195]) (H' := _) (kc' := 0) (ks' := 0) rfl ?_
      refine RQ.get (ci := 4) rfl hG1 rfl rfl ?_
      refine RQ.blk 1 (pc' := 82) (lv' := [(3, .int (nI ((pl (od p)) / 2048))), (2, .int (nI (od p))), (1, .int (nI p)), (0, .ref 191)]) (st' := [.int (nI (od p)), .ref 75, .int (g ((pl (od p)) / 2048)), .int (nI ((pl (od p)) / 2048)), .ref 195]) (H' := _) (kc' := 0) (ks' := 0) rfl ?_
      refine RQ.call (v := some (.int (nI (wgt (ub (kf (od p * 41))) (kl (od p)) (le (od p)))))) (st' := [.int (g ((pl (od p)) / 2048)), .int (nI ((pl (od p)) / 2048)), .ref 195]) rfl rfl rfl rfl rfl rfl (args_v [.int (nI (od p))] [.int (g ((pl (od p)) / 2048)), .int (nI ((pl (od p)) / 2048)), .ref 195] rfl rfl (Nat.le_of_ble_eq_true rfl) rfl hA1.1 (Nat.le_of_ble_eq_true rfl)) (rc_weightOf hA1 hW.1 hod) ?_
      refine RQ.blk 1 (pc' := 86) (lv' := [(3, .int (nI ((pl (od p)) / 2048))), (2, .int (nI (od p))), (1, .int (nI p)), (0, .ref 191)]) (st' := [.int ((g ((pl (od p)) / 2048)) + nI (wgt (ub (kf (od p * 41))) (kl (od p)) (le (od p)))), .int (nI ((pl (od p)) / 2048)), .ref 195]) (H' := _) (kc' := 0) (ks' := 0) rfl ?_
      refine RQ.iastN (j := (pl (od p)) / 2048) rfl hl1 (by omega) (by omega) ?_
      refine RQ.blk 1 (pc' := 90) (lv' := [(1, .int (nI p + 1)), (3, .int (nI ((pl (od p)) / 2048))), (2, .int (nI (od p))), (0, .ref 191)]) (st' := []) (H' := _) (kc' := 0) (ks' := 0) rfl ?_
      rw [show (nI p + 1 : Int32) = nI (p + 1) from nI_add p 1]
      refine RQ.blk 1 (pc' := 10) (lv' := [(1, .int (nI (p + 1))), (3, .int (nI ((pl (od p)) / 2048))), (2, .int (nI (od p))), (0, .ref 191)]) (st' := []) (H' := _) (kc' := 0) (ks' := 0) rfl ?_
      refine RQ.pick (a := [(1, .int (nI (p + 1))), (0, .ref 191)]) [0, 3] [1, 3, 2, 0] rfl rfl (by decide) ?_
      rw [set_set]
      refine ih (p + 1) _ ⟨_, by omega, rfl, fun b hb => ?_⟩ (by omega)
      rw [ldN_take hve]
      by_cases e : b = pl (od p) / 2048
      · rw [e, up_at, hg _ hbB, if_pos ⟨by show le (od p) ≠ none; rw [c1]; exact Option.some_ne_none _, rfl⟩, nI_add, wgV_ver hkl]
      · rw [up_ne e, hg b hb, if_neg (fun e2 => e e2.2.symm), Nat.add_zero]
  ·
    have hpe : p = vs.length := by omega
    rw [hpe, List.take_of_length_le (Nat.le_refl _)] at hg
    refine RQ.blk 2 (pc' := 12) (lv' := [(1, .int (nI p)), (0, .ref 191)]) (st' := [.ref 191, .int (nI p)]) (H' := _) (kc' := 0) (ks' := 0) rfl ?_
    refine RQ.get (ci := 4) rfl hG1 rfl rfl ?_
    refine RQ.get (ci := 10) rfl hA1.1 rfl rfl ?_
    refine RQ.brT rfl rfl rfl (cT_ge p sz) ?_
    exact RQ.done (c := 0) (s := 0) rfl rfl rfl rfl ⟨_, rfl, g, rfl, hg⟩
theorem rc_loadOf {sc : Nat × (Nat → Int32)} {d i b mp hv : Nat} {H : aH} {B : Nat} {lgs : List Nat} {fr ff : Nat} {wr : Bool} {tp : Nat} {rs : List aR} {ms mt sq tu : Nat} {us : Nat → Bool} {g : Nat → Int32} (h : LayIs H B lgs fr ff wr tp rs ms mt sq tu us) (hB : B ≤ 128) (hG : H[190]? = some (kO 4 (logF mp hv))) (hl : H[194]? = some (kI B g)) (hi : lgs[i]? = some b) (hb : b < B) : RC sc d mr_138 [.ref 191, .int (nI i)] H (.inl (some (.int (g b)))) H 0 0 := by
  obtain ⟨lg, pi, hY, hlg, hlc, hRs⟩ := h
  obtain ⟨⟨Q, hQ, hQ2⟩, hpi, hinj, hrun, hall, hrl⟩ := hRs
  have hil := get_lt hi
  refine RP.blk 1 (pc' := 1) (lv' := [(0, .ref 191), (1, .int (nI i))]) (st' := [.int (nI i)]) (H' := _) (kc' := 0) (ks' := 0) rfl ?_
  refine RP.brF rfl rfl rfl (cF_lt i 0) ?_
  refine RP.blk 2 (pc' := 6) (lv' := [(0, .ref 191), (1, .int (nI i))]) (st' := [.ref 191, .int (nI i)]) (H' := _) (kc' := 0) (ks' := 0) rfl ?_
  refine RP.get (ci := 4) rfl hG rfl rfl ?_
  refine RP.get (ci := 3) rfl hY.1 rfl rfl ?_
  refine RP.brF rfl rfl rfl (cF_ge i lgs.length) ?_
  refine RP.blk 1 (pc' := 16) (lv' := [(0, .ref 191), (1, .int (nI i))]) (st' := [.ref 191]) (H' := _) (kc' := 0) (ks' := 0) rfl ?_
  refine RP.get (ci := 4) rfl hG rfl rfl ?_
  refine RP.get (ci := 3) rfl hY.1 rfl rfl ?_
  refine RP.blk 1 (pc' := 23) (lv' := [(0, .ref 191), (1, .int (nI i))]) (st' := [.int (nI i), .ref 88]) (H' := _) (kc' := 0) (ks' := 0) rfl ?_
  refine RP.ialdN (j := i) rfl hY.2.2 (by omega) (by omega) ?_
  refine RP.blk 3 (pc' := 30) (lv' := [(2, .int (nI (lg i))), (0, .ref 191), (1, .int (nI i))]) (st' := [.int (nI (lg i))]) (H' := _) (kc' := 0) (ks' := 0) rfl ?_
  rw [hlg i b hi]
  refine RP.brF rfl rfl rfl (cF_lt b 0) ?_
  refine RP.blk 2 (pc' := 35) (lv' := [(2, .int (nI b)), (0, .ref 191), (1, .int (nI i))]) (st' := [.ref 191, .int (nI b)]) (H' := _) (kc' := 0) (ks' := 0) rfl ?_
  refine RP.get (ci := 4) rfl hG rfl rfl ?_
  refine RP.len rfl hl rfl ?_
  refine RP.brF rfl rfl rfl (cF_ge b B) ?_
  refine RP.blk 1 (pc' := 43) (lv' := [(2, .int (nI b)), (0, .ref 191), (1, .int (nI i))]) (st' := [.ref 191]) (H' := _) (kc' := 0) (ks' := 0) rfl ?_
  refine RP.get (ci := 4) rfl hG rfl rfl ?_
  refine RP.blk 1 (pc' := 47) (lv' := [(2, .int (nI b)), (0, .ref 191), (1, .int (nI i))]) (st' := [.int (nI b), .ref 195]) (H' := _) (kc' := 0) (ks' := 0) rfl ?_
  refine RP.ialdN (j := b) rfl hl (by omega) (by omega) ?_
  refine RP.blk 1 (pc' := 52) (lv' := [(2, .int (nI b)), (0, .ref 191), (1, .int (nI i))]) (st' := [.int (g b)]) (H' := _) (kc' := 0) (ks' := 0) rfl ?_
  exact RP.done (c := 0) (s := 0) rfl rfl rfl rfl
/-- the first of the least -/
def ltN (m : Option Nat) (ok : Bool) (ld : Nat → Nat) (i : Nat) : Option Nat :=
  match m with
  | none => if ok = true then some i else none
  | some j => if ok = true ∧ ld i < ld j then some i else some j
def ltF (ld : Nat → Nat) (ok : Nat → Bool) : Nat → Option Nat
  | 0 => none
  | i + 1 => ltN (ltF ld ok i) (ok i) ld i
theorem ltN_no {m : Option Nat} {ld : Nat → Nat} {i : Nat} : ltN m false ld i = m := by
  cases m with
  | none => show (if false = true then some i else none) = none; exact if_neg (by decide)
  | some j => show (if false = true ∧ ld i < ld j then some i else some j) = some j; exact if_neg (fun e => absurd e.1 (by decide))
theorem ltF_none {ld : Nat → Nat} {ok : Nat → Bool} : ∀ {n : Nat}, ltF ld ok n = none → ∀ j, j < n → ¬ ok j = true
  | 0, _, j, hj => absurd hj (Nat.not_lt_zero _)
  | n + 1, h, j, hj => by
    have h : ltN (ltF ld ok n) (ok n) ld n = none := h
    intro hok
    cases hm : ltF ld ok n with
    | none =>
      rw [hm] at h
      by_cases ej : j = n
      · rw [ej] at hok
        rw [show ltN none (ok n) ld n = some n from if_pos hok] at h
        cases h
      · exact ltF_none hm j (by omega) hok
    | some k =>
      rw [hm] at h
      by_cases e : ok n = true ∧ ld n < ld k
      · rw [show ltN (some k) (ok n) ld n = some n from if_pos e] at h
        cases h
      · rw [show ltN (some k) (ok n) ld n = some k from if_neg e] at h
        cases h
theorem ltF_lt {ld : Nat → Nat} {ok : Nat → Bool} : ∀ {n i : Nat}, ltF ld ok n = some i → i < n ∧ ok i = true ∧ ∀ j, j < n → ok j = true → ld i ≤ ld j
  | 0, i, h => absurd h (Option.some_ne_none i).symm
  | n + 1, i, h => by
    have h : ltN (ltF ld ok n) (ok n) ld n = some i := h
    cases hm : ltF ld ok n with
    | none =>
      rw [hm] at h
      by_cases e : ok n = true
      · rw [show ltN none (ok n) ld n = some n from if_pos e] at h
        rw [← Option.some.inj h]
        refine ⟨Nat.lt_succ_self _, e, fun j hj hok => ?_⟩
        by_cases ej : j = n
        · rw [ej]; exact Nat.le_refl _
        · exact absurd hok (ltF_none hm j (by omega))
      · rw [show ltN none (ok n) ld n = none from if_neg e] at h
        cases h
    | some k =>
      obtain ⟨a1, a2, a3⟩ := ltF_lt hm
      rw [hm] at h
      by_cases e : ok n = true ∧ ld n < ld k
      · rw [show ltN (some k) (ok n) ld n = some n from if_pos e] at h
        rw [← Option.some.inj h]
        refine ⟨Nat.lt_succ_self _, e.1, fun j hj hok => ?_⟩
        by_cases ej : j = n
        · rw [ej]; exact Nat.le_refl _
        · have := a3 j (by omega) hok
          omega
      · rw [show ltN (some k) (ok n) ld n = some k from if_neg e] at h
        rw [← Option.some.inj h]
        refine ⟨by omega, a2, fun j hj hok => ?_⟩
        by_cases ej : j = n
        · rw [ej] at hok ⊢
          have : ¬ ld n < ld k := fun e2 => e ⟨hok, e2⟩
          omega
        · exact a3 j (by omega) hok
theorem ri_lightest {sc : Nat × (Nat → Int32)} {d mp hv : Nat} {H : aH} {B : Nat} {lgs : List Nat} {fr ff : Nat} {wr : Bool} {tp : Nat} {rs : List aR} {ms mt sq tu : Nat} {us : Nat → Bool} {vs : List aV} {g : Nat → Int32} (h : LayIs H B lgs fr ff wr tp rs ms mt sq tu us) (hB : B ≤ 128) (hG : H[190]? = some (kO 4 (logF mp hv))) (hl : H[194]? = some (kI B g)) (hg : ∀ b, b < B → g b = nI (ldN vs b)) (hlB : ∀ x ∈ lgs, x < B) (hw31 : ∀ b, ldN vs b < 2 ^ 31) (h1 : 1 ≤ lgs.length) : RI sc (d + 1) mr_141 [.ref 191] H (fun x H' => H' = H ∧ ∃ k, x = nI k ∧ ltF (fun i => ldN vs (lgs.getD i 0)) (fun _ => true) lgs.length = some k) := by
  obtain ⟨lg, pi, hY, hlg, hlc, hRs⟩ := id h
  refine RI.of ?_
  refine RQ.blk 4 (pc' := 4) (lv' := [(2, .int 1), (1, .int 0), (0, .ref 191)]) (st' := []) (H' := _) (kc' := 0) (ks' := 0) rfl ?_
  have hld : ∀ i, i < lgs.length → ∃ b, lgs[i]? = some b ∧ b < B ∧ ldN vs (lgs.getD i 0) = ldN vs b := fun i hi => by
    obtain ⟨b, hb⟩ := lt_get hi
    exact ⟨b, hb, hlB b (List.mem_of_getElem? hb), by rw [List.getD_eq_getElem?_getD, hb]; rfl⟩
  refine RQ.while (S := Nat × Nat) (pc := 4) (fun s H' => H' = H ∧ 1 ≤ s.1 ∧ s.1 ≤ lgs.length ∧ ltF (fun i => ldN vs (lgs.getD i 0)) (fun _ => true) s.1 = some s.2) (fun s => [(2, .int (nI s.1)), (1, .int (nI s.2)), (0, .ref 191)]) (fun s => lgs.length - s.1) ?_ (1, 0) _ ⟨rfl, Nat.le_refl _, h1, rfl⟩
  rintro ⟨i, j⟩ H1 ⟨rfl, hi1, hi, hm⟩ ih
  have hi1 : 1 ≤ i := hi1
  have hi : i ≤ lgs.length := hi
  have hm : ltF (fun i => ldN vs (lgs.getD i 0)) (fun _ => true) i = some j := hm
  show RQ _ _ _ 4 [(2, .int (nI i)), (1, .int (nI j)), (0, .ref 191)] [] _ _ _ _
  by_cases hil : i < lgs.length
  ·
    obtain ⟨hj1, -⟩ := ltF_lt hm
    obtain ⟨b, hb, hbB, hlb⟩ := hld i hil
    obtain ⟨b2, hb2, hb2B, hlb2⟩ := hld j (by omega)
    have hb31 := hw31 b
    have hb231 := hw31 b2
    refine RQ.blk 2 (pc' := 6) (lv' := [(2, .int (nI i)), (1, .int (nI j)), (0, .ref 191)]) (st' := [.ref 191, .int (nI i)]) (H' := _) (kc' := 0) (ks' := 0) rfl ?_
    refine RQ.get (ci := 4) rfl hG rfl rfl ?_
    refine RQ.get (ci := 3) rfl hY.1 rfl rfl ?_
    refine RQ.brF rfl rfl rfl (cF_ge i lgs.length) ?_
    refine RQ.blk 2 (pc' := 17) (lv' := [(2, .int (nI i)), (1, .int (nI j)), (0, .ref 191)]) (st' := [.int (nI i), .ref 191]) (H' := _) (kc' := 0) (ks' := 0) rfl ?_
    refine RQ.call (v := some (.int (g b))) (st' := []) rfl rfl rfl rfl rfl rfl (args_v [.int (nI i)] [] rfl rfl (Nat.le_of_ble_eq_true rfl) rfl hG (Nat.le_of_ble_eq_true rfl)) (rc_loadOf h hB hG hl hb hbB) ?_
    rw [hg b hbB]
    refine RQ.blk 2 (pc' := 22) (lv' := [(2, .int (nI i)), (1, .int (nI j)), (0, .ref 191)]) (st' := [.int (nI j), .ref 191, .int (nI (ldN vs b))]) (H' := _) (kc' := 0) (ks' := 0) rfl ?_
    refine RQ.call (v := some (.int (g b2))) (st' := [.int (nI (ldN vs b))]) rfl rfl rfl rfl rfl rfl (args_v [.int (nI j)] [.int (nI (ldN vs b))] rfl rfl (Nat.le_of_ble_eq_true rfl) rfl hG (Nat.le_of_ble_eq_true rfl)) (rc_loadOf h hB hG hl hb2 hb2B) ?_
    rw [hg b2 hb2B]
    by_cases hlt : ldN vs b < ldN vs b2
    · refine RQ.brF rfl rfl rfl (cF_ge (ldN vs b) (ldN vs b2)) ?_
      refine RQ.blk 3 (pc' := 33) (lv' := [(2, .int (nI i + 1)), (1, .int (nI i)), (0, .ref 191)]) (st' := []) (H' := _) (kc' := 0) (ks' := 0) rfl ?_
      rw [show (nI i + 1 : Int32) = nI (i + 1) from nI_add i 1]
      refine RQ.blk 1 (pc' := 4) (lv' := [(2, .int (nI (i + 1))), (1, .int (nI i)), (0, .ref 191)]) (st' := []) (H' := _) (kc' := 0) (ks' := 0) rfl ?_
      refine RQ.pick (a := [(2, .int (nI (i + 1))), (1, .int (nI i)), (0, .ref 191)]) [0, 1, 2] [2, 1, 0] rfl rfl (by decide) ?_
      have hst : ltF (fun i => ldN vs (lgs.getD i 0)) (fun _ => true) (i + 1) = some i := by
        show ltN (ltF (fun i => ldN vs (lgs.getD i 0)) (fun _ => true) i) ((fun _ => true) i) (fun i => ldN vs (lgs.getD i 0)) i = _
        rw [hm]
        show (if true = true ∧ ldN vs (lgs.getD i 0) < ldN vs (lgs.getD j 0) then some i else some j) = _
        rw [hlb, hlb2]
        exact if_pos ⟨rfl, hlt⟩
      exact ih (i + 1, i) _ ⟨rfl, Nat.le_add_left _ _, hil, hst⟩ (show lgs.length - (i + 1) < lgs.length - i by omega)
    · refine RQ.brT rfl rfl rfl (cT_ge (ldN vs b) (ldN vs b2)) ?_
      refine RQ.blk 1 (pc' := 33) (lv' := [(2, .int (nI i + 1)), (1, .int (nI j)), (0, .ref 191)]) (st' := []) (H' := _) (kc' := 0) (ks' := 0) rfl ?_
      rw [show (nI i + 1 : Int32) = nI (i + 1) from nI_add i 1]
      refine RQ.blk 1 (pc' := 4) (lv' := [(2, .int (nI (i + 1))), (1, .int (nI j)), (0, .ref 191)]) (st' := []) (H' := _) (kc' := 0) (ks' := 0) rfl ?_
      refine RQ.pick (a := [(2, .int (nI (i + 1))), (1, .int (nI j)), (0, .ref 191)]) [0, 1, 2] [2, 1, 0] rfl rfl (by decide) ?_
      have hst : ltF (fun i => ldN vs (lgs.getD i 0)) (fun _ => true) (i + 1) = some j := by
        show ltN (ltF (fun i => ldN vs (lgs.getD i 0)) (fun _ => true) i) ((fun _ => true) i) (fun i => ldN vs (lgs.getD i 0)) i = _
        rw [hm]
        show (if true = true ∧ ldN vs (lgs.getD i 0) < ldN vs (lgs.getD j 0) then some i else some j) = _
        rw [hlb, hlb2]
        exact if_neg (fun e => hlt e.2)
      exact ih (i + 1, j) _ ⟨rfl, Nat.le_add_left _ _, hil, hst⟩ (show lgs.length - (i + 1) < lgs.length - i by omega)
  ·
    have hie : i = lgs.length := by omega
    refine RQ.blk 2 (pc' := 6) (lv' := [(2, .int (nI i)), (1, .int (nI j)), (0, .ref 191)]) (st' := [.ref 191, .int (nI i)]) (H' := _) (kc' := 0) (ks' := 0) rfl ?_
    refine RQ.get (ci := 4) rfl hG rfl rfl ?_
    refine RQ.get (ci := 3) rfl hY.1 rfl rfl ?_
    refine RQ.brT rfl rfl rfl (cT_ge i lgs.length) ?_
    refine RQ.blk 1 (pc' := 37) (lv' := [(2, .int (nI i)), (1, .int (nI j)), (0, .ref 191)]) (st' := [.int (nI j)]) (H' := _) (kc' := 0) (ks' := 0) rfl ?_
    exact RQ.done (c := 0) (s := 0) rfl rfl rfl rfl ⟨_, _, rfl, rfl, j, rfl, by rw [← hie]; exact hm⟩
