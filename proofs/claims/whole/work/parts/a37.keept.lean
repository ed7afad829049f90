/-! ===== a step of merging; tables are kept few; class; written by wip/gen/keept.py ===== -/
/-- how many tables lie before the level l -/
def twL (rs : List aR) (l : Nat) : Nat := (rs.takeWhile (fun x => decide (x.1 < l))).length
theorem twL_le {rs : List aR} {l : Nat} : twL rs l ≤ rs.length := (List.takeWhile_sublist _).length_le
theorem twL_mono {l : Nat} : ∀ {rs : List aR}, twL rs l ≤ twL rs (l + 1)
  | [] => Nat.le_refl _
  | x :: t => by
    have ih := twL_mono (l := l) (rs := t)
    unfold twL at ih ⊢
    rw [List.takeWhile_cons, List.takeWhile_cons]
    by_cases h : x.1 < l
    · rw [decide_eq_true h, decide_eq_true (show x.1 < l + 1 by omega)]
      exact Nat.succ_le_succ ih
    · rw [decide_eq_false h]
      exact Nat.zero_le _
/-- one table comes in place of those from f on, before en -/
def Mg (rs : List aR) (f en lev : Nat) (rs' : List aR) : Prop := ∃ x : aR, x.1 = lev ∧ rs' = rs.take f ++ (if 0 < x.2.1 then [x] else []) ++ rs.drop en
/-- the levels below l were merged where four tables were there -/
def KT (rs : List aR) : Nat → List aR → Prop
  | 0, rs' => rs' = rs
  | l + 1, rs' => ∃ m, KT rs l m ∧ (4 ≤ twL m (l + 1) - twL m l ∧ Mg m (twL m l) (twL m (l + 1)) (min (l + 1) 3) rs' ∨ twL m (l + 1) - twL m l < 4 ∧ rs' = m)
/-- what a state that is kept up over merges tells -/
def TabI (I : List aR → aH → Prop) (B P : Nat) (up cw cl cp cb : Int32) : Prop := ∀ rs H, I rs H → (∃ lgs fr ff wr tp ms mt sq tu us, LayIs H B lgs fr ff wr tp rs ms mt sq tu us) ∧ (∀ x ∈ rs, x.1 < 2 ^ 31) ∧ H[0]? = some (kO 11 (fvs (nI B) (nI P) up cw cl cp cb)) ∧ (∃ lm bf gm, H[136]? = some (kO 8 (tabF lm bf gm))) ∧ (rs.map (fun x => x.2.2.2.length)).sum < 2 ^ 31 ∧ (rs.map (fun x => x.2.2.1)).sum < 2 ^ 31
theorem re_keepTables {sc : Nat × (Nat → Int32)} {d : Nat} {I : List aR → aH → Prop} {bad : aH → Prop} {B P : Nat} {up cw cl cp cb : Int32} {rs : List aR} {H : aH} (hI : TabI I B P up cw cl cp cb) (hB : B ≤ 128) (hm : ∀ m H f en lev, I m H → f + 2 ≤ en → en ≤ m.length → lev ≤ 3 → RE sc (d + 4) mr_120 [.ref 137, .int (nI f), .int (nI en), .int (nI lev), .int (nI P)] H (fun H' => ∃ rs', Mg m f en lev rs' ∧ I rs' H') bad) (h0 : I rs H) : RE sc (d + 5) mr_118 [.ref 1] H (fun H' => ∃ m rs', KT rs 4 m ∧ ((1 < m.length ∧ (B / 4 < (m.map (fun x => x.2.2.2.length)).sum ∨ B * 14 < (m.map (fun x => x.2.2.1)).sum)) ∧ Mg m 0 m.length 3 rs' ∨ ¬ (1 < m.length ∧ (B / 4 < (m.map (fun x => x.2.2.2.length)).sum ∨ B * 14 < (m.map (fun x => x.2.2.1)).sum)) ∧ rs' = m) ∧ I rs' H') bad := by
  refine RE.of ?_
  refine RQ.blk 2 (pc' := 2) (lv' := [(1, .int 0), (0, .ref 1)]) (st' := []) (H' := _) (kc' := 0) (ks' := 0) rfl ?_
  refine RQ.while (S := Nat × List aR) (pc := 2) (fun s H' => s.1 ≤ 4 ∧ KT rs s.1 s.2 ∧ I s.2 H') (fun s => [(1, .int (nI s.1)), (0, .ref 1)]) (fun s => 4 - s.1) ?_ (0, rs) H ⟨Nat.zero_le _, rfl, h0⟩
  rintro ⟨l, m⟩ H2 ⟨hl4, hK, hIm⟩ ih
  have hl4 : l ≤ 4 := hl4
  have hK : KT rs l m := hK
  have hIm : I m H2 := hIm
  show RQ _ _ _ 2 [(1, .int (nI l)), (0, .ref 1)] _ _ _ _ _
  obtain ⟨⟨lgs, fr, ff, wr, tp, ms, mt, sq, tu, us, hL⟩, hlv, hv, ⟨lm, bf, gm, ht⟩, hs1, hs2⟩ := hI _ _ hIm
  obtain ⟨lg, pi, hY, hlg, hlc, ⟨Q, hQ, hQ2⟩, hpi, hinj, hrun, hall, hrl⟩ := id hL
  by_cases hl : l < 4
  ·
    have h1 := twL_le (rs := m) (l := l)
    have h2 := twL_le (rs := m) (l := l + 1)
    have h3 := twL_mono (l := l) (rs := m)
    have hml := hrl
    refine RQ.blk 2 (pc' := 4) (lv' := [(1, .int (nI l)), (0, .ref 1)]) (st' := [.int 3, .int (nI l)]) (H' := _) (kc' := 0) (ks' := 0) rfl ?_
    refine RQ.brF rfl rfl rfl (cF_gt l 3) ?_
    refine RQ.blk 1 (pc' := 8) (lv' := [(1, .int (nI l)), (0, .ref 1)]) (st' := [.ref 1]) (H' := _) (kc' := 0) (ks' := 0) rfl ?_
    refine RQ.get (ci := 11) rfl hv rfl rfl ?_
    refine RQ.blk 1 (pc' := 12) (lv' := [(1, .int (nI l)), (0, .ref 1)]) (st' := [.int (nI l), .ref 84]) (H' := _) (kc' := 0) (ks' := 0) rfl ?_
    refine RQ.call (v := some (.int (nI (twL m l)))) (st' := []) rfl rfl rfl rfl rfl rfl (args_v [.int (nI l)] [] rfl rfl (Nat.le_of_ble_eq_true rfl) rfl hY.1 (Nat.le_of_ble_eq_true rfl)) (rc_firstRun (l := l) hL hB (by omega) hlv) ?_
    refine RQ.blk 2 (pc' := 17) (lv' := [(2, .int (nI (twL m l))), (1, .int (nI l)), (0, .ref 1)]) (st' := [.ref 1]) (H' := _) (kc' := 0) (ks' := 0) rfl ?_
    refine RQ.get (ci := 11) rfl hv rfl rfl ?_
    refine RQ.blk 3 (pc' := 23) (lv' := [(2, .int (nI (twL m l))), (1, .int (nI l)), (0, .ref 1)]) (st' := [.int (nI l + 1), .ref 84]) (H' := _) (kc' := 0) (ks' := 0) rfl ?_
    rw [show (nI l + 1 : Int32) = nI (l + 1) from nI_add l 1]
    refine RQ.call (v := some (.int (nI (twL m (l + 1))))) (st' := []) rfl rfl rfl rfl rfl rfl (args_v [.int (nI (l + 1))] [] rfl rfl (Nat.le_of_ble_eq_true rfl) rfl hY.1 (Nat.le_of_ble_eq_true rfl)) (rc_firstRun (l := l + 1) hL hB (by omega) hlv) ?_
    refine RQ.blk 4 (pc' := 30) (lv' := [(3, .int (nI (twL m (l + 1)))), (2, .int (nI (twL m l))), (1, .int (nI l)), (0, .ref 1)]) (st' := [.int (nI (twL m (l + 1)) - nI (twL m l))]) (H' := _) (kc' := 0) (ks' := 0) rfl ?_
    rw [show (nI (twL m (l + 1)) - nI (twL m l) : Int32) = nI ((twL m (l + 1)) - (twL m l)) from pk_sub (a := (twL m (l + 1))) (b := (twL m l)) (by omega)]
    refine RQ.blk 1 (pc' := 31) (lv' := [(3, .int (nI (twL m (l + 1)))), (2, .int (nI (twL m l))), (1, .int (nI l)), (0, .ref 1)]) (st' := [.int 4, .int (nI ((twL m (l + 1)) - (twL m l)))]) (H' := _) (kc' := 0) (ks' := 0) rfl ?_
    by_cases h4 : twL m (l + 1) - twL m l < 4
    · refine RQ.brT rfl rfl rfl (cT_lt (twL m (l + 1) - twL m l) 4) ?_
      refine RQ.blk 1 (pc' := 57) (lv' := [(1, .int (nI l + 1)), (3, .int (nI (twL m (l + 1)))), (2, .int (nI (twL m l))), (0, .ref 1)]) (st' := []) (H' := _) (kc' := 0) (ks' := 0) rfl ?_
      rw [show (nI l + 1 : Int32) = nI (l + 1) from nI_add l 1]
      refine RQ.blk 1 (pc' := 2) (lv' := [(1, .int (nI (l + 1))), (3, .int (nI (twL m (l + 1)))), (2, .int (nI (twL m l))), (0, .ref 1)]) (st' := []) (H' := _) (kc' := 0) (ks' := 0) rfl ?_
      refine RQ.pick (a := [(1, .int (nI (l + 1))), (0, .ref 1)]) [0, 3] [1, 3, 2, 0] rfl rfl (by decide) ?_
      exact ih (l + 1, m) _ ⟨by omega, ⟨m, hK, Or.inr ⟨h4, rfl⟩⟩, hIm⟩ (by show 4 - (l + 1) < 4 - l; omega)
    · refine RQ.brF rfl rfl rfl (cF_lt (twL m (l + 1) - twL m l) 4) ?_
      refine RQ.blk 1 (pc' := 35) (lv' := [(3, .int (nI (twL m (l + 1)))), (2, .int (nI (twL m l))), (1, .int (nI l)), (0, .ref 1)]) (st' := [.ref 1]) (H' := _) (kc' := 0) (ks' := 0) rfl ?_
      refine RQ.get (ci := 11) rfl hv rfl rfl ?_
      refine RQ.blk 5 (pc' := 43) (lv' := [(3, .int (nI (twL m (l + 1)))), (2, .int (nI (twL m l))), (1, .int (nI l)), (0, .ref 1)]) (st' := [.int (nI l + 1), .int (nI (twL m (l + 1))), .int (nI (twL m l)), .ref 137]) (H' := _) (kc' := 0) (ks' := 0) rfl ?_
      rw [show (nI l + 1 : Int32) = nI (l + 1) from nI_add l 1]
      refine RQ.blk 2 (pc' := 47) (lv' := [(3, .int (nI (twL m (l + 1)))), (2, .int (nI (twL m l))), (1, .int (nI l)), (0, .ref 1)]) (st' := [.int (if 3 < nI (l + 1) then 3 else nI (l + 1)), .int (nI (twL m (l + 1))), .int (nI (twL m l)), .ref 137]) (H' := _) (kc' := 0) (ks' := 0) rfl ?_
      rw [show (if 3 < nI (l + 1) then 3 else nI (l + 1) : Int32) = nI (min (l + 1) 3) from minI (a := (l + 1)) (b := 3) (by omega) (by omega)]
      refine RQ.blk 1 (pc' := 48) (lv' := [(3, .int (nI (twL m (l + 1)))), (2, .int (nI (twL m l))), (1, .int (nI l)), (0, .ref 1)]) (st' := [.ref 1, .int (nI (min (l + 1) 3)), .int (nI (twL m (l + 1))), .int (nI (twL m l)), .ref 137]) (H' := _) (kc' := 0) (ks' := 0) rfl ?_
      refine RQ.get (ci := 11) rfl hv rfl rfl ?_
      refine RQ.callT (st' := []) rfl rfl rfl rfl rfl rfl (args_v [.int (nI P), .int (nI (min (l + 1) 3)), .int (nI (twL m (l + 1))), .int (nI (twL m l))] [] rfl rfl (Nat.le_of_ble_eq_true rfl) rfl ht (Nat.le_of_ble_eq_true rfl)) (hm m H2 (twL m l) (twL m (l + 1)) (min (l + 1) 3) hIm (by omega) h2 (by omega)) rfl (fun H5 hx5 => ?_) (fun H9 hbad => Or.inr ⟨_, rfl, hbad⟩)
      obtain ⟨rs', hM, hI5⟩ := hx5
      refine RQ.blk 1 (pc' := 57) (lv' := [(1, .int (nI l + 1)), (3, .int (nI (twL m (l + 1)))), (2, .int (nI (twL m l))), (0, .ref 1)]) (st' := []) (H' := _) (kc' := 0) (ks' := 0) rfl ?_
      rw [show (nI l + 1 : Int32) = nI (l + 1) from nI_add l 1]
      refine RQ.blk 1 (pc' := 2) (lv' := [(1, .int (nI (l + 1))), (3, .int (nI (twL m (l + 1)))), (2, .int (nI (twL m l))), (0, .ref 1)]) (st' := []) (H' := _) (kc' := 0) (ks' := 0) rfl ?_
      refine RQ.pick (a := [(1, .int (nI (l + 1))), (0, .ref 1)]) [0, 3] [1, 3, 2, 0] rfl rfl (by decide) ?_
      exact ih (l + 1, rs') _ ⟨by omega, ⟨m, hK, Or.inl ⟨by omega, hM⟩⟩, hI5⟩ (by show 4 - (l + 1) < 4 - l; omega)
  ·
    have el : l = 4 := by omega
    rw [el] at hK
    refine RQ.blk 2 (pc' := 4) (lv' := [(1, .int (nI l)), (0, .ref 1)]) (st' := [.int 3, .int (nI l)]) (H' := _) (kc' := 0) (ks' := 0) rfl ?_
    refine RQ.brT rfl rfl rfl (cT_gt l 3) ?_
    refine RQ.blk 1 (pc' := 61) (lv' := [(1, .int (nI l)), (0, .ref 1)]) (st' := [.ref 1]) (H' := _) (kc' := 0) (ks' := 0) rfl ?_
    refine RQ.get (ci := 11) rfl hv rfl rfl ?_
    refine RQ.get (ci := 3) rfl hY.1 rfl rfl ?_
    refine RQ.blk 1 (pc' := 68) (lv' := [(1, .int (nI l)), (0, .ref 1)]) (st' := [.int 1, .int (nI m.length)]) (H' := _) (kc' := 0) (ks' := 0) rfl ?_
    by_cases k1 : m.length ≤ 1
    · refine RQ.brT rfl rfl rfl (cT_le m.length 1) ?_
      exact RQ.done (c := 0) (s := 0) rfl rfl rfl rfl (Or.inl ⟨_, rfl, m, m, hK, Or.inr ⟨by omega, rfl⟩, hIm⟩)
    · refine RQ.brF rfl rfl rfl (cF_le m.length 1) ?_
      refine RQ.blk 1 (pc' := 72) (lv' := [(1, .int (nI l)), (0, .ref 1)]) (st' := [.ref 1]) (H' := _) (kc' := 0) (ks' := 0) rfl ?_
      refine RQ.get (ci := 11) rfl hv rfl rfl ?_
      refine RQ.call (v := some (.int (nI ((m.map (fun x => x.2.2.2.length)).sum)))) (st' := []) rfl rfl rfl rfl rfl rfl (args_v [] [] rfl rfl (Nat.le_of_ble_eq_true rfl) rfl hY.1 (Nat.le_of_ble_eq_true rfl)) (rc_tableBlocks hL hB) ?_
      refine RQ.blk 1 (pc' := 79) (lv' := [(1, .int (nI l)), (0, .ref 1)]) (st' := [.ref 1, .int (nI ((m.map (fun x => x.2.2.2.length)).sum))]) (H' := _) (kc' := 0) (ks' := 0) rfl ?_
      refine RQ.get (ci := 11) rfl hv rfl rfl ?_
      refine RQ.blk 2 (pc' := 84) (lv' := [(1, .int (nI l)), (0, .ref 1)]) (st' := [.int (nI B / 4), .int (nI ((m.map (fun x => x.2.2.2.length)).sum))]) (H' := _) (kc' := 0) (ks' := 0) rfl ?_
      rw [show (nI B / 4 : Int32) = nI (B / 4) from pk_div (a := B) (d := 4) (by omega) (by omega) (by omega)]
      by_cases k2 : B / 4 < (m.map (fun x => x.2.2.2.length)).sum
      · refine RQ.brT rfl rfl rfl (cT_gt (m.map (fun x => x.2.2.2.length)).sum (B / 4)) ?_
        refine RQ.blk 1 (pc' := 105) (lv' := [(1, .int (nI l)), (0, .ref 1)]) (st' := [.ref 1]) (H' := _) (kc' := 0) (ks' := 0) rfl ?_
        refine RQ.get (ci := 11) rfl hv rfl rfl ?_
        refine RQ.blk 2 (pc' := 110) (lv' := [(1, .int (nI l)), (0, .ref 1)]) (st' := [.ref 1, .int 0, .ref 137]) (H' := _) (kc' := 0) (ks' := 0) rfl ?_
        refine RQ.get (ci := 11) rfl hv rfl rfl ?_
        refine RQ.get (ci := 3) rfl hY.1 rfl rfl ?_
        refine RQ.blk 2 (pc' := 118) (lv' := [(1, .int (nI l)), (0, .ref 1)]) (st' := [.ref 1, .int 3, .int (nI m.length), .int 0, .ref 137]) (H' := _) (kc' := 0) (ks' := 0) rfl ?_
        refine RQ.get (ci := 11) rfl hv rfl rfl ?_
        refine RQ.callT (st' := []) rfl rfl rfl rfl rfl rfl (args_v [.int (nI P), .int 3, .int (nI m.length), .int 0] [] rfl rfl (Nat.le_of_ble_eq_true rfl) rfl ht (Nat.le_of_ble_eq_true rfl)) (hm m H2 0 m.length 3 hIm (by omega) (Nat.le_refl _) (by decide)) rfl (fun H5 hx5 => ?_) (fun H9 hbad => Or.inr ⟨_, rfl, hbad⟩)
        obtain ⟨rs', hM, hI5⟩ := hx5
        exact RQ.done (c := 0) (s := 0) rfl rfl rfl rfl (Or.inl ⟨_, rfl, m, rs', hK, Or.inl ⟨by omega, hM⟩, hI5⟩)
      · refine RQ.brF rfl rfl rfl (cF_gt (m.map (fun x => x.2.2.2.length)).sum (B / 4)) ?_
        refine RQ.blk 1 (pc' := 88) (lv' := [(1, .int (nI l)), (0, .ref 1)]) (st' := [.ref 1]) (H' := _) (kc' := 0) (ks' := 0) rfl ?_
        refine RQ.get (ci := 11) rfl hv rfl rfl ?_
        refine RQ.call (v := some (.int (nI ((m.map (fun x => x.2.2.1)).sum)))) (st' := []) rfl rfl rfl rfl rfl rfl (args_v [] [] rfl rfl (Nat.le_of_ble_eq_true rfl) rfl hY.1 (Nat.le_of_ble_eq_true rfl)) (rc_tableEntries hL hB) ?_
        refine RQ.blk 1 (pc' := 95) (lv' := [(1, .int (nI l)), (0, .ref 1)]) (st' := [.ref 1, .int (nI ((m.map (fun x => x.2.2.1)).sum))]) (H' := _) (kc' := 0) (ks' := 0) rfl ?_
        refine RQ.get (ci := 11) rfl hv rfl rfl ?_
        refine RQ.blk 2 (pc' := 101) (lv' := [(1, .int (nI l)), (0, .ref 1)]) (st' := [.int (nI B * 14), .int (nI ((m.map (fun x => x.2.2.1)).sum))]) (H' := _) (kc' := 0) (ks' := 0) rfl ?_
        rw [show (nI B * 14 : Int32) = nI (B * 14) from pk_mul B 14]
        by_cases k3 : B * 14 < (m.map (fun x => x.2.2.1)).sum
        · refine RQ.brF rfl rfl rfl (cF_le (m.map (fun x => x.2.2.1)).sum (B * 14)) ?_
          refine RQ.blk 1 (pc' := 105) (lv' := [(1, .int (nI l)), (0, .ref 1)]) (st' := [.ref 1]) (H' := _) (kc' := 0) (ks' := 0) rfl ?_
          refine RQ.get (ci := 11) rfl hv rfl rfl ?_
          refine RQ.blk 2 (pc' := 110) (lv' := [(1, .int (nI l)), (0, .ref 1)]) (st' := [.ref 1, .int 0, .ref 137]) (H' := _) (kc' := 0) (ks' := 0) rfl ?_
          refine RQ.get (ci := 11) rfl hv rfl rfl ?_
          refine RQ.get (ci := 3) rfl hY.1 rfl rfl ?_
          refine RQ.blk 2 (pc' := 118) (lv' := [(1, .int (nI l)), (0, .ref 1)]) (st' := [.ref 1, .int 3, .int (nI m.length), .int 0, .ref 137]) (H' := _) (kc' := 0) (ks' := 0) rfl ?_
          refine RQ.get (ci := 11) rfl hv rfl rfl ?_
          refine RQ.callT (st' := []) rfl rfl rfl rfl rfl rfl (args_v [.int (nI P), .int 3, .int (nI m.length), .int 0] [] rfl rfl (Nat.le_of_ble_eq_true rfl) rfl ht (Nat.le_of_ble_eq_true rfl)) (hm m H2 0 m.length 3 hIm (by omega) (Nat.le_refl _) (by decide)) rfl (fun H5 hx5 => ?_) (fun H9 hbad => Or.inr ⟨_, rfl, hbad⟩)
          obtain ⟨rs', hM, hI5⟩ := hx5
          exact RQ.done (c := 0) (s := 0) rfl rfl rfl rfl (Or.inl ⟨_, rfl, m, rs', hK, Or.inl ⟨by omega, hM⟩, hI5⟩)
        · refine RQ.brT rfl rfl rfl (cT_le (m.map (fun x => x.2.2.1)).sum (B * 14)) ?_
          exact RQ.done (c := 0) (s := 0) rfl rfl rfl rfl (Or.inl ⟨_, rfl, m, m, hK, Or.inr ⟨by omega, rfl⟩, hIm⟩)
theorem re_mergeStep {sc : Nat × (Nat → Int32)} {d : Nat} {I : List aR → aH → Prop} {bad : aH → Prop} {B P : Nat} {up cw cl cp cb : Int32} {m : List aR} {H2 : aH} (hI : TabI I B P up cw cl cp cb) (hB : B ≤ 128) (hm : ∀ m H f en lev, I m H → f + 2 ≤ en → en ≤ m.length → lev ≤ 3 → RE sc (d + 4) mr_120 [.ref 137, .int (nI f), .int (nI en), .int (nI lev), .int (nI P)] H (fun H' => ∃ rs', Mg m f en lev rs' ∧ I rs' H') bad) (hlv3 : ∀ x ∈ m, x.1 ≤ 3) (hIm : I m H2) : RE sc (d + 5) mr_171 [.ref 137, .int (nI P)] H2 (fun H' => (∃ l f en lev rs', l ≤ 3 ∧ (f = twL m l ∧ en = twL m (l + 1) ∧ lev = min (l + 1) 3 ∧ ∀ j, j < l → twL m (j + 1) - twL m j < 2) ∧ f + 2 ≤ en ∧ Mg m f en lev rs' ∧ I rs' H') ∨ (∀ j, j < 4 → twL m (j + 1) - twL m j < 2) ∧ ((∃ y rs', m[1]? = some y ∧ Mg m 0 2 y.1 rs' ∧ I rs' H') ∨ m.length < 2 ∧ H' = H2)) bad := by
  obtain ⟨⟨lgs, fr, ff, wr, tp, ms, mt, sq, tu, us, hL⟩, hlv, hv, ⟨lm, bf, gm, ht⟩, hs1, hs2⟩ := hI _ _ hIm
  obtain ⟨lg, pi, hY, hlg, hlc, ⟨Q, hQ, hQ2⟩, hpi, hinj, hrun, hall, hrl⟩ := id hL
  refine RE.of ?_
  refine RQ.blk 2 (pc' := 2) (lv' := [(2, .int 0), (0, .ref 137), (1, .int (nI P))]) (st' := []) (H' := _) (kc' := 0) (ks' := 0) rfl ?_
  refine RQ.while (S := Nat) (pc := 2) (fun l H' => l ≤ 4 ∧ (∀ j, j < l → twL m (j + 1) - twL m j < 2) ∧ H' = H2) (fun l => [(2, .int (nI l)), (0, .ref 137), (1, .int (nI P))]) (fun l => 4 - l) ?_ 0 H2 ⟨Nat.zero_le _, fun j hj => absurd hj (Nat.not_lt_zero j), rfl⟩
  rintro l H3 ⟨hl4, hK, eH⟩ ih
  rw [eH]
  by_cases hl : l < 4
  ·
    have h1 := twL_le (rs := m) (l := l)
    have h2 := twL_le (rs := m) (l := l + 1)
    have h3 := twL_mono (l := l) (rs := m)
    have hml := hrl
    refine RQ.blk 2 (pc' := 4) (lv' := [(2, .int (nI l)), (0, .ref 137), (1, .int (nI P))]) (st' := [.int 3, .int (nI l)]) (H' := _) (kc' := 0) (ks' := 0) rfl ?_
    refine RQ.brF rfl rfl rfl (cF_gt l 3) ?_
    refine RQ.blk 1 (pc' := 8) (lv' := [(2, .int (nI l)), (0, .ref 137), (1, .int (nI P))]) (st' := [.ref 137]) (H' := _) (kc' := 0) (ks' := 0) rfl ?_
    refine RQ.get (ci := 8) rfl ht rfl rfl ?_
    refine RQ.blk 1 (pc' := 12) (lv' := [(2, .int (nI l)), (0, .ref 137), (1, .int (nI P))]) (st' := [.int (nI l), .ref 84]) (H' := _) (kc' := 0) (ks' := 0) rfl ?_
    refine RQ.call (v := some (.int (nI (twL m l)))) (st' := []) rfl rfl rfl rfl rfl rfl (args_v [.int (nI l)] [] rfl rfl (Nat.le_of_ble_eq_true rfl) rfl hY.1 (Nat.le_of_ble_eq_true rfl)) (rc_firstRun (l := l) hL hB (by omega) hlv) ?_
    refine RQ.blk 2 (pc' := 17) (lv' := [(3, .int (nI (twL m l))), (2, .int (nI l)), (0, .ref 137), (1, .int (nI P))]) (st' := [.ref 137]) (H' := _) (kc' := 0) (ks' := 0) rfl ?_
    refine RQ.get (ci := 8) rfl ht rfl rfl ?_
    refine RQ.blk 3 (pc' := 23) (lv' := [(3, .int (nI (twL m l))), (2, .int (nI l)), (0, .ref 137), (1, .int (nI P))]) (st' := [.int (nI l + 1), .ref 84]) (H' := _) (kc' := 0) (ks' := 0) rfl ?_
    rw [show (nI l + 1 : Int32) = nI (l + 1) from nI_add l 1]
    refine RQ.call (v := some (.int (nI (twL m (l + 1))))) (st' := []) rfl rfl rfl rfl rfl rfl (args_v [.int (nI (l + 1))] [] rfl rfl (Nat.le_of_ble_eq_true rfl) rfl hY.1 (Nat.le_of_ble_eq_true rfl)) (rc_firstRun (l := l + 1) hL hB (by omega) hlv) ?_
    refine RQ.blk 4 (pc' := 32) (lv' := [(4, .int (nI (twL m (l + 1)))), (3, .int (nI (twL m l))), (2, .int (nI l)), (0, .ref 137), (1, .int (nI P))]) (st' := [.int (nI (twL m (l + 1)) - nI (twL m l))]) (H' := _) (kc' := 0) (ks' := 0) rfl ?_
    rw [show (nI (twL m (l + 1)) - nI (twL m l) : Int32) = nI ((twL m (l + 1)) - (twL m l)) from pk_sub (a := (twL m (l + 1))) (b := (twL m l)) (by omega)]
    refine RQ.blk 1 (pc' := 33) (lv' := [(4, .int (nI (twL m (l + 1)))), (3, .int (nI (twL m l))), (2, .int (nI l)), (0, .ref 137), (1, .int (nI P))]) (st' := [.int 2, .int (nI ((twL m (l + 1)) - (twL m l)))]) (H' := _) (kc' := 0) (ks' := 0) rfl ?_
    by_cases h4 : twL m (l + 1) - twL m l < 2
    · refine RQ.brT rfl rfl rfl (cT_lt (twL m (l + 1) - twL m l) 2) ?_
      refine RQ.blk 1 (pc' := 55) (lv' := [(2, .int (nI l + 1)), (4, .int (nI (twL m (l + 1)))), (3, .int (nI (twL m l))), (0, .ref 137), (1, .int (nI P))]) (st' := []) (H' := _) (kc' := 0) (ks' := 0) rfl ?_
      rw [show (nI l + 1 : Int32) = nI (l + 1) from nI_add l 1]
      refine RQ.blk 1 (pc' := 2) (lv' := [(2, .int (nI (l + 1))), (4, .int (nI (twL m (l + 1)))), (3, .int (nI (twL m l))), (0, .ref 137), (1, .int (nI P))]) (st' := []) (H' := _) (kc' := 0) (ks' := 0) rfl ?_
      refine RQ.pick (a := [(2, .int (nI (l + 1))), (0, .ref 137), (1, .int (nI P))]) [0, 3, 4] [2, 4, 3, 0, 1] rfl rfl (by decide) ?_
      exact ih (l + 1) _ ⟨by omega, fun j hj => (Nat.lt_succ_iff_lt_or_eq.mp hj).elim (hK j) (fun e => by rw [e]; exact h4), rfl⟩ (by omega)
    · refine RQ.brF rfl rfl rfl (cF_lt (twL m (l + 1) - twL m l) 2) ?_
      refine RQ.blk 6 (pc' := 43) (lv' := [(4, .int (nI (twL m (l + 1)))), (3, .int (nI (twL m l))), (2, .int (nI l)), (0, .ref 137), (1, .int (nI P))]) (st' := [.int (nI l + 1), .int (nI (twL m (l + 1))), .int (nI (twL m l)), .ref 137]) (H' := _) (kc' := 0) (ks' := 0) rfl ?_
      rw [show (nI l + 1 : Int32) = nI (l + 1) from nI_add l 1]
      refine RQ.blk 2 (pc' := 47) (lv' := [(4, .int (nI (twL m (l + 1)))), (3, .int (nI (twL m l))), (2, .int (nI l)), (0, .ref 137), (1, .int (nI P))]) (st' := [.int (if 3 < nI (l + 1) then 3 else nI (l + 1)), .int (nI (twL m (l + 1))), .int (nI (twL m l)), .ref 137]) (H' := _) (kc' := 0) (ks' := 0) rfl ?_
      rw [show (if 3 < nI (l + 1) then 3 else nI (l + 1) : Int32) = nI (min (l + 1) 3) from minI (a := (l + 1)) (b := 3) (by omega) (by omega)]
      refine RQ.blk 1 (pc' := 48) (lv' := [(4, .int (nI (twL m (l + 1)))), (3, .int (nI (twL m l))), (2, .int (nI l)), (0, .ref 137), (1, .int (nI P))]) (st' := [.int (nI P), .int (nI (min (l + 1) 3)), .int (nI (twL m (l + 1))), .int (nI (twL m l)), .ref 137]) (H' := _) (kc' := 0) (ks' := 0) rfl ?_
      refine RQ.callT (st' := []) rfl rfl rfl rfl rfl rfl (args_v [.int (nI P), .int (nI (min (l + 1) 3)), .int (nI (twL m (l + 1))), .int (nI (twL m l))] [] rfl rfl (Nat.le_of_ble_eq_true rfl) rfl ht (Nat.le_of_ble_eq_true rfl)) (hm m H2 (twL m l) (twL m (l + 1)) (min (l + 1) 3) hIm (by omega) h2 (by omega)) rfl (fun H5 hx5 => ?_) (fun H9 hbad => Or.inr ⟨_, rfl, hbad⟩)
      obtain ⟨rs', hM, hI5⟩ := hx5
      exact RQ.done (c := 0) (s := 0) rfl rfl rfl rfl (Or.inl ⟨_, rfl, Or.inl ⟨l, _, _, _, rs', by omega, ⟨rfl, rfl, rfl, hK⟩, by omega, hM, hI5⟩⟩)
  ·
    have el : l = 4 := by omega
    rw [el] at hK
    refine RQ.blk 2 (pc' := 4) (lv' := [(2, .int (nI l)), (0, .ref 137), (1, .int (nI P))]) (st' := [.int 3, .int (nI l)]) (H' := _) (kc' := 0) (ks' := 0) rfl ?_
    refine RQ.brT rfl rfl rfl (cT_gt l 3) ?_
    refine RQ.blk 1 (pc' := 59) (lv' := [(2, .int (nI l)), (0, .ref 137), (1, .int (nI P))]) (st' := [.ref 137]) (H' := _) (kc' := 0) (ks' := 0) rfl ?_
    refine RQ.get (ci := 8) rfl ht rfl rfl ?_
    refine RQ.get (ci := 3) rfl hY.1 rfl rfl ?_
    refine RQ.blk 1 (pc' := 66) (lv' := [(2, .int (nI l)), (0, .ref 137), (1, .int (nI P))]) (st' := [.int 2, .int (nI m.length)]) (H' := _) (kc' := 0) (ks' := 0) rfl ?_
    by_cases k1 : m.length < 2
    · refine RQ.brT rfl rfl rfl (cT_lt m.length 2) ?_
      exact RQ.done (c := 0) (s := 0) rfl rfl rfl rfl (Or.inl ⟨_, rfl, Or.inr ⟨hK, Or.inr ⟨k1, rfl⟩⟩⟩)
    · obtain ⟨y, hy⟩ := lt_get (show 1 < m.length by omega)
      obtain ⟨yf, rk1, rk2, rk3, rk4⟩ := hrun 1 y hy
      have hy3 := hlv3 y (List.mem_of_getElem? hy)
      refine RQ.brF rfl rfl rfl (cF_lt m.length 2) ?_
      refine RQ.blk 4 (pc' := 73) (lv' := [(2, .int (nI l)), (0, .ref 137), (1, .int (nI P))]) (st' := [.ref 137, .int 2, .int 0, .ref 137]) (H' := _) (kc' := 0) (ks' := 0) rfl ?_
      refine RQ.get (ci := 8) rfl ht rfl rfl ?_
      refine RQ.get (ci := 3) rfl hY.1 rfl rfl ?_
      refine RQ.blk 1 (pc' := 80) (lv' := [(2, .int (nI l)), (0, .ref 137), (1, .int (nI P))]) (st' := [.int 1, .ref 85, .int 2, .int 0, .ref 137]) (H' := _) (kc' := 0) (ks' := 0) rfl ?_
      refine RQ.aaldN (j := 1) rfl hQ (by omega) (by decide) (by decide) (hQ2 1 (by decide)) ?_
      refine RQ.get (ci := 6) rfl rk1 rfl rfl ?_
      refine RQ.blk 1 (pc' := 85) (lv' := [(2, .int (nI l)), (0, .ref 137), (1, .int (nI P))]) (st' := [.int (nI P), .int (nI y.1), .int 2, .int 0, .ref 137]) (H' := _) (kc' := 0) (ks' := 0) rfl ?_
      refine RQ.callT (st' := []) rfl rfl rfl rfl rfl rfl (args_v [.int (nI P), .int (nI y.1), .int 2, .int 0] [] rfl rfl (Nat.le_of_ble_eq_true rfl) rfl ht (Nat.le_of_ble_eq_true rfl)) (hm m H2 0 2 y.1 hIm (by decide) (by omega) hy3) rfl (fun H5 hx5 => ?_) (fun H9 hbad => Or.inr ⟨_, rfl, hbad⟩)
      obtain ⟨rs', hM, hI5⟩ := hx5
      exact RQ.done (c := 0) (s := 0) rfl rfl rfl rfl (Or.inl ⟨_, rfl, Or.inr ⟨hK, Or.inl ⟨y, rs', hy, hM, hI5⟩⟩⟩)
