/-! ===== the first stored key with a value that the writes do not speak of; class; written by wip/gen/firsts.py ===== -/
theorem cmpL_head {a b : List Nat} (ha : 1 ≤ a.length) (hb : 1 ≤ b.length) (h : cmpL a b < 0 ∨ a = b) (h0 : ¬ a.headD 0 = 0) : ¬ b.headD 0 = 0 := by
  cases a with
  | nil => exact absurd ha (by decide)
  | cons x xs =>
    cases b with
    | nil => exact absurd hb (by decide)
    | cons y ys =>
      have h0 : ¬ x = 0 := h0
      show ¬ y = 0
      intro e
      rcases h with h | h
      · rw [cmpL] at h
        split at h
        · omega
        · omega
      · have := (List.cons.inj h).1
        omega
/-- whether the stored key at a position may be the answer -/
def okS (kf : Nat → Int8) (kl mo : Nat → Nat) (le : Nat → Option Nat) (od : Nat → Nat) (sz m : Nat) (ws : List aE) (p : Nat) : Prop := (p < sz ∧ mo (od p) ≤ m ∧ ((p = 0 ∨ ¬ sl kf (od (p - 1) * 41) (kl (od (p - 1))) = sl kf (od p * 41) (kl (od p))) ∨ m < mo (od (p - 1)))) ∧ ¬ le (od p) = none ∧ ∀ e ∈ ws, ¬ e.1 = sl kf (od p * 41) (kl (od p))
theorem ri_firstS0 {sc : Nat × (Nat → Int32)} {d m mm b u k q0 : Nat} {H : aH} {N : Nat} {kf : Nat → Int8} {kl mo pl : Nat → Nat} {le : Nat → Option Nat} {al : Nat → Bool} {od sp : Nat → Nat} {sz ss ac : Nat} {bl pr up cw cl cp cb : Int32} {D : Nat → Int8} {S K : Nat → Nat} {E : Nat → Option Nat} {ws : List aE} {g : Nat → Int8} (h0 : H[0]? = some (kO 11 (fvs bl pr up cw cl cp cb))) (h5 : H[5]? = some (kO 5 [.ref 7, .int (nI m)])) (h6 : H[6]? = some (kB 41 g)) (hm41 : m ≤ 41) (hA : VersAt H N kf kl mo pl le al od sp sz ss ac) (hW : VersWf N kf kl mo pl le al od sp sz ss ac) (hb : BatchAt H b D S K E ws.length u) (hbk : BatchOk S K E ws.length u) (hL : LayE D 0 S K E ws) (hc : cutAt kf kl mo od sz (sl g 0 m) 2147483647 k) (hmm : mm < 2 ^ 31) : RI sc (d + 4) mr_70 [.ref 1, .ref (b + 1), .int (nI mm), .int 0] H (fun x H' => (H' = H ∧ ((∃ p, k ≤ p ∧ p < sz ∧ x = nI (od p) ∧ ub (kf (od p * 41)) = 0 ∧ okS kf kl mo le od sz mm ws p ∧ ∀ q, k ≤ q → q < p → ¬ okS kf kl mo le od sz mm ws q) ∨ (x = -1 ∧ ∀ q, k ≤ q → q < sz → ub (kf (od q * 41)) = 0 → ¬ okS kf kl mo le od sz mm ws q)))) := by
  have hN := hW.1.1
  have hszN := hW.1.2.1
  have hsrt := hW.2.2.2.2.2.2.2.2
  refine RI.of ?_
  refine RQ.blk 1 (pc' := 1) (lv' := [(0, .ref 1), (1, .ref (b + 1)), (2, .int (nI mm)), (3, .int 0)]) (st' := [.ref 1]) (H' := _) (kc' := 0) (ks' := 0) rfl ?_
  refine RQ.get (ci := 11) rfl h0 rfl rfl ?_
  refine RQ.blk 1 (pc' := 5) (lv' := [(0, .ref 1), (1, .ref (b + 1)), (2, .int (nI mm)), (3, .int 0)]) (st' := [.ref 1, .ref 75]) (H' := _) (kc' := 0) (ks' := 0) rfl ?_
  refine RQ.get (ci := 11) rfl h0 rfl rfl ?_
  refine RQ.get (ci := 5) rfl h5 rfl rfl ?_
  refine RQ.blk 2 (pc' := 13) (lv' := [(0, .ref 1), (1, .ref (b + 1)), (2, .int (nI mm)), (3, .int 0)]) (st' := [.ref 1, .int 0, .ref 7, .ref 75]) (H' := _) (kc' := 0) (ks' := 0) rfl ?_
  refine RQ.get (ci := 11) rfl h0 rfl rfl ?_
  refine RQ.get (ci := 5) rfl h5 rfl rfl ?_
  refine RQ.blk 1 (pc' := 20) (lv' := [(0, .ref 1), (1, .ref (b + 1)), (2, .int (nI mm)), (3, .int 0)]) (st' := [.int 0, .int (nI m), .int 0, .ref 7, .ref 75]) (H' := _) (kc' := 0) (ks' := 0) rfl ?_
  refine RQ.brT rfl rfl rfl (by decide) ?_
  refine RQ.blk 1 (pc' := 30) (lv' := [(0, .ref 1), (1, .ref (b + 1)), (2, .int (nI mm)), (3, .int 0)]) (st' := [.int 2147483647, .int (nI m), .int 0, .ref 7, .ref 75]) (H' := _) (kc' := 0) (ks' := 0) rfl ?_
  refine RQ.call (v := some (.int (nI k))) (st' := []) rfl rfl rfl rfl rfl rfl (args_v [.int 2147483647, .int (nI m), .int 0, .ref 7] [] rfl rfl (Nat.le_of_ble_eq_true rfl) rfl hA.1 (Nat.le_of_ble_eq_true rfl)) (rc_from (j := 0) (m := m) (k := k) hA hW.1 h6 (by decide) (by omega) hc) ?_
  refine RQ.blk 3 (pc' := 39) (lv' := [(5, .int (nI k)), (4, .int (nI k)), (0, .ref 1), (1, .ref (b + 1)), (2, .int (nI mm)), (3, .int 0)]) (st' := []) (H' := _) (kc' := 0) (ks' := 0) rfl ?_
  refine RQ.pick (a := [(5, .int (nI k)), (0, .ref 1), (1, .ref (b + 1)), (2, .int (nI mm)), (3, .int 0), (4, .int (nI k))]) [0, 2, 3, 4, 5, 1] [5, 4, 0, 1, 2, 3] rfl rfl (by decide) ?_
  have hkz := hc.1
  refine RQ.while (S := Nat) (pc := 39) (fun p H' => k ≤ p ∧ p ≤ sz ∧ H' = H ∧ ∀ q, k ≤ q → q < p → ¬ okS kf kl mo le od sz mm ws q) (fun p => [(5, .int (nI p)), (0, .ref 1), (1, .ref (b + 1)), (2, .int (nI mm)), (3, .int 0), (4, .int (nI k))]) (fun p => sz - p) ?_ k H ⟨Nat.le_refl _, hkz, rfl, fun q q1 q2 => absurd q1 (by omega)⟩
  rintro p H1 ⟨hkp, hp, eH, hno⟩ ih
  rw [show H1 = H from eH]
  by_cases hps : p < sz
  ·
    have hod := hW.1.2.2.2.1 p hps
    have hso := hW.1.2.2.2.2.2 _ hod
    have hklp := hW.2.2.2.2.2.2.2.1 p hps
    refine RQ.blk 2 (pc' := 42) (lv' := [(5, .int (nI p)), (0, .ref 1), (1, .ref (b + 1)), (2, .int (nI mm)), (3, .int 0), (4, .int (nI k))]) (st' := [.ref 1, .int (nI p)]) (H' := _) (kc' := 0) (ks' := 0) rfl ?_
    refine RQ.get (ci := 11) rfl h0 rfl rfl ?_
    refine RQ.get (ci := 10) rfl hA.1 rfl rfl ?_
    refine RQ.brF rfl rfl rfl (cF_ge p sz) ?_
    refine RQ.blk 1 (pc' := 52) (lv' := [(5, .int (nI p)), (0, .ref 1), (1, .ref (b + 1)), (2, .int (nI mm)), (3, .int 0), (4, .int (nI k))]) (st' := [.ref 1]) (H' := _) (kc' := 0) (ks' := 0) rfl ?_
    refine RQ.get (ci := 11) rfl h0 rfl rfl ?_
    refine RQ.get (ci := 10) rfl hA.1 rfl rfl ?_
    refine RQ.blk 1 (pc' := 60) (lv' := [(5, .int (nI p)), (0, .ref 1), (1, .ref (b + 1)), (2, .int (nI mm)), (3, .int 0), (4, .int (nI k))]) (st' := [.int (nI p), .ref 82]) (H' := _) (kc' := 0) (ks' := 0) rfl ?_
    refine RQ.ialdN (j := p) rfl hA.2.2.2.2.2.2.2.1 (by omega) (by omega) ?_
    refine RQ.blk 2 (pc' := 64) (lv' := [(6, .int (nI (od p))), (5, .int (nI p)), (0, .ref 1), (1, .ref (b + 1)), (2, .int (nI mm)), (3, .int 0), (4, .int (nI k))]) (st' := [.ref 1]) (H' := _) (kc' := 0) (ks' := 0) rfl ?_
    refine RQ.get (ci := 11) rfl h0 rfl rfl ?_
    refine RQ.blk 1 (pc' := 69) (lv' := [(6, .int (nI (od p))), (5, .int (nI p)), (0, .ref 1), (1, .ref (b + 1)), (2, .int (nI mm)), (3, .int 0), (4, .int (nI k))]) (st' := [.int (nI (od p)), .ref 75]) (H' := _) (kc' := 0) (ks' := 0) rfl ?_
    by_cases hu : ub (kf (od p * 41)) = 0
    · refine RQ.call (v := some (.int 1)) (st' := []) rfl rfl rfl rfl rfl rfl (args_v [.int (nI (od p))] [] rfl rfl (Nat.le_of_ble_eq_true rfl) rfl hA.1 (Nat.le_of_ble_eq_true rfl)) (rc_isUserT hA hW.1 hod hu) ?_
      refine RQ.brT rfl rfl rfl (by decide) ?_
      refine RQ.blk 1 (pc' := 78) (lv' := [(6, .int (nI (od p))), (5, .int (nI p)), (0, .ref 1), (1, .ref (b + 1)), (2, .int (nI mm)), (3, .int 0), (4, .int (nI k))]) (st' := [.ref 1]) (H' := _) (kc' := 0) (ks' := 0) rfl ?_
      refine RQ.get (ci := 11) rfl h0 rfl rfl ?_
      refine RQ.blk 2 (pc' := 84) (lv' := [(6, .int (nI (od p))), (5, .int (nI p)), (0, .ref 1), (1, .ref (b + 1)), (2, .int (nI mm)), (3, .int 0), (4, .int (nI k))]) (st' := [.int (nI mm), .int (nI p), .ref 75]) (H' := _) (kc' := 0) (ks' := 0) rfl ?_
      refine RQ.call (v := some (.int (if p < sz ∧ mo (od p) ≤ mm ∧ ((p = 0 ∨ ¬ sl kf (od (p - 1) * 41) (kl (od (p - 1))) = sl kf (od p * 41) (kl (od p))) ∨ mm < mo (od (p - 1))) then 1 else 0))) (st' := []) rfl rfl rfl rfl rfl rfl (args_v [.int (nI mm), .int (nI p)] [] rfl rfl (Nat.le_of_ble_eq_true rfl) rfl hA.1 (Nat.le_of_ble_eq_true rfl)) (rc_isSeen (p := p) (m := mm) hA hW.1 (by omega) hmm) ?_
      by_cases hsn : p < sz ∧ mo (od p) ≤ mm ∧ ((p = 0 ∨ ¬ sl kf (od (p - 1) * 41) (kl (od (p - 1))) = sl kf (od p * 41) (kl (od p))) ∨ mm < mo (od (p - 1)))
      · rw [if_pos hsn]
        refine RQ.brF rfl rfl rfl (by decide) ?_
        refine RQ.blk 1 (pc' := 91) (lv' := [(6, .int (nI (od p))), (5, .int (nI p)), (0, .ref 1), (1, .ref (b + 1)), (2, .int (nI mm)), (3, .int 0), (4, .int (nI k))]) (st' := [.ref 1]) (H' := _) (kc' := 0) (ks' := 0) rfl ?_
        refine RQ.get (ci := 11) rfl h0 rfl rfl ?_
        refine RQ.get (ci := 10) rfl hA.1 rfl rfl ?_
        refine RQ.blk 1 (pc' := 99) (lv' := [(6, .int (nI (od p))), (5, .int (nI p)), (0, .ref 1), (1, .ref (b + 1)), (2, .int (nI mm)), (3, .int 0), (4, .int (nI k))]) (st' := [.int (nI (od p)), .ref 80]) (H' := _) (kc' := 0) (ks' := 0) rfl ?_
        refine RQ.ialdN (j := od p) rfl hA.2.2.2.2.2.1 (by omega) (by omega) ?_
        by_cases hE : le (od p) = none
        · refine RQ.brT rfl rfl rfl (decide_eq_true ((lI_neg (by omega)).mpr hE)) ?_
          refine RQ.blk 1 (pc' := 138) (lv' := [(5, .int (nI p + 1)), (6, .int (nI (od p))), (0, .ref 1), (1, .ref (b + 1)), (2, .int (nI mm)), (3, .int 0), (4, .int (nI k))]) (st' := []) (H' := _) (kc' := 0) (ks' := 0) rfl ?_
          rw [show (nI p + 1 : Int32) = nI (p + 1) from nI_add p 1]
          refine RQ.blk 1 (pc' := 39) (lv' := [(5, .int (nI (p + 1))), (6, .int (nI (od p))), (0, .ref 1), (1, .ref (b + 1)), (2, .int (nI mm)), (3, .int 0), (4, .int (nI k))]) (st' := []) (H' := _) (kc' := 0) (ks' := 0) rfl ?_
          refine RQ.pick (a := [(5, .int (nI (p + 1))), (0, .ref 1), (1, .ref (b + 1)), (2, .int (nI mm)), (3, .int 0), (4, .int (nI k))]) [0, 2, 3, 4, 5, 6] [5, 6, 0, 1, 2, 3, 4] rfl rfl (by decide) ?_
          exact ih (p + 1) _ ⟨by omega, by omega, rfl, fun q q1 q2 => by by_cases hqp : q = p; rw [hqp]; exact (fun h => h.2.1 hE); exact hno q q1 (by omega)⟩ (by omega)
        · refine RQ.brF rfl rfl rfl (decide_eq_false (fun e => hE ((lI_neg (by omega)).mp e))) ?_
          refine RQ.blk 2 (pc' := 105) (lv' := [(6, .int (nI (od p))), (5, .int (nI p)), (0, .ref 1), (1, .ref (b + 1)), (2, .int (nI mm)), (3, .int 0), (4, .int (nI k))]) (st' := [.ref 1, .ref (b + 1)]) (H' := _) (kc' := 0) (ks' := 0) rfl ?_
          refine RQ.get (ci := 11) rfl h0 rfl rfl ?_
          refine RQ.get (ci := 10) rfl hA.1 rfl rfl ?_
          refine RQ.blk 3 (pc' := 116) (lv' := [(6, .int (nI (od p))), (5, .int (nI p)), (0, .ref 1), (1, .ref (b + 1)), (2, .int (nI mm)), (3, .int 0), (4, .int (nI k))]) (st' := [.int (nI (od p) * 41), .ref 76, .ref (b + 1)]) (H' := _) (kc' := 0) (ks' := 0) rfl ?_
          rw [show (nI (od p) * 41 : Int32) = nI ((od p) * 41) from pk_mul (od p) 41]
          refine RQ.blk 1 (pc' := 117) (lv' := [(6, .int (nI (od p))), (5, .int (nI p)), (0, .ref 1), (1, .ref (b + 1)), (2, .int (nI mm)), (3, .int 0), (4, .int (nI k))]) (st' := [.ref 1, .int (nI ((od p) * 41)), .ref 76, .ref (b + 1)]) (H' := _) (kc' := 0) (ks' := 0) rfl ?_
          refine RQ.get (ci := 11) rfl h0 rfl rfl ?_
          refine RQ.get (ci := 10) rfl hA.1 rfl rfl ?_
          refine RQ.blk 1 (pc' := 125) (lv' := [(6, .int (nI (od p))), (5, .int (nI p)), (0, .ref 1), (1, .ref (b + 1)), (2, .int (nI mm)), (3, .int 0), (4, .int (nI k))]) (st' := [.int (nI (od p)), .ref 77, .int (nI ((od p) * 41)), .ref 76, .ref (b + 1)]) (H' := _) (kc' := 0) (ks' := 0) rfl ?_
          refine RQ.ialdN (j := od p) rfl hA.2.2.1 (by omega) (by omega) ?_
          refine RQ.callI (st' := []) rfl rfl rfl rfl rfl rfl (args_v [.int (nI (kl (od p))), .int (nI ((od p) * 41)), .ref 76] [] rfl rfl (Nat.le_of_ble_eq_true rfl) rfl hb.1 (Nat.le_of_ble_eq_true rfl)) (ri_indexOfKey (j := od p * 41) (m := kl (od p)) hb hbk hA.2.1 (by omega) (by omega)) (fun y H2 hy => ?_)
          obtain ⟨eH2, hy⟩ := hy
          subst eH2
          rcases hy with ⟨i, hi, ey, he, -⟩ | ⟨ey, hne⟩
          ·
            rw [ey]
            have hn40 := hbk.1
            refine RQ.brT rfl rfl rfl (cT_ge i 0) ?_
            refine RQ.blk 1 (pc' := 138) (lv' := [(5, .int (nI p + 1)), (6, .int (nI (od p))), (0, .ref 1), (1, .ref (b + 1)), (2, .int (nI mm)), (3, .int 0), (4, .int (nI k))]) (st' := []) (H' := _) (kc' := 0) (ks' := 0) rfl ?_
            rw [show (nI p + 1 : Int32) = nI (p + 1) from nI_add p 1]
            refine RQ.blk 1 (pc' := 39) (lv' := [(5, .int (nI (p + 1))), (6, .int (nI (od p))), (0, .ref 1), (1, .ref (b + 1)), (2, .int (nI mm)), (3, .int 0), (4, .int (nI k))]) (st' := []) (H' := _) (kc' := 0) (ks' := 0) rfl ?_
            refine RQ.pick (a := [(5, .int (nI (p + 1))), (0, .ref 1), (1, .ref (b + 1)), (2, .int (nI mm)), (3, .int 0), (4, .int (nI k))]) [0, 2, 3, 4, 5, 6] [5, 6, 0, 1, 2, 3, 4] rfl rfl (by decide) ?_
            exact ih (p + 1) _ ⟨by omega, by omega, rfl, fun q q1 q2 => by by_cases hqp : q = p; rw [hqp]; exact (fun h => by obtain ⟨e2, he2⟩ := lt_get hi; exact h.2.2 e2 (List.mem_of_getElem? he2) ((hL.key he2).symm.trans he)); exact hno q q1 (by omega)⟩ (by omega)
          ·
            rw [ey]
            refine RQ.brF rfl rfl rfl (by decide) ?_
            refine RQ.blk 1 (pc' := 134) (lv' := [(6, .int (nI (od p))), (5, .int (nI p)), (0, .ref 1), (1, .ref (b + 1)), (2, .int (nI mm)), (3, .int 0), (4, .int (nI k))]) (st' := [.int (nI (od p))]) (H' := _) (kc' := 0) (ks' := 0) rfl ?_
            exact RQ.done (c := 0) (s := 0) rfl rfl rfl rfl ⟨_, _, rfl, rfl, Or.inl ⟨p, hkp, hps, rfl, hu, ⟨hsn, hE, fun e2 he2 h9 => by obtain ⟨i, hi⟩ := List.getElem?_of_mem he2; exact hne i (get_lt hi) ((hL.key hi).trans h9)⟩, hno⟩⟩
      · rw [if_neg hsn]
        refine RQ.brT rfl rfl rfl (by decide) ?_
        refine RQ.blk 1 (pc' := 138) (lv' := [(5, .int (nI p + 1)), (6, .int (nI (od p))), (0, .ref 1), (1, .ref (b + 1)), (2, .int (nI mm)), (3, .int 0), (4, .int (nI k))]) (st' := []) (H' := _) (kc' := 0) (ks' := 0) rfl ?_
        rw [show (nI p + 1 : Int32) = nI (p + 1) from nI_add p 1]
        refine RQ.blk 1 (pc' := 39) (lv' := [(5, .int (nI (p + 1))), (6, .int (nI (od p))), (0, .ref 1), (1, .ref (b + 1)), (2, .int (nI mm)), (3, .int 0), (4, .int (nI k))]) (st' := []) (H' := _) (kc' := 0) (ks' := 0) rfl ?_
        refine RQ.pick (a := [(5, .int (nI (p + 1))), (0, .ref 1), (1, .ref (b + 1)), (2, .int (nI mm)), (3, .int 0), (4, .int (nI k))]) [0, 2, 3, 4, 5, 6] [5, 6, 0, 1, 2, 3, 4] rfl rfl (by decide) ?_
        exact ih (p + 1) _ ⟨by omega, by omega, rfl, fun q q1 q2 => by by_cases hqp : q = p; rw [hqp]; exact (fun h => hsn h.1); exact hno q q1 (by omega)⟩ (by omega)
    · refine RQ.call (v := some (.int 0)) (st' := []) rfl rfl rfl rfl rfl rfl (args_v [.int (nI (od p))] [] rfl rfl (Nat.le_of_ble_eq_true rfl) rfl hA.1 (Nat.le_of_ble_eq_true rfl)) (rc_isUserF hA hW.1 hod hu) ?_
      refine RQ.brF rfl rfl rfl (by decide) ?_
      refine RQ.blk 1 (pc' := 76) (lv' := [(6, .int (nI (od p))), (5, .int (nI p)), (0, .ref 1), (1, .ref (b + 1)), (2, .int (nI mm)), (3, .int 0), (4, .int (nI k))]) (st' := [.int (-1)]) (H' := _) (kc' := 0) (ks' := 0) rfl ?_
      have hafter : ∀ q, p ≤ q → q < sz → ¬ ub (kf (od q * 41)) = 0 := fun q q1 q2 => by
        by_cases hqp : q = p
        · rw [hqp]; exact hu
        · have hlq := hW.2.2.2.2.2.2.2.1 q q2
          have hh : ∀ s, 1 ≤ kl (od s) → (keyO kf kl od s).headD 0 = ub (kf (od s * 41)) := fun s hs => by
            show (sl kf (od s * 41) (kl (od s))).headD 0 = _
            obtain ⟨n, hn⟩ : ∃ n, kl (od s) = n + 1 := ⟨kl (od s) - 1, by omega⟩
            rw [hn]
            rfl
          rw [← hh q hlq]
          refine cmpL_head (a := keyO kf kl od p) (by show 1 ≤ (sl kf (od p * 41) (kl (od p))).length; rw [sl_length]; exact hklp) (by show 1 ≤ (sl kf (od q * 41) (kl (od q))).length; rw [sl_length]; exact hlq) ?_ (by rw [hh p hklp]; exact hu)
          rcases hsrt p q (by omega) q2 with e | ⟨e, -⟩
          · exact Or.inl e
          · exact Or.inr e
      exact RQ.done (c := 0) (s := 0) rfl rfl rfl rfl ⟨_, _, rfl, rfl, Or.inr ⟨rfl, fun q q1 q2 q3 => by by_cases hqp : q < p; exact hno q q1 hqp; exact absurd q3 (hafter q (by omega) q2)⟩⟩
  ·
    refine RQ.blk 2 (pc' := 42) (lv' := [(5, .int (nI p)), (0, .ref 1), (1, .ref (b + 1)), (2, .int (nI mm)), (3, .int 0), (4, .int (nI k))]) (st' := [.ref 1, .int (nI p)]) (H' := _) (kc' := 0) (ks' := 0) rfl ?_
    refine RQ.get (ci := 11) rfl h0 rfl rfl ?_
    refine RQ.get (ci := 10) rfl hA.1 rfl rfl ?_
    refine RQ.brT rfl rfl rfl (cT_ge p sz) ?_
    refine RQ.blk 1 (pc' := 142) (lv' := [(5, .int (nI p)), (0, .ref 1), (1, .ref (b + 1)), (2, .int (nI mm)), (3, .int 0), (4, .int (nI k))]) (st' := [.int (-1)]) (H' := _) (kc' := 0) (ks' := 0) rfl ?_
    exact RQ.done (c := 0) (s := 0) rfl rfl rfl rfl ⟨_, _, rfl, rfl, Or.inr ⟨rfl, fun q q1 q2 q3 => hno q q1 (by omega)⟩⟩
theorem ri_firstS1 {sc : Nat × (Nat → Int32)} {d m mm b u k q0 : Nat} {H : aH} {N : Nat} {kf : Nat → Int8} {kl mo pl : Nat → Nat} {le : Nat → Option Nat} {al : Nat → Bool} {od sp : Nat → Nat} {sz ss ac : Nat} {bl pr up cw cl cp cb : Int32} {D : Nat → Int8} {S K : Nat → Nat} {E : Nat → Option Nat} {ws : List aE} {g : Nat → Int8} (h0 : H[0]? = some (kO 11 (fvs bl pr up cw cl cp cb))) (h5 : H[5]? = some (kO 5 [.ref 7, .int (nI m)])) (h6 : H[6]? = some (kB 41 g)) (hm41 : m ≤ 41) (hA : VersAt H N kf kl mo pl le al od sp sz ss ac) (hW : VersWf N kf kl mo pl le al od sp sz ss ac) (hb : BatchAt H b D S K E ws.length u) (hbk : BatchOk S K E ws.length u) (hL : LayE D 0 S K E ws) (hc : cutAt kf kl mo od sz (sl g 0 m) (-1) k) (hmm : mm < 2 ^ 31) : RI sc (d + 4) mr_70 [.ref 1, .ref (b + 1), .int (nI mm), .int 1] H (fun x H' => (H' = H ∧ ((∃ p, k ≤ p ∧ p < sz ∧ x = nI (od p) ∧ ub (kf (od p * 41)) = 0 ∧ okS kf kl mo le od sz mm ws p ∧ ∀ q, k ≤ q → q < p → ¬ okS kf kl mo le od sz mm ws q) ∨ (x = -1 ∧ ∀ q, k ≤ q → q < sz → ub (kf (od q * 41)) = 0 → ¬ okS kf kl mo le od sz mm ws q)))) := by
  have hN := hW.1.1
  have hszN := hW.1.2.1
  have hsrt := hW.2.2.2.2.2.2.2.2
  refine RI.of ?_
  refine RQ.blk 1 (pc' := 1) (lv' := [(0, .ref 1), (1, .ref (b + 1)), (2, .int (nI mm)), (3, .int 1)]) (st' := [.ref 1]) (H' := _) (kc' := 0) (ks' := 0) rfl ?_
  refine RQ.get (ci := 11) rfl h0 rfl rfl ?_
  refine RQ.blk 1 (pc' := 5) (lv' := [(0, .ref 1), (1, .ref (b + 1)), (2, .int (nI mm)), (3, .int 1)]) (st' := [.ref 1, .ref 75]) (H' := _) (kc' := 0) (ks' := 0) rfl ?_
  refine RQ.get (ci := 11) rfl h0 rfl rfl ?_
  refine RQ.get (ci := 5) rfl h5 rfl rfl ?_
  refine RQ.blk 2 (pc' := 13) (lv' := [(0, .ref 1), (1, .ref (b + 1)), (2, .int (nI mm)), (3, .int 1)]) (st' := [.ref 1, .int 0, .ref 7, .ref 75]) (H' := _) (kc' := 0) (ks' := 0) rfl ?_
  refine RQ.get (ci := 11) rfl h0 rfl rfl ?_
  refine RQ.get (ci := 5) rfl h5 rfl rfl ?_
  refine RQ.blk 1 (pc' := 20) (lv' := [(0, .ref 1), (1, .ref (b + 1)), (2, .int (nI mm)), (3, .int 1)]) (st' := [.int 1, .int (nI m), .int 0, .ref 7, .ref 75]) (H' := _) (kc' := 0) (ks' := 0) rfl ?_
  refine RQ.brF rfl rfl rfl (by decide) ?_
  refine RQ.blk 2 (pc' := 30) (lv' := [(0, .ref 1), (1, .ref (b + 1)), (2, .int (nI mm)), (3, .int 1)]) (st' := [.int (-1), .int (nI m), .int 0, .ref 7, .ref 75]) (H' := _) (kc' := 0) (ks' := 0) rfl ?_
  refine RQ.call (v := some (.int (nI k))) (st' := []) rfl rfl rfl rfl rfl rfl (args_v [.int (-1), .int (nI m), .int 0, .ref 7] [] rfl rfl (Nat.le_of_ble_eq_true rfl) rfl hA.1 (Nat.le_of_ble_eq_true rfl)) (rc_from (j := 0) (m := m) (k := k) hA hW.1 h6 (by decide) (by omega) hc) ?_
  refine RQ.blk 3 (pc' := 39) (lv' := [(5, .int (nI k)), (4, .int (nI k)), (0, .ref 1), (1, .ref (b + 1)), (2, .int (nI mm)), (3, .int 1)]) (st' := []) (H' := _) (kc' := 0) (ks' := 0) rfl ?_
  refine RQ.pick (a := [(5, .int (nI k)), (0, .ref 1), (1, .ref (b + 1)), (2, .int (nI mm)), (3, .int 1), (4, .int (nI k))]) [0, 2, 3, 4, 5, 1] [5, 4, 0, 1, 2, 3] rfl rfl (by decide) ?_
  have hkz := hc.1
  refine RQ.while (S := Nat) (pc := 39) (fun p H' => k ≤ p ∧ p ≤ sz ∧ H' = H ∧ ∀ q, k ≤ q → q < p → ¬ okS kf kl mo le od sz mm ws q) (fun p => [(5, .int (nI p)), (0, .ref 1), (1, .ref (b + 1)), (2, .int (nI mm)), (3, .int 1), (4, .int (nI k))]) (fun p => sz - p) ?_ k H ⟨Nat.le_refl _, hkz, rfl, fun q q1 q2 => absurd q1 (by omega)⟩
  rintro p H1 ⟨hkp, hp, eH, hno⟩ ih
  rw [show H1 = H from eH]
  by_cases hps : p < sz
  ·
    have hod := hW.1.2.2.2.1 p hps
    have hso := hW.1.2.2.2.2.2 _ hod
    have hklp := hW.2.2.2.2.2.2.2.1 p hps
    refine RQ.blk 2 (pc' := 42) (lv' := [(5, .int (nI p)), (0, .ref 1), (1, .ref (b + 1)), (2, .int (nI mm)), (3, .int 1), (4, .int (nI k))]) (st' := [.ref 1, .int (nI p)]) (H' := _) (kc' := 0) (ks' := 0) rfl ?_
    refine RQ.get (ci := 11) rfl h0 rfl rfl ?_
    refine RQ.get (ci := 10) rfl hA.1 rfl rfl ?_
    refine RQ.brF rfl rfl rfl (cF_ge p sz) ?_
    refine RQ.blk 1 (pc' := 52) (lv' := [(5, .int (nI p)), (0, .ref 1), (1, .ref (b + 1)), (2, .int (nI mm)), (3, .int 1), (4, .int (nI k))]) (st' := [.ref 1]) (H' := _) (kc' := 0) (ks' := 0) rfl ?_
    refine RQ.get (ci := 11) rfl h0 rfl rfl ?_
    refine RQ.get (ci := 10) rfl hA.1 rfl rfl ?_
    refine RQ.blk 1 (pc' := 60) (lv' := [(5, .int (nI p)), (0, .ref 1), (1, .ref (b + 1)), (2, .int (nI mm)), (3, .int 1), (4, .int (nI k))]) (st' := [.int (nI p), .ref 82]) (H' := _) (kc' := 0) (ks' := 0) rfl ?_
    refine RQ.ialdN (j := p) rfl hA.2.2.2.2.2.2.2.1 (by omega) (by omega) ?_
    refine RQ.blk 2 (pc' := 64) (lv' := [(6, .int (nI (od p))), (5, .int (nI p)), (0, .ref 1), (1, .ref (b + 1)), (2, .int (nI mm)), (3, .int 1), (4, .int (nI k))]) (st' := [.ref 1]) (H' := _) (kc' := 0) (ks' := 0) rfl ?_
    refine RQ.get (ci := 11) rfl h0 rfl rfl ?_
    refine RQ.blk 1 (pc' := 69) (lv' := [(6, .int (nI (od p))), (5, .int (nI p)), (0, .ref 1), (1, .ref (b + 1)), (2, .int (nI mm)), (3, .int 1), (4, .int (nI k))]) (st' := [.int (nI (od p)), .ref 75]) (H' := _) (kc' := 0) (ks' := 0) rfl ?_
    by_cases hu : ub (kf (od p * 41)) = 0
    · refine RQ.call (v := some (.int 1)) (st' := []) rfl rfl rfl rfl rfl rfl (args_v [.int (nI (od p))] [] rfl rfl (Nat.le_of_ble_eq_true rfl) rfl hA.1 (Nat.le_of_ble_eq_true rfl)) (rc_isUserT hA hW.1 hod hu) ?_
      refine RQ.brT rfl rfl rfl (by decide) ?_
      refine RQ.blk 1 (pc' := 78) (lv' := [(6, .int (nI (od p))), (5, .int (nI p)), (0, .ref 1), (1, .ref (b + 1)), (2, .int (nI mm)), (3, .int 1), (4, .int (nI k))]) (st' := [.ref 1]) (H' := _) (kc' := 0) (ks' := 0) rfl ?_
      refine RQ.get (ci := 11) rfl h0 rfl rfl ?_
      refine RQ.blk 2 (pc' := 84) (lv' := [(6, .int (nI (od p))), (5, .int (nI p)), (0, .ref 1), (1, .ref (b + 1)), (2, .int (nI mm)), (3, .int 1), (4, .int (nI k))]) (st' := [.int (nI mm), .int (nI p), .ref 75]) (H' := _) (kc' := 0) (ks' := 0) rfl ?_
      refine RQ.call (v := some (.int (if p < sz ∧ mo (od p) ≤ mm ∧ ((p = 0 ∨ ¬ sl kf (od (p - 1) * 41) (kl (od (p - 1))) = sl kf (od p * 41) (kl (od p))) ∨ mm < mo (od (p - 1))) then 1 else 0))) (st' := []) rfl rfl rfl rfl rfl rfl (args_v [.int (nI mm), .int (nI p)] [] rfl rfl (Nat.le_of_ble_eq_true rfl) rfl hA.1 (Nat.le_of_ble_eq_true rfl)) (rc_isSeen (p := p) (m := mm) hA hW.1 (by omega) hmm) ?_
      by_cases hsn : p < sz ∧ mo (od p) ≤ mm ∧ ((p = 0 ∨ ¬ sl kf (od (p - 1) * 41) (kl (od (p - 1))) = sl kf (od p * 41) (kl (od p))) ∨ mm < mo (od (p - 1)))
      · rw [if_pos hsn]
        refine RQ.brF rfl rfl rfl (by decide) ?_
        refine RQ.blk 1 (pc' := 91) (lv' := [(6, .int (nI (od p))), (5, .int (nI p)), (0, .ref 1), (1, .ref (b + 1)), (2, .int (nI mm)), (3, .int 1), (4, .int (nI k))]) (st' := [.ref 1]) (H' := _) (kc' := 0) (ks' := 0) rfl ?_
        refine RQ.get (ci := 11) rfl h0 rfl rfl ?_
        refine RQ.get (ci := 10) rfl hA.1 rfl rfl ?_
        refine RQ.blk 1 (pc' := 99) (lv' := [(6, .int (nI (od p))), (5, .int (nI p)), (0, .ref 1), (1, .ref (b + 1)), (2, .int (nI mm)), (3, .int 1), (4, .int (nI k))]) (st' := [.int (nI (od p)), .ref 80]) (H' := _) (kc' := 0) (ks' := 0) rfl ?_
        refine RQ.ialdN (j := od p) rfl hA.2.2.2.2.2.1 (by omega) (by omega) ?_
        by_cases hE : le (od p) = none
        · refine RQ.brT rfl rfl rfl (decide_eq_true ((lI_neg (by omega)).mpr hE)) ?_
          refine RQ.blk 1 (pc' := 138) (lv' := [(5, .int (nI p + 1)), (6, .int (nI (od p))), (0, .ref 1), (1, .ref (b + 1)), (2, .int (nI mm)), (3, .int 1), (4, .int (nI k))]) (st' := []) (H' := _) (kc' := 0) (ks' := 0) rfl ?_
          rw [show (nI p + 1 : Int32) = nI (p + 1) from nI_add p 1]
          refine RQ.blk 1 (pc' := 39) (lv' := [(5, .int (nI (p + 1))), (6, .int (nI (od p))), (0, .ref 1), (1, .ref (b + 1)), (2, .int (nI mm)), (3, .int 1), (4, .int (nI k))]) (st' := []) (H' := _) (kc' := 0) (ks' := 0) rfl ?_
          refine RQ.pick (a := [(5, .int (nI (p + 1))), (0, .ref 1), (1, .ref (b + 1)), (2, .int (nI mm)), (3, .int 1), (4, .int (nI k))]) [0, 2, 3, 4, 5, 6] [5, 6, 0, 1, 2, 3, 4] rfl rfl (by decide) ?_
          exact ih (p + 1) _ ⟨by omega, by omega, rfl, fun q q1 q2 => by by_cases hqp : q = p; rw [hqp]; exact (fun h => h.2.1 hE); exact hno q q1 (by omega)⟩ (by omega)
        · refine RQ.brF rfl rfl rfl (decide_eq_false (fun e => hE ((lI_neg (by omega)).mp e))) ?_
          refine RQ.blk 2 (pc' := 105) (lv' := [(6, .int (nI (od p))), (5, .int (nI p)), (0, .ref 1), (1, .ref (b + 1)), (2, .int (nI mm)), (3, .int 1), (4, .int (nI k))]) (st' := [.ref 1, .ref (b + 1)]) (H' := _) (kc' := 0) (ks' := 0) rfl ?_
          refine RQ.get (ci := 11) rfl h0 rfl rfl ?_
          refine RQ.get (ci := 10) rfl hA.1 rfl rfl ?_
          refine RQ.blk 3 (pc' := 116) (lv' := [(6, .int (nI (od p))), (5, .int (nI p)), (0, .ref 1), (1, .ref (b + 1)), (2, .int (nI mm)), (3, .int 1), (4, .int (nI k))]) (st' := [.int (nI (od p) * 41), .ref 76, .ref (b + 1)]) (H' := _) (kc' := 0) (ks' := 0) rfl ?_
          rw [show (nI (od p) * 41 : Int32) = nI ((od p) * 41) from pk_mul (od p) 41]
          refine RQ.blk 1 (pc' := 117) (lv' := [(6, .int (nI (od p))), (5, .int (nI p)), (0, .ref 1), (1, .ref (b + 1)), (2, .int (nI mm)), (3, .int 1), (4, .int (nI k))]) (st' := [.ref 1, .int (nI ((od p) * 41)), .ref 76, .ref (b + 1)]) (H' := _) (kc' := 0) (ks' := 0) rfl ?_
          refine RQ.get (ci := 11) rfl h0 rfl rfl ?_
          refine RQ.get (ci := 10) rfl hA.1 rfl rfl ?_
          refine RQ.blk 1 (pc' := 125) (lv' := [(6, .int (nI (od p))), (5, .int (nI p)), (0, .ref 1), (1, .ref (b + 1)), (2, .int (nI mm)), (3, .int 1), (4, .int (nI k))]) (st' := [.int (nI (od p)), .ref 77, .int (nI ((od p) * 41)), .ref 76, .ref (b + 1)]) (H' := _) (kc' := 0) (ks' := 0) rfl ?_
          refine RQ.ialdN (j := od p) rfl hA.2.2.1 (by omega) (by omega) ?_
          refine RQ.callI (st' := []) rfl rfl rfl rfl rfl rfl (args_v [.int (nI (kl (od p))), .int (nI ((od p) * 41)), .ref 76] [] rfl rfl (Nat.le_of_ble_eq_true rfl) rfl hb.1 (Nat.le_of_ble_eq_true rfl)) (ri_indexOfKey (j := od p * 41) (m := kl (od p)) hb hbk hA.2.1 (by omega) (by omega)) (fun y H2 hy => ?_)
          obtain ⟨eH2, hy⟩ := hy
          subst eH2
          rcases hy with ⟨i, hi, ey, he, -⟩ | ⟨ey, hne⟩
          ·
            rw [ey]
            have hn40 := hbk.1
            refine RQ.brT rfl rfl rfl (cT_ge i 0) ?_
            refine RQ.blk 1 (pc' := 138) (lv' := [(5, .int (nI p + 1)), (6, .int (nI (od p))), (0, .ref 1), (1, .ref (b + 1)), (2, .int (nI mm)), (3, .int 1), (4, .int (nI k))]) (st' := []) (H' := _) (kc' := 0) (ks' := 0) rfl ?_
            rw [show (nI p + 1 : Int32) = nI (p + 1) from nI_add p 1]
            refine RQ.blk 1 (pc' := 39) (lv' := [(5, .int (nI (p + 1))), (6, .int (nI (od p))), (0, .ref 1), (1, .ref (b + 1)), (2, .int (nI mm)), (3, .int 1), (4, .int (nI k))]) (st' := []) (H' := _) (kc' := 0) (ks' := 0) rfl ?_
            refine RQ.pick (a := [(5, .int (nI (p + 1))), (0, .ref 1), (1, .ref (b + 1)), (2, .int (nI mm)), (3, .int 1), (4, .int (nI k))]) [0, 2, 3, 4, 5, 6] [5, 6, 0, 1, 2, 3, 4] rfl rfl (by decide) ?_
            exact ih (p + 1) _ ⟨by omega, by omega, rfl, fun q q1 q2 => by by_cases hqp : q = p; rw [hqp]; exact (fun h => by obtain ⟨e2, he2⟩ := lt_get hi; exact h.2.2 e2 (List.mem_of_getElem? he2) ((hL.key he2).symm.trans he)); exact hno q q1 (by omega)⟩ (by omega)
          ·
            rw [ey]
            refine RQ.brF rfl rfl rfl (by decide) ?_
            refine RQ.blk 1 (pc' := 134) (lv' := [(6, .int (nI (od p))), (5, .int (nI p)), (0, .ref 1), (1, .ref (b + 1)), (2, .int (nI mm)), (3, .int 1), (4, .int (nI k))]) (st' := [.int (nI (od p))]) (H' := _) (kc' := 0) (ks' := 0) rfl ?_
            exact RQ.done (c := 0) (s := 0) rfl rfl rfl rfl ⟨_, _, rfl, rfl, Or.inl ⟨p, hkp, hps, rfl, hu, ⟨hsn, hE, fun e2 he2 h9 => by obtain ⟨i, hi⟩ := List.getElem?_of_mem he2; exact hne i (get_lt hi) ((hL.key hi).trans h9)⟩, hno⟩⟩
      · rw [if_neg hsn]
        refine RQ.brT rfl rfl rfl (by decide) ?_
        refine RQ.blk 1 (pc' := 138) (lv' := [(5, .int (nI p + 1)), (6, .int (nI (od p))), (0, .ref 1), (1, .ref (b + 1)), (2, .int (nI mm)), (3, .int 1), (4, .int (nI k))]) (st' := []) (H' := _) (kc' := 0) (ks' := 0) rfl ?_
        rw [show (nI p + 1 : Int32) = nI (p + 1) from nI_add p 1]
        refine RQ.blk 1 (pc' := 39) (lv' := [(5, .int (nI (p + 1))), (6, .int (nI (od p))), (0, .ref 1), (1, .ref (b + 1)), (2, .int (nI mm)), (3, .int 1), (4, .int (nI k))]) (st' := []) (H' := _) (kc' := 0) (ks' := 0) rfl ?_
        refine RQ.pick (a := [(5, .int (nI (p + 1))), (0, .ref 1), (1, .ref (b + 1)), (2, .int (nI mm)), (3, .int 1), (4, .int (nI k))]) [0, 2, 3, 4, 5, 6] [5, 6, 0, 1, 2, 3, 4] rfl rfl (by decide) ?_
        exact ih (p + 1) _ ⟨by omega, by omega, rfl, fun q q1 q2 => by by_cases hqp : q = p; rw [hqp]; exact (fun h => hsn h.1); exact hno q q1 (by omega)⟩ (by omega)
    · refine RQ.call (v := some (.int 0)) (st' := []) rfl rfl rfl rfl rfl rfl (args_v [.int (nI (od p))] [] rfl rfl (Nat.le_of_ble_eq_true rfl) rfl hA.1 (Nat.le_of_ble_eq_true rfl)) (rc_isUserF hA hW.1 hod hu) ?_
      refine RQ.brF rfl rfl rfl (by decide) ?_
      refine RQ.blk 1 (pc' := 76) (lv' := [(6, .int (nI (od p))), (5, .int (nI p)), (0, .ref 1), (1, .ref (b + 1)), (2, .int (nI mm)), (3, .int 1), (4, .int (nI k))]) (st' := [.int (-1)]) (H' := _) (kc' := 0) (ks' := 0) rfl ?_
      have hafter : ∀ q, p ≤ q → q < sz → ¬ ub (kf (od q * 41)) = 0 := fun q q1 q2 => by
        by_cases hqp : q = p
        · rw [hqp]; exact hu
        · have hlq := hW.2.2.2.2.2.2.2.1 q q2
          have hh : ∀ s, 1 ≤ kl (od s) → (keyO kf kl od s).headD 0 = ub (kf (od s * 41)) := fun s hs => by
            show (sl kf (od s * 41) (kl (od s))).headD 0 = _
            obtain ⟨n, hn⟩ : ∃ n, kl (od s) = n + 1 := ⟨kl (od s) - 1, by omega⟩
            rw [hn]
            rfl
          rw [← hh q hlq]
          refine cmpL_head (a := keyO kf kl od p) (by show 1 ≤ (sl kf (od p * 41) (kl (od p))).length; rw [sl_length]; exact hklp) (by show 1 ≤ (sl kf (od q * 41) (kl (od q))).length; rw [sl_length]; exact hlq) ?_ (by rw [hh p hklp]; exact hu)
          rcases hsrt p q (by omega) q2 with e | ⟨e, -⟩
          · exact Or.inl e
          · exact Or.inr e
      exact RQ.done (c := 0) (s := 0) rfl rfl rfl rfl ⟨_, _, rfl, rfl, Or.inr ⟨rfl, fun q q1 q2 q3 => by by_cases hqp : q < p; exact hno q q1 hqp; exact absurd q3 (hafter q (by omega) q2)⟩⟩
  ·
    refine RQ.blk 2 (pc' := 42) (lv' := [(5, .int (nI p)), (0, .ref 1), (1, .ref (b + 1)), (2, .int (nI mm)), (3, .int 1), (4, .int (nI k))]) (st' := [.ref 1, .int (nI p)]) (H' := _) (kc' := 0) (ks' := 0) rfl ?_
    refine RQ.get (ci := 11) rfl h0 rfl rfl ?_
    refine RQ.get (ci := 10) rfl hA.1 rfl rfl ?_
    refine RQ.brT rfl rfl rfl (cT_ge p sz) ?_
    refine RQ.blk 1 (pc' := 142) (lv' := [(5, .int (nI p)), (0, .ref 1), (1, .ref (b + 1)), (2, .int (nI mm)), (3, .int 1), (4, .int (nI k))]) (st' := [.int (-1)]) (H' := _) (kc' := 0) (ks' := 0) rfl ?_
    exact RQ.done (c := 0) (s := 0) rfl rfl rfl rfl ⟨_, _, rfl, rfl, Or.inr ⟨rfl, fun q q1 q2 q3 => hno q q1 (by omega)⟩⟩
