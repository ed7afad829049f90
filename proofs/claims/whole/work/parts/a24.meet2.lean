/-! ===== all versions are told by tables; a record was moved; all are watched; class; written by wip/gen/meet2.py ===== -/
theorem rn_relocate {sc : Nat × (Nat → Int32)} {d p pp : Nat} {H : aH} {N : Nat} {kf : Nat → Int8} {kl mo pl : Nat → Nat} {le : Nat → Option Nat} {al : Nat → Bool} {od sp : Nat → Nat} {sz ss ac : Nat} (hA : VersAt H N kf kl mo pl le al od sp sz ss ac) (hW : VersWf N kf kl mo pl le al od sp sz ss ac) (hp : p < sz) (hpp : pp < 2 ^ 30) : RN sc (d + 1) mr_149 [.ref 75, .int (nI (od p)), .int (nI pp)] H (fun H' => VersAt H' N kf kl mo (va_up pl (od p) pp) le (va_up al (od p) true) od sp sz ss (acUp (al (od p)) true ac) ∧ VersWf N kf kl mo (va_up pl (od p) pp) le (va_up al (od p) true) od sp sz ss (acUp (al (od p)) true ac) ∧ ∀ a, ¬ (74 ≤ a ∧ a < 83) → H'[a]? = H[a]?) := by
  have hod := hW.1.2.2.2.1 p hp
  have hN2 := hW.1.1
  refine RN.of ?_
  refine RQ.blk 1 (pc' := 1) (lv' := [(0, .ref 75), (1, .int (nI (od p))), (2, .int (nI pp))]) (st' := [.ref 75]) (H' := _) (kc' := 0) (ks' := 0) rfl ?_
  refine RQ.get (ci := 10) rfl hA.1 rfl rfl ?_
  refine RQ.blk 2 (pc' := 6) (lv' := [(0, .ref 75), (1, .int (nI (od p))), (2, .int (nI pp))]) (st' := [.int (nI pp), .int (nI (od p)), .ref 79]) (H' := _) (kc' := 0) (ks' := 0) rfl ?_
  refine RQ.iastN (j := od p) rfl hA.2.2.2.2.1 (by omega) (by omega) ?_
  rw [up_nI]
  refine RQ.blk 3 (pc' := 10) (lv' := [(0, .ref 75), (1, .int (nI (od p))), (2, .int (nI pp))]) (st' := [.int 1, .int (nI (od p)), .ref 75]) (H' := _) (kc' := 0) (ks' := 0) rfl ?_
  have hA3 : VersAt (H.set 78 (kI N (fun j => nI (va_up pl (od p) pp j)))) N kf kl mo (va_up pl (od p) pp) le al od sp sz ss ac := ⟨((set_far (by decide)).trans hA.1), ((set_far (by decide)).trans hA.2.1), ((set_far (by decide)).trans hA.2.2.1), ((set_far (by decide)).trans hA.2.2.2.1), (get_set hA.2.2.2.2.1), ((set_far (by decide)).trans hA.2.2.2.2.2.1), ((set_far (by decide)).trans hA.2.2.2.2.2.2.1), ((set_far (by decide)).trans hA.2.2.2.2.2.2.2.1), ((set_far (by decide)).trans hA.2.2.2.2.2.2.2.2)⟩
  have hW3 := upd_wf (k := p) (mm := mo (od p)) (pp := pp) (l := le (od p)) (b := true) hW hp (Or.inr rfl) (hW.1.2.2.2.2.2 _ hod).2.1 hpp (hW.1.2.2.2.2.2 _ hod).2.2.2
  rw [up_self, up_self] at hW3
  have hac : al (od p) = true → 1 ≤ ac := fun e => by
    rw [hW.2.2.2.2.2.2.1]
    have h9 := cntB_mono (fun j => al (od j)) (p + 1) sz (by omega)
    rw [cntB, e] at h9
    have h9 : cntB (fun j => al (od j)) p + 1 ≤ _ := h9
    omega
  refine RQ.callN (st' := []) rfl rfl rfl rfl rfl rfl (args_v [.int 1, .int (nI (od p))] [] rfl rfl (Nat.le_of_ble_eq_true rfl) rfl ((set_far (by decide)).trans hA.1) (Nat.le_of_ble_eq_true rfl)) (rn_setAlone (b := true) hA3 hW3.1 hod hac) (fun H4 hx4 => ?_)
  obtain ⟨hA4, hfr4⟩ := hx4
  exact RQ.done (c := 0) (s := 0) rfl rfl rfl rfl ⟨_, rfl, hA4, hW3, fun a ha => (hfr4 a ha).trans (set_far (by omega))⟩
/-- told by a table -/
def toldV (v : aV) : aV := (v.1, v.2.1, v.2.2.1, v.2.2.2.1, false)
theorem rn_allIn {sc : Nat × (Nat → Int32)} {d N : Nat} {H : aH} {vs : List aV} (hV : VersIs H N vs) : RN sc (d + 1) mr_117 [.ref 75] H (fun H' => VersIs H' N (vs.map toldV) ∧ ∀ a, ¬ (74 ≤ a ∧ a < 83) → H'[a]? = H[a]?) := by
  obtain ⟨kf, kl, mo, pl, le, al0, od, sp, sz, ss, ac0, hA0, hW0, hvs⟩ := hV
  have hN2 := hW0.1.1
  have hszN := hW0.1.2.1
  refine RN.of ?_
  refine RQ.blk 2 (pc' := 2) (lv' := [(1, .int 0), (0, .ref 75)]) (st' := []) (H' := _) (kc' := 0) (ks' := 0) rfl ?_
  refine RQ.while (S := Nat) (pc := 2) (fun p H' => p ≤ sz ∧ (∃ al ac, VersAt H' N kf kl mo pl le al od sp sz ss ac ∧ VersWf N kf kl mo pl le al od sp sz ss ac ∧ ∀ j, j < sz → al (od j) = if j < p then false else al0 (od j)) ∧ ∀ a, ¬ (74 ≤ a ∧ a < 83) → H'[a]? = H[a]?) (fun p => [(1, .int (nI p)), (0, .ref 75)]) (fun p => sz - p) ?_ 0 H ⟨Nat.zero_le _, ⟨al0, ac0, hA0, hW0, fun j hj => (if_neg (Nat.not_lt_zero j)).symm⟩, fun a _ => rfl⟩
  rintro p H1 ⟨hp, ⟨al, ac, hA, hW, hal⟩, hf1⟩ ih
  by_cases hlt : p < sz
  · have hod := hW.1.2.2.2.1 p hlt
    refine RQ.blk 2 (pc' := 4) (lv' := [(1, .int (nI p)), (0, .ref 75)]) (st' := [.ref 75, .int (nI p)]) (H' := _) (kc' := 0) (ks' := 0) rfl ?_
    refine RQ.get (ci := 10) rfl hA.1 rfl rfl ?_
    refine RQ.brF rfl rfl rfl (cF_ge p sz) ?_
    refine RQ.blk 2 (pc' := 12) (lv' := [(1, .int (nI p)), (0, .ref 75)]) (st' := [.ref 75, .ref 75]) (H' := _) (kc' := 0) (ks' := 0) rfl ?_
    refine RQ.get (ci := 10) rfl hA.1 rfl rfl ?_
    refine RQ.blk 1 (pc' := 16) (lv' := [(1, .int (nI p)), (0, .ref 75)]) (st' := [.int (nI p), .ref 82, .ref 75]) (H' := _) (kc' := 0) (ks' := 0) rfl ?_
    refine RQ.ialdN (j := p) rfl hA.2.2.2.2.2.2.2.1 (by omega) (by omega) ?_
    refine RQ.blk 1 (pc' := 18) (lv' := [(1, .int (nI p)), (0, .ref 75)]) (st' := [.int 0, .int (nI (od p)), .ref 75]) (H' := _) (kc' := 0) (ks' := 0) rfl ?_
    have hac : al (od p) = true → 1 ≤ ac := fun e => by
      rw [hW.2.2.2.2.2.2.1]
      have h9 := cntB_mono (fun j => al (od j)) (p + 1) sz (by omega)
      rw [cntB, e] at h9
      have h9 : cntB (fun j => al (od j)) p + 1 ≤ _ := h9
      omega
    refine RQ.callN (st' := []) rfl rfl rfl rfl rfl rfl (args_v [.int 0, .int (nI (od p))] [] rfl rfl (Nat.le_of_ble_eq_true rfl) rfl hA.1 (Nat.le_of_ble_eq_true rfl)) (rn_setAlone (b := false) hA hW.1 hod hac) (fun H4 hx4 => ?_)
    obtain ⟨hA4, hfr4⟩ := hx4
    refine RQ.blk 1 (pc' := 24) (lv' := [(1, .int (nI p + 1)), (0, .ref 75)]) (st' := []) (H' := _) (kc' := 0) (ks' := 0) rfl ?_
    rw [show (nI p + 1 : Int32) = nI (p + 1) from nI_add p 1]
    refine RQ.blk 1 (pc' := 2) (lv' := [(1, .int (nI (p + 1))), (0, .ref 75)]) (st' := []) (H' := _) (kc' := 0) (ks' := 0) rfl ?_
    have hW3 := upd_wf (k := p) (mm := mo (od p)) (pp := pl (od p)) (l := le (od p)) (b := false) hW hlt (Or.inr rfl) (hW.1.2.2.2.2.2 _ hod).2.1 (hW.1.2.2.2.2.2 _ hod).2.2.1 (hW.1.2.2.2.2.2 _ hod).2.2.2
    rw [up_self, up_self, up_self] at hW3
    refine ih (p + 1) H4 ⟨by omega, ⟨_, _, hA4, hW3, fun j hj => ?_⟩, fun a ha => (hfr4 a ha).trans (hf1 a ha)⟩ (by omega)
    by_cases e : j = p
    · rw [e, up_at, if_pos (by omega)]
    · rw [up_ne (fun e2 => e (hW.2.1 j p hj hlt e2)), hal j hj]
      by_cases e3 : j < p
      · rw [if_pos e3, if_pos (by omega)]
      · rw [if_neg e3, if_neg (by omega)]
  · have ep : p = sz := by omega
    rw [ep] at hal
    rw [ep]
    refine RQ.blk 2 (pc' := 4) (lv' := [(1, .int (nI sz)), (0, .ref 75)]) (st' := [.ref 75, .int (nI sz)]) (H' := _) (kc' := 0) (ks' := 0) rfl ?_
    refine RQ.get (ci := 10) rfl hA.1 rfl rfl ?_
    refine RQ.brT rfl rfl rfl (cT_ge sz sz) ?_
    exact RQ.done (c := 0) (s := 0) rfl rfl rfl rfl ⟨_, rfl, ⟨_, _, _, _, _, _, _, _, _, _, _, hA, hW, by rw [hvs]; unfold vsL; rw [List.map_map]; refine List.map_congr_left (fun j hj => ?_); have hj := List.mem_range.mp hj; show toldV (verO kf kl mo pl le al0 (od j)) = verO kf kl mo pl le al (od j); unfold toldV verO; rw [hal j hj, if_pos hj]⟩, hf1⟩
theorem rc_watchAll {sc : Nat × (Nat → Int32)} {d mp hv : Nat} {H : aH} {N : Nat} {kf : Nat → Int8} {kl mo pl : Nat → Nat} {le : Nat → Option Nat} {al : Nat → Bool} {od sp : Nat → Nat} {sz ss ac : Nat} {lc fr ff : Nat} {wr : Bool} {tp rc ms mt sq tu tn nb : Nat} {us : Nat → Bool} {lg : Nat → Nat} {B : Nat} {cf : Nat → Int8} {tf : Nat → Nat} {pq : Option Nat} {bb ov : Nat} {vs : List aV} (hA : VersAt H N kf kl mo pl le al od sp sz ss ac) (hW : VersWf N kf kl mo pl le al od sp sz ss ac) (hvs : vs = vsL kf kl mo pl le al od sz) (hC : ChipAt H B cf tf pq bb ov) (hY : LayAt H (layF B lc fr ff wr tp rc ms mt sq tu tn nb) B us lg) (hB : B ≤ 128) (hlc : lc ≤ B) (hlg : ∀ j, j < lc → lg j < 2 ^ 30) (hG : H[190]? = some (kO 4 (logF mp hv))) (hRec : RecsOk cf B lg lc vs) : RC sc (d + 3) mr_189 [.ref 191] H (.inl none) H 0 0 := by
  have hN := hW.1.1
  have hszN := hW.1.2.1
  refine RP.blk 2 (pc' := 2) (lv' := [(1, .int 0), (0, .ref 191)]) (st' := []) (H' := _) (kc' := 0) (ks' := 0) rfl ?_
  have start : RP sc (d + 3) mr_189 2 [(1, .int (nI 0)), (0, .ref 191)] [] H 0 0 (.inl none, H, 0, 0) := by
    refine RP.loop 2 (fun p => [(1, .int (nI p)), (0, .ref 191)]) [] (fun _ => H) 0 0 sz (fun p hp kk => ?_) ?_
    · have hod := hW.1.2.2.2.1 p hp
      have hk_o := hW.1.2.2.2.2.2 _ hod
      refine RP.blk 2 (pc' := 4) (lv' := [(1, .int (nI p)), (0, .ref 191)]) (st' := [.ref 191, .int (nI p)]) (H' := _) (kc' := 0) (ks' := 0) rfl ?_
      refine RP.get (ci := 4) rfl hG rfl rfl ?_
      refine RP.get (ci := 10) rfl hA.1 rfl rfl ?_
      refine RP.brF rfl rfl rfl (cF_ge p sz) ?_
      refine RP.blk 1 (pc' := 14) (lv' := [(1, .int (nI p)), (0, .ref 191)]) (st' := [.ref 191]) (H' := _) (kc' := 0) (ks' := 0) rfl ?_
      refine RP.get (ci := 4) rfl hG rfl rfl ?_
      refine RP.get (ci := 10) rfl hA.1 rfl rfl ?_
      refine RP.blk 1 (pc' := 21) (lv' := [(1, .int (nI p)), (0, .ref 191)]) (st' := [.ref 191, .ref 80]) (H' := _) (kc' := 0) (ks' := 0) rfl ?_
      refine RP.get (ci := 4) rfl hG rfl rfl ?_
      refine RP.get (ci := 10) rfl hA.1 rfl rfl ?_
      refine RP.blk 1 (pc' := 28) (lv' := [(1, .int (nI p)), (0, .ref 191)]) (st' := [.int (nI p), .ref 82, .ref 80]) (H' := _) (kc' := 0) (ks' := 0) rfl ?_
      refine RP.ialdN (j := p) rfl hA.2.2.2.2.2.2.2.1 (by omega) (by omega) ?_
      refine RP.ialdN (j := od p) rfl hA.2.2.2.2.2.1 (by omega) (by omega) ?_
      cases hle : le (od p) with
      | none =>
        refine RP.brT rfl rfl rfl (by decide) ?_
        refine RP.blk 1 (pc' := 49) (lv' := [(1, .int (nI p + 1)), (0, .ref 191)]) (st' := []) (H' := _) (kc' := 0) (ks' := 0) rfl ?_
        rw [show (nI p + 1 : Int32) = nI (p + 1) from nI_add p 1]
        refine RP.blk 1 (pc' := 2) (lv' := [(1, .int (nI (p + 1))), (0, .ref 191)]) (st' := []) (H' := _) (kc' := 0) (ks' := 0) rfl ?_
        exact kk
      | some n =>
        rw [show lI (some n) = nI n from rfl]
        have hn9 : n < 2 ^ 30 := by have := hk_o.2.2.2; rw [hle] at this; exact this
        obtain ⟨r1, r2, r3, r4⟩ := hRec (verO kf kl mo pl le al (od p)) (by rw [hvs]; exact List.mem_map.mpr ⟨p, List.mem_range.mpr hp, rfl⟩) n hle
        rw [show (verO kf kl mo pl le al (od p)).1.length = kl (od p) from sl_length _ _ _] at r3
        refine RP.brF rfl rfl rfl (cF_lt n 0) ?_
        refine RP.blk 2 (pc' := 35) (lv' := [(1, .int (nI p)), (0, .ref 191)]) (st' := [.ref 191, .ref 191]) (H' := _) (kc' := 0) (ks' := 0) rfl ?_
        refine RP.get (ci := 4) rfl hG rfl rfl ?_
        refine RP.get (ci := 10) rfl hA.1 rfl rfl ?_
        refine RP.blk 1 (pc' := 42) (lv' := [(1, .int (nI p)), (0, .ref 191)]) (st' := [.int (nI p), .ref 82, .ref 191]) (H' := _) (kc' := 0) (ks' := 0) rfl ?_
        refine RP.ialdN (j := p) rfl hA.2.2.2.2.2.2.2.1 (by omega) (by omega) ?_
        refine RP.call (v := none) (st' := []) rfl rfl rfl rfl rfl rfl (args_v [.int (nI (od p))] [] rfl rfl (Nat.le_of_ble_eq_true rfl) rfl hG (Nat.le_of_ble_eq_true rfl)) (rc_watch hA hW.1 hC hY hB hlc hlg hG hod hle r1 r2 r3) ?_
        refine RP.blk 1 (pc' := 49) (lv' := [(1, .int (nI p + 1)), (0, .ref 191)]) (st' := []) (H' := _) (kc' := 0) (ks' := 0) rfl ?_
        rw [show (nI p + 1 : Int32) = nI (p + 1) from nI_add p 1]
        refine RP.blk 1 (pc' := 2) (lv' := [(1, .int (nI (p + 1))), (0, .ref 191)]) (st' := []) (H' := _) (kc' := 0) (ks' := 0) rfl ?_
        exact kk
    ·
      refine RP.blk 2 (pc' := 4) (lv' := [(1, .int (nI sz)), (0, .ref 191)]) (st' := [.ref 191, .int (nI sz)]) (H' := _) (kc' := 0) (ks' := 0) rfl ?_
      refine RP.get (ci := 4) rfl hG rfl rfl ?_
      refine RP.get (ci := 10) rfl hA.1 rfl rfl ?_
      refine RP.brT rfl rfl rfl (cT_ge sz sz) ?_
      exact RP.done (c := 0) (s := 0) rfl rfl rfl rfl
  exact start
