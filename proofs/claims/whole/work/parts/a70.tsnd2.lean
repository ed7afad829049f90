/-! ===== the tables are sound; class; written by wip/gen/tsnd2.py ===== -/
set_option maxRecDepth 20000 in
theorem ri_tbSound {sc : Nat × (Nat → Int32)} {d lm bf gm : Nat} {H : aH} {N : Nat} {kf : Nat → Int8} {kl mo pl : Nat → Nat} {le : Nat → Option Nat} {al : Nat → Bool} {od sp : Nat → Nat} {sz ss ac : Nat} {B : Nat} {lgs : List Nat} {fr ff : Nat} {wr : Bool} {tp : Nat} {rs : List aR} {ms mt sq tu : Nat} {us : Nat → Bool} {cf : Nat → Int8} {tf : Nat → Nat} {pq : Option Nat} {bb : Nat} {cu : Nat → Option Nat} {vs : List aV} {ess : List (List aT)} (h : LayIs H B lgs fr ff wr tp rs ms mt sq tu us) (hB : B ≤ 128) (hA : VersAt H N kf kl mo pl le al od sp sz ss ac) (hW : VersWf N kf kl mo pl le al od sp sz ss ac) (hvs : vs = vsL kf kl mo pl le al od sz) (hTb : H[136]? = some (kO 8 (tabF lm bf gm))) (hlm : lm < 2 ^ 30) (hLA : LastA H) (hCu : H[137]? = some (kQ 6 24 cu)) (hcu0 : cu 0 = some 142) (hCA : CurA H 142) (hC : ChipAt H B cf tf pq bb 0) (hlen : ess.length = rs.length) (hok : ∀ (r : Nat) (x : aR) (es : List aT), rs[r]? = some x → ess[r]? = some es → RunOk cf B x es ∧ SortE es) (hcov : ∀ v ∈ vs, v.2.2.2.2 = false → ∃ es ∈ ess, ∃ e ∈ es, tellsV vs e = true ∧ v.1 = e.1 ∧ v.2.1 = e.2.1) (htl : ∃ tl : Nat → Bool, H[141]? = some (kZ N tl)) : RI sc (d + 4) mr_204 [.ref 137] H (fun y H' => y = 1 ∧ CurA H' 142 ∧ LastA H' ∧ (∃ lm, lm < 2 ^ 30 ∧ H'[136]? = some (kO 8 (tabF lm bf gm))) ∧ (∃ tl : Nat → Bool, H'[141]? = some (kZ N tl)) ∧ ∀ a, ¬ (a = 136 ∨ a = 138 ∨ a = 139 ∨ a = 141 ∨ a = 142 ∨ a = 143) → H'[a]? = H[a]?) := by
  obtain ⟨lg, pi, hY, hlg, hlc, hRs⟩ := h
  obtain ⟨⟨Q, hQ, hQ2⟩, hpi, hinj, hrun, hall, hrl⟩ := hRs
  have hN2 := hW.1.1
  have hszN := hW.1.2.1
  have hsz : vs.length = sz := by rw [hvs]; unfold vsL; rw [List.length_map, List.length_range]
  obtain ⟨tl0, htl⟩ := htl
  refine RI.of ?_
  refine RQ.blk 2 (pc' := 2) (lv' := [(1, .int 0), (0, .ref 137)]) (st' := []) (H' := _) (kc' := 0) (ks' := 0) rfl ?_
  refine RQ.while (S := Nat) (pc := 2) (fun p H' => ∃ tl : Nat → Bool, p ≤ sz ∧ H' = H.set 141 (kZ N tl)) (fun p => [(1, .int (nI p)), (0, .ref 137)]) (fun p => sz - p) ?_ 0 H ⟨tl0, Nat.zero_le _, (set_self htl).symm⟩
  rintro p H1 ⟨tl, hp, rfl⟩ ih
  have f1 : ∀ a, a ≠ 141 → (H.set 141 (kZ N tl))[a]? = H[a]? := fun a a1 => set_far a1
  have ht1 : (H.set 141 (kZ N tl))[141]? = some (kZ N tl) := get_set htl
  have hA1 := hA.far (H' := H.set 141 (kZ N tl)) (fun a a1 a2 => f1 a (by omega))
  by_cases hps : p < sz
  ·
    have hod := hW.1.2.2.2.1 p hps
    refine RQ.blk 2 (pc' := 4) (lv' := [(1, .int (nI p)), (0, .ref 137)]) (st' := [.ref 137, .int (nI p)]) (H' := _) (kc' := 0) (ks' := 0) rfl ?_
    refine RQ.get (ci := 8) rfl ((f1 136 (by decide)).trans hTb) rfl rfl ?_
    refine RQ.get (ci := 10) rfl hA1.1 rfl rfl ?_
    refine RQ.brF rfl rfl rfl (cF_ge p sz) ?_
    refine RQ.blk 1 (pc' := 14) (lv' := [(1, .int (nI p)), (0, .ref 137)]) (st' := [.ref 137]) (H' := _) (kc' := 0) (ks' := 0) rfl ?_
    refine RQ.get (ci := 8) rfl ((f1 136 (by decide)).trans hTb) rfl rfl ?_
    refine RQ.blk 1 (pc' := 18) (lv' := [(1, .int (nI p)), (0, .ref 137)]) (st' := [.ref 137, .ref 142]) (H' := _) (kc' := 0) (ks' := 0) rfl ?_
    refine RQ.get (ci := 8) rfl ((f1 136 (by decide)).trans hTb) rfl rfl ?_
    refine RQ.get (ci := 10) rfl hA1.1 rfl rfl ?_
    refine RQ.blk 1 (pc' := 25) (lv' := [(1, .int (nI p)), (0, .ref 137)]) (st' := [.int (nI p), .ref 82, .ref 142]) (H' := _) (kc' := 0) (ks' := 0) rfl ?_
    refine RQ.ialdN (j := p) rfl hA1.2.2.2.2.2.2.2.1 (by omega) (by omega) ?_
    refine RQ.blk 1 (pc' := 27) (lv' := [(1, .int (nI p)), (0, .ref 137)]) (st' := [.int 0, .int (nI (od p)), .ref 142]) (H' := _) (kc' := 0) (ks' := 0) rfl ?_
    refine RQ.zastN (j := od p) rfl ht1 (by omega) (by omega) ?_
    refine RQ.blk 1 (pc' := 31) (lv' := [(1, .int (nI p + 1)), (0, .ref 137)]) (st' := []) (H' := _) (kc' := 0) (ks' := 0) rfl ?_
    rw [show (nI p + 1 : Int32) = nI (p + 1) from nI_add p 1]
    refine RQ.blk 1 (pc' := 2) (lv' := [(1, .int (nI (p + 1))), (0, .ref 137)]) (st' := []) (H' := _) (kc' := 0) (ks' := 0) rfl ?_
    refine RQ.pick (a := [(1, .int (nI (p + 1))), (0, .ref 137)]) [0, 1] [1, 0] rfl rfl (by decide) ?_
    rw [set_set]
    exact ih (p + 1) _ ⟨_, by omega, rfl⟩ (by omega)
  ·
    refine RQ.blk 2 (pc' := 4) (lv' := [(1, .int (nI p)), (0, .ref 137)]) (st' := [.ref 137, .int (nI p)]) (H' := _) (kc' := 0) (ks' := 0) rfl ?_
    refine RQ.get (ci := 8) rfl ((f1 136 (by decide)).trans hTb) rfl rfl ?_
    refine RQ.get (ci := 10) rfl hA1.1 rfl rfl ?_
    refine RQ.brT rfl rfl rfl (cT_ge p sz) ?_
    refine RQ.blk 2 (pc' := 36) (lv' := [(1, .int 0), (0, .ref 137)]) (st' := []) (H' := _) (kc' := 0) (ks' := 0) rfl ?_
    refine RQ.pick (a := [(1, .int 0), (0, .ref 137)]) [0, 1] [1, 0] rfl rfl (by decide) ?_
    refine RQ.while (S := Nat) (pc := 36) (fun r H' => ∃ (lm : Nat) (tl : Nat → Bool), r ≤ rs.length ∧ CurA H' 142 ∧ LastA H' ∧ lm < 2 ^ 30 ∧ H'[136]? = some (kO 8 (tabF lm bf gm)) ∧ H'[141]? = some (kZ N tl) ∧ (∀ i es, i < r → ess[i]? = some es → TlO tl od vs es) ∧ ∀ a, ¬ (a = 136 ∨ a = 138 ∨ a = 139 ∨ a = 141 ∨ a = 142 ∨ a = 143) → H'[a]? = H[a]?) (fun r => [(1, .int (nI r)), (0, .ref 137)]) (fun r => rs.length - r) ?_ 0 _ ⟨lm, tl, Nat.zero_le _, hCA.far (f1 142 (by decide)) (f1 143 (by decide)), hLA.far (f1 138 (by decide)) (f1 139 (by decide)), hlm, (f1 136 (by decide)).trans hTb, ht1, fun i es h => absurd h (Nat.not_lt_zero _), fun a ha => f1 a (by omega)⟩
    clear ih
    rintro r H2 ⟨lm2, tl2, hr, hCA2, hLA2, hlm2, hT2, ht2, hto2, f2⟩ ih
    have hA2 := hA.far (H' := H2) (fun a a1 a2 => f2 a (by omega))
    have hC2 := hC.far (H' := H2) (fun a a1 a2 => f2 a (by omega))
    have hQ3 := (f2 84 (by decide)).trans hQ
    by_cases hrl2 : r < rs.length
    ·
      obtain ⟨x, hx⟩ := lt_get hrl2
      obtain ⟨es, hes⟩ := lt_get (l := ess) (i := r) (by omega)
      obtain ⟨hOk, hSo⟩ := hok r x es hx hes
      obtain ⟨s, s1, s2⟩ := hpi r (by omega)
      have hR2 : RunIs H2 (pi r) x := (hrun r x hx).far (f2 _ (by omega)) (f2 _ (by omega))
      refine RQ.blk 2 (pc' := 38) (lv' := [(1, .int (nI r)), (0, .ref 137)]) (st' := [.ref 137, .int (nI r)]) (H' := _) (kc' := 0) (ks' := 0) rfl ?_
      refine RQ.get (ci := 8) rfl hT2 rfl rfl ?_
      refine RQ.get (ci := 3) rfl ((f2 83 (by decide)).trans hY.1) rfl rfl ?_
      refine RQ.brF rfl rfl rfl (cF_ge r rs.length) ?_
      refine RQ.blk 2 (pc' := 49) (lv' := [(1, .int (nI r)), (0, .ref 137)]) (st' := [.ref 137, .ref 137]) (H' := _) (kc' := 0) (ks' := 0) rfl ?_
      refine RQ.get (ci := 8) rfl hT2 rfl rfl ?_
      refine RQ.get (ci := 3) rfl ((f2 83 (by decide)).trans hY.1) rfl rfl ?_
      refine RQ.blk 1 (pc' := 56) (lv' := [(1, .int (nI r)), (0, .ref 137)]) (st' := [.int (nI r), .ref 85, .ref 137]) (H' := _) (kc' := 0) (ks' := 0) rfl ?_
      refine RQ.aaldN (j := r) rfl hQ3 (by omega) (by decide) (by decide) (hQ2 r (by omega)) ?_
      refine RQ.callI (st' := []) rfl rfl rfl rfl rfl rfl (args_v [.ref ((pi r) + 1)] [] rfl rfl (Nat.le_of_ble_eq_true rfl) rfl hT2 (Nat.le_of_ble_eq_true rfl)) (ri_inOrder (d := d) hA2 hW hvs hT2 hlm2 hLA2 ((f2 137 (by decide)).trans hCu) hcu0 hCA2 hC2 hB hR2 (by omega) (by omega) hOk hSo ht2) (fun y H3 hx3 => ?_)
      obtain ⟨ey, hCA3, hLA3, ⟨lm3, hlm3, hT3⟩, ⟨tl3, ht3, hm3, hto3⟩, f3⟩ := hx3
      rw [ey]
      refine RQ.brT rfl rfl rfl (by decide) ?_
      refine RQ.blk 1 (pc' := 68) (lv' := [(1, .int (nI r + 1)), (0, .ref 137)]) (st' := []) (H' := _) (kc' := 0) (ks' := 0) rfl ?_
      rw [show (nI r + 1 : Int32) = nI (r + 1) from nI_add r 1]
      refine RQ.blk 1 (pc' := 36) (lv' := [(1, .int (nI (r + 1))), (0, .ref 137)]) (st' := []) (H' := _) (kc' := 0) (ks' := 0) rfl ?_
      refine RQ.pick (a := [(1, .int (nI (r + 1))), (0, .ref 137)]) [0, 1] [1, 0] rfl rfl (by decide) ?_
      refine ih (r + 1) H3 ⟨lm3, tl3, by omega, hCA3, hLA3, hlm3, hT3, ht3, fun i es2 hi he2 => ?_, fun a ha => (f3 a ha).trans (f2 a ha)⟩ (by omega)
      by_cases hir : i = r
      · rw [hir, hes] at he2
        rw [← Option.some.inj he2]
        exact hto3
      · exact fun e he ht j v hv h1 h2 => hm3 _ (hto2 i es2 (by omega) he2 e he ht j v hv h1 h2)
    ·
      refine RQ.blk 2 (pc' := 38) (lv' := [(1, .int (nI r)), (0, .ref 137)]) (st' := [.ref 137, .int (nI r)]) (H' := _) (kc' := 0) (ks' := 0) rfl ?_
      refine RQ.get (ci := 8) rfl hT2 rfl rfl ?_
      refine RQ.get (ci := 3) rfl ((f2 83 (by decide)).trans hY.1) rfl rfl ?_
      refine RQ.brT rfl rfl rfl (cT_ge r rs.length) ?_
      refine RQ.blk 2 (pc' := 73) (lv' := [(1, .int 0), (0, .ref 137)]) (st' := []) (H' := _) (kc' := 0) (ks' := 0) rfl ?_
      refine RQ.pick (a := [(1, .int 0), (0, .ref 137)]) [0, 1] [1, 0] rfl rfl (by decide) ?_
      have hall : ∀ v ∈ vs, ∀ j, vs[j]? = some v → v.2.2.2.2 = false → tl2 (od j) = true := fun v hv j hj ha => by
        obtain ⟨es, hes, e, he, ht, h1, h2⟩ := hcov v hv ha
        obtain ⟨i, hi⟩ := List.getElem?_of_mem hes
        exact hto2 i es (by have := get_lt hi; omega) hi e he ht j v hj h1 h2
      refine RQ.while (S := Nat) (pc := 73) (fun p H' => p ≤ sz ∧ H' = H2) (fun p => [(1, .int (nI p)), (0, .ref 137)]) (fun p => sz - p) ?_ 0 H2 ⟨Nat.zero_le _, rfl⟩
      clear ih
      rintro p H3 ⟨hp, eH⟩ ih
      rw [show H3 = H2 from eH]
      by_cases hps : p < sz
      ·
        have hod := hW.1.2.2.2.1 p hps
        have hve : vs[p]? = some (verO kf kl mo pl le al (od p)) := by rw [hvs]; exact vsL_get hps
        refine RQ.blk 2 (pc' := 75) (lv' := [(1, .int (nI p)), (0, .ref 137)]) (st' := [.ref 137, .int (nI p)]) (H' := _) (kc' := 0) (ks' := 0) rfl ?_
        refine RQ.get (ci := 8) rfl hT2 rfl rfl ?_
        refine RQ.get (ci := 10) rfl hA2.1 rfl rfl ?_
        refine RQ.brF rfl rfl rfl (cF_ge p sz) ?_
        refine RQ.blk 1 (pc' := 85) (lv' := [(1, .int (nI p)), (0, .ref 137)]) (st' := [.ref 137]) (H' := _) (kc' := 0) (ks' := 0) rfl ?_
        refine RQ.get (ci := 8) rfl hT2 rfl rfl ?_
        refine RQ.get (ci := 10) rfl hA2.1 rfl rfl ?_
        refine RQ.blk 1 (pc' := 92) (lv' := [(1, .int (nI p)), (0, .ref 137)]) (st' := [.int (nI p), .ref 82]) (H' := _) (kc' := 0) (ks' := 0) rfl ?_
        refine RQ.ialdN (j := p) rfl hA2.2.2.2.2.2.2.2.1 (by omega) (by omega) ?_
        refine RQ.blk 2 (pc' := 95) (lv' := [(2, .int (nI (od p))), (1, .int (nI p)), (0, .ref 137)]) (st' := [.ref 137]) (H' := _) (kc' := 0) (ks' := 0) rfl ?_
        refine RQ.get (ci := 8) rfl hT2 rfl rfl ?_
        refine RQ.blk 1 (pc' := 99) (lv' := [(2, .int (nI (od p))), (1, .int (nI p)), (0, .ref 137)]) (st' := [.int (nI (od p)), .ref 142]) (H' := _) (kc' := 0) (ks' := 0) rfl ?_
        refine RQ.zaldN (j := od p) rfl ht2 (by omega) (by omega) ?_
        by_cases htp : tl2 (od p) = true
        · rw [if_pos htp]
          refine RQ.brT rfl rfl rfl (by decide) ?_
          refine RQ.blk 1 (pc' := 120) (lv' := [(1, .int (nI p + 1)), (2, .int (nI (od p))), (0, .ref 137)]) (st' := []) (H' := _) (kc' := 0) (ks' := 0) rfl ?_
          rw [show (nI p + 1 : Int32) = nI (p + 1) from nI_add p 1]
          refine RQ.blk 1 (pc' := 73) (lv' := [(1, .int (nI (p + 1))), (2, .int (nI (od p))), (0, .ref 137)]) (st' := []) (H' := _) (kc' := 0) (ks' := 0) rfl ?_
          refine RQ.pick (a := [(1, .int (nI (p + 1))), (0, .ref 137)]) [0, 2] [1, 2, 0] rfl rfl (by decide) ?_
          exact ih (p + 1) _ ⟨by omega, rfl⟩ (by omega)
        · rw [if_neg htp]
          refine RQ.brF rfl rfl rfl (by decide) ?_
          refine RQ.blk 1 (pc' := 104) (lv' := [(2, .int (nI (od p))), (1, .int (nI p)), (0, .ref 137)]) (st' := [.ref 137]) (H' := _) (kc' := 0) (ks' := 0) rfl ?_
          refine RQ.get (ci := 8) rfl hT2 rfl rfl ?_
          refine RQ.get (ci := 10) rfl hA2.1 rfl rfl ?_
          refine RQ.blk 1 (pc' := 111) (lv' := [(2, .int (nI (od p))), (1, .int (nI p)), (0, .ref 137)]) (st' := [.int (nI (od p)), .ref 81]) (H' := _) (kc' := 0) (ks' := 0) rfl ?_
          refine RQ.zaldN (j := od p) rfl hA2.2.2.2.2.2.2.1 (by omega) (by omega) ?_
          have hal : al (od p) = true := by
            cases e : al (od p) with
            | true => rfl
            | false => exact absurd (hall _ (List.mem_of_getElem? hve) p hve e) htp
          rw [if_pos hal]
          refine RQ.brT rfl rfl rfl (by decide) ?_
          refine RQ.blk 1 (pc' := 120) (lv' := [(1, .int (nI p + 1)), (2, .int (nI (od p))), (0, .ref 137)]) (st' := []) (H' := _) (kc' := 0) (ks' := 0) rfl ?_
          rw [show (nI p + 1 : Int32) = nI (p + 1) from nI_add p 1]
          refine RQ.blk 1 (pc' := 73) (lv' := [(1, .int (nI (p + 1))), (2, .int (nI (od p))), (0, .ref 137)]) (st' := []) (H' := _) (kc' := 0) (ks' := 0) rfl ?_
          refine RQ.pick (a := [(1, .int (nI (p + 1))), (0, .ref 137)]) [0, 2] [1, 2, 0] rfl rfl (by decide) ?_
          exact ih (p + 1) _ ⟨by omega, rfl⟩ (by omega)
      ·
        refine RQ.blk 2 (pc' := 75) (lv' := [(1, .int (nI p)), (0, .ref 137)]) (st' := [.ref 137, .int (nI p)]) (H' := _) (kc' := 0) (ks' := 0) rfl ?_
        refine RQ.get (ci := 8) rfl hT2 rfl rfl ?_
        refine RQ.get (ci := 10) rfl hA2.1 rfl rfl ?_
        refine RQ.brT rfl rfl rfl (cT_ge p sz) ?_
        refine RQ.blk 1 (pc' := 124) (lv' := [(1, .int (nI p)), (0, .ref 137)]) (st' := [.int 1]) (H' := _) (kc' := 0) (ks' := 0) rfl ?_
        exact RQ.done (c := 0) (s := 0) rfl rfl rfl rfl ⟨_, _, rfl, rfl, hCA2, hLA2, ⟨lm2, hlm2, hT2⟩, ⟨tl2, ht2⟩, f2⟩
