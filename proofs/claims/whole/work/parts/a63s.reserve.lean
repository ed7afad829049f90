/-! ===== whether the reserve of blocks is lacking; class; written by wip/gen/reserve.py ===== -/
/-- the bytes of the entries of what is in memory alone -/
def alB (vs : List aV) : Nat := ((vs.filter (fun v => v.2.2.2.2)).map fK).sum
theorem alB_take {vs : List aV} {p : Nat} {v : aV} (h : vs[p]? = some v) : alB (vs.take (p + 1)) = alB (vs.take p) + (if v.2.2.2.2 = true then fK v else 0) := by
  unfold alB
  rw [take_get h, List.filter_append, List.map_append, List.sum_append, List.filter_cons, List.filter_nil]
  split
  · rw [List.map_cons, List.map_nil, List.sum_singleton]
  · rfl
theorem alB_le : ∀ {vs : List aV}, (∀ v ∈ vs, v.1.length ≤ 41) → alB vs ≤ 51 * vs.length
  | [], _ => Nat.le_refl _
  | v :: vs, h => by
    have ih := alB_le (fun w hw => h w (List.mem_cons_of_mem _ hw))
    have hv := h v List.mem_cons_self
    unfold alB at ih ⊢
    rw [List.filter_cons, List.length_cons]
    split
    · rw [List.map_cons, List.sum_cons]
      show v.1.length + 10 + _ ≤ _
      omega
    · omega
theorem alone_bytes : ∀ (vs : List aV), ((aloneE vs).flatMap encE).length = alB vs := fun vs => mapE_bytes _
/-- the blocks of what is in memory alone; of the tables -/
def alBk (vs : List aV) : Nat := (alB vs + 2048 - 1) / 2048
def tbK (rs : List aR) : Nat := (rs.map (fun x => x.2.2.2.length)).sum
abbrev lackP (B : Nat) (us : Nat → Bool) (vs : List aV) (rs : List aR) : Prop := freeN us B < B / 8 * 3 + (alBk vs + alBk vs + tbK rs + 6) ∨ 21 < rs.length
theorem ri_aloneBlocks {sc : Nat × (Nat → Int32)} {d N lm bf gm : Nat} {H : aH} {vs : List aV} (hV : VersIs H N vs) (hT : H[136]? = some (kO 8 (tabF lm bf gm))) : RI sc (d + 1) mr_332 [.ref 137] H (fun x H' => H' = H ∧ x = nI (alBk vs) ∧ alB vs < 2 ^ 30) := by
  obtain ⟨kf, kl, mo, pl, le, al, od, sp, sz, ss, ac, hA, hW, hvs⟩ := hV
  have hN := hW.1.1
  have hszN := hW.1.2.1
  have hsz : vs.length = sz := by rw [hvs]; unfold vsL; rw [List.length_map, List.length_range]
  have hve : ∀ j, j < sz → vs[j]? = some (verO kf kl mo pl le al (od j)) := fun j hj => by rw [hvs]; exact vsL_get hj
  have hk41 : ∀ v ∈ vs, v.1.length ≤ 41 := fun v hv => by
    rw [hvs] at hv
    obtain ⟨q, hq, e⟩ := List.mem_map.mp hv
    have hq := List.mem_range.mp hq
    have b1 := hW.1.2.2.2.2.2 _ (hW.1.2.2.2.1 q hq)
    rw [← e]
    show (sl kf (od q * 41) (kl (od q))).length ≤ 41
    rw [sl_length]
    exact b1.1
  have hbd : ∀ p, p ≤ sz → alB (vs.take p) < 2 ^ 30 := fun p hp => by
    have h1 := alB_le (vs := vs.take p) (fun v hv => hk41 v (List.mem_of_mem_take hv))
    rw [List.length_take] at h1
    omega
  refine RI.of ?_
  refine RQ.blk 4 (pc' := 4) (lv' := [(2, .int 0), (1, .int 0), (0, .ref 137)]) (st' := []) (H' := _) (kc' := 0) (ks' := 0) rfl ?_
  refine RQ.while (S := Nat) (pc := 4) (fun p H' => p ≤ sz ∧ H' = H) (fun p => [(2, .int (nI p)), (1, .int (nI (alB (vs.take p)))), (0, .ref 137)]) (fun p => sz - p) ?_ 0 H ⟨Nat.zero_le _, rfl⟩
  rintro p H1 ⟨hp, rfl⟩ ih
  have hbp := hbd p hp
  by_cases hps : p < sz
  ·
    have hod := hW.1.2.2.2.1 p hps
    have hso := hW.1.2.2.2.2.2 _ hod
    have hvp := hve p hps
    have hst := alB_take hvp
    have hb2 := hbd (p + 1) hps
    refine RQ.blk 2 (pc' := 6) (lv' := [(2, .int (nI p)), (1, .int (nI (alB (vs.take p)))), (0, .ref 137)]) (st' := [.ref 137, .int (nI p)]) (H' := _) (kc' := 0) (ks' := 0) rfl ?_
    refine RQ.get (ci := 8) rfl hT rfl rfl ?_
    refine RQ.get (ci := 10) rfl hA.1 rfl rfl ?_
    refine RQ.brF rfl rfl rfl (cF_ge p sz) ?_
    refine RQ.blk 1 (pc' := 16) (lv' := [(2, .int (nI p)), (1, .int (nI (alB (vs.take p)))), (0, .ref 137)]) (st' := [.ref 137]) (H' := _) (kc' := 0) (ks' := 0) rfl ?_
    refine RQ.get (ci := 8) rfl hT rfl rfl ?_
    refine RQ.get (ci := 10) rfl hA.1 rfl rfl ?_
    refine RQ.blk 1 (pc' := 23) (lv' := [(2, .int (nI p)), (1, .int (nI (alB (vs.take p)))), (0, .ref 137)]) (st' := [.int (nI p), .ref 82]) (H' := _) (kc' := 0) (ks' := 0) rfl ?_
    refine RQ.ialdN (j := p) rfl hA.2.2.2.2.2.2.2.1 (by omega) (by omega) ?_
    refine RQ.blk 3 (pc' := 27) (lv' := [(3, .int (nI (od p))), (2, .int (nI p)), (1, .int (nI (alB (vs.take p)))), (0, .ref 137)]) (st' := [.ref 137, .int (nI (alB (vs.take p)))]) (H' := _) (kc' := 0) (ks' := 0) rfl ?_
    refine RQ.get (ci := 8) rfl hT rfl rfl ?_
    refine RQ.get (ci := 10) rfl hA.1 rfl rfl ?_
    refine RQ.blk 1 (pc' := 34) (lv' := [(3, .int (nI (od p))), (2, .int (nI p)), (1, .int (nI (alB (vs.take p)))), (0, .ref 137)]) (st' := [.int (nI (od p)), .ref 81, .int (nI (alB (vs.take p)))]) (H' := _) (kc' := 0) (ks' := 0) rfl ?_
    refine RQ.zaldN (j := od p) rfl hA.2.2.2.2.2.2.1 (by omega) (by omega) ?_
    by_cases hal : al (od p) = true
    · rw [if_pos hal]
      refine RQ.brF rfl rfl rfl (by decide) ?_
      refine RQ.blk 1 (pc' := 39) (lv' := [(3, .int (nI (od p))), (2, .int (nI p)), (1, .int (nI (alB (vs.take p)))), (0, .ref 137)]) (st' := [.ref 137, .int (nI (alB (vs.take p)))]) (H' := _) (kc' := 0) (ks' := 0) rfl ?_
      refine RQ.get (ci := 8) rfl hT rfl rfl ?_
      refine RQ.get (ci := 10) rfl hA.1 rfl rfl ?_
      refine RQ.blk 1 (pc' := 46) (lv' := [(3, .int (nI (od p))), (2, .int (nI p)), (1, .int (nI (alB (vs.take p)))), (0, .ref 137)]) (st' := [.int (nI (od p)), .ref 77, .int (nI (alB (vs.take p)))]) (H' := _) (kc' := 0) (ks' := 0) rfl ?_
      refine RQ.ialdN (j := od p) rfl hA.2.2.1 (by omega) (by omega) ?_
      refine RQ.blk 2 (pc' := 50) (lv' := [(3, .int (nI (od p))), (2, .int (nI p)), (1, .int (nI (alB (vs.take p)))), (0, .ref 137)]) (st' := [.int (nI (kl (od p)) + 10), .int (nI (alB (vs.take p)))]) (H' := _) (kc' := 0) (ks' := 0) rfl ?_
      rw [show (nI (kl (od p)) + 10 : Int32) = nI (kl (od p) + 10) from nI_add (kl (od p)) 10]
      refine RQ.blk 2 (pc' := 55) (lv' := [(3, .int (nI (od p))), (2, .int (nI p)), (1, .int (nI (alB (vs.take p)))), (0, .ref 137)]) (st' := [.int (nI (alB (vs.take p)) + nI (kl (od p) + 10))]) (H' := _) (kc' := 0) (ks' := 0) rfl ?_
      rw [show (nI (alB (vs.take p)) + nI (kl (od p) + 10) : Int32) = nI (alB (vs.take p) + (kl (od p) + 10)) from nI_add (alB (vs.take p)) (kl (od p) + 10)]
      refine RQ.blk 2 (pc' := 59) (lv' := [(2, .int (nI p + 1)), (1, .int (nI (alB (vs.take p) + (kl (od p) + 10)))), (3, .int (nI (od p))), (0, .ref 137)]) (st' := []) (H' := _) (kc' := 0) (ks' := 0) rfl ?_
      rw [show (nI p + 1 : Int32) = nI (p + 1) from nI_add p 1]
      refine RQ.blk 1 (pc' := 4) (lv' := [(2, .int (nI (p + 1))), (1, .int (nI (alB (vs.take p) + (kl (od p) + 10)))), (3, .int (nI (od p))), (0, .ref 137)]) (st' := []) (H' := _) (kc' := 0) (ks' := 0) rfl ?_
      refine RQ.pick (a := [(2, .int (nI (p + 1))), (1, .int (nI (alB (vs.take p) + (kl (od p) + 10)))), (0, .ref 137)]) [0, 1, 3] [2, 1, 3, 0] rfl rfl (by decide) ?_
      have hst2 : alB (vs.take (p + 1)) = alB (vs.take p) + (kl (od p) + 10) := by rw [hst, if_pos (show (verO kf kl mo pl le al (od p)).2.2.2.2 = true from hal)]; show _ + ((sl kf (od p * 41) (kl (od p))).length + 10) = _; rw [sl_length]
      have ih := ih (p + 1) _ ⟨hps, rfl⟩ (by omega)
      rw [hst2] at ih
      exact ih
    · rw [if_neg hal]
      refine RQ.brT rfl rfl rfl (by decide) ?_
      refine RQ.blk 2 (pc' := 55) (lv' := [(3, .int (nI (od p))), (2, .int (nI p)), (1, .int (nI (alB (vs.take p)))), (0, .ref 137)]) (st' := [.int (nI (alB (vs.take p)) + 0)]) (H' := _) (kc' := 0) (ks' := 0) rfl ?_
      rw [show (nI (alB (vs.take p)) + 0 : Int32) = nI (alB (vs.take p) + 0) from nI_add (alB (vs.take p)) 0]
      refine RQ.blk 2 (pc' := 59) (lv' := [(2, .int (nI p + 1)), (1, .int (nI (alB (vs.take p) + 0))), (3, .int (nI (od p))), (0, .ref 137)]) (st' := []) (H' := _) (kc' := 0) (ks' := 0) rfl ?_
      rw [show (nI p + 1 : Int32) = nI (p + 1) from nI_add p 1]
      refine RQ.blk 1 (pc' := 4) (lv' := [(2, .int (nI (p + 1))), (1, .int (nI (alB (vs.take p) + 0))), (3, .int (nI (od p))), (0, .ref 137)]) (st' := []) (H' := _) (kc' := 0) (ks' := 0) rfl ?_
      refine RQ.pick (a := [(2, .int (nI (p + 1))), (1, .int (nI (alB (vs.take p) + 0))), (0, .ref 137)]) [0, 1, 3] [2, 1, 3, 0] rfl rfl (by decide) ?_
      have hst2 : alB (vs.take (p + 1)) = alB (vs.take p) + 0 := by rw [hst, if_neg (show ¬ (verO kf kl mo pl le al (od p)).2.2.2.2 = true from hal)]
      have ih := ih (p + 1) _ ⟨hps, rfl⟩ (by omega)
      rw [hst2] at ih
      exact ih
  ·
    have hpe : p = sz := by omega
    have hte : vs.take p = vs := List.take_of_length_le (by omega)
    rw [hte] at hbp
    rw [hte]
    refine RQ.blk 2 (pc' := 6) (lv' := [(2, .int (nI p)), (1, .int (nI (alB vs))), (0, .ref 137)]) (st' := [.ref 137, .int (nI p)]) (H' := _) (kc' := 0) (ks' := 0) rfl ?_
    refine RQ.get (ci := 8) rfl hT rfl rfl ?_
    refine RQ.get (ci := 10) rfl hA.1 rfl rfl ?_
    refine RQ.brT rfl rfl rfl (cT_ge p sz) ?_
    refine RQ.blk 3 (pc' := 67) (lv' := [(2, .int (nI p)), (1, .int (nI (alB vs))), (0, .ref 137)]) (st' := [.int (nI (alB vs) + 2048)]) (H' := _) (kc' := 0) (ks' := 0) rfl ?_
    rw [show (nI (alB vs) + 2048 : Int32) = nI (alB vs + 2048) from nI_add (alB vs) 2048]
    refine RQ.blk 2 (pc' := 69) (lv' := [(2, .int (nI p)), (1, .int (nI (alB vs))), (0, .ref 137)]) (st' := [.int (nI (alB vs + 2048) - 1)]) (H' := _) (kc' := 0) (ks' := 0) rfl ?_
    rw [show (nI (alB vs + 2048) - 1 : Int32) = nI ((alB vs + 2048) - 1) from pk_sub (a := (alB vs + 2048)) (b := 1) (by omega)]
    refine RQ.blk 2 (pc' := 73) (lv' := [(2, .int (nI p)), (1, .int (nI (alB vs))), (0, .ref 137)]) (st' := [.int (nI ((alB vs + 2048) - 1) / 2048)]) (H' := _) (kc' := 0) (ks' := 0) rfl ?_
    rw [show (nI ((alB vs + 2048) - 1) / 2048 : Int32) = nI (((alB vs + 2048) - 1) / 2048) from pk_div (a := ((alB vs + 2048) - 1)) (d := 2048) (by omega) (by omega) (by omega)]
    exact RQ.done (c := 0) (s := 0) rfl rfl rfl rfl ⟨_, _, rfl, rfl, rfl, hbp⟩
theorem ri_lacks {sc : Nat × (Nat → Int32)} {d N lm bf gm : Nat} {H : aH} {pr up cw cl cp cb : Int32} {vs : List aV} {B : Nat} {lgs : List Nat} {fr ff : Nat} {wr : Bool} {tp : Nat} {rs : List aR} {ms mt sq tu : Nat} {us : Nat → Bool} (h0 : H[0]? = some (kO 11 (fvs (nI B) pr up cw cl cp cb))) (hV : VersIs H N vs) (hT : H[136]? = some (kO 8 (tabF lm bf gm))) (h : LayIs H B lgs fr ff wr tp rs ms mt sq tu us) (hB : B ≤ 128) (htb : tbK rs < 2 ^ 30) (hrl : rs.length ≤ 24) : RI sc (d + 2) mr_331 [.ref 1] H (fun x H' => H' = H ∧ x = if lackP B us vs rs then 1 else 0) := by
  obtain ⟨lg, pi, hY, hlg, hlc, hRs⟩ := id h
  refine RI.of ?_
  refine RQ.blk 1 (pc' := 1) (lv' := [(0, .ref 1)]) (st' := [.ref 1]) (H' := _) (kc' := 0) (ks' := 0) rfl ?_
  refine RQ.get (ci := 11) rfl h0 rfl rfl ?_
  refine RQ.blk 2 (pc' := 7) (lv' := [(0, .ref 1)]) (st' := [.int (nI B / 8)]) (H' := _) (kc' := 0) (ks' := 0) rfl ?_
  rw [show (nI B / 8 : Int32) = nI (B / 8) from pk_div (a := B) (d := 8) (by omega) (by omega) (by omega)]
  refine RQ.blk 2 (pc' := 9) (lv' := [(0, .ref 1)]) (st' := [.int (nI (B / 8) * 3)]) (H' := _) (kc' := 0) (ks' := 0) rfl ?_
  rw [show (nI (B / 8) * 3 : Int32) = nI ((B / 8) * 3) from pk_mul (B / 8) 3]
  refine RQ.blk 2 (pc' := 11) (lv' := [(1, .int (nI ((B / 8) * 3))), (0, .ref 1)]) (st' := [.ref 1]) (H' := _) (kc' := 0) (ks' := 0) rfl ?_
  refine RQ.get (ci := 11) rfl h0 rfl rfl ?_
  refine RQ.callI (st' := []) rfl rfl rfl rfl rfl rfl (args_v [] [] rfl rfl (Nat.le_of_ble_eq_true rfl) rfl hT (Nat.le_of_ble_eq_true rfl)) (ri_aloneBlocks hV hT) (fun y H1 hx => ?_)
  obtain ⟨rfl, rfl, hab⟩ := hx
  have hak : alBk vs < 2 ^ 20 := by unfold alBk; omega
  refine RQ.blk 4 (pc' := 21) (lv' := [(2, .int (nI (alBk vs))), (1, .int (nI ((B / 8) * 3))), (0, .ref 1)]) (st' := [.int (nI (alBk vs) + nI (alBk vs))]) (H' := _) (kc' := 0) (ks' := 0) rfl ?_
  rw [show (nI (alBk vs) + nI (alBk vs) : Int32) = nI (alBk vs + (alBk vs)) from nI_add (alBk vs) (alBk vs)]
  refine RQ.blk 1 (pc' := 22) (lv' := [(2, .int (nI (alBk vs))), (1, .int (nI ((B / 8) * 3))), (0, .ref 1)]) (st' := [.ref 1, .int (nI (alBk vs + (alBk vs)))]) (H' := _) (kc' := 0) (ks' := 0) rfl ?_
  refine RQ.get (ci := 11) rfl h0 rfl rfl ?_
  refine RQ.call (v := some (.int (nI (tbK rs)))) (st' := [.int (nI (alBk vs + (alBk vs)))]) rfl rfl rfl rfl rfl rfl (args_v [] [.int (nI (alBk vs + (alBk vs)))] rfl rfl (Nat.le_of_ble_eq_true rfl) rfl hY.1 (Nat.le_of_ble_eq_true rfl)) (rc_tableBlocks h hB) ?_
  refine RQ.blk 1 (pc' := 29) (lv' := [(2, .int (nI (alBk vs))), (1, .int (nI ((B / 8) * 3))), (0, .ref 1)]) (st' := [.int (nI (alBk vs + (alBk vs)) + nI (tbK rs))]) (H' := _) (kc' := 0) (ks' := 0) rfl ?_
  rw [show (nI (alBk vs + (alBk vs)) + nI (tbK rs) : Int32) = nI (alBk vs + (alBk vs) + (tbK rs)) from nI_add (alBk vs + (alBk vs)) (tbK rs)]
  refine RQ.blk 2 (pc' := 32) (lv' := [(2, .int (nI (alBk vs))), (1, .int (nI ((B / 8) * 3))), (0, .ref 1)]) (st' := [.int (nI (alBk vs + (alBk vs) + (tbK rs)) + 6)]) (H' := _) (kc' := 0) (ks' := 0) rfl ?_
  rw [show (nI (alBk vs + (alBk vs) + (tbK rs)) + 6 : Int32) = nI (alBk vs + (alBk vs) + (tbK rs) + 6) from nI_add (alBk vs + (alBk vs) + (tbK rs)) 6]
  refine RQ.blk 2 (pc' := 34) (lv' := [(3, .int (nI (alBk vs + (alBk vs) + (tbK rs) + 6))), (2, .int (nI (alBk vs))), (1, .int (nI ((B / 8) * 3))), (0, .ref 1)]) (st' := [.ref 1]) (H' := _) (kc' := 0) (ks' := 0) rfl ?_
  refine RQ.get (ci := 11) rfl h0 rfl rfl ?_
  refine RQ.call (v := some (.int (nI (freeN us B)))) (st' := []) rfl rfl rfl rfl rfl rfl (args_v [] [] rfl rfl (Nat.le_of_ble_eq_true rfl) rfl hY.1 (Nat.le_of_ble_eq_true rfl)) (rc_freeBlocks hY hB) ?_
  have hfb : freeN us B ≤ B := cntB_le _ _
  refine RQ.blk 3 (pc' := 43) (lv' := [(3, .int (nI (alBk vs + (alBk vs) + (tbK rs) + 6))), (2, .int (nI (alBk vs))), (1, .int (nI ((B / 8) * 3))), (0, .ref 1)]) (st' := [.int (nI ((B / 8) * 3) + nI (alBk vs + (alBk vs) + (tbK rs) + 6)), .int (nI (freeN us B))]) (H' := _) (kc' := 0) (ks' := 0) rfl ?_
  rw [show (nI ((B / 8) * 3) + nI (alBk vs + (alBk vs) + (tbK rs) + 6) : Int32) = nI ((B / 8) * 3 + (alBk vs + (alBk vs) + (tbK rs) + 6)) from nI_add ((B / 8) * 3) (alBk vs + (alBk vs) + (tbK rs) + 6)]
  by_cases hl1 : freeN us B < B / 8 * 3 + (alBk vs + alBk vs + tbK rs + 6)
  · refine RQ.brT rfl rfl rfl (cT_lt (freeN us B) (B / 8 * 3 + (alBk vs + alBk vs + tbK rs + 6))) ?_
    refine RQ.blk 2 (pc' := 63) (lv' := [(3, .int (nI (alBk vs + (alBk vs) + (tbK rs) + 6))), (2, .int (nI (alBk vs))), (1, .int (nI ((B / 8) * 3))), (0, .ref 1)]) (st' := [.int 1]) (H' := _) (kc' := 0) (ks' := 0) rfl ?_
    exact RQ.done (c := 0) (s := 0) rfl rfl rfl rfl ⟨_, _, rfl, rfl, (if_pos (Or.inl hl1)).symm⟩
  · refine RQ.brF rfl rfl rfl (cF_lt (freeN us B) (B / 8 * 3 + (alBk vs + alBk vs + tbK rs + 6))) ?_
    refine RQ.blk 1 (pc' := 47) (lv' := [(3, .int (nI (alBk vs + (alBk vs) + (tbK rs) + 6))), (2, .int (nI (alBk vs))), (1, .int (nI ((B / 8) * 3))), (0, .ref 1)]) (st' := [.ref 1]) (H' := _) (kc' := 0) (ks' := 0) rfl ?_
    refine RQ.get (ci := 11) rfl h0 rfl rfl ?_
    refine RQ.get (ci := 3) rfl hY.1 rfl rfl ?_
    refine RQ.blk 1 (pc' := 55) (lv' := [(3, .int (nI (alBk vs + (alBk vs) + (tbK rs) + 6))), (2, .int (nI (alBk vs))), (1, .int (nI ((B / 8) * 3))), (0, .ref 1)]) (st' := [.int 21, .int (nI rs.length)]) (H' := _) (kc' := 0) (ks' := 0) rfl ?_
    by_cases hl2 : 21 < rs.length
    · refine RQ.brF rfl rfl rfl (cF_le rs.length 21) ?_
      refine RQ.blk 2 (pc' := 63) (lv' := [(3, .int (nI (alBk vs + (alBk vs) + (tbK rs) + 6))), (2, .int (nI (alBk vs))), (1, .int (nI ((B / 8) * 3))), (0, .ref 1)]) (st' := [.int 1]) (H' := _) (kc' := 0) (ks' := 0) rfl ?_
      exact RQ.done (c := 0) (s := 0) rfl rfl rfl rfl ⟨_, _, rfl, rfl, (if_pos (Or.inr hl2)).symm⟩
    · refine RQ.brT rfl rfl rfl (cT_le rs.length 21) ?_
      refine RQ.blk 1 (pc' := 63) (lv' := [(3, .int (nI (alBk vs + (alBk vs) + (tbK rs) + 6))), (2, .int (nI (alBk vs))), (1, .int (nI ((B / 8) * 3))), (0, .ref 1)]) (st' := [.int 0]) (H' := _) (kc' := 0) (ks' := 0) rfl ?_
      exact RQ.done (c := 0) (s := 0) rfl rfl rfl rfl ⟨_, _, rfl, rfl, (if_neg (fun e => e.elim hl1 hl2)).symm⟩
theorem rr_of {sc : Nat × (Nat → Int32)} {d P : Nat} {H : aH} {X : Prop} [Decidable X] {ok bad : aH → Prop} (h : RI sc d mr_331 [.ref 1] H (fun x H' => H' = H ∧ x = if X then 1 else 0)) (h0 : ¬ X → ok H) (h1 : X → RE sc d mr_333 [.ref 191, .int (nI P)] H ok bad) : RR sc d P H ok bad := by
  obtain ⟨x, H', hc, rfl, rfl⟩ := h
  by_cases hx : X
  · rw [if_pos hx] at hc
    exact Or.inr ⟨hc, h1 hx⟩
  · rw [if_neg hx] at hc
    exact Or.inl ⟨hc, h0 hx⟩
