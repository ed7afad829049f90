/-! ===== all tables are taken in, with room for as many versions as there are keys; class; out of a26 by hand ===== -/
theorem foldE_keys {v : aV} : ∀ (es : List aT) {vs : List aV}, v ∈ es.foldl meetE vs → v ∈ vs ∨ ∃ e ∈ es, v.1 = e.1
  | [], _, h => Or.inl h
  | e :: t, vs, h => by
    rcases foldE_keys t (vs := meetE vs e) h with q | ⟨f, f1, f2⟩
    · rcases mem_meetV q with r | r
      · exact Or.inr ⟨e, List.mem_cons_self, by rw [r]⟩
      · exact Or.inl r
    · exact Or.inr ⟨f, List.mem_cons_of_mem _ f1, f2⟩
set_option maxRecDepth 10000 in
theorem rn_loadAllK {sc : Nat × (Nat → Int32)} {d N lm bf gm : Nat} {H : aH} {B : Nat} {lgs : List Nat} {fr ff : Nat} {wr : Bool} {tp : Nat} {rs : List aR} {ms mt sq tu : Nat} {us : Nat → Bool} {cf : Nat → Int8} {tf : Nat → Nat} {pq : Option Nat} {bb : Nat} {cu : Nat → Option Nat} {vs : List aV} {ess : List (List aT)} (h : LayIs H B lgs fr ff wr tp rs ms mt sq tu us) (hB : B ≤ 128) (hTb : H[136]? = some (kO 8 (tabF lm bf gm))) (hCu : H[137]? = some (kQ 6 24 cu)) (hcu0 : cu 0 = some 142) (hCA : CurA H 142) (hC : ChipAt H B cf tf pq bb 0) (hV : VersIs H N vs) (hss : SS vs) (hlen : ess.length = rs.length) (hok : ∀ (r : Nat) (x : aR) (es : List aT), rs[r]? = some x → ess[r]? = some es → RunOk cf B x es) {KS : List (List Nat)} (hvK : ∀ v ∈ vs, v.1 ∈ KS) (heK : ∀ e ∈ ess.flatten, e.1 ∈ KS) (hKN : KS.length ≤ N) : RN sc (d + 3) mr_183 [.ref 137] H (fun H' => VersIs H' N (ess.flatten.foldl meetE vs) ∧ CurA H' 142 ∧ ∀ a, ¬ (74 ≤ a ∧ a < 83) → a ≠ 142 → a ≠ 143 → H'[a]? = H[a]?) := by
  obtain ⟨lg, pi, hY, hlg, hlc, hRs⟩ := h
  obtain ⟨⟨Q, hQ, hQ2⟩, hpi, hinj, hrun, hall, hrl⟩ := hRs
  refine RN.of ?_
  refine RQ.blk 1 (pc' := 1) (lv' := [(0, .ref 137)]) (st' := [.ref 137]) (H' := _) (kc' := 0) (ks' := 0) rfl ?_
  refine RQ.get (ci := 8) rfl hTb rfl rfl ?_
  refine RQ.blk 1 (pc' := 5) (lv' := [(0, .ref 137)]) (st' := [.int 0, .ref 138]) (H' := _) (kc' := 0) (ks' := 0) rfl ?_
  refine RQ.aaldN (j := 0) rfl hCu (by omega) (by decide) (by decide) (hcu0) ?_
  refine RQ.blk 3 (pc' := 9) (lv' := [(2, .int 0), (1, .ref 143), (0, .ref 137)]) (st' := []) (H' := _) (kc' := 0) (ks' := 0) rfl ?_
  refine RQ.while (S := Nat) (pc := 9) (fun r H' => r ≤ rs.length ∧ VersIs H' N ((ess.take r).flatten.foldl meetE vs) ∧ CurA H' 142 ∧ ∀ a, ¬ (74 ≤ a ∧ a < 83) → a ≠ 142 → a ≠ 143 → H'[a]? = H[a]?) (fun r => [(2, .int (nI r)), (1, .ref 143), (0, .ref 137)]) (fun r => rs.length - r) ?_ 0 H ⟨Nat.zero_le _, hV, hCA, fun a _ _ _ => rfl⟩
  rintro r H1 ⟨hr, hV1, hCA1, f1⟩ ih
  by_cases hrl2 : r < rs.length
  · obtain ⟨x, hx⟩ := lt_get hrl2
    obtain ⟨es, hes⟩ := lt_get (l := ess) (i := r) (by omega)
    have hOk := hok r x es hx hes
    have hR := hrun r x hx
    obtain ⟨s, s1, s2⟩ := hpi r (by omega)
    have hfl := len_flat hes
    refine RQ.blk 2 (pc' := 11) (lv' := [(2, .int (nI r)), (1, .ref 143), (0, .ref 137)]) (st' := [.ref 137, .int (nI r)]) (H' := _) (kc' := 0) (ks' := 0) rfl ?_
    refine RQ.get (ci := 8) rfl ((f1 136 (by decide) (by decide) (by decide)).trans hTb) rfl rfl ?_
    refine RQ.get (ci := 3) rfl ((f1 83 (by decide) (by decide) (by decide)).trans hY.1) rfl rfl ?_
    refine RQ.brF rfl rfl rfl (cF_ge r rs.length) ?_
    refine RQ.blk 2 (pc' := 22) (lv' := [(2, .int (nI r)), (1, .ref 143), (0, .ref 137)]) (st' := [.ref 137, .ref 143]) (H' := _) (kc' := 0) (ks' := 0) rfl ?_
    refine RQ.get (ci := 8) rfl ((f1 136 (by decide) (by decide) (by decide)).trans hTb) rfl rfl ?_
    refine RQ.get (ci := 3) rfl ((f1 83 (by decide) (by decide) (by decide)).trans hY.1) rfl rfl ?_
    refine RQ.blk 1 (pc' := 29) (lv' := [(2, .int (nI r)), (1, .ref 143), (0, .ref 137)]) (st' := [.int (nI r), .ref 85, .ref 143]) (H' := _) (kc' := 0) (ks' := 0) rfl ?_
    refine RQ.aaldN (j := r) rfl ((f1 84 (by decide) (by decide) (by decide)).trans hQ) (by omega) (by decide) (by decide) (hQ2 r (by omega)) ?_
    obtain ⟨g, rn, o1, kl1, mo1, pl1, le1, en1, hg1, hq1⟩ := hCA1
    refine RQ.call (v := none) (st' := []) rfl rfl rfl rfl rfl rfl (args_v [.ref ((pi r) + 1)] [] rfl rfl (Nat.le_of_ble_eq_true rfl) rfl hq1 (Nat.le_of_ble_eq_true rfl)) (rc_copen (q := 142) (r := pi r) hq1) ?_
    have hq2 : (H1.set 142 (kO 2 (curF 142 (.ref (pi r + 1)) 0 kl1 mo1 pl1 le1 en1)))[142]? = some (kO 2 (curF 142 (.ref (pi r + 1)) (nI (offE es 0)) kl1 mo1 pl1 le1 en1)) := get_set hq1
    have f2 : ∀ a, ¬ (74 ≤ a ∧ a < 83) → a ≠ 142 → a ≠ 143 → (H1.set 142 (kO 2 (curF 142 (.ref (pi r + 1)) 0 kl1 mo1 pl1 le1 en1)))[a]? = H[a]? := fun a a1 a2 a3 => (set_far a2).trans (f1 a a1 a2 a3)
    have hV2 := hV1.far (H' := (H1.set 142 (kO 2 (curF 142 (.ref (pi r + 1)) 0 kl1 mo1 pl1 le1 en1)))) (fun a a1 a2 => set_far (by omega))
    have hg2 : (H1.set 142 (kO 2 (curF 142 (.ref (pi r + 1)) 0 kl1 mo1 pl1 le1 en1)))[143]? = _ := (set_far (by decide)).trans hg1
    generalize (H1.set 142 (kO 2 (curF 142 (.ref (pi r + 1)) 0 kl1 mo1 pl1 le1 en1))) = H2 at hq2 f2 hV2 hg2 ⊢
    have hC2 := hC.far (H' := H2) (fun a a1 a2 => f2 a (by omega) (by omega) (by omega))
    have hR2 : RunIs H2 (pi r) x := hR.far (f2 _ (by omega) (by omega) (by omega)) (f2 _ (by omega) (by omega) (by omega))
    refine RQ.blk 1 (pc' := 34) (lv' := [(2, .int (nI r)), (1, .ref 143), (0, .ref 137)]) (st' := [.ref 143]) (H' := _) (kc' := 0) (ks' := 0) rfl ?_
    refine RQ.callN (st' := []) rfl rfl rfl rfl rfl rfl (args_v [] [] rfl rfl (Nat.le_of_ble_eq_true rfl) rfl hq2 (Nat.le_of_ble_eq_true rfl)) (rn_cadvO (q := 142) (i := 0) hq2 hg2 hR2 hOk hC2 hB (by decide) (by omega) (Nat.zero_le _)) (fun H3 hx3 => ?_)
    obtain ⟨hI3, f3⟩ := hx3
    have f4 : ∀ a, ¬ (74 ≤ a ∧ a < 83) → a ≠ 142 → a ≠ 143 → H3[a]? = H[a]? := fun a a1 a2 a3 => (f3 a a2 a3).trans (f2 a a1 a2 a3)
    have hV3 := hV2.far (H' := H3) (fun a a1 a2 => f3 a (by omega) (by omega))
    refine RQ.blk 2 (pc' := 39) (lv' := [(3, .int 0), (2, .int (nI r)), (1, .ref 143), (0, .ref 137)]) (st' := []) (H' := _) (kc' := 0) (ks' := 0) rfl ?_
    refine RQ.while (S := Nat) (pc := 39) (fun i H' => i ≤ es.length ∧ VersIs H' N (((ess.take r).flatten ++ es.take i).foldl meetE vs) ∧ CurI H' 142 (pi r) x es i ∧ ∀ a, ¬ (74 ≤ a ∧ a < 83) → a ≠ 142 → a ≠ 143 → H'[a]? = H[a]?) (fun i => [(3, .int (nI i)), (2, .int (nI r)), (1, .ref 143), (0, .ref 137)]) (fun i => es.length - i) ?_ 0 H3 ⟨Nat.zero_le _, by rw [List.take_zero, List.append_nil]; exact hV3, hI3, f4⟩
    rintro i H4 ⟨hi, hV4, hI4, f5⟩ ih2
    have hR4 : RunIs H4 (pi r) x := hR.far (f5 _ (by omega) (by omega) (by omega)) (f5 _ (by omega) (by omega) (by omega))
    obtain ⟨rf, rk1, rk2, -⟩ := id hR4
    obtain ⟨o1', o2', -⟩ := id hOk
    have hes16 : es.length < 2 ^ 31 := by have := hOk.2.2.2.1; have := hOk.2.2.2.2.2.2; have h8 := offE_all (es := es); have h7 : es.length ≤ (es.flatMap encE).length := len_fm es; omega
    by_cases hil : i < es.length
    ·
      refine RQ.blk 2 (pc' := 41) (lv' := [(3, .int (nI i)), (2, .int (nI r)), (1, .ref 143), (0, .ref 137)]) (st' := [.ref 137, .int (nI i)]) (H' := _) (kc' := 0) (ks' := 0) rfl ?_
      refine RQ.get (ci := 8) rfl ((f5 136 (by decide) (by decide) (by decide)).trans hTb) rfl rfl ?_
      refine RQ.get (ci := 3) rfl ((f5 83 (by decide) (by decide) (by decide)).trans hY.1) rfl rfl ?_
      refine RQ.blk 1 (pc' := 48) (lv' := [(3, .int (nI i)), (2, .int (nI r)), (1, .ref 143), (0, .ref 137)]) (st' := [.int (nI r), .ref 85, .int (nI i)]) (H' := _) (kc' := 0) (ks' := 0) rfl ?_
      refine RQ.aaldN (j := r) rfl ((f5 84 (by decide) (by decide) (by decide)).trans hQ) (by omega) (by decide) (by decide) (hQ2 r (by omega)) ?_
      refine RQ.get (ci := 6) rfl rk1 rfl rfl ?_
      rw [o1']
      refine RQ.brF rfl rfl rfl (cF_ge i es.length) ?_
      obtain ⟨g4, hg4, hE4⟩ := id hI4
      obtain ⟨e, he, hq4, hk4⟩ := hE4.resolve_right (fun e9 => by omega)
      obtain ⟨E1, E2, E3, E4, E5, E6⟩ := (hOk.at he).2.2
      refine RQ.blk 1 (pc' := 56) (lv' := [(3, .int (nI i)), (2, .int (nI r)), (1, .ref 143), (0, .ref 137)]) (st' := [.ref 143]) (H' := _) (kc' := 0) (ks' := 0) rfl ?_
      refine RQ.get (ci := 2) rfl hq4 rfl rfl ?_
      refine RQ.brF rfl rfl rfl (by decide) ?_
      refine RQ.blk 1 (pc' := 63) (lv' := [(3, .int (nI i)), (2, .int (nI r)), (1, .ref 143), (0, .ref 137)]) (st' := [.ref 137]) (H' := _) (kc' := 0) (ks' := 0) rfl ?_
      refine RQ.get (ci := 8) rfl ((f5 136 (by decide) (by decide) (by decide)).trans hTb) rfl rfl ?_
      refine RQ.blk 1 (pc' := 67) (lv' := [(3, .int (nI i)), (2, .int (nI r)), (1, .ref 143), (0, .ref 137)]) (st' := [.ref 143, .ref 75]) (H' := _) (kc' := 0) (ks' := 0) rfl ?_
      refine RQ.get (ci := 2) rfl hq4 rfl rfl ?_
      refine RQ.blk 1 (pc' := 71) (lv' := [(3, .int (nI i)), (2, .int (nI r)), (1, .ref 143), (0, .ref 137)]) (st' := [.ref 143, .ref 144, .ref 75]) (H' := _) (kc' := 0) (ks' := 0) rfl ?_
      refine RQ.get (ci := 2) rfl hq4 rfl rfl ?_
      refine RQ.blk 1 (pc' := 75) (lv' := [(3, .int (nI i)), (2, .int (nI r)), (1, .ref 143), (0, .ref 137)]) (st' := [.ref 143, .int (nI e.1.length), .ref 144, .ref 75]) (H' := _) (kc' := 0) (ks' := 0) rfl ?_
      refine RQ.get (ci := 2) rfl hq4 rfl rfl ?_
      refine RQ.blk 1 (pc' := 79) (lv' := [(3, .int (nI i)), (2, .int (nI r)), (1, .ref 143), (0, .ref 137)]) (st' := [.ref 143, .int (nI e.2.1), .int (nI e.1.length), .ref 144, .ref 75]) (H' := _) (kc' := 0) (ks' := 0) rfl ?_
      refine RQ.get (ci := 2) rfl hq4 rfl rfl ?_
      refine RQ.blk 1 (pc' := 83) (lv' := [(3, .int (nI i)), (2, .int (nI r)), (1, .ref 143), (0, .ref 137)]) (st' := [.ref 143, .int (nI e.2.2.1), .int (nI e.2.1), .int (nI e.1.length), .ref 144, .ref 75]) (H' := _) (kc' := 0) (ks' := 0) rfl ?_
      refine RQ.get (ci := 2) rfl hq4 rfl rfl ?_
      refine RQ.blk 1 (pc' := 87) (lv' := [(3, .int (nI i)), (2, .int (nI r)), (1, .ref 143), (0, .ref 137)]) (st' := [.int 0, .int (lI e.2.2.2), .int (nI e.2.2.1), .int (nI e.2.1), .int (nI e.1.length), .ref 144, .ref 75]) (H' := _) (kc' := 0) (ks' := 0) rfl ?_
      obtain ⟨vf4, hv4⟩ : ∃ vf, H4[74]? = some (kO 10 vf) := by obtain ⟨_, _, _, _, _, _, _, _, _, _, _, q1, _, _⟩ := hV4; exact ⟨_, q1.1⟩
      have hss4 := foldE_ss hss ((ess.take r).flatten ++ es.take i)
      have hl4 := foldE_len ((ess.take r).flatten ++ es.take i) vs
      rw [List.length_append, List.length_take, Nat.min_eq_left (by omega)] at hl4
      refine RQ.callN (st' := []) rfl rfl rfl rfl rfl rfl (args_v [.int 0, .int (lI e.2.2.2), .int (nI e.2.2.1), .int (nI e.2.1), .int (nI e.1.length), .ref 144] [] rfl rfl (Nat.le_of_ble_eq_true rfl) rfl hv4 (Nat.le_of_ble_eq_true rfl)) (rn_meet (a := 143) (n := e.1.length) (m := e.2.1) (pp := e.2.2.1) (l := e.2.2.2) (b := false) hV4 hss4.one hg4 (by decide) (by decide) (by omega) E1 E2 E3 (by omega) (by omega) (by rw [hk4]; exact ks_room hss4 (fun v hv => (foldE_keys _ hv).elim (hvK v) (fun ⟨e9, h9, k9⟩ => by rw [k9]; exact heK e9 ((List.mem_append.mp h9).elim (fun q => by obtain ⟨l9, m9, n9⟩ := List.mem_flatten.mp q; exact List.mem_flatten.mpr ⟨l9, List.mem_of_mem_take m9, n9⟩) (fun q => List.mem_flatten.mpr ⟨es, List.mem_of_getElem? hes, List.mem_of_mem_take q⟩)))) (heK e (List.mem_flatten.mpr ⟨es, List.mem_of_getElem? hes, List.mem_of_getElem? he⟩)) hKN)) (fun H5 hx5 => ?_)
      obtain ⟨hV5, f6⟩ := hx5
      rw [hk4] at hV5
      have hI5 := hI4.far (f6 142 (by decide)) (f6 143 (by decide))
      have f7 : ∀ a, ¬ (74 ≤ a ∧ a < 83) → a ≠ 142 → a ≠ 143 → H5[a]? = H[a]? := fun a a1 a2 a3 => (f6 a a1).trans (f5 a a1 a2 a3)
      have hC5 := hC.far (H' := H5) (fun a a1 a2 => f7 a (by omega) (by omega) (by omega))
      have hR5 : RunIs H5 (pi r) x := hR.far (f7 _ (by omega) (by omega) (by omega)) (f7 _ (by omega) (by omega) (by omega))
      refine RQ.blk 1 (pc' := 91) (lv' := [(3, .int (nI i)), (2, .int (nI r)), (1, .ref 143), (0, .ref 137)]) (st' := [.ref 143]) (H' := _) (kc' := 0) (ks' := 0) rfl ?_
      refine RQ.callN (st' := []) rfl rfl rfl rfl rfl rfl (args_v [] [] rfl rfl (Nat.le_of_ble_eq_true rfl) rfl ((f6 142 (by decide)).trans hq4) (Nat.le_of_ble_eq_true rfl)) (rn_cadvI hI5 hR5 hOk hC5 hB (by decide) (by omega) hil) (fun H6 hx6 => ?_)
      obtain ⟨hI6, f8⟩ := hx6
      refine RQ.blk 1 (pc' := 97) (lv' := [(3, .int (nI i + 1)), (2, .int (nI r)), (1, .ref 143), (0, .ref 137)]) (st' := []) (H' := _) (kc' := 0) (ks' := 0) rfl ?_
      rw [show (nI i + 1 : Int32) = nI (i + 1) from nI_add i 1]
      refine RQ.blk 1 (pc' := 39) (lv' := [(3, .int (nI (i + 1))), (2, .int (nI r)), (1, .ref 143), (0, .ref 137)]) (st' := []) (H' := _) (kc' := 0) (ks' := 0) rfl ?_
      refine ih2 (i + 1) H6 ⟨by omega, ?_, hI6, fun a a1 a2 a3 => (f8 a a2 a3).trans (f7 a a1 a2 a3)⟩ (by omega)
      rw [take_get he, ← List.append_assoc, List.foldl_append]
      exact hV5.far (fun a a1 a2 => f8 a (by omega) (by omega))
    · have ei : i = es.length := by omega
      subst ei
      refine RQ.blk 2 (pc' := 41) (lv' := [(3, .int (nI es.length)), (2, .int (nI r)), (1, .ref 143), (0, .ref 137)]) (st' := [.ref 137, .int (nI es.length)]) (H' := _) (kc' := 0) (ks' := 0) rfl ?_
      refine RQ.get (ci := 8) rfl ((f5 136 (by decide) (by decide) (by decide)).trans hTb) rfl rfl ?_
      refine RQ.get (ci := 3) rfl ((f5 83 (by decide) (by decide) (by decide)).trans hY.1) rfl rfl ?_
      refine RQ.blk 1 (pc' := 48) (lv' := [(3, .int (nI es.length)), (2, .int (nI r)), (1, .ref 143), (0, .ref 137)]) (st' := [.int (nI r), .ref 85, .int (nI es.length)]) (H' := _) (kc' := 0) (ks' := 0) rfl ?_
      refine RQ.aaldN (j := r) rfl ((f5 84 (by decide) (by decide) (by decide)).trans hQ) (by omega) (by decide) (by decide) (hQ2 r (by omega)) ?_
      refine RQ.get (ci := 6) rfl rk1 rfl rfl ?_
      rw [o1']
      refine RQ.brT rfl rfl rfl (cT_ge es.length es.length) ?_
      refine RQ.blk 1 (pc' := 103) (lv' := [(2, .int (nI r + 1)), (3, .int (nI es.length)), (1, .ref 143), (0, .ref 137)]) (st' := []) (H' := _) (kc' := 0) (ks' := 0) rfl ?_
      rw [show (nI r + 1 : Int32) = nI (r + 1) from nI_add r 1]
      refine RQ.blk 1 (pc' := 9) (lv' := [(2, .int (nI (r + 1))), (3, .int (nI es.length)), (1, .ref 143), (0, .ref 137)]) (st' := []) (H' := _) (kc' := 0) (ks' := 0) rfl ?_
      refine RQ.pick (a := [(2, .int (nI (r + 1))), (1, .ref 143), (0, .ref 137)]) [0, 2, 3] [2, 3, 1, 0] rfl rfl (by decide) ?_
      refine ih (r + 1) H4 ⟨by omega, ?_, hI4.any, f5⟩ (by omega)
      rw [take_get hes, List.flatten_append, List.flatten_cons, List.flatten_nil, List.append_nil]
      rw [List.take_of_length_le (Nat.le_refl _)] at hV4
      exact hV4
  · have er : r = rs.length := by omega
    subst er
    refine RQ.blk 2 (pc' := 11) (lv' := [(2, .int (nI rs.length)), (1, .ref 143), (0, .ref 137)]) (st' := [.ref 137, .int (nI rs.length)]) (H' := _) (kc' := 0) (ks' := 0) rfl ?_
    refine RQ.get (ci := 8) rfl ((f1 136 (by decide) (by decide) (by decide)).trans hTb) rfl rfl ?_
    refine RQ.get (ci := 3) rfl ((f1 83 (by decide) (by decide) (by decide)).trans hY.1) rfl rfl ?_
    refine RQ.brT rfl rfl rfl (cT_ge rs.length rs.length) ?_
    exact RQ.done (c := 0) (s := 0) rfl rfl rfl rfl ⟨_, rfl, by rw [List.take_of_length_le (Nat.le_of_eq hlen)] at hV1; exact hV1, hCA1, f1⟩
