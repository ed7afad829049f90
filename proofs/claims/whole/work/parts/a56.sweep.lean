/-! ===== logs in which nothing is needed go out of the list; class; written by wip/gen/sweep.py ===== -/
theorem LayIs.drop {H : aH} {B : Nat} {lgs : List Nat} {fr ff : Nat} {wr : Bool} {tp : Nat} {rs : List aR} {ms mt sq tu : Nat} {us : Nat → Bool} {i : Nat} (h : LayIs H B lgs fr ff wr tp rs ms mt sq tu us) (hi : i < lgs.length) : ∃ lg, LayAt H (layF B lgs.length fr ff wr tp rs.length ms mt sq tu 0 0) B us lg ∧ LayIs ((H.set 87 (kI B (cpyI (fun j => nI (lg j)) (i + 1) (fun j => nI (lg j)) i (lgs.length - 1 - i)))).set 83 (kO 3 (layF B (lgs.length - 1) fr ff wr tp rs.length ms mt sq tu 0 0))) B (lgs.eraseIdx i) fr ff wr tp rs ms mt sq tu us := by
  obtain ⟨lg, pi, hY, hlg, hlc, hR⟩ := h
  have hel : (lgs.eraseIdx i).length = lgs.length - 1 := List.length_eraseIdx_of_lt hi
  refine ⟨lg, hY, (fun j => if i ≤ j ∧ j < i + (lgs.length - 1 - i) then lg (i + 1 + (j - i)) else lg j), pi, ⟨?_, (set_far (by decide)).trans ((set_far (by decide)).trans hY.2.1), (set_far (by decide)).trans ((get_set hY.2.2).trans (congrArg (fun f => some (kI B f)) ?_))⟩, fun j x hx => ?_, by omega, hR.far2 ((set_far (by decide)).trans (set_far (by decide))) (fun a a1 a2 => (set_far (by omega)).trans (set_far (by omega)))⟩
  · rw [hel]
    exact get_set ((set_far (by decide)).trans hY.1)
  · funext j
    unfold cpyI
    show (if i ≤ j ∧ j < i + (lgs.length - 1 - i) then nI (lg (i + 1 + (j - i))) else nI (lg j)) = nI (if i ≤ j ∧ j < i + (lgs.length - 1 - i) then lg (i + 1 + (j - i)) else lg j)
    split <;> rfl
  · have hj := get_lt hx
    rw [hel] at hj
    rw [List.getElem?_eraseIdx] at hx
    by_cases hji : j < i
    · rw [if_pos hji] at hx
      show (if i ≤ j ∧ j < i + (lgs.length - 1 - i) then lg (i + 1 + (j - i)) else lg j) = x
      rw [if_neg (by omega)]
      exact hlg j x hx
    · rw [if_neg hji] at hx
      show (if i ≤ j ∧ j < i + (lgs.length - 1 - i) then lg (i + 1 + (j - i)) else lg j) = x
      rw [if_pos (by omega), show i + 1 + (j - i) = j + 1 by omega]
      exact hlg (j + 1) x hx
/-- what stays -/
def swK (ld : Nat → Nat) (wr : Bool) (lgs : List Nat) (x : Nat) : Bool := (wr && decide (lgs[lgs.length - 1]? = some x)) || !(decide (ld x = 0))
def swL (ld : Nat → Nat) (wr : Bool) (lgs : List Nat) : List Nat := lgs.filter (swK ld wr lgs)
theorem filter_drop {α : Type} {p : α → Bool} {l : List α} {k : Nat} {x : α} (h : l[k]? = some x) : (l.drop k).filter p = if p x = true then x :: (l.drop (k + 1)).filter p else (l.drop (k + 1)).filter p := by
  have hk := get_lt h
  rw [List.drop_eq_getElem_cons hk]
  rw [List.getElem?_eq_getElem hk] at h
  rw [Option.some.inj h, List.filter_cons]
theorem rn_sweep {sc : Nat × (Nat → Int32)} {d mp hv N : Nat} {H : aH} {B : Nat} {lgs : List Nat} {fr ff : Nat} {wr : Bool} {tp : Nat} {rs : List aR} {ms mt sq tu : Nat} {us : Nat → Bool} {vs : List aV} {f : Nat → Int32} (hV : VersIs H N vs) (h : LayIs H B lgs fr ff wr tp rs ms mt sq tu us) (hB : B ≤ 128) (hG : H[190]? = some (kO 4 (logF mp hv))) (hl : H[194]? = some (kI B f)) (hp : PlB B vs) (hlB : ∀ x ∈ lgs, x < B) (hnd : lgs.Nodup) (hw31 : ∀ b, ldN vs b < 2 ^ 31) : RN sc (d + 3) mr_134 [.ref 191] H (fun H' => (∃ g, H'[194]? = some (kI B g)) ∧ LayIs H' B (swL (ldN vs) wr lgs) fr ff wr tp rs ms mt sq tu us ∧ ∀ a, a ≠ 83 → a ≠ 87 → a ≠ 194 → H'[a]? = H[a]?) := by
  refine RN.of ?_
  refine RQ.blk 1 (pc' := 1) (lv' := [(0, .ref 191)]) (st' := [.ref 191]) (H' := _) (kc' := 0) (ks' := 0) rfl ?_
  refine RQ.callN (st' := []) rfl rfl rfl rfl rfl rfl (args_v [] [] rfl rfl (Nat.le_of_ble_eq_true rfl) rfl hG (Nat.le_of_ble_eq_true rfl)) (rn_weigh hV hG hl hB hp) (fun H1 hx => ?_)
  obtain ⟨g, rfl, hg⟩ := hx
  have hL1 := h.far (H' := H.set 194 (kI B g)) (fun a a1 a2 a3 => set_far (by omega))
  have hl1 : (H.set 194 (kI B g))[194]? = some (kI B g) := get_set hl
  have hG1 : (H.set 194 (kI B g))[190]? = _ := (set_far (by decide)).trans hG
  obtain ⟨lg, pi, hY, hlg, hlc, hRs⟩ := id hL1
  refine RQ.blk 1 (pc' := 5) (lv' := [(0, .ref 191)]) (st' := [.ref 191]) (H' := _) (kc' := 0) (ks' := 0) rfl ?_
  refine RQ.get (ci := 4) rfl hG1 rfl rfl ?_
  refine RQ.get (ci := 3) rfl hY.1 rfl rfl ?_
  refine RQ.blk 2 (pc' := 13) (lv' := [(0, .ref 191)]) (st' := [.int (nI lgs.length - 1)]) (H' := _) (kc' := 0) (ks' := 0) rfl ?_
  rw [show (nI lgs.length - 1 : Int32) = nI lgs.length + (-1) from Int32.sub_eq_add_neg ..]
  refine RQ.blk 1 (pc' := 14) (lv' := [(1, .int (nI lgs.length + (-1))), (0, .ref 191)]) (st' := []) (H' := _) (kc' := 0) (ks' := 0) rfl ?_
  refine RQ.while (S := Nat) (pc := 14) (fun i H' => i ≤ lgs.length ∧ H'[194]? = some (kI B g) ∧ LayIs H' B (lgs.take i ++ (lgs.drop i).filter (swK (ldN vs) wr lgs)) fr ff wr tp rs ms mt sq tu us ∧ ∀ a, a ≠ 83 → a ≠ 87 → a ≠ 194 → H'[a]? = H[a]?) (fun i => [(1, .int (nI i + (-1))), (0, .ref 191)]) (fun i => i) ?_ lgs.length _ ⟨Nat.le_refl _, hl1, by rw [List.take_of_length_le (Nat.le_refl _), List.drop_of_length_le (Nat.le_refl _), List.filter_nil, List.append_nil]; exact hL1, fun a a1 a2 a3 => set_far a3⟩
  rintro i H2 ⟨hi, hl2, hL2, f2⟩ ih
  have hG2 := (f2 190 (by decide) (by decide) (by decide)).trans hG
  obtain ⟨lg2, pi2, hY2, hlg2, hlc2, -⟩ := id hL2
  by_cases hi0 : i = 0
  ·
    subst hi0
    have hsw : (lgs.take 0 ++ (lgs.drop 0).filter (swK (ldN vs) wr lgs)) = (swL (ldN vs) wr lgs) := by show [] ++ _ = _; rw [List.nil_append, List.drop_zero]; rfl
    show RQ _ _ _ _ [(1, .int (-1)), (0, .ref 191)] _ _ _ _ _
    refine RQ.blk 1 (pc' := 15) (lv' := [(1, .int (-1)), (0, .ref 191)]) (st' := [.int (-1)]) (H' := _) (kc' := 0) (ks' := 0) rfl ?_
    refine RQ.brT rfl rfl rfl (by decide) ?_
    exact RQ.done (c := 0) (s := 0) rfl rfl rfl rfl ⟨_, rfl, ⟨g, hl2⟩, by rw [← hsw]; exact hL2, f2⟩
  ·
    rw [nI_dec (by omega)]
    have hk : i - 1 < lgs.length := by omega
    obtain ⟨x, hx⟩ := lt_get hk
    have hxB := hlB x (List.mem_of_getElem? hx)
    have hcx : (lgs.take i ++ (lgs.drop i).filter (swK (ldN vs) wr lgs))[i - 1]? = some x := by rw [List.getElem?_append_left (by rw [List.length_take]; omega), List.getElem?_take_of_lt (by omega)]; exact hx
    have hcl : (lgs.take i ++ (lgs.drop i).filter (swK (ldN vs) wr lgs)).length = i + ((lgs.drop i).filter (swK (ldN vs) wr lgs)).length := by rw [List.length_append, List.length_take, Nat.min_eq_left hi]
    have hdr := filter_drop (p := swK (ldN vs) wr lgs) hx
    rw [show i - 1 + 1 = i by omega] at hdr
    have htk : lgs.take i = lgs.take (i - 1) ++ [x] := by rw [show i = i - 1 + 1 by omega, List.take_add_one, hx]; rfl
    have hwi : (wr = true ∧ i - 1 = (lgs.take i ++ (lgs.drop i).filter (swK (ldN vs) wr lgs)).length - 1) ↔ (wr = true ∧ lgs[lgs.length - 1]? = some x) := by
      constructor
      · rintro ⟨e1, e2⟩
        refine ⟨e1, ?_⟩
        rw [hcl] at e2
        have e3 : ((lgs.drop i).filter (swK (ldN vs) wr lgs)).length = 0 := by omega
        by_cases hin : i < lgs.length
        · obtain ⟨y, hy⟩ := lt_get (show lgs.length - 1 < lgs.length by omega)
          have hmem : y ∈ (lgs.drop i).filter (swK (ldN vs) wr lgs) := List.mem_filter.mpr ⟨List.mem_of_getElem? (i := lgs.length - 1 - i) (by rw [List.getElem?_drop, show i + (lgs.length - 1 - i) = lgs.length - 1 by omega]; exact hy), by unfold swK; rw [e1, decide_eq_true hy]; rfl⟩
          rw [List.length_eq_zero_iff.mp e3] at hmem
          exact absurd hmem List.not_mem_nil
        · rw [show lgs.length - 1 = i - 1 by omega]
          exact hx
      · rintro ⟨e1, e2⟩
        refine ⟨e1, ?_⟩
        have e3 : lgs.length - 1 = i - 1 := (List.getElem?_inj (by omega) hnd).mp (e2.trans hx.symm)
        rw [hcl, show i = lgs.length by omega, List.drop_of_length_le (Nat.le_refl _), List.filter_nil]
        rfl
    refine RQ.blk 1 (pc' := 15) (lv' := [(1, .int (nI (i - 1))), (0, .ref 191)]) (st' := [.int (nI (i - 1))]) (H' := _) (kc' := 0) (ks' := 0) rfl ?_
    refine RQ.brF rfl rfl rfl (cF_lt (i - 1) 0) ?_
    refine RQ.blk 1 (pc' := 19) (lv' := [(1, .int (nI (i - 1))), (0, .ref 191)]) (st' := [.ref 191]) (H' := _) (kc' := 0) (ks' := 0) rfl ?_
    refine RQ.get (ci := 4) rfl hG2 rfl rfl ?_
    refine RQ.blk 1 (pc' := 23) (lv' := [(1, .int (nI (i - 1))), (0, .ref 191)]) (st' := [.int (nI (i - 1)), .ref 84]) (H' := _) (kc' := 0) (ks' := 0) rfl ?_
    refine RQ.call (v := some (.int (if wr = true ∧ i - 1 = (lgs.take i ++ (lgs.drop i).filter (swK (ldN vs) wr lgs)).length - 1 then 1 else 0))) (st' := []) rfl rfl rfl rfl rfl rfl (args_v [.int (nI (i - 1))] [] rfl rfl (Nat.le_of_ble_eq_true rfl) rfl hY2.1 (Nat.le_of_ble_eq_true rfl)) (rc_isWriting hY2 hB (by omega) hlc2 (by omega)) ?_
    by_cases hwr : wr = true ∧ i - 1 = (lgs.take i ++ (lgs.drop i).filter (swK (ldN vs) wr lgs)).length - 1
    · rw [if_pos hwr]
      refine RQ.brT rfl rfl rfl (by decide) ?_
      refine RQ.blk 2 (pc' := 14) (lv' := [(1, .int ((nI (i - 1)) + (-1))), (0, .ref 191)]) (st' := []) (H' := _) (kc' := 0) (ks' := 0) rfl ?_
      refine RQ.pick (a := [(1, .int ((nI (i - 1)) + (-1))), (0, .ref 191)]) [0, 1] [1, 0] rfl rfl (by decide) ?_
      have hcu : (lgs.take (i - 1) ++ (lgs.drop (i - 1)).filter (swK (ldN vs) wr lgs)) = (lgs.take i ++ (lgs.drop i).filter (swK (ldN vs) wr lgs)) := by rw [hdr, if_pos (by unfold swK; rw [(hwi.mp hwr).1, decide_eq_true (hwi.mp hwr).2]; rfl), htk, List.append_assoc]; rfl
      rw [← hcu] at hL2
      exact ih (i - 1) _ ⟨by omega, hl2, hL2, f2⟩ (by omega)
    · rw [if_neg hwr]
      refine RQ.brF rfl rfl rfl (by decide) ?_
      refine RQ.blk 2 (pc' := 31) (lv' := [(1, .int (nI (i - 1))), (0, .ref 191)]) (st' := [.int (nI (i - 1)), .ref 191]) (H' := _) (kc' := 0) (ks' := 0) rfl ?_
      refine RQ.call (v := some (.int (g x))) (st' := []) rfl rfl rfl rfl rfl rfl (args_v [.int (nI (i - 1))] [] rfl rfl (Nat.le_of_ble_eq_true rfl) rfl hG2 (Nat.le_of_ble_eq_true rfl)) (rc_loadOf hL2 hB hG2 hl2 hcx hxB) ?_
      rw [hg x hxB]
      have h31 := hw31 x
      by_cases hz : ldN vs x = 0
      · refine RQ.brF rfl rfl rfl (cF_ne (ldN vs x) 0) ?_
        refine RQ.blk 1 (pc' := 38) (lv' := [(1, .int (nI (i - 1))), (0, .ref 191)]) (st' := [.ref 191]) (H' := _) (kc' := 0) (ks' := 0) rfl ?_
        refine RQ.get (ci := 4) rfl hG2 rfl rfl ?_
        refine RQ.blk 1 (pc' := 42) (lv' := [(1, .int (nI (i - 1))), (0, .ref 191)]) (st' := [.int (nI (i - 1)), .ref 84]) (H' := _) (kc' := 0) (ks' := 0) rfl ?_
        obtain ⟨lg3, hY3, hL3⟩ := hL2.drop (i := i - 1) (by omega)
        refine RQ.call (v := none) (st' := []) rfl rfl rfl rfl rfl rfl (args_v [.int (nI (i - 1))] [] rfl rfl (Nat.le_of_ble_eq_true rfl) rfl hY2.1 (Nat.le_of_ble_eq_true rfl)) (rc_dropLog hY3 hB (by omega) hlc2) ?_
        refine RQ.blk 2 (pc' := 14) (lv' := [(1, .int ((nI (i - 1)) + (-1))), (0, .ref 191)]) (st' := []) (H' := _) (kc' := 0) (ks' := 0) rfl ?_
        refine RQ.pick (a := [(1, .int ((nI (i - 1)) + (-1))), (0, .ref 191)]) [0, 1] [1, 0] rfl rfl (by decide) ?_
        have hcu : (lgs.take (i - 1) ++ (lgs.drop (i - 1)).filter (swK (ldN vs) wr lgs)) = (lgs.take i ++ (lgs.drop i).filter (swK (ldN vs) wr lgs)).eraseIdx (i - 1) := by
          have hnk : ¬ swK (ldN vs) wr lgs x = true := by unfold swK; rw [decide_eq_true hz, Bool.not_true, Bool.or_false, Bool.and_eq_true, decide_eq_true_iff]; exact fun e => hwr (hwi.mpr e)
          rw [hdr, if_neg hnk, htk, List.append_assoc, List.eraseIdx_append_of_length_le (by rw [List.length_take]; omega), List.length_take, Nat.min_eq_left (by omega), Nat.sub_self]; rfl
        rw [← hcu] at hL3
        exact ih (i - 1) _ ⟨by omega, (set_far (by decide)).trans ((set_far (by decide)).trans hl2), hL3, fun a a1 a2 a3 => (set_far a1).trans ((set_far a2).trans (f2 a a1 a2 a3))⟩ (by omega)
      · refine RQ.brT rfl rfl rfl (cT_ne (ldN vs x) 0) ?_
        refine RQ.blk 2 (pc' := 14) (lv' := [(1, .int ((nI (i - 1)) + (-1))), (0, .ref 191)]) (st' := []) (H' := _) (kc' := 0) (ks' := 0) rfl ?_
        refine RQ.pick (a := [(1, .int ((nI (i - 1)) + (-1))), (0, .ref 191)]) [0, 1] [1, 0] rfl rfl (by decide) ?_
        have hcu : (lgs.take (i - 1) ++ (lgs.drop (i - 1)).filter (swK (ldN vs) wr lgs)) = (lgs.take i ++ (lgs.drop i).filter (swK (ldN vs) wr lgs)) := by rw [hdr, if_pos (by unfold swK; rw [decide_eq_false hz, Bool.not_false, Bool.or_true]), htk, List.append_assoc]; rfl
        rw [← hcu] at hL2
        exact ih (i - 1) _ ⟨by omega, hl2, hL2, f2⟩ (by omega)
