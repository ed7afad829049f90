/-! ===== which blocks are used, as the lists say; a block is taken; class; written by wip/gen/note.py ===== -/
/-- what the lists use -/
def usedB (lgs : List Nat) (rs : List aR) (b : Nat) : Bool := decide (b < 2) || lgs.contains b || rs.any (fun x => x.2.2.2.contains b)
theorem usedB_iff {lgs : List Nat} {rs : List aR} {b : Nat} : usedB lgs rs b = true ↔ b < 2 ∨ b ∈ lgs ∨ ∃ x ∈ rs, b ∈ x.2.2.2 := by
  unfold usedB
  rw [Bool.or_eq_true, Bool.or_eq_true, decide_eq_true_iff, List.contains_iff_mem, List.any_eq_true]
  constructor
  · rintro ((h | h) | ⟨x, h1, h2⟩)
    · exact Or.inl h
    · exact Or.inr (Or.inl h)
    · exact Or.inr (Or.inr ⟨x, h1, List.contains_iff_mem.mp h2⟩)
  · rintro (h | h | ⟨x, h1, h2⟩)
    · exact Or.inl (Or.inl h)
    · exact Or.inl (Or.inr h)
    · exact Or.inr ⟨x, h1, List.contains_iff_mem.mpr h2⟩
theorem con_snoc {l : List Nat} {x b : Nat} : (l ++ [x]).contains b = (l.contains b || decide (b = x)) := by
  rw [Bool.eq_iff_iff, List.contains_iff_mem, List.mem_append, List.mem_singleton, Bool.or_eq_true, List.contains_iff_mem, decide_eq_true_iff]
/-- behind the first i logs and r runs and k blocks -/
def usedP (lgs : List Nat) (rs : List aR) (ids : List Nat) (b : Nat) : Bool := usedB lgs rs b || ids.contains b
theorem up_used {f g : Nat → Bool} {x : Nat} (h : ∀ b, f b = (g b || decide (b = x))) : va_up g x true = f := by
  funext b
  rw [h b]
  unfold va_up
  by_cases e : b = x
  · rw [if_pos e, decide_eq_true e, Bool.or_true]
  · rw [if_neg e, decide_eq_false e, Bool.or_false]
theorem RunsAt.far2 {H H' : aH} {pi : Nat → Nat} {rs : List aR} (h : RunsAt H pi rs) (h84 : H'[84]? = H[84]?) (hs : ∀ a, 88 ≤ a → a < 136 → H'[a]? = H[a]?) : RunsAt H' pi rs := by
  obtain ⟨⟨Q, h1, h2⟩, h3, h4, h5, h6, h7⟩ := h
  have hf : ∀ j, j < 24 → ∀ x, RunIs H (pi j) x → RunIs H' (pi j) x := fun j hj x hx => by
    obtain ⟨s, s1, s2⟩ := h3 j hj
    exact hx.far (hs _ (by omega) (by omega)) (hs _ (by omega) (by omega))
  refine ⟨⟨Q, h84.trans h1, h2⟩, h3, h4, fun j x hx => hf j (by have := get_lt hx; omega) x (h5 j x hx), fun j hj => ?_, h7⟩
  obtain ⟨x, hx⟩ := h6 j hj
  exact ⟨x, hf j hj x hx⟩
theorem LayIs.used {H : aH} {B : Nat} {lgs : List Nat} {fr ff : Nat} {wr : Bool} {tp : Nat} {rs : List aR} {ms mt sq tu : Nat} {us : Nat → Bool} (h : LayIs H B lgs fr ff wr tp rs ms mt sq tu us) (us' : Nat → Bool) : LayIs (H.set 86 (kZ B us')) B lgs fr ff wr tp rs ms mt sq tu us' := by
  obtain ⟨lg, pi, hY, h2, h3, h4⟩ := h
  exact ⟨lg, pi, ⟨(set_far (by decide)).trans hY.1, get_set hY.2.1, (set_far (by decide)).trans hY.2.2⟩, h2, h3, h4.far2 (set_far (by decide)) (fun a a1 a2 => set_far (by omega))⟩
theorem rn_noteUse {sc : Nat × (Nat → Int32)} {d : Nat} {H : aH} {B : Nat} {lgs : List Nat} {fr ff : Nat} {wr : Bool} {tp : Nat} {rs : List aR} {ms mt sq tu : Nat} {us : Nat → Bool} (h : LayIs H B lgs fr ff wr tp rs ms mt sq tu us) (hB : B ≤ 128) (hlB : ∀ x ∈ lgs, x < B) (hiB : ∀ x ∈ rs, ∀ y ∈ x.2.2.2, y < B) : RN sc (d + 1) mr_10 [.ref 84] H (fun H' => H' = (H.set 86 (kZ B (fun b => if b < B then usedB lgs rs b else us b)))) := by
  obtain ⟨lg, pi, hY, hlg, hlc, hRs⟩ := h
  obtain ⟨⟨Q, hQ, hQ2⟩, hpi, hinj, hrun, hall, hrl⟩ := hRs
  refine RN.of ?_
  have fin : RQ sc (d + 1) mr_10 60 [(1, .int (nI 0)), (0, .ref 84)] [] (H.set 86 (kZ B (fun b => if b < B then usedB lgs (rs.take 0) b else us b))) 0 0 (fun r => ∃ H', r = (.inl none, H', 0, 0) ∧ H' = (H.set 86 (kZ B (fun b => if b < B then usedB lgs rs b else us b)))) := by
    refine RQ.while (S := Nat) (pc := 60) (fun i H' => i ≤ rs.length ∧ H' = (H.set 86 (kZ B (fun b => if b < B then usedB lgs (rs.take i) b else us b)))) (fun i => [(1, .int (nI i)), (0, .ref 84)]) (fun i => rs.length - i) ?_ 0 _ ⟨Nat.zero_le _, rfl⟩
    rintro i H1 ⟨hi, e⟩ ih
    rw [e]
    by_cases hil : i < rs.length
    · obtain ⟨x, hx⟩ := lt_get hil
      obtain ⟨f, h1, h2, h3, h4⟩ := hrun i x hx
      obtain ⟨s, s1, s2⟩ := hpi i (by omega)
      refine RQ.blk 2 (pc' := 62) (lv' := [(1, .int (nI i)), (0, .ref 84)]) (st' := [.ref 84, .int (nI i)]) (H' := _) (kc' := 0) (ks' := 0) rfl ?_
      refine RQ.get (ci := 3) rfl ((set_far (by decide)).trans hY.1) rfl rfl ?_
      refine RQ.brF rfl rfl rfl (cF_ge i rs.length) ?_
      refine RQ.blk 2 (pc' := 70) (lv' := [(2, .int 0), (1, .int (nI i)), (0, .ref 84)]) (st' := []) (H' := _) (kc' := 0) (ks' := 0) rfl ?_
      refine RQ.while (S := Nat) (pc := 70) (fun k H' => k ≤ x.2.2.2.length ∧ H' = (H.set 86 (kZ B (fun b => if b < B then usedP lgs (rs.take i) (x.2.2.2.take k) b else us b)))) (fun k => [(2, .int (nI k)), (1, .int (nI i)), (0, .ref 84)]) (fun k => x.2.2.2.length - k) ?_ 0 _ ⟨Nat.zero_le _, ?_⟩
      · rintro k H2 ⟨hk, e2⟩ ih2
        rw [e2]
        by_cases hkl : k < x.2.2.2.length
        · obtain ⟨y, hy⟩ := lt_get hkl
          have hyB := hiB x (List.mem_of_getElem? hx) y (List.mem_of_getElem? hy)
          refine RQ.blk 2 (pc' := 72) (lv' := [(2, .int (nI k)), (1, .int (nI i)), (0, .ref 84)]) (st' := [.ref 84, .int (nI k)]) (H' := _) (kc' := 0) (ks' := 0) rfl ?_
          refine RQ.get (ci := 3) rfl ((set_far (by decide)).trans hY.1) rfl rfl ?_
          refine RQ.blk 1 (pc' := 76) (lv' := [(2, .int (nI k)), (1, .int (nI i)), (0, .ref 84)]) (st' := [.int (nI i), .ref 85, .int (nI k)]) (H' := _) (kc' := 0) (ks' := 0) rfl ?_
          refine RQ.aaldN (j := i) rfl ((set_far (by decide)).trans hQ) (by omega) (by decide) (by decide) (hQ2 i (by omega)) ?_
          refine RQ.get (ci := 6) rfl ((set_far (by omega)).trans h1) rfl rfl ?_
          refine RQ.brF rfl rfl rfl (cF_ge k x.2.2.2.length) ?_
          refine RQ.blk 2 (pc' := 85) (lv' := [(2, .int (nI k)), (1, .int (nI i)), (0, .ref 84)]) (st' := [.ref 84, .ref 84]) (H' := _) (kc' := 0) (ks' := 0) rfl ?_
          refine RQ.get (ci := 3) rfl ((set_far (by decide)).trans hY.1) rfl rfl ?_
          refine RQ.blk 1 (pc' := 89) (lv' := [(2, .int (nI k)), (1, .int (nI i)), (0, .ref 84)]) (st' := [.int (nI i), .ref 85, .ref 84]) (H' := _) (kc' := 0) (ks' := 0) rfl ?_
          refine RQ.aaldN (j := i) rfl ((set_far (by decide)).trans hQ) (by omega) (by decide) (by decide) (hQ2 i (by omega)) ?_
          refine RQ.get (ci := 6) rfl ((set_far (by omega)).trans h1) rfl rfl ?_
          refine RQ.blk 1 (pc' := 94) (lv' := [(2, .int (nI k)), (1, .int (nI i)), (0, .ref 84)]) (st' := [.int (nI k), .ref (((pi i) + 1) + 1), .ref 84]) (H' := _) (kc' := 0) (ks' := 0) rfl ?_
          refine RQ.ialdN (j := k) rfl ((set_far (by omega)).trans h2) (by omega) (by decide) ?_
          rw [h3 k y hy]
          refine RQ.call (v := none) (st' := []) rfl rfl rfl rfl rfl rfl (args_v [.int (nI y)] [] rfl rfl (Nat.le_of_ble_eq_true rfl) rfl ((set_far (by decide)).trans hY.1) (Nat.le_of_ble_eq_true rfl)) (rc_setUsed (b := y) (us := (fun b => if b < B then usedP lgs (rs.take i) (x.2.2.2.take k) b else us b)) ⟨(set_far (by decide)).trans hY.1, get_set hY.2.1, (set_far (by decide)).trans hY.2.2⟩ hB hyB) ?_
          rw [set_set, up_used (f := (fun b => if b < B then usedP lgs (rs.take i) (x.2.2.2.take (k + 1)) b else us b)) (fun b => ?_)]
          rotate_left
          · by_cases hb : b < B
            · show (if b < B then _ else _) = ((if b < B then _ else _) || _)
              rw [if_pos hb, if_pos hb]
              unfold usedP
              rw [take_get hy, con_snoc, Bool.or_assoc]
            · show (if b < B then _ else _) = ((if b < B then _ else _) || _)
              rw [if_neg hb, if_neg hb, decide_eq_false (show ¬ b = y by omega), Bool.or_false]
          refine RQ.blk 1 (pc' := 101) (lv' := [(2, .int (nI k + 1)), (1, .int (nI i)), (0, .ref 84)]) (st' := []) (H' := _) (kc' := 0) (ks' := 0) rfl ?_
          rw [show (nI k + 1 : Int32) = nI (k + 1) from nI_add k 1]
          refine RQ.blk 1 (pc' := 70) (lv' := [(2, .int (nI (k + 1))), (1, .int (nI i)), (0, .ref 84)]) (st' := []) (H' := _) (kc' := 0) (ks' := 0) rfl ?_
          exact ih2 (k + 1) _ ⟨by omega, rfl⟩ (by omega)
        · have ek : k = x.2.2.2.length := by omega
          subst ek
          refine RQ.blk 2 (pc' := 72) (lv' := [(2, .int (nI x.2.2.2.length)), (1, .int (nI i)), (0, .ref 84)]) (st' := [.ref 84, .int (nI x.2.2.2.length)]) (H' := _) (kc' := 0) (ks' := 0) rfl ?_
          refine RQ.get (ci := 3) rfl ((set_far (by decide)).trans hY.1) rfl rfl ?_
          refine RQ.blk 1 (pc' := 76) (lv' := [(2, .int (nI x.2.2.2.length)), (1, .int (nI i)), (0, .ref 84)]) (st' := [.int (nI i), .ref 85, .int (nI x.2.2.2.length)]) (H' := _) (kc' := 0) (ks' := 0) rfl ?_
          refine RQ.aaldN (j := i) rfl ((set_far (by decide)).trans hQ) (by omega) (by decide) (by decide) (hQ2 i (by omega)) ?_
          refine RQ.get (ci := 6) rfl ((set_far (by omega)).trans h1) rfl rfl ?_
          refine RQ.brT rfl rfl rfl (cT_ge x.2.2.2.length x.2.2.2.length) ?_
          refine RQ.blk 1 (pc' := 107) (lv' := [(1, .int (nI i + 1)), (2, .int (nI x.2.2.2.length)), (0, .ref 84)]) (st' := []) (H' := _) (kc' := 0) (ks' := 0) rfl ?_
          rw [show (nI i + 1 : Int32) = nI (i + 1) from nI_add i 1]
          refine RQ.blk 1 (pc' := 60) (lv' := [(1, .int (nI (i + 1))), (2, .int (nI x.2.2.2.length)), (0, .ref 84)]) (st' := []) (H' := _) (kc' := 0) (ks' := 0) rfl ?_
          refine RQ.pick (a := [(1, .int (nI (i + 1))), (0, .ref 84)]) [0, 2] [1, 2, 0] rfl rfl (by decide) ?_
          refine ih (i + 1) _ ⟨by omega, ?_⟩ (by omega)
          congr 2
          funext b
          by_cases hb : b < B
          · show (if b < B then _ else _) = (if b < B then _ else _)
            rw [if_pos hb, if_pos hb, List.take_of_length_le (Nat.le_refl _)]
            unfold usedP usedB
            rw [take_get hx, List.any_append, Bool.or_assoc]
            show _ = (_ || ((rs.take i).any _ || (x.2.2.2.contains b || false)))
            rw [Bool.or_false]
          · show (if b < B then _ else _) = (if b < B then _ else _)
            rw [if_neg hb, if_neg hb]
      · congr 2
        funext b
        unfold usedP
        rw [show (x.2.2.2.take 0).contains b = false from rfl, Bool.or_false]
    · have ei : i = rs.length := by omega
      subst ei
      refine RQ.blk 2 (pc' := 62) (lv' := [(1, .int (nI rs.length)), (0, .ref 84)]) (st' := [.ref 84, .int (nI rs.length)]) (H' := _) (kc' := 0) (ks' := 0) rfl ?_
      refine RQ.get (ci := 3) rfl ((set_far (by decide)).trans hY.1) rfl rfl ?_
      refine RQ.brT rfl rfl rfl (cT_ge rs.length rs.length) ?_
      exact RQ.done (c := 0) (s := 0) rfl rfl rfl rfl ⟨_, rfl, by rw [List.take_of_length_le (Nat.le_refl _)]⟩
  have mid : RQ sc (d + 1) mr_10 34 [(1, .int (nI 0)), (0, .ref 84)] [] (H.set 86 (kZ B (fun b => if b < B then usedB (lgs.take 0) [] b else us b))) 0 0 (fun r => ∃ H', r = (.inl none, H', 0, 0) ∧ H' = (H.set 86 (kZ B (fun b => if b < B then usedB lgs rs b else us b)))) := by
    refine RQ.while (S := Nat) (pc := 34) (fun i H' => i ≤ lgs.length ∧ H' = (H.set 86 (kZ B (fun b => if b < B then usedB (lgs.take i) [] b else us b)))) (fun i => [(1, .int (nI i)), (0, .ref 84)]) (fun i => lgs.length - i) ?_ 0 _ ⟨Nat.zero_le _, rfl⟩
    rintro i H1 ⟨hi, e⟩ ih
    rw [e]
    by_cases hil : i < lgs.length
    · obtain ⟨y, hy⟩ := lt_get hil
      have hyB := hlB y (List.mem_of_getElem? hy)
      refine RQ.blk 2 (pc' := 36) (lv' := [(1, .int (nI i)), (0, .ref 84)]) (st' := [.ref 84, .int (nI i)]) (H' := _) (kc' := 0) (ks' := 0) rfl ?_
      refine RQ.get (ci := 3) rfl ((set_far (by decide)).trans hY.1) rfl rfl ?_
      refine RQ.brF rfl rfl rfl (cF_ge i lgs.length) ?_
      refine RQ.blk 2 (pc' := 44) (lv' := [(1, .int (nI i)), (0, .ref 84)]) (st' := [.ref 84, .ref 84]) (H' := _) (kc' := 0) (ks' := 0) rfl ?_
      refine RQ.get (ci := 3) rfl ((set_far (by decide)).trans hY.1) rfl rfl ?_
      refine RQ.blk 1 (pc' := 48) (lv' := [(1, .int (nI i)), (0, .ref 84)]) (st' := [.int (nI i), .ref 88, .ref 84]) (H' := _) (kc' := 0) (ks' := 0) rfl ?_
      refine RQ.ialdN (j := i) rfl ((set_far (by decide)).trans hY.2.2) (by omega) (by omega) ?_
      rw [hlg i y hy]
      refine RQ.call (v := none) (st' := []) rfl rfl rfl rfl rfl rfl (args_v [.int (nI y)] [] rfl rfl (Nat.le_of_ble_eq_true rfl) rfl ((set_far (by decide)).trans hY.1) (Nat.le_of_ble_eq_true rfl)) (rc_setUsed (b := y) (us := (fun b => if b < B then usedB (lgs.take i) [] b else us b)) ⟨(set_far (by decide)).trans hY.1, get_set hY.2.1, (set_far (by decide)).trans hY.2.2⟩ hB hyB) ?_
      rw [set_set, up_used (f := (fun b => if b < B then usedB (lgs.take (i + 1)) [] b else us b)) (fun b => ?_)]
      rotate_left
      · by_cases hb : b < B
        · show (if b < B then _ else _) = ((if b < B then _ else _) || _)
          rw [if_pos hb, if_pos hb]
          unfold usedB
          rw [take_get hy, con_snoc]
          show (decide (b < 2) || _ || false) = (decide (b < 2) || _ || false || _)
          rw [Bool.or_false, Bool.or_false, Bool.or_assoc]
        · show (if b < B then _ else _) = ((if b < B then _ else _) || _)
          rw [if_neg hb, if_neg hb, decide_eq_false (show ¬ b = y by omega), Bool.or_false]
      refine RQ.blk 1 (pc' := 55) (lv' := [(1, .int (nI i + 1)), (0, .ref 84)]) (st' := []) (H' := _) (kc' := 0) (ks' := 0) rfl ?_
      rw [show (nI i + 1 : Int32) = nI (i + 1) from nI_add i 1]
      refine RQ.blk 1 (pc' := 34) (lv' := [(1, .int (nI (i + 1))), (0, .ref 84)]) (st' := []) (H' := _) (kc' := 0) (ks' := 0) rfl ?_
      exact ih (i + 1) _ ⟨by omega, rfl⟩ (by omega)
    · have ei : i = lgs.length := by omega
      subst ei
      refine RQ.blk 2 (pc' := 36) (lv' := [(1, .int (nI lgs.length)), (0, .ref 84)]) (st' := [.ref 84, .int (nI lgs.length)]) (H' := _) (kc' := 0) (ks' := 0) rfl ?_
      refine RQ.get (ci := 3) rfl ((set_far (by decide)).trans hY.1) rfl rfl ?_
      refine RQ.brT rfl rfl rfl (cT_ge lgs.length lgs.length) ?_
      refine RQ.blk 2 (pc' := 60) (lv' := [(1, .int 0), (0, .ref 84)]) (st' := []) (H' := _) (kc' := 0) (ks' := 0) rfl ?_
      have f2 := fin
      rw [List.take_zero] at f2
      rw [List.take_of_length_le (Nat.le_refl lgs.length)]
      exact f2
  refine RQ.blk 2 (pc' := 2) (lv' := [(1, .int 0), (0, .ref 84)]) (st' := []) (H' := _) (kc' := 0) (ks' := 0) rfl ?_
  refine RQ.while (S := Nat) (pc := 2) (fun i H' => i ≤ B ∧ H' = (H.set 86 (kZ B (fun b => if b < i then decide (b < 2) else us b)))) (fun i => [(1, .int (nI i)), (0, .ref 84)]) (fun i => B - i) ?_ 0 _ ⟨Nat.zero_le _, ?_⟩
  · rintro i H1 ⟨hi, e⟩ ih
    rw [e]
    by_cases hil : i < B
    ·
      refine RQ.blk 2 (pc' := 4) (lv' := [(1, .int (nI i)), (0, .ref 84)]) (st' := [.ref 84, .int (nI i)]) (H' := _) (kc' := 0) (ks' := 0) rfl ?_
      refine RQ.get (ci := 3) rfl ((set_far (by decide)).trans hY.1) rfl rfl ?_
      refine RQ.brF rfl rfl rfl (cF_ge i B) ?_
      refine RQ.blk 1 (pc' := 11) (lv' := [(1, .int (nI i)), (0, .ref 84)]) (st' := [.ref 84]) (H' := _) (kc' := 0) (ks' := 0) rfl ?_
      refine RQ.get (ci := 3) rfl ((set_far (by decide)).trans hY.1) rfl rfl ?_
      refine RQ.blk 3 (pc' := 17) (lv' := [(1, .int (nI i)), (0, .ref 84)]) (st' := [.int 2, .int (nI i), .int (nI i), .ref 87]) (H' := _) (kc' := 0) (ks' := 0) rfl ?_
      by_cases hi2 : i < 2
      ·
        refine RQ.brF rfl rfl rfl (cF_ge i 2) ?_
        refine RQ.blk 2 (pc' := 25) (lv' := [(1, .int (nI i)), (0, .ref 84)]) (st' := [.int 1, .int (nI i), .ref 87]) (H' := _) (kc' := 0) (ks' := 0) rfl ?_
        refine RQ.zastN (j := i) rfl (get_set hY.2.1) (by omega) (by omega) ?_
        have e9 : va_up (fun b => if b < i then decide (b < 2) else us b) i (decide ((1 : Int32) &&& 1 = 1)) = (fun b => if b < (i + 1) then decide (b < 2) else us b) := by
          funext b
          unfold va_up
          by_cases h9 : b = i
          · rw [if_pos h9, if_pos (by omega), h9, decide_eq_true hi2]; rfl
          · rw [if_neg h9]
            show (if b < i then _ else _) = (if b < i + 1 then _ else _)
            by_cases h8 : b < i
            · rw [if_pos h8, if_pos (by omega)]
            · rw [if_neg h8, if_neg (by omega)]
        rw [set_set, e9]
        refine RQ.blk 1 (pc' := 29) (lv' := [(1, .int (nI i + 1)), (0, .ref 84)]) (st' := []) (H' := _) (kc' := 0) (ks' := 0) rfl ?_
        rw [show (nI i + 1 : Int32) = nI (i + 1) from nI_add i 1]
        refine RQ.blk 1 (pc' := 2) (lv' := [(1, .int (nI (i + 1))), (0, .ref 84)]) (st' := []) (H' := _) (kc' := 0) (ks' := 0) rfl ?_
        exact ih (i + 1) _ ⟨by omega, rfl⟩ (by omega)
      ·
        refine RQ.brT rfl rfl rfl (cT_ge i 2) ?_
        refine RQ.blk 1 (pc' := 25) (lv' := [(1, .int (nI i)), (0, .ref 84)]) (st' := [.int 0, .int (nI i), .ref 87]) (H' := _) (kc' := 0) (ks' := 0) rfl ?_
        refine RQ.zastN (j := i) rfl (get_set hY.2.1) (by omega) (by omega) ?_
        have e9 : va_up (fun b => if b < i then decide (b < 2) else us b) i (decide ((0 : Int32) &&& 1 = 1)) = (fun b => if b < (i + 1) then decide (b < 2) else us b) := by
          funext b
          unfold va_up
          by_cases h9 : b = i
          · rw [if_pos h9, if_pos (by omega), h9, decide_eq_false hi2]; rfl
          · rw [if_neg h9]
            show (if b < i then _ else _) = (if b < i + 1 then _ else _)
            by_cases h8 : b < i
            · rw [if_pos h8, if_pos (by omega)]
            · rw [if_neg h8, if_neg (by omega)]
        rw [set_set, e9]
        refine RQ.blk 1 (pc' := 29) (lv' := [(1, .int (nI i + 1)), (0, .ref 84)]) (st' := []) (H' := _) (kc' := 0) (ks' := 0) rfl ?_
        rw [show (nI i + 1 : Int32) = nI (i + 1) from nI_add i 1]
        refine RQ.blk 1 (pc' := 2) (lv' := [(1, .int (nI (i + 1))), (0, .ref 84)]) (st' := []) (H' := _) (kc' := 0) (ks' := 0) rfl ?_
        exact ih (i + 1) _ ⟨by omega, rfl⟩ (by omega)
    · have ei : i = B := by omega
      rw [ei]
      refine RQ.blk 2 (pc' := 4) (lv' := [(1, .int (nI B)), (0, .ref 84)]) (st' := [.ref 84, .int (nI B)]) (H' := _) (kc' := 0) (ks' := 0) rfl ?_
      refine RQ.get (ci := 3) rfl ((set_far (by decide)).trans hY.1) rfl rfl ?_
      refine RQ.brT rfl rfl rfl (cT_ge B B) ?_
      refine RQ.blk 2 (pc' := 34) (lv' := [(1, .int 0), (0, .ref 84)]) (st' := []) (H' := _) (kc' := 0) (ks' := 0) rfl ?_
      have m2 := mid
      rw [show (fun b => if b < B then usedB (lgs.take 0) [] b else us b) = (fun b => if b < B then decide (b < 2) else us b) from funext (fun b => by
        by_cases hb : b < B
        · show (if b < B then _ else _) = (if b < B then _ else _)
          rw [if_pos hb, if_pos hb]
          show (decide (b < 2) || false || false) = _
          rw [Bool.or_false, Bool.or_false]
        · show (if b < B then _ else _) = (if b < B then _ else _)
          rw [if_neg hb, if_neg hb])] at m2
      exact m2
  · rw [show (fun b => if b < 0 then decide (b < 2) else us b) = us from funext (fun b => if_neg (Nat.not_lt_zero b)), set_self hY.2.1]
