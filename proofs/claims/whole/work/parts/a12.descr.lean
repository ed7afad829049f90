/-! ===== the state as bytes; class; written by wip/gen/descr.py ===== -/
def encR (x : aR) : List Nat := beB 1 x.1 ++ beB 3 x.2.1 ++ beB 2 x.2.2.1 ++ beB 1 x.2.2.2.length ++ x.2.2.2.flatMap (beB 1)
def encB (P fr ff : Nat) (lgs : List Nat) (rs : List aR) : List Nat := beB 4 P ++ beB 1 fr ++ beB 2 ff ++ beB 1 lgs.length ++ lgs.flatMap (beB 1) ++ beB 1 rs.length ++ rs.flatMap encR
/-- a state's bytes -/
def encS (P fr ff : Nat) (lgs : List Nat) (rs : List aR) : List Nat := 83 :: (beB 2 ((encB P fr ff lgs rs).length + 4) ++ (encB P fr ff lgs rs ++ beB 1 90))
theorem encS_len {P fr ff : Nat} {lgs : List Nat} {rs : List aR} : (encS P fr ff lgs rs).length = (encB P fr ff lgs rs).length + 4 := by
  unfold encS
  rw [List.length_cons, List.length_append, List.length_append, beB_len, beB_len]
  omega
theorem fm_take {α : Type} {l : List α} {f : α → List Nat} {i : Nat} {x : α} (h : l[i]? = some x) : (l.take (i + 1)).flatMap f = (l.take i).flatMap f ++ f x := by
  rw [take_get h, List.flatMap_append, List.flatMap_cons, List.flatMap_nil, List.append_nil]
theorem fm_len1 : ∀ (l : List Nat), (l.flatMap (beB 1)).length = l.length
  | [] => rfl
  | a :: l => by rw [List.flatMap_cons, List.length_append, fm_len1 l, beB_len, List.length_cons]; omega
theorem encR_len (x : aR) : (encR x).length = 7 + x.2.2.2.length := by
  unfold encR
  rw [List.length_append, List.length_append, List.length_append, List.length_append, beB_len, beB_len, beB_len, beB_len, fm_len1]
theorem pg_num {pg : Nat → Int8} {k n v p : Nat} {l : List Nat} (h1 : sl pg 5 1 = [83]) (h2 : sl pg 8 k = l) (hp : p = 8 + k) (hv : v < 2 ^ 31) (hn : n ≤ 4) : sl (numF pg p n (nI v) n) 5 1 = [83] ∧ sl (numF pg p n (nI v) n) 8 (k + n) = l ++ beB n v := by
  refine ⟨by rw [sl_numF_out (by omega)]; exact h1, sl_join ?_ ?_⟩
  · rw [sl_numF_out (by omega)]; exact h2
  · rw [← hp]; exact sl_numF hv hn
set_option maxRecDepth 10000 in
theorem ri_describe {sc : Nat × (Nat → Int32)} {d P : Nat} {H : aH} {B : Nat} {lgs : List Nat} {fr ff : Nat} {wr : Bool} {tp : Nat} {rs : List aR} {ms mt sq tu : Nat} {us : Nat → Bool} {pg : Nat → Int8} (h : LayIs H B lgs fr ff wr tp rs ms mt sq tu us) (hB : B ≤ 128) (hpg : H[85]? = some (kB 2048 pg)) (hP : P < 2 ^ 31) (hfr : fr < 256) (hff : ff < 65536) (hlB : ∀ x ∈ lgs, x < B) (hrs : ∀ x ∈ rs, x.1 < 256 ∧ x.2.1 < 2 ^ 24 ∧ x.2.2.1 < 65536 ∧ ∀ y ∈ x.2.2.2, y < B) (hlen : (encS P fr ff lgs rs).length ≤ 2043) : RI sc (d + 1) mr_116 [.ref 84, .int (nI P)] H (fun x H' => x = nI (encS P fr ff lgs rs).length ∧ ∃ pg', H' = H.set 85 (kB 2048 pg') ∧ sl pg' 5 (encS P fr ff lgs rs).length = encS P fr ff lgs rs) := by
  obtain ⟨lg, pi, hY, hlg, hlc, hRs⟩ := h
  obtain ⟨⟨Q, hQ, hQ2⟩, hpi, hinj, hrun, hall, hrl⟩ := hRs
  rw [encS_len] at hlen
  have hbl : (encB P fr ff lgs rs).length = 9 + lgs.length + (rs.flatMap encR).length := by
    unfold encB
    rw [List.length_append, List.length_append, List.length_append, List.length_append, List.length_append, List.length_append, beB_len, beB_len, beB_len, beB_len, beB_len, fm_len1]
    omega
  have htk : ∀ i, ((rs.take i).flatMap encR).length ≤ (rs.flatMap encR).length := fun i => by
    conv => rhs; rw [← List.take_append_drop i rs, List.flatMap_append, List.length_append]
    omega
  refine RI.of ?_
  have fin : ∀ pgS, sl pgS 5 1 = [83] → sl pgS 8 (9 + lgs.length) = ((beB 4 P ++ beB 1 fr ++ beB 2 ff ++ beB 1 lgs.length) ++ lgs.flatMap (beB 1) ++ beB 1 rs.length) → RQ sc (d + 1) mr_116 134 [(3, .int (nI 0)), (2, .int (nI (17 + lgs.length))), (0, .ref 84), (1, .int (nI P))] [] (H.set 85 (kB 2048 pgS)) 0 0 (fun r => ∃ x H', r = (.inl (some (.int x)), H', 0, 0) ∧ x = nI (encS P fr ff lgs rs).length ∧ ∃ pg', H' = H.set 85 (kB 2048 pg') ∧ sl pg' 5 (encS P fr ff lgs rs).length = encS P fr ff lgs rs) := by
    intro pgS hs1 hs2
    rw [show 17 + lgs.length = 8 + (9 + lgs.length + ((rs.take 0).flatMap encR).length) from by rw [List.take_zero]; show _ = 8 + (9 + lgs.length + 0); omega]
    refine RQ.while (S := Nat) (pc := 134) (fun i H' => i ≤ rs.length ∧ ∃ pg', H' = H.set 85 (kB 2048 pg') ∧ sl pg' 5 1 = [83] ∧ sl pg' 8 (9 + lgs.length + ((rs.take i).flatMap encR).length) = (((beB 4 P ++ beB 1 fr ++ beB 2 ff ++ beB 1 lgs.length) ++ lgs.flatMap (beB 1) ++ beB 1 rs.length) ++ (rs.take i).flatMap encR)) (fun i => [(3, .int (nI i)), (2, .int (nI (8 + (9 + lgs.length + ((rs.take i).flatMap encR).length)))), (0, .ref 84), (1, .int (nI P))]) (fun i => rs.length - i) ?_ 0 _ ⟨Nat.zero_le _, pgS, rfl, hs1, hs2.trans (List.append_nil _).symm⟩
    rintro i H1 ⟨hi, pgB, e, ha, hb⟩ ih
    rw [e]
    by_cases hil : i < rs.length
    · obtain ⟨x, hx⟩ := lt_get hil
      obtain ⟨f, h1, h2, h3, h4⟩ := hrun i x hx
      obtain ⟨s, s1, s2⟩ := hpi i (by omega)
      obtain ⟨x1, x2, x3, x4⟩ := hrs x (List.mem_of_getElem? hx)
      have hft := fm_take (f := encR) hx
      have hfl := congrArg List.length hft
      rw [List.length_append, encR_len] at hfl
      have hti := htk (i + 1)
      refine RQ.blk 2 (pc' := 136) (lv' := [(3, .int (nI i)), (2, .int (nI (8 + (9 + lgs.length + ((rs.take i).flatMap encR).length)))), (0, .ref 84), (1, .int (nI P))]) (st' := [.ref 84, .int (nI i)]) (H' := _) (kc' := 0) (ks' := 0) rfl ?_
      refine RQ.get (ci := 3) rfl ((set_far (by decide)).trans hY.1) rfl rfl ?_
      refine RQ.brF rfl rfl rfl (cF_ge i rs.length) ?_
      refine RQ.blk 1 (pc' := 143) (lv' := [(3, .int (nI i)), (2, .int (nI (8 + (9 + lgs.length + ((rs.take i).flatMap encR).length)))), (0, .ref 84), (1, .int (nI P))]) (st' := [.ref 84]) (H' := _) (kc' := 0) (ks' := 0) rfl ?_
      refine RQ.get (ci := 3) rfl ((set_far (by decide)).trans hY.1) rfl rfl ?_
      refine RQ.blk 1 (pc' := 147) (lv' := [(3, .int (nI i)), (2, .int (nI (8 + (9 + lgs.length + ((rs.take i).flatMap encR).length)))), (0, .ref 84), (1, .int (nI P))]) (st' := [.int (nI i), .ref 85]) (H' := _) (kc' := 0) (ks' := 0) rfl ?_
      refine RQ.aaldN (j := i) rfl ((set_far (by decide)).trans hQ) (by omega) (by decide) (by decide) (hQ2 i (by omega)) ?_
      refine RQ.blk 2 (pc' := 151) (lv' := [(4, .ref ((pi i) + 1)), (3, .int (nI i)), (2, .int (nI (8 + (9 + lgs.length + ((rs.take i).flatMap encR).length)))), (0, .ref 84), (1, .int (nI P))]) (st' := [.ref 84]) (H' := _) (kc' := 0) (ks' := 0) rfl ?_
      refine RQ.get (ci := 3) rfl ((set_far (by decide)).trans hY.1) rfl rfl ?_
      refine RQ.blk 3 (pc' := 158) (lv' := [(4, .ref ((pi i) + 1)), (3, .int (nI i)), (2, .int (nI (8 + (9 + lgs.length + ((rs.take i).flatMap encR).length)))), (0, .ref 84), (1, .int (nI P))]) (st' := [.ref ((pi i) + 1), .int 1, .int (nI (8 + (9 + lgs.length + ((rs.take i).flatMap encR).length))), .ref 86]) (H' := _) (kc' := 0) (ks' := 0) rfl ?_
      refine RQ.get (ci := 6) rfl ((set_far (by omega)).trans h1) rfl rfl ?_
      refine RQ.call (v := none) (st' := []) rfl rfl rfl rfl rfl rfl rfl (rc_number (a := 85) (m := 2048) (f := pgB) (p := 8 + (9 + lgs.length + ((rs.take i).flatMap encR).length)) (n := 1) (v := nI x.1) (get_set hpg) (by decide) (by omega) (by decide)) ?_
      rw [set_set]
      obtain ⟨ha, hb⟩ := pg_num (k := (9 + lgs.length + ((rs.take i).flatMap encR).length)) (n := 1) (v := x.1) (p := 8 + (9 + lgs.length + ((rs.take i).flatMap encR).length)) ha hb (by omega) (by omega) (by omega)
      generalize numF pgB (8 + (9 + lgs.length + ((rs.take i).flatMap encR).length)) 1 (nI x.1) 1 = pg0 at ha hb ⊢
      refine RQ.blk 1 (pc' := 165) (lv' := [(4, .ref ((pi i) + 1)), (3, .int (nI i)), (2, .int (nI (8 + (9 + lgs.length + ((rs.take i).flatMap encR).length)))), (0, .ref 84), (1, .int (nI P))]) (st' := [.ref 84]) (H' := _) (kc' := 0) (ks' := 0) rfl ?_
      refine RQ.get (ci := 3) rfl ((set_far (by decide)).trans hY.1) rfl rfl ?_
      refine RQ.blk 3 (pc' := 171) (lv' := [(4, .ref ((pi i) + 1)), (3, .int (nI i)), (2, .int (nI (8 + (9 + lgs.length + ((rs.take i).flatMap encR).length)))), (0, .ref 84), (1, .int (nI P))]) (st' := [.int (nI (8 + (9 + lgs.length + ((rs.take i).flatMap encR).length)) + 1), .ref 86]) (H' := _) (kc' := 0) (ks' := 0) rfl ?_
      rw [show (nI (8 + (9 + lgs.length + ((rs.take i).flatMap encR).length)) + 1 : Int32) = nI (8 + (9 + lgs.length + ((rs.take i).flatMap encR).length) + 1) from nI_add (8 + (9 + lgs.length + ((rs.take i).flatMap encR).length)) 1]
      refine RQ.blk 2 (pc' := 174) (lv' := [(4, .ref ((pi i) + 1)), (3, .int (nI i)), (2, .int (nI (8 + (9 + lgs.length + ((rs.take i).flatMap encR).length)))), (0, .ref 84), (1, .int (nI P))]) (st' := [.ref ((pi i) + 1), .int 3, .int (nI (8 + (9 + lgs.length + ((rs.take i).flatMap encR).length) + 1)), .ref 86]) (H' := _) (kc' := 0) (ks' := 0) rfl ?_
      refine RQ.get (ci := 6) rfl ((set_far (by omega)).trans h1) rfl rfl ?_
      refine RQ.call (v := none) (st' := []) rfl rfl rfl rfl rfl rfl rfl (rc_number (a := 85) (m := 2048) (f := pg0) (p := 8 + (9 + lgs.length + ((rs.take i).flatMap encR).length) + 1) (n := 3) (v := nI x.2.1) (get_set hpg) (by decide) (by omega) (by decide)) ?_
      rw [set_set]
      obtain ⟨ha, hb⟩ := pg_num (k := (9 + lgs.length + ((rs.take i).flatMap encR).length) + 1) (n := 3) (v := x.2.1) (p := 8 + (9 + lgs.length + ((rs.take i).flatMap encR).length) + 1) ha hb (by omega) (by omega) (by omega)
      generalize numF pg0 (8 + (9 + lgs.length + ((rs.take i).flatMap encR).length) + 1) 3 (nI x.2.1) 3 = pg1 at ha hb ⊢
      refine RQ.blk 1 (pc' := 181) (lv' := [(4, .ref ((pi i) + 1)), (3, .int (nI i)), (2, .int (nI (8 + (9 + lgs.length + ((rs.take i).flatMap encR).length)))), (0, .ref 84), (1, .int (nI P))]) (st' := [.ref 84]) (H' := _) (kc' := 0) (ks' := 0) rfl ?_
      refine RQ.get (ci := 3) rfl ((set_far (by decide)).trans hY.1) rfl rfl ?_
      refine RQ.blk 3 (pc' := 187) (lv' := [(4, .ref ((pi i) + 1)), (3, .int (nI i)), (2, .int (nI (8 + (9 + lgs.length + ((rs.take i).flatMap encR).length)))), (0, .ref 84), (1, .int (nI P))]) (st' := [.int (nI (8 + (9 + lgs.length + ((rs.take i).flatMap encR).length)) + 4), .ref 86]) (H' := _) (kc' := 0) (ks' := 0) rfl ?_
      rw [show (nI (8 + (9 + lgs.length + ((rs.take i).flatMap encR).length)) + 4 : Int32) = nI (8 + (9 + lgs.length + ((rs.take i).flatMap encR).length) + 4) from nI_add (8 + (9 + lgs.length + ((rs.take i).flatMap encR).length)) 4]
      refine RQ.blk 2 (pc' := 190) (lv' := [(4, .ref ((pi i) + 1)), (3, .int (nI i)), (2, .int (nI (8 + (9 + lgs.length + ((rs.take i).flatMap encR).length)))), (0, .ref 84), (1, .int (nI P))]) (st' := [.ref ((pi i) + 1), .int 2, .int (nI (8 + (9 + lgs.length + ((rs.take i).flatMap encR).length) + 4)), .ref 86]) (H' := _) (kc' := 0) (ks' := 0) rfl ?_
      refine RQ.get (ci := 6) rfl ((set_far (by omega)).trans h1) rfl rfl ?_
      refine RQ.call (v := none) (st' := []) rfl rfl rfl rfl rfl rfl rfl (rc_number (a := 85) (m := 2048) (f := pg1) (p := 8 + (9 + lgs.length + ((rs.take i).flatMap encR).length) + 4) (n := 2) (v := nI x.2.2.1) (get_set hpg) (by decide) (by omega) (by decide)) ?_
      rw [set_set]
      obtain ⟨ha, hb⟩ := pg_num (k := (9 + lgs.length + ((rs.take i).flatMap encR).length) + 1 + 3) (n := 2) (v := x.2.2.1) (p := 8 + (9 + lgs.length + ((rs.take i).flatMap encR).length) + 4) ha hb (by omega) (by omega) (by omega)
      generalize numF pg1 (8 + (9 + lgs.length + ((rs.take i).flatMap encR).length) + 4) 2 (nI x.2.2.1) 2 = pg2 at ha hb ⊢
      refine RQ.blk 1 (pc' := 197) (lv' := [(4, .ref ((pi i) + 1)), (3, .int (nI i)), (2, .int (nI (8 + (9 + lgs.length + ((rs.take i).flatMap encR).length)))), (0, .ref 84), (1, .int (nI P))]) (st' := [.ref 84]) (H' := _) (kc' := 0) (ks' := 0) rfl ?_
      refine RQ.get (ci := 3) rfl ((set_far (by decide)).trans hY.1) rfl rfl ?_
      refine RQ.blk 3 (pc' := 204) (lv' := [(4, .ref ((pi i) + 1)), (3, .int (nI i)), (2, .int (nI (8 + (9 + lgs.length + ((rs.take i).flatMap encR).length)))), (0, .ref 84), (1, .int (nI P))]) (st' := [.int (nI (8 + (9 + lgs.length + ((rs.take i).flatMap encR).length)) + 6), .ref 86]) (H' := _) (kc' := 0) (ks' := 0) rfl ?_
      rw [show (nI (8 + (9 + lgs.length + ((rs.take i).flatMap encR).length)) + 6 : Int32) = nI (8 + (9 + lgs.length + ((rs.take i).flatMap encR).length) + 6) from nI_add (8 + (9 + lgs.length + ((rs.take i).flatMap encR).length)) 6]
      refine RQ.blk 2 (pc' := 207) (lv' := [(4, .ref ((pi i) + 1)), (3, .int (nI i)), (2, .int (nI (8 + (9 + lgs.length + ((rs.take i).flatMap encR).length)))), (0, .ref 84), (1, .int (nI P))]) (st' := [.ref ((pi i) + 1), .int 1, .int (nI (8 + (9 + lgs.length + ((rs.take i).flatMap encR).length) + 6)), .ref 86]) (H' := _) (kc' := 0) (ks' := 0) rfl ?_
      refine RQ.get (ci := 6) rfl ((set_far (by omega)).trans h1) rfl rfl ?_
      refine RQ.call (v := none) (st' := []) rfl rfl rfl rfl rfl rfl rfl (rc_number (a := 85) (m := 2048) (f := pg2) (p := 8 + (9 + lgs.length + ((rs.take i).flatMap encR).length) + 6) (n := 1) (v := nI x.2.2.2.length) (get_set hpg) (by decide) (by omega) (by decide)) ?_
      rw [set_set]
      obtain ⟨ha, hb⟩ := pg_num (k := (9 + lgs.length + ((rs.take i).flatMap encR).length) + 1 + 3 + 2) (n := 1) (v := x.2.2.2.length) (p := 8 + (9 + lgs.length + ((rs.take i).flatMap encR).length) + 6) ha hb (by omega) (by omega) (by omega)
      generalize numF pg2 (8 + (9 + lgs.length + ((rs.take i).flatMap encR).length) + 6) 1 (nI x.2.2.2.length) 1 = pg3 at ha hb ⊢
      refine RQ.blk 1 (pc' := 216) (lv' := [(2, .int (nI (8 + (9 + lgs.length + ((rs.take i).flatMap encR).length)) + 7)), (4, .ref ((pi i) + 1)), (3, .int (nI i)), (0, .ref 84), (1, .int (nI P))]) (st' := []) (H' := _) (kc' := 0) (ks' := 0) rfl ?_
      rw [show (nI (8 + (9 + lgs.length + ((rs.take i).flatMap encR).length)) + 7 : Int32) = nI (8 + (9 + lgs.length + ((rs.take i).flatMap encR).length) + 7) from nI_add (8 + (9 + lgs.length + ((rs.take i).flatMap encR).length)) 7]
      refine RQ.blk 2 (pc' := 219) (lv' := [(5, .int 0), (2, .int (nI (8 + (9 + lgs.length + ((rs.take i).flatMap encR).length) + 7))), (4, .ref ((pi i) + 1)), (3, .int (nI i)), (0, .ref 84), (1, .int (nI P))]) (st' := []) (H' := _) (kc' := 0) (ks' := 0) rfl ?_
      refine RQ.pick (a := [(5, .int 0), (4, .ref ((pi i) + 1)), (3, .int (nI i)), (2, .int (nI (8 + (9 + lgs.length + ((rs.take i).flatMap encR).length) + 7))), (0, .ref 84), (1, .int (nI P))]) [0, 2, 3, 1, 4, 5] [5, 2, 4, 3, 0, 1] rfl rfl (by decide) ?_
      refine RQ.while (S := Nat) (pc := 219) (fun k H' => k ≤ x.2.2.2.length ∧ ∃ pg', H' = H.set 85 (kB 2048 pg') ∧ sl pg' 5 1 = [83] ∧ sl pg' 8 ((9 + lgs.length + ((rs.take i).flatMap encR).length) + 7 + k) = ((((beB 4 P ++ beB 1 fr ++ beB 2 ff ++ beB 1 lgs.length) ++ lgs.flatMap (beB 1) ++ beB 1 rs.length) ++ (rs.take i).flatMap encR) ++ (beB 1 x.1 ++ beB 3 x.2.1 ++ beB 2 x.2.2.1 ++ beB 1 x.2.2.2.length) ++ (x.2.2.2.take k).flatMap (beB 1))) (fun k => [(5, .int (nI k)), (4, .ref ((pi i) + 1)), (3, .int (nI i)), (2, .int (nI (8 + (9 + lgs.length + ((rs.take i).flatMap encR).length) + 7))), (0, .ref 84), (1, .int (nI P))]) (fun k => x.2.2.2.length - k) ?_ 0 _ ⟨Nat.zero_le _, _, rfl, ha, ?_⟩
      · rintro k H2 ⟨hk, pgD, e2, ha, hb⟩ ih2
        rw [e2]
        by_cases hkl : k < x.2.2.2.length
        · obtain ⟨y, hy⟩ := lt_get hkl
          have hyB := x4 y (List.mem_of_getElem? hy)
          refine RQ.blk 2 (pc' := 223) (lv' := [(5, .int (nI k)), (4, .ref ((pi i) + 1)), (3, .int (nI i)), (2, .int (nI (8 + (9 + lgs.length + ((rs.take i).flatMap encR).length) + 7))), (0, .ref 84), (1, .int (nI P))]) (st' := [.ref ((pi i) + 1), .int (nI k)]) (H' := _) (kc' := 0) (ks' := 0) rfl ?_
          refine RQ.get (ci := 6) rfl ((set_far (by omega)).trans h1) rfl rfl ?_
          refine RQ.brF rfl rfl rfl (cF_ge k x.2.2.2.length) ?_
          refine RQ.blk 1 (pc' := 230) (lv' := [(5, .int (nI k)), (4, .ref ((pi i) + 1)), (3, .int (nI i)), (2, .int (nI (8 + (9 + lgs.length + ((rs.take i).flatMap encR).length) + 7))), (0, .ref 84), (1, .int (nI P))]) (st' := [.ref 84]) (H' := _) (kc' := 0) (ks' := 0) rfl ?_
          refine RQ.get (ci := 3) rfl ((set_far (by decide)).trans hY.1) rfl rfl ?_
          refine RQ.blk 3 (pc' := 237) (lv' := [(5, .int (nI k)), (4, .ref ((pi i) + 1)), (3, .int (nI i)), (2, .int (nI (8 + (9 + lgs.length + ((rs.take i).flatMap encR).length) + 7))), (0, .ref 84), (1, .int (nI P))]) (st' := [.int (nI (8 + (9 + lgs.length + ((rs.take i).flatMap encR).length) + 7) + nI k), .ref 86]) (H' := _) (kc' := 0) (ks' := 0) rfl ?_
          rw [show (nI (8 + (9 + lgs.length + ((rs.take i).flatMap encR).length) + 7) + nI k : Int32) = nI (8 + (9 + lgs.length + ((rs.take i).flatMap encR).length) + 7 + k) from nI_add (8 + (9 + lgs.length + ((rs.take i).flatMap encR).length) + 7) k]
          refine RQ.blk 2 (pc' := 240) (lv' := [(5, .int (nI k)), (4, .ref ((pi i) + 1)), (3, .int (nI i)), (2, .int (nI (8 + (9 + lgs.length + ((rs.take i).flatMap encR).length) + 7))), (0, .ref 84), (1, .int (nI P))]) (st' := [.ref ((pi i) + 1), .int 1, .int (nI (8 + (9 + lgs.length + ((rs.take i).flatMap encR).length) + 7 + k)), .ref 86]) (H' := _) (kc' := 0) (ks' := 0) rfl ?_
          refine RQ.get (ci := 6) rfl ((set_far (by omega)).trans h1) rfl rfl ?_
          refine RQ.blk 1 (pc' := 245) (lv' := [(5, .int (nI k)), (4, .ref ((pi i) + 1)), (3, .int (nI i)), (2, .int (nI (8 + (9 + lgs.length + ((rs.take i).flatMap encR).length) + 7))), (0, .ref 84), (1, .int (nI P))]) (st' := [.int (nI k), .ref (((pi i) + 1) + 1), .int 1, .int (nI (8 + (9 + lgs.length + ((rs.take i).flatMap encR).length) + 7 + k)), .ref 86]) (H' := _) (kc' := 0) (ks' := 0) rfl ?_
          refine RQ.ialdN (j := k) rfl ((set_far (by omega)).trans h2) (by omega) (by decide) ?_
          rw [h3 k y hy]
          refine RQ.call (v := none) (st' := []) rfl rfl rfl rfl rfl rfl rfl (rc_number (a := 85) (m := 2048) (f := pgD) (p := 8 + (9 + lgs.length + ((rs.take i).flatMap encR).length) + 7 + k) (n := 1) (v := nI y) (get_set hpg) (by decide) (by omega) (by decide)) ?_
          rw [set_set]
          obtain ⟨ha, hb⟩ := pg_num (k := ((9 + lgs.length + ((rs.take i).flatMap encR).length) + 7 + k)) (n := 1) (v := y) (p := 8 + (9 + lgs.length + ((rs.take i).flatMap encR).length) + 7 + k) ha hb (by omega) (by omega) (by omega)
          generalize numF pgD (8 + (9 + lgs.length + ((rs.take i).flatMap encR).length) + 7 + k) 1 (nI y) 1 = pg4 at ha hb ⊢
          refine RQ.blk 1 (pc' := 252) (lv' := [(5, .int (nI k + 1)), (4, .ref ((pi i) + 1)), (3, .int (nI i)), (2, .int (nI (8 + (9 + lgs.length + ((rs.take i).flatMap encR).length) + 7))), (0, .ref 84), (1, .int (nI P))]) (st' := []) (H' := _) (kc' := 0) (ks' := 0) rfl ?_
          rw [show (nI k + 1 : Int32) = nI (k + 1) from nI_add k 1]
          refine RQ.blk 1 (pc' := 219) (lv' := [(5, .int (nI (k + 1))), (4, .ref ((pi i) + 1)), (3, .int (nI i)), (2, .int (nI (8 + (9 + lgs.length + ((rs.take i).flatMap encR).length) + 7))), (0, .ref 84), (1, .int (nI P))]) (st' := []) (H' := _) (kc' := 0) (ks' := 0) rfl ?_
          refine ih2 (k + 1) _ ⟨by omega, _, rfl, ha, ?_⟩ (by omega)
          rw [fm_take hy, ← List.append_assoc, ← hb]
          rfl
        · have ek : k = x.2.2.2.length := by omega
          subst ek
          rw [List.take_of_length_le (Nat.le_refl x.2.2.2.length)] at hb
          refine RQ.blk 2 (pc' := 223) (lv' := [(5, .int (nI x.2.2.2.length)), (4, .ref ((pi i) + 1)), (3, .int (nI i)), (2, .int (nI (8 + (9 + lgs.length + ((rs.take i).flatMap encR).length) + 7))), (0, .ref 84), (1, .int (nI P))]) (st' := [.ref ((pi i) + 1), .int (nI x.2.2.2.length)]) (H' := _) (kc' := 0) (ks' := 0) rfl ?_
          refine RQ.get (ci := 6) rfl ((set_far (by omega)).trans h1) rfl rfl ?_
          refine RQ.brT rfl rfl rfl (cT_ge x.2.2.2.length x.2.2.2.length) ?_
          refine RQ.blk 2 (pc' := 258) (lv' := [(5, .int (nI x.2.2.2.length)), (4, .ref ((pi i) + 1)), (3, .int (nI i)), (2, .int (nI (8 + (9 + lgs.length + ((rs.take i).flatMap encR).length) + 7))), (0, .ref 84), (1, .int (nI P))]) (st' := [.ref ((pi i) + 1), .int (nI (8 + (9 + lgs.length + ((rs.take i).flatMap encR).length) + 7))]) (H' := _) (kc' := 0) (ks' := 0) rfl ?_
          refine RQ.get (ci := 6) rfl ((set_far (by omega)).trans h1) rfl rfl ?_
          refine RQ.blk 1 (pc' := 262) (lv' := [(5, .int (nI x.2.2.2.length)), (4, .ref ((pi i) + 1)), (3, .int (nI i)), (2, .int (nI (8 + (9 + lgs.length + ((rs.take i).flatMap encR).length) + 7))), (0, .ref 84), (1, .int (nI P))]) (st' := [.int (nI (8 + (9 + lgs.length + ((rs.take i).flatMap encR).length) + 7) + nI x.2.2.2.length)]) (H' := _) (kc' := 0) (ks' := 0) rfl ?_
          rw [show (nI (8 + (9 + lgs.length + ((rs.take i).flatMap encR).length) + 7) + nI x.2.2.2.length : Int32) = nI (8 + (9 + lgs.length + ((rs.take i).flatMap encR).length) + 7 + x.2.2.2.length) from nI_add (8 + (9 + lgs.length + ((rs.take i).flatMap encR).length) + 7) x.2.2.2.length]
          refine RQ.blk 2 (pc' := 266) (lv' := [(3, .int (nI i + 1)), (2, .int (nI (8 + (9 + lgs.length + ((rs.take i).flatMap encR).length) + 7 + x.2.2.2.length))), (5, .int (nI x.2.2.2.length)), (4, .ref ((pi i) + 1)), (0, .ref 84), (1, .int (nI P))]) (st' := []) (H' := _) (kc' := 0) (ks' := 0) rfl ?_
          rw [show (nI i + 1 : Int32) = nI (i + 1) from nI_add i 1]
          refine RQ.blk 1 (pc' := 134) (lv' := [(3, .int (nI (i + 1))), (2, .int (nI (8 + (9 + lgs.length + ((rs.take i).flatMap encR).length) + 7 + x.2.2.2.length))), (5, .int (nI x.2.2.2.length)), (4, .ref ((pi i) + 1)), (0, .ref 84), (1, .int (nI P))]) (st' := []) (H' := _) (kc' := 0) (ks' := 0) rfl ?_
          refine RQ.pick (a := [(3, .int (nI (i + 1))), (2, .int (nI (8 + (9 + lgs.length + ((rs.take i).flatMap encR).length) + 7 + x.2.2.2.length))), (0, .ref 84), (1, .int (nI P))]) [0, 1, 4, 5] [3, 2, 5, 4, 0, 1] rfl rfl (by decide) ?_
          rw [show 8 + (9 + lgs.length + ((rs.take i).flatMap encR).length) + 7 + x.2.2.2.length = 8 + (9 + lgs.length + ((rs.take (i + 1)).flatMap encR).length) by omega]
          refine ih (i + 1) _ ⟨by omega, _, rfl, ha, ?_⟩ (by omega)
          rw [show (9 + lgs.length + ((rs.take (i + 1)).flatMap encR).length) = ((9 + lgs.length + ((rs.take i).flatMap encR).length) + 7 + x.2.2.2.length) by omega, hb, hft]
          unfold encR
          simp only [List.append_assoc]
      · rw [List.take_zero, List.flatMap_nil, List.append_nil, show ((9 + lgs.length + ((rs.take i).flatMap encR).length) + 7 + 0) = (9 + lgs.length + ((rs.take i).flatMap encR).length) + 1 + 3 + 2 + 1 by omega, hb]
        simp only [List.append_assoc]
    · have ei : i = rs.length := by omega
      subst ei
      have htr := htk rs.length
      refine RQ.blk 2 (pc' := 136) (lv' := [(3, .int (nI rs.length)), (2, .int (nI (8 + (9 + lgs.length + ((rs.take rs.length).flatMap encR).length)))), (0, .ref 84), (1, .int (nI P))]) (st' := [.ref 84, .int (nI rs.length)]) (H' := _) (kc' := 0) (ks' := 0) rfl ?_
      refine RQ.get (ci := 3) rfl ((set_far (by decide)).trans hY.1) rfl rfl ?_
      refine RQ.brT rfl rfl rfl (cT_ge rs.length rs.length) ?_
      refine RQ.blk 1 (pc' := 270) (lv' := [(3, .int (nI rs.length)), (2, .int (nI (8 + (9 + lgs.length + ((rs.take rs.length).flatMap encR).length)))), (0, .ref 84), (1, .int (nI P))]) (st' := [.ref 84]) (H' := _) (kc' := 0) (ks' := 0) rfl ?_
      refine RQ.get (ci := 3) rfl ((set_far (by decide)).trans hY.1) rfl rfl ?_
      refine RQ.blk 3 (pc' := 277) (lv' := [(3, .int (nI rs.length)), (2, .int (nI (8 + (9 + lgs.length + ((rs.take rs.length).flatMap encR).length)))), (0, .ref 84), (1, .int (nI P))]) (st' := [.int 90, .int 1, .int (nI (8 + (9 + lgs.length + ((rs.take rs.length).flatMap encR).length))), .ref 86]) (H' := _) (kc' := 0) (ks' := 0) rfl ?_
      refine RQ.call (v := none) (st' := []) rfl rfl rfl rfl rfl rfl rfl (rc_number (a := 85) (m := 2048) (f := pgB) (p := 8 + (9 + lgs.length + ((rs.take rs.length).flatMap encR).length)) (n := 1) (v := nI 90) (get_set hpg) (by decide) (by omega) (by decide)) ?_
      rw [set_set]
      obtain ⟨ha, hb⟩ := pg_num (k := (9 + lgs.length + ((rs.take rs.length).flatMap encR).length)) (n := 1) (v := 90) (p := 8 + (9 + lgs.length + ((rs.take rs.length).flatMap encR).length)) ha hb (by omega) (by omega) (by omega)
      generalize numF pgB (8 + (9 + lgs.length + ((rs.take rs.length).flatMap encR).length)) 1 (nI 90) 1 = pg5 at ha hb ⊢
      refine RQ.blk 3 (pc' := 283) (lv' := [(3, .int (nI rs.length)), (2, .int (nI (8 + (9 + lgs.length + ((rs.take rs.length).flatMap encR).length)))), (0, .ref 84), (1, .int (nI P))]) (st' := [.int (nI (8 + (9 + lgs.length + ((rs.take rs.length).flatMap encR).length)) + 1)]) (H' := _) (kc' := 0) (ks' := 0) rfl ?_
      rw [show (nI (8 + (9 + lgs.length + ((rs.take rs.length).flatMap encR).length)) + 1 : Int32) = nI (8 + (9 + lgs.length + ((rs.take rs.length).flatMap encR).length) + 1) from nI_add (8 + (9 + lgs.length + ((rs.take rs.length).flatMap encR).length)) 1]
      refine RQ.blk 2 (pc' := 285) (lv' := [(3, .int (nI rs.length)), (2, .int (nI (8 + (9 + lgs.length + ((rs.take rs.length).flatMap encR).length)))), (0, .ref 84), (1, .int (nI P))]) (st' := [.int (nI (8 + (9 + lgs.length + ((rs.take rs.length).flatMap encR).length) + 1) - 5)]) (H' := _) (kc' := 0) (ks' := 0) rfl ?_
      rw [show (nI (8 + (9 + lgs.length + ((rs.take rs.length).flatMap encR).length) + 1) - 5 : Int32) = nI ((8 + (9 + lgs.length + ((rs.take rs.length).flatMap encR).length) + 1) - 5) from pk_sub (a := (8 + (9 + lgs.length + ((rs.take rs.length).flatMap encR).length) + 1)) (b := 5) (by omega)]
      rw [show 8 + (9 + lgs.length + ((rs.take rs.length).flatMap encR).length) + 1 - 5 = (encS P fr ff lgs rs).length by rw [List.take_of_length_le (Nat.le_refl rs.length), encS_len, hbl]; omega]
      refine RQ.blk 2 (pc' := 287) (lv' := [(3, .int (nI ((encS P fr ff lgs rs).length))), (2, .int (nI (8 + (9 + lgs.length + ((rs.take rs.length).flatMap encR).length)))), (0, .ref 84), (1, .int (nI P))]) (st' := [.ref 84]) (H' := _) (kc' := 0) (ks' := 0) rfl ?_
      refine RQ.get (ci := 3) rfl ((set_far (by decide)).trans hY.1) rfl rfl ?_
      refine RQ.blk 3 (pc' := 294) (lv' := [(3, .int (nI ((encS P fr ff lgs rs).length))), (2, .int (nI (8 + (9 + lgs.length + ((rs.take rs.length).flatMap encR).length)))), (0, .ref 84), (1, .int (nI P))]) (st' := [.int (nI ((encS P fr ff lgs rs).length)), .int 2, .int 6, .ref 86]) (H' := _) (kc' := 0) (ks' := 0) rfl ?_
      refine RQ.call (v := none) (st' := []) rfl rfl rfl rfl rfl rfl rfl (rc_number (a := 85) (m := 2048) (f := pg5) (p := 6) (n := 2) (v := nI (encS P fr ff lgs rs).length) (get_set hpg) (by decide) (by decide) (by decide)) ?_
      rw [set_set]
      refine RQ.blk 1 (pc' := 298) (lv' := [(3, .int (nI ((encS P fr ff lgs rs).length))), (2, .int (nI (8 + (9 + lgs.length + ((rs.take rs.length).flatMap encR).length)))), (0, .ref 84), (1, .int (nI P))]) (st' := [.int (nI ((encS P fr ff lgs rs).length))]) (H' := _) (kc' := 0) (ks' := 0) rfl ?_
      rw [List.take_of_length_le (Nat.le_refl rs.length)] at hb
      have hel := encS_len (P := P) (fr := fr) (ff := ff) (lgs := lgs) (rs := rs)
      refine RQ.done (c := 0) (s := 0) rfl rfl rfl rfl ⟨_, _, rfl, rfl, _, rfl, ?_⟩
      generalize hEL : (encS P fr ff lgs rs).length = EL at hel ⊢
      rw [hel]
      unfold encS
      rw [show (encB P fr ff lgs rs).length + 4 = 1 + (2 + ((encB P fr ff lgs rs).length + 1)) by omega]
      show _ = [83] ++ (beB 2 _ ++ (encB P fr ff lgs rs ++ beB 1 90))
      refine sl_join ?_ (sl_join ?_ ?_)
      · rw [sl_numF_out (by omega)]; exact ha
      · rw [show 5 + 1 = 6 from rfl, sl_numF (by omega) (by omega)]
      · rw [sl_numF_out (by omega), hbl]; exact hb
  have mid : ∀ pgS, sl pgS 5 1 = [83] → sl pgS 8 8 = (beB 4 P ++ beB 1 fr ++ beB 2 ff ++ beB 1 lgs.length) → RQ sc (d + 1) mr_116 78 [(3, .int (nI 0)), (2, .int (nI 16)), (0, .ref 84), (1, .int (nI P))] [] (H.set 85 (kB 2048 pgS)) 0 0 (fun r => ∃ x H', r = (.inl (some (.int x)), H', 0, 0) ∧ x = nI (encS P fr ff lgs rs).length ∧ ∃ pg', H' = H.set 85 (kB 2048 pg') ∧ sl pg' 5 (encS P fr ff lgs rs).length = encS P fr ff lgs rs) := by
    intro pgS hs1 hs2
    refine RQ.while (S := Nat) (pc := 78) (fun i H' => i ≤ lgs.length ∧ ∃ pg', H' = H.set 85 (kB 2048 pg') ∧ sl pg' 5 1 = [83] ∧ sl pg' 8 (8 + i) = ((beB 4 P ++ beB 1 fr ++ beB 2 ff ++ beB 1 lgs.length) ++ (lgs.take i).flatMap (beB 1))) (fun i => [(3, .int (nI i)), (2, .int (nI 16)), (0, .ref 84), (1, .int (nI P))]) (fun i => lgs.length - i) ?_ 0 _ ⟨Nat.zero_le _, pgS, rfl, hs1, hs2.trans (List.append_nil _).symm⟩
    rintro i H1 ⟨hi, pgB, e, ha, hb⟩ ih
    rw [e]
    by_cases hil : i < lgs.length
    · obtain ⟨y, hy⟩ := lt_get hil
      have hyB := hlB y (List.mem_of_getElem? hy)
      refine RQ.blk 2 (pc' := 80) (lv' := [(3, .int (nI i)), (2, .int (nI 16)), (0, .ref 84), (1, .int (nI P))]) (st' := [.ref 84, .int (nI i)]) (H' := _) (kc' := 0) (ks' := 0) rfl ?_
      refine RQ.get (ci := 3) rfl ((set_far (by decide)).trans hY.1) rfl rfl ?_
      refine RQ.brF rfl rfl rfl (cF_ge i lgs.length) ?_
      refine RQ.blk 1 (pc' := 87) (lv' := [(3, .int (nI i)), (2, .int (nI 16)), (0, .ref 84), (1, .int (nI P))]) (st' := [.ref 84]) (H' := _) (kc' := 0) (ks' := 0) rfl ?_
      refine RQ.get (ci := 3) rfl ((set_far (by decide)).trans hY.1) rfl rfl ?_
      refine RQ.blk 3 (pc' := 93) (lv' := [(3, .int (nI i)), (2, .int (nI 16)), (0, .ref 84), (1, .int (nI P))]) (st' := [.int (nI 16 + nI i), .ref 86]) (H' := _) (kc' := 0) (ks' := 0) rfl ?_
      rw [show (nI 16 + nI i : Int32) = nI (16 + i) from nI_add 16 i]
      refine RQ.blk 2 (pc' := 95) (lv' := [(3, .int (nI i)), (2, .int (nI 16)), (0, .ref 84), (1, .int (nI P))]) (st' := [.ref 84, .int 1, .int (nI (16 + i)), .ref 86]) (H' := _) (kc' := 0) (ks' := 0) rfl ?_
      refine RQ.get (ci := 3) rfl ((set_far (by decide)).trans hY.1) rfl rfl ?_
      refine RQ.blk 1 (pc' := 99) (lv' := [(3, .int (nI i)), (2, .int (nI 16)), (0, .ref 84), (1, .int (nI P))]) (st' := [.int (nI i), .ref 88, .int 1, .int (nI (16 + i)), .ref 86]) (H' := _) (kc' := 0) (ks' := 0) rfl ?_
      refine RQ.ialdN (j := i) rfl ((set_far (by decide)).trans hY.2.2) (by omega) (by omega) ?_
      rw [hlg i y hy]
      refine RQ.call (v := none) (st' := []) rfl rfl rfl rfl rfl rfl rfl (rc_number (a := 85) (m := 2048) (f := pgB) (p := 16 + i) (n := 1) (v := nI y) (get_set hpg) (by decide) (by omega) (by decide)) ?_
      rw [set_set]
      obtain ⟨ha, hb⟩ := pg_num (k := 8 + i) (n := 1) (v := y) (p := 16 + i) ha hb (by omega) (by omega) (by omega)
      generalize numF pgB (16 + i) 1 (nI y) 1 = pg6 at ha hb ⊢
      refine RQ.blk 1 (pc' := 106) (lv' := [(3, .int (nI i + 1)), (2, .int (nI 16)), (0, .ref 84), (1, .int (nI P))]) (st' := []) (H' := _) (kc' := 0) (ks' := 0) rfl ?_
      rw [show (nI i + 1 : Int32) = nI (i + 1) from nI_add i 1]
      refine RQ.blk 1 (pc' := 78) (lv' := [(3, .int (nI (i + 1))), (2, .int (nI 16)), (0, .ref 84), (1, .int (nI P))]) (st' := []) (H' := _) (kc' := 0) (ks' := 0) rfl ?_
      refine ih (i + 1) _ ⟨by omega, _, rfl, ha, ?_⟩ (by omega)
      rw [fm_take hy, ← List.append_assoc, ← hb]
      rfl
    · have ei : i = lgs.length := by omega
      subst ei
      rw [List.take_of_length_le (Nat.le_refl lgs.length)] at hb
      refine RQ.blk 2 (pc' := 80) (lv' := [(3, .int (nI lgs.length)), (2, .int (nI 16)), (0, .ref 84), (1, .int (nI P))]) (st' := [.ref 84, .int (nI lgs.length)]) (H' := _) (kc' := 0) (ks' := 0) rfl ?_
      refine RQ.get (ci := 3) rfl ((set_far (by decide)).trans hY.1) rfl rfl ?_
      refine RQ.brT rfl rfl rfl (cT_ge lgs.length lgs.length) ?_
      refine RQ.blk 2 (pc' := 111) (lv' := [(3, .int (nI lgs.length)), (2, .int (nI 16)), (0, .ref 84), (1, .int (nI P))]) (st' := [.ref 84, .int (nI 16)]) (H' := _) (kc' := 0) (ks' := 0) rfl ?_
      refine RQ.get (ci := 3) rfl ((set_far (by decide)).trans hY.1) rfl rfl ?_
      refine RQ.blk 1 (pc' := 115) (lv' := [(3, .int (nI lgs.length)), (2, .int (nI 16)), (0, .ref 84), (1, .int (nI P))]) (st' := [.int (nI 16 + nI lgs.length)]) (H' := _) (kc' := 0) (ks' := 0) rfl ?_
      rw [show (nI 16 + nI lgs.length : Int32) = nI (16 + lgs.length) from nI_add 16 lgs.length]
      refine RQ.blk 2 (pc' := 117) (lv' := [(2, .int (nI (16 + lgs.length))), (3, .int (nI lgs.length)), (0, .ref 84), (1, .int (nI P))]) (st' := [.ref 84]) (H' := _) (kc' := 0) (ks' := 0) rfl ?_
      refine RQ.get (ci := 3) rfl ((set_far (by decide)).trans hY.1) rfl rfl ?_
      refine RQ.blk 3 (pc' := 123) (lv' := [(2, .int (nI (16 + lgs.length))), (3, .int (nI lgs.length)), (0, .ref 84), (1, .int (nI P))]) (st' := [.ref 84, .int 1, .int (nI (16 + lgs.length)), .ref 86]) (H' := _) (kc' := 0) (ks' := 0) rfl ?_
      refine RQ.get (ci := 3) rfl ((set_far (by decide)).trans hY.1) rfl rfl ?_
      refine RQ.call (v := none) (st' := []) rfl rfl rfl rfl rfl rfl rfl (rc_number (a := 85) (m := 2048) (f := pgB) (p := 16 + lgs.length) (n := 1) (v := nI rs.length) (get_set hpg) (by decide) (by omega) (by decide)) ?_
      rw [set_set]
      obtain ⟨ha, hb⟩ := pg_num (k := 8 + lgs.length) (n := 1) (v := rs.length) (p := 16 + lgs.length) ha hb (by omega) (by omega) (by omega)
      generalize numF pgB (16 + lgs.length) 1 (nI rs.length) 1 = pg7 at ha hb ⊢
      refine RQ.blk 1 (pc' := 132) (lv' := [(2, .int (nI (16 + lgs.length) + 1)), (3, .int (nI lgs.length)), (0, .ref 84), (1, .int (nI P))]) (st' := []) (H' := _) (kc' := 0) (ks' := 0) rfl ?_
      rw [show (nI (16 + lgs.length) + 1 : Int32) = nI (16 + lgs.length + 1) from nI_add (16 + lgs.length) 1]
      refine RQ.blk 2 (pc' := 134) (lv' := [(3, .int 0), (2, .int (nI (16 + lgs.length + 1))), (0, .ref 84), (1, .int (nI P))]) (st' := []) (H' := _) (kc' := 0) (ks' := 0) rfl ?_
      have f2 := fin _ ha (by rw [show 9 + lgs.length = 8 + lgs.length + 1 by omega]; exact hb)
      rw [show 17 + lgs.length = 16 + lgs.length + 1 by omega] at f2
      exact f2
  refine RQ.blk 3 (pc' := 3) (lv' := [(2, .int 5), (0, .ref 84), (1, .int (nI P))]) (st' := [.ref 84]) (H' := _) (kc' := 0) (ks' := 0) rfl ?_
  refine RQ.get (ci := 3) rfl hY.1 rfl rfl ?_
  refine RQ.blk 3 (pc' := 10) (lv' := [(2, .int 5), (0, .ref 84), (1, .int (nI P))]) (st' := [.int 83, .int 1, .int 5, .ref 86]) (H' := _) (kc' := 0) (ks' := 0) rfl ?_
  refine RQ.call (v := none) (st' := []) rfl rfl rfl rfl rfl rfl rfl (rc_number (a := 85) (p := 5) (n := 1) (v := nI 83) hpg (by decide) (by decide) (by decide)) ?_
  have ha : sl (numF pg 5 1 (nI 83) 1) 5 1 = [83] := sl_numF (by decide) (by decide)
  have hb : sl (numF pg 5 1 (nI 83) 1) 8 0 = [] := rfl
  generalize numF pg 5 1 (nI 83) 1 = pgA at ha hb ⊢
  refine RQ.blk 1 (pc' := 14) (lv' := [(2, .int 5), (0, .ref 84), (1, .int (nI P))]) (st' := [.ref 84]) (H' := _) (kc' := 0) (ks' := 0) rfl ?_
  refine RQ.get (ci := 3) rfl ((set_far (by decide)).trans hY.1) rfl rfl ?_
  refine RQ.blk 3 (pc' := 20) (lv' := [(2, .int 5), (0, .ref 84), (1, .int (nI P))]) (st' := [.int (5 + 3), .ref 86]) (H' := _) (kc' := 0) (ks' := 0) rfl ?_
  rw [show (5 + 3 : Int32) = nI (5 + 3) from nI_add 5 3]
  refine RQ.blk 2 (pc' := 22) (lv' := [(2, .int 5), (0, .ref 84), (1, .int (nI P))]) (st' := [.int (nI P), .int 4, .int (nI (5 + 3)), .ref 86]) (H' := _) (kc' := 0) (ks' := 0) rfl ?_
  refine RQ.call (v := none) (st' := []) rfl rfl rfl rfl rfl rfl rfl (rc_number (a := 85) (m := 2048) (f := pgA) (p := 8) (n := 4) (v := nI P) (get_set hpg) (by decide) (by omega) (by decide)) ?_
  rw [set_set]
  obtain ⟨ha, hb⟩ := pg_num (k := 0) (n := 4) (v := P) (p := 8) ha hb (by omega) (by omega) (by omega)
  generalize numF pgA 8 4 (nI P) 4 = pg8 at ha hb ⊢
  refine RQ.blk 1 (pc' := 26) (lv' := [(2, .int 5), (0, .ref 84), (1, .int (nI P))]) (st' := [.ref 84]) (H' := _) (kc' := 0) (ks' := 0) rfl ?_
  refine RQ.get (ci := 3) rfl ((set_far (by decide)).trans hY.1) rfl rfl ?_
  refine RQ.blk 3 (pc' := 33) (lv' := [(2, .int 5), (0, .ref 84), (1, .int (nI P))]) (st' := [.int (5 + 7), .ref 86]) (H' := _) (kc' := 0) (ks' := 0) rfl ?_
  rw [show (5 + 7 : Int32) = nI (5 + 7) from nI_add 5 7]
  refine RQ.blk 2 (pc' := 35) (lv' := [(2, .int 5), (0, .ref 84), (1, .int (nI P))]) (st' := [.ref 84, .int 1, .int (nI (5 + 7)), .ref 86]) (H' := _) (kc' := 0) (ks' := 0) rfl ?_
  refine RQ.get (ci := 3) rfl ((set_far (by decide)).trans hY.1) rfl rfl ?_
  refine RQ.call (v := none) (st' := []) rfl rfl rfl rfl rfl rfl rfl (rc_number (a := 85) (m := 2048) (f := pg8) (p := 12) (n := 1) (v := nI fr) (get_set hpg) (by decide) (by omega) (by decide)) ?_
  rw [set_set]
  obtain ⟨ha, hb⟩ := pg_num (k := 0 + 4) (n := 1) (v := fr) (p := 12) ha hb (by omega) (by omega) (by omega)
  generalize numF pg8 12 1 (nI fr) 1 = pg9 at ha hb ⊢
  refine RQ.blk 1 (pc' := 42) (lv' := [(2, .int 5), (0, .ref 84), (1, .int (nI P))]) (st' := [.ref 84]) (H' := _) (kc' := 0) (ks' := 0) rfl ?_
  refine RQ.get (ci := 3) rfl ((set_far (by decide)).trans hY.1) rfl rfl ?_
  refine RQ.blk 3 (pc' := 49) (lv' := [(2, .int 5), (0, .ref 84), (1, .int (nI P))]) (st' := [.int (5 + 8), .ref 86]) (H' := _) (kc' := 0) (ks' := 0) rfl ?_
  rw [show (5 + 8 : Int32) = nI (5 + 8) from nI_add 5 8]
  refine RQ.blk 2 (pc' := 51) (lv' := [(2, .int 5), (0, .ref 84), (1, .int (nI P))]) (st' := [.ref 84, .int 2, .int (nI (5 + 8)), .ref 86]) (H' := _) (kc' := 0) (ks' := 0) rfl ?_
  refine RQ.get (ci := 3) rfl ((set_far (by decide)).trans hY.1) rfl rfl ?_
  refine RQ.call (v := none) (st' := []) rfl rfl rfl rfl rfl rfl rfl (rc_number (a := 85) (m := 2048) (f := pg9) (p := 13) (n := 2) (v := nI ff) (get_set hpg) (by decide) (by omega) (by decide)) ?_
  rw [set_set]
  obtain ⟨ha, hb⟩ := pg_num (k := 0 + 4 + 1) (n := 2) (v := ff) (p := 13) ha hb (by omega) (by omega) (by omega)
  generalize numF pg9 13 2 (nI ff) 2 = pg10 at ha hb ⊢
  refine RQ.blk 1 (pc' := 58) (lv' := [(2, .int 5), (0, .ref 84), (1, .int (nI P))]) (st' := [.ref 84]) (H' := _) (kc' := 0) (ks' := 0) rfl ?_
  refine RQ.get (ci := 3) rfl ((set_far (by decide)).trans hY.1) rfl rfl ?_
  refine RQ.blk 3 (pc' := 65) (lv' := [(2, .int 5), (0, .ref 84), (1, .int (nI P))]) (st' := [.int (5 + 10), .ref 86]) (H' := _) (kc' := 0) (ks' := 0) rfl ?_
  rw [show (5 + 10 : Int32) = nI (5 + 10) from nI_add 5 10]
  refine RQ.blk 2 (pc' := 67) (lv' := [(2, .int 5), (0, .ref 84), (1, .int (nI P))]) (st' := [.ref 84, .int 1, .int (nI (5 + 10)), .ref 86]) (H' := _) (kc' := 0) (ks' := 0) rfl ?_
  refine RQ.get (ci := 3) rfl ((set_far (by decide)).trans hY.1) rfl rfl ?_
  refine RQ.call (v := none) (st' := []) rfl rfl rfl rfl rfl rfl rfl (rc_number (a := 85) (m := 2048) (f := pg10) (p := 15) (n := 1) (v := nI lgs.length) (get_set hpg) (by decide) (by omega) (by decide)) ?_
  rw [set_set]
  obtain ⟨ha, hb⟩ := pg_num (k := 0 + 4 + 1 + 2) (n := 1) (v := lgs.length) (p := 15) ha hb (by omega) (by omega) (by omega)
  generalize numF pg10 15 1 (nI lgs.length) 1 = pg11 at ha hb ⊢
  refine RQ.blk 1 (pc' := 76) (lv' := [(2, .int (5 + 11)), (0, .ref 84), (1, .int (nI P))]) (st' := []) (H' := _) (kc' := 0) (ks' := 0) rfl ?_
  rw [show (5 + 11 : Int32) = nI (5 + 11) from nI_add 5 11]
  refine RQ.blk 2 (pc' := 78) (lv' := [(3, .int 0), (2, .int (nI (5 + 11))), (0, .ref 84), (1, .int (nI P))]) (st' := []) (H' := _) (kc' := 0) (ks' := 0) rfl ?_
  exact mid _ ha hb
