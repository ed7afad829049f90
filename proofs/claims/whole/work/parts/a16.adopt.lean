/-! ===== a state is taken over; class; written by wip/gen/adopt.py ===== -/
theorem fmB1 : ∀ {l : List Nat}, (∀ x ∈ l, x < 256) → l.flatMap (beB 1) = l
  | [], _ => rfl
  | a :: l, h => by
    rw [List.flatMap_cons, beB1 (h a List.mem_cons_self), fmB1 (fun x hx => h x (List.mem_cons_of_mem _ hx))]
    rfl
theorem sl_at {f : Nat → Int8} {i n : Nat} {l : List Nat} (h : sl f i n = l) {q x : Nat} (hq : l[q]? = some x) : ub (f (i + q)) = x := by
  have hl : l.length = n := by rw [← h, sl_length]
  have h1 := sl_get (f := f) n i q (by rw [← hl]; exact get_lt hq)
  rw [h, hq] at h1
  exact (Option.some.inj h1).symm
theorem sl_fm {α : Type} {f : Nat → Int8} {g : α → List Nat} {i n : Nat} {l : List α} (h : sl f i n = l.flatMap g) {r : Nat} {x : α} (hr : l[r]? = some x) : sl f (i + ((l.take r).flatMap g).length) (g x).length = g x := by
  have e : l.flatMap g = (l.take r).flatMap g ++ (g x ++ (l.drop (r + 1)).flatMap g) := by
    conv => lhs; rw [← List.take_append_drop (r + 1) l, List.flatMap_append, fm_take hr, List.append_assoc]
  rw [e] at h
  have hl : n = ((l.take r).flatMap g).length + ((g x).length + ((l.drop (r + 1)).flatMap g).length) := by
    rw [← sl_length f n i, h, List.length_append, List.length_append]
  rw [hl] at h
  exact (sl_split (sl_split h rfl).2 rfl).1
theorem num1b {f : Nat → Int8} {i v : Nat} (h : sl f i 1 = beB 1 v) (hv : v < 256) : ub (f i) = v := by
  rw [beB1 hv] at h
  exact (List.cons.inj h).1
/-- the parts of a state -/
theorem encS_parts {f : Nat → Int8} {a P fr ff : Nat} {lgs : List Nat} {rs : List aR} (h : sl f a (encS P fr ff lgs rs).length = encS P fr ff lgs rs) : ub (f a) = 83 ∧ sl f (a + 1) 2 = beB 2 (encS P fr ff lgs rs).length ∧ sl f (a + 3) 4 = beB 4 P ∧ sl f (a + 7) 1 = beB 1 fr ∧ sl f (a + 8) 2 = beB 2 ff ∧ sl f (a + 10) 1 = beB 1 lgs.length ∧ sl f (a + 11) lgs.length = lgs.flatMap (beB 1) ∧ sl f (a + 11 + lgs.length) 1 = beB 1 rs.length ∧ sl f (a + 12 + lgs.length) (rs.flatMap encR).length = rs.flatMap encR ∧ ub (f (a + (encS P fr ff lgs rs).length - 1)) = 90 := by
  have hbl : (encB P fr ff lgs rs).length = 9 + lgs.length + (rs.flatMap encR).length := by
    unfold encB
    rw [List.length_append, List.length_append, List.length_append, List.length_append, List.length_append, List.length_append, beB_len, beB_len, beB_len, beB_len, beB_len, fm_len1]
    omega
  have hel := encS_len (P := P) (fr := fr) (ff := ff) (lgs := lgs) (rs := rs)
  rw [hel] at h ⊢
  unfold encS at h
  rw [show (encB P fr ff lgs rs).length + 4 = 1 + (2 + ((encB P fr ff lgs rs).length + 1)) by omega] at h
  rw [show (83 :: (beB 2 ((1 + (2 + ((encB P fr ff lgs rs).length + 1)))) ++ (encB P fr ff lgs rs ++ beB 1 90))) = [83] ++ (beB 2 (1 + (2 + ((encB P fr ff lgs rs).length + 1))) ++ (encB P fr ff lgs rs ++ beB 1 90)) from rfl] at h
  obtain ⟨h1, h⟩ := sl_split h rfl
  obtain ⟨h2, h⟩ := sl_split h (beB_len _ _)
  obtain ⟨h3, h9⟩ := sl_split h rfl
  rw [hbl] at h3
  unfold encB at h3
  rw [show 9 + lgs.length + (rs.flatMap encR).length = 4 + (1 + (2 + (1 + (lgs.length + (1 + (rs.flatMap encR).length))))) by omega] at h3
  simp only [List.append_assoc] at h3
  obtain ⟨p1, h3⟩ := sl_split h3 (beB_len _ _)
  obtain ⟨p2, h3⟩ := sl_split h3 (beB_len _ _)
  obtain ⟨p3, h3⟩ := sl_split h3 (beB_len _ _)
  obtain ⟨p4, h3⟩ := sl_split h3 (beB_len _ _)
  obtain ⟨p5, h3⟩ := sl_split h3 (fm_len1 _)
  obtain ⟨p6, p7⟩ := sl_split h3 (beB_len _ _)
  refine ⟨(List.cons.inj h1).1, ?_, p1, p2, p3, p4, p5, p6, ?_, ?_⟩
  · rw [h2]; congr 1; omega
  · rw [show a + 12 + lgs.length = a + 1 + 2 + 4 + 1 + 2 + 1 + lgs.length + 1 by omega]; exact p7
  · have := num1b h9 (by decide)
    rw [← this]
    congr 2
    rw [hbl]
    omega
set_option maxRecDepth 10000 in
theorem ri_adopt {sc : Nat × (Nat → Int32)} {d a P : Nat} {H : aH} {B : Nat} {lgs lgs0 : List Nat} {fr ff fr0 ff0 : Nat} {wr : Bool} {tp : Nat} {rs rs0 : List aR} {ms mt sq tu : Nat} {us : Nat → Bool} {cf : Nat → Int8} {tf : Nat → Nat} {pq : Option Nat} {bb : Nat} (h : LayIs H B lgs0 fr0 ff0 wr tp rs0 ms mt sq tu us) (hB : B ≤ 128) (hC : ChipAt H B cf tf pq bb 0) (hs : sl cf a (encS P fr ff lgs rs).length = encS P fr ff lgs rs) (ha : a + (encS P fr ff lgs rs).length ≤ B * 2048) (hP : P < 2 ^ 31) (hfr : fr < 256) (hff : ff < 65536) (hlB : ∀ x ∈ lgs, x < B) (hlgB : lgs.length ≤ B) (hrl : rs.length ≤ 23) (hrs : ∀ x ∈ rs, x.1 < 256 ∧ x.2.1 < 2 ^ 24 ∧ x.2.2.1 < 65536 ∧ x.2.2.2.length ≤ 64 ∧ ∀ y ∈ x.2.2.2, y < B) : RI sc (d + 1) mr_182 [.ref 84, .int (nI a)] H (fun x H' => x = nI P ∧ LayIs H' B lgs fr ff wr tp rs ms mt sq tu us ∧ ∀ a, ¬ (a = 83 ∨ a = 87 ∨ 88 ≤ a ∧ a < 136) → H'[a]? = H[a]?) := by
  obtain ⟨lg0, pi, hY, -, -, hRs0⟩ := h
  obtain ⟨-, s2, s3, s4, s5, s6, s7, s8, s9, -⟩ := encS_parts hs
  have hel := encS_len (P := P) (fr := fr) (ff := ff) (lgs := lgs) (rs := rs)
  have hbl : (encB P fr ff lgs rs).length = 9 + lgs.length + (rs.flatMap encR).length := by
    unfold encB
    rw [List.length_append, List.length_append, List.length_append, List.length_append, List.length_append, List.length_append, beB_len, beB_len, beB_len, beB_len, beB_len, fm_len1]
    omega
  rw [hel, hbl] at ha
  have s7 : sl cf (a + 11) lgs.length = lgs := s7.trans (fmB1 (fun x hx => by have := hlB x hx; omega))
  have n4 : numI cf (a + 7) 1 0 = nI fr := num_be s4 (by omega) (by omega)
  have n5 : numI cf (a + 8) 2 0 = nI ff := num_be s5 (by omega) (by omega)
  have n6 : numI cf (a + 10) 1 0 = nI lgs.length := num_be s6 (by omega) (by omega)
  have n3 : numI cf (a + 3) 4 0 = nI P := num_be s3 (by omega) hP
  have u8 : ub (cf (a + 11 + lgs.length)) = rs.length := num1b s8 (by omega)
  have htk : ∀ i, ((rs.take i).flatMap encR).length ≤ (rs.flatMap encR).length := fun i => by
    conv => rhs; rw [← List.take_append_drop i rs, List.flatMap_append, List.length_append]
    omega
  refine RI.of ?_
  have fin : ∀ H0, (fun r H' => r ≤ rs.length ∧ (∃ lg, LayAt H' (layF B lgs.length fr ff wr tp rs.length ms mt sq tu 0 0) B us lg ∧ ∀ i b, lgs[i]? = some b → lg i = b) ∧ RunsAt H' pi (rs.take r) ∧ ∀ a, ¬ (a = 83 ∨ a = 87 ∨ 88 ≤ a ∧ a < 136) → H'[a]? = H[a]?) 0 H0 → RQ sc (d + 1) mr_182 122 [(3, .int (nI 0)), (2, .int (nI (a + 12 + lgs.length + ((rs.take 0).flatMap encR).length))), (0, .ref 84), (1, .int (nI a))] [] H0 0 0 (fun r => ∃ x H', r = (.inl (some (.int x)), H', 0, 0) ∧ x = nI P ∧ LayIs H' B lgs fr ff wr tp rs ms mt sq tu us ∧ ∀ a, ¬ (a = 83 ∨ a = 87 ∨ 88 ≤ a ∧ a < 136) → H'[a]? = H[a]?) := by
    intro H0 h0
    refine RQ.while (S := Nat) (pc := 122) (fun r H' => r ≤ rs.length ∧ (∃ lg, LayAt H' (layF B lgs.length fr ff wr tp rs.length ms mt sq tu 0 0) B us lg ∧ ∀ i b, lgs[i]? = some b → lg i = b) ∧ RunsAt H' pi (rs.take r) ∧ ∀ a, ¬ (a = 83 ∨ a = 87 ∨ 88 ≤ a ∧ a < 136) → H'[a]? = H[a]?) (fun r => [(3, .int (nI r)), (2, .int (nI (a + 12 + lgs.length + ((rs.take r).flatMap encR).length))), (0, .ref 84), (1, .int (nI a))]) (fun r => rs.length - r) ?_ 0 H0 h0
    rintro r H1 ⟨hr, ⟨lg, hY1, hlg⟩, hRs, hfr1⟩ ih
    have hC1 := hC.far (H' := H1) (fun a a1 a2 => hfr1 a (by omega))
    by_cases hrl2 : r < rs.length
    · obtain ⟨x, hx⟩ := lt_get hrl2
      obtain ⟨x1, x2, x3, x4, x5⟩ := hrs x (List.mem_of_getElem? hx)
      have hxr := sl_fm s9 hx
      have hft := fm_take (f := encR) hx
      have hfl := congrArg List.length hft
      rw [List.length_append, encR_len] at hfl
      have hti := htk (r + 1)
      rw [encR_len] at hxr
      have hx9 : encR x = beB 1 x.1 ++ (beB 3 x.2.1 ++ (beB 2 x.2.2.1 ++ (beB 1 x.2.2.2.length ++ x.2.2.2.flatMap (beB 1)))) := by unfold encR; simp only [List.append_assoc]
      rw [hx9, show 7 + x.2.2.2.length = 1 + (3 + (2 + (1 + x.2.2.2.length))) by omega] at hxr
      obtain ⟨v1, hxr⟩ := sl_split hxr (beB_len _ _)
      obtain ⟨v2, hxr⟩ := sl_split hxr (beB_len _ _)
      obtain ⟨v3, hxr⟩ := sl_split hxr (beB_len _ _)
      obtain ⟨v4, v5⟩ := sl_split hxr (beB_len _ _)
      have v1 := num1b v1 (by omega)
      have v2 : numI cf ((a + 12 + lgs.length + ((rs.take r).flatMap encR).length) + 1) 3 0 = nI x.2.1 := num_be v2 (by omega) (by omega)
      have v3 : numI cf ((a + 12 + lgs.length + ((rs.take r).flatMap encR).length) + 4) 2 0 = nI x.2.2.1 := num_be v3 (by omega) (by omega)
      have v4 : ub (cf ((a + 12 + lgs.length + ((rs.take r).flatMap encR).length) + 6)) = x.2.2.2.length := num1b v4 (by omega)
      have v5 : sl cf ((a + 12 + lgs.length + ((rs.take r).flatMap encR).length) + 7) x.2.2.2.length = x.2.2.2 := Eq.trans v5 (fmB1 (fun y hy => by have := x5 y hy; omega))
      obtain ⟨⟨Q, hQ, hQ2⟩, hpi, hinj, hrun, hall, hl24⟩ := hRs
      obtain ⟨x0, hR0⟩ := hall r (by omega)
      obtain ⟨f0, h1, -⟩ := id hR0
      obtain ⟨s, ss1, ss2⟩ := hpi r (by omega)
      refine RQ.blk 2 (pc' := 124) (lv' := [(3, .int (nI r)), (2, .int (nI (a + 12 + lgs.length + ((rs.take r).flatMap encR).length))), (0, .ref 84), (1, .int (nI a))]) (st' := [.ref 84, .int (nI r)]) (H' := _) (kc' := 0) (ks' := 0) rfl ?_
      refine RQ.get (ci := 3) rfl hY1.1 rfl rfl ?_
      refine RQ.brF rfl rfl rfl (cF_ge r rs.length) ?_
      refine RQ.blk 1 (pc' := 131) (lv' := [(3, .int (nI r)), (2, .int (nI (a + 12 + lgs.length + ((rs.take r).flatMap encR).length))), (0, .ref 84), (1, .int (nI a))]) (st' := [.ref 84]) (H' := _) (kc' := 0) (ks' := 0) rfl ?_
      refine RQ.get (ci := 3) rfl hY1.1 rfl rfl ?_
      refine RQ.blk 1 (pc' := 135) (lv' := [(3, .int (nI r)), (2, .int (nI (a + 12 + lgs.length + ((rs.take r).flatMap encR).length))), (0, .ref 84), (1, .int (nI a))]) (st' := [.int (nI r), .ref 85]) (H' := _) (kc' := 0) (ks' := 0) rfl ?_
      refine RQ.aaldN (j := r) rfl hQ (by omega) (by decide) (by decide) (hQ2 r (by omega)) ?_
      refine RQ.blk 3 (pc' := 141) (lv' := [(4, .ref ((pi r) + 1)), (3, .int (nI r)), (2, .int (nI (a + 12 + lgs.length + ((rs.take r).flatMap encR).length))), (0, .ref 84), (1, .int (nI a))]) (st' := [.ref 84, .ref ((pi r) + 1)]) (H' := _) (kc' := 0) (ks' := 0) rfl ?_
      refine RQ.get (ci := 3) rfl hY1.1 rfl rfl ?_
      refine RQ.blk 1 (pc' := 145) (lv' := [(4, .ref ((pi r) + 1)), (3, .int (nI r)), (2, .int (nI (a + 12 + lgs.length + ((rs.take r).flatMap encR).length))), (0, .ref 84), (1, .int (nI a))]) (st' := [.int (nI (a + 12 + lgs.length + ((rs.take r).flatMap encR).length)), .ref 72, .ref ((pi r) + 1)]) (H' := _) (kc' := 0) (ks' := 0) rfl ?_
      refine RQ.call (v := some (.int (nI (ub (cf ((a + 12 + lgs.length + ((rs.take r).flatMap encR).length))))))) (st' := [.ref ((pi r) + 1)]) rfl rfl rfl rfl rfl rfl (args_v [.int (nI (a + 12 + lgs.length + ((rs.take r).flatMap encR).length))] [.ref ((pi r) + 1)] rfl rfl (Nat.le_of_ble_eq_true rfl) rfl hC1.1 (Nat.le_of_ble_eq_true rfl)) (rc_cat (i := (a + 12 + lgs.length + ((rs.take r).flatMap encR).length)) hC1.1 rfl hC1.2.1 (by omega) (by omega)) ?_
      rw [v1]
      refine RQ.callN (st' := []) rfl rfl rfl rfl rfl rfl (args_v [.int (nI x.1)] [] rfl rfl (Nat.le_of_ble_eq_true rfl) rfl h1 (Nat.le_of_ble_eq_true rfl)) (rn_runClear hR0) (fun H2 hx2 => ?_)
      obtain ⟨⟨f2, k1, k2, -, -⟩, hf2⟩ := hx2
      have hC2 := hC1.far (H' := H2) (fun a a1 a2 => hf2 a (by omega))
      have hY2 : H2[83]? = some (kO 3 (layF B lgs.length fr ff wr tp rs.length ms mt sq tu 0 0)) := (hf2 83 (by omega)).trans hY1.1
      refine RQ.blk 2 (pc' := 154) (lv' := [(4, .ref ((pi r) + 1)), (3, .int (nI r)), (2, .int (nI (a + 12 + lgs.length + ((rs.take r).flatMap encR).length))), (0, .ref 84), (1, .int (nI a))]) (st' := [.ref 84, .ref ((pi r) + 1)]) (H' := _) (kc' := 0) (ks' := 0) rfl ?_
      refine RQ.get (ci := 3) rfl hY2 rfl rfl ?_
      refine RQ.blk 3 (pc' := 160) (lv' := [(4, .ref ((pi r) + 1)), (3, .int (nI r)), (2, .int (nI (a + 12 + lgs.length + ((rs.take r).flatMap encR).length))), (0, .ref 84), (1, .int (nI a))]) (st' := [.int (nI (a + 12 + lgs.length + ((rs.take r).flatMap encR).length) + 1), .ref 72, .ref ((pi r) + 1)]) (H' := _) (kc' := 0) (ks' := 0) rfl ?_
      rw [show (nI (a + 12 + lgs.length + ((rs.take r).flatMap encR).length) + 1 : Int32) = nI ((a + 12 + lgs.length + ((rs.take r).flatMap encR).length) + 1) from nI_add (a + 12 + lgs.length + ((rs.take r).flatMap encR).length) 1]
      refine RQ.blk 1 (pc' := 161) (lv' := [(4, .ref ((pi r) + 1)), (3, .int (nI r)), (2, .int (nI (a + 12 + lgs.length + ((rs.take r).flatMap encR).length))), (0, .ref 84), (1, .int (nI a))]) (st' := [.int 3, .int (nI ((a + 12 + lgs.length + ((rs.take r).flatMap encR).length) + 1)), .ref 72, .ref ((pi r) + 1)]) (H' := _) (kc' := 0) (ks' := 0) rfl ?_
      refine RQ.call (v := some (.int (numI cf ((a + 12 + lgs.length + ((rs.take r).flatMap encR).length) + 1) 3 0))) (st' := [.ref ((pi r) + 1)]) rfl rfl rfl rfl rfl rfl (args_v [.int 3, .int (nI ((a + 12 + lgs.length + ((rs.take r).flatMap encR).length) + 1))] [.ref ((pi r) + 1)] rfl rfl (Nat.le_of_ble_eq_true rfl) rfl hC2.1 (Nat.le_of_ble_eq_true rfl)) (rc_cnum (i := (a + 12 + lgs.length + ((rs.take r).flatMap encR).length) + 1) (k := 3) hC2.1 rfl hC2.2.1 (by omega) (by omega)) ?_
      rw [v2]
      refine RQ.put (ci := 6) rfl k1 rfl rfl (Nat.le_of_ble_eq_true rfl) ?_
      show RQ sc (d + 1) mr_182 167 [(4, .ref ((pi r) + 1)), (3, .int (nI r)), (2, .int (nI (a + 12 + lgs.length + ((rs.take r).flatMap encR).length))), (0, .ref 84), (1, .int (nI a))] [] (H2.set (pi r) (kO 6 [.ref (pi r + 1 + 1), .int (nI 0), .int (nI x.1), .int (nI x.2.1), .int (nI 0)])) 0 0 _
      have k1A : (H2.set (pi r) (kO 6 [.ref (pi r + 1 + 1), .int (nI 0), .int (nI x.1), .int (nI x.2.1), .int (nI 0)]))[pi r]? = some (kO 6 [.ref (pi r + 1 + 1), .int (nI 0), .int (nI x.1), .int (nI x.2.1), .int (nI 0)]) := get_set k1
      have k2A : (H2.set (pi r) (kO 6 [.ref (pi r + 1 + 1), .int (nI 0), .int (nI x.1), .int (nI x.2.1), .int (nI 0)]))[pi r + 1]? = some (kI 64 (fun j => nI (f2 j))) := (set_far (by omega)).trans k2
      have hCA := hC2.far (H' := (H2.set (pi r) (kO 6 [.ref (pi r + 1 + 1), .int (nI 0), .int (nI x.1), .int (nI x.2.1), .int (nI 0)]))) (fun a a1 a2 => set_far (by omega))
      have hYA : (H2.set (pi r) (kO 6 [.ref (pi r + 1 + 1), .int (nI 0), .int (nI x.1), .int (nI x.2.1), .int (nI 0)]))[83]? = some (kO 3 (layF B lgs.length fr ff wr tp rs.length ms mt sq tu 0 0)) := (set_far (by omega)).trans hY2
      have hfA : ∀ a, a ≠ pi r → (H2.set (pi r) (kO 6 [.ref (pi r + 1 + 1), .int (nI 0), .int (nI x.1), .int (nI x.2.1), .int (nI 0)]))[a]? = H1[a]? := fun a ha => (set_far ha).trans (hf2 a ha)
      generalize (H2.set (pi r) (kO 6 [.ref (pi r + 1 + 1), .int (nI 0), .int (nI x.1), .int (nI x.2.1), .int (nI 0)])) = HA at k1A k2A hCA hYA hfA ⊢
      refine RQ.blk 2 (pc' := 170) (lv' := [(4, .ref ((pi r) + 1)), (3, .int (nI r)), (2, .int (nI (a + 12 + lgs.length + ((rs.take r).flatMap encR).length))), (0, .ref 84), (1, .int (nI a))]) (st' := [.ref 84, .ref ((pi r) + 1)]) (H' := _) (kc' := 0) (ks' := 0) rfl ?_
      refine RQ.get (ci := 3) rfl hYA rfl rfl ?_
      refine RQ.blk 3 (pc' := 176) (lv' := [(4, .ref ((pi r) + 1)), (3, .int (nI r)), (2, .int (nI (a + 12 + lgs.length + ((rs.take r).flatMap encR).length))), (0, .ref 84), (1, .int (nI a))]) (st' := [.int (nI (a + 12 + lgs.length + ((rs.take r).flatMap encR).length) + 4), .ref 72, .ref ((pi r) + 1)]) (H' := _) (kc' := 0) (ks' := 0) rfl ?_
      rw [show (nI (a + 12 + lgs.length + ((rs.take r).flatMap encR).length) + 4 : Int32) = nI ((a + 12 + lgs.length + ((rs.take r).flatMap encR).length) + 4) from nI_add (a + 12 + lgs.length + ((rs.take r).flatMap encR).length) 4]
      refine RQ.blk 1 (pc' := 177) (lv' := [(4, .ref ((pi r) + 1)), (3, .int (nI r)), (2, .int (nI (a + 12 + lgs.length + ((rs.take r).flatMap encR).length))), (0, .ref 84), (1, .int (nI a))]) (st' := [.int 2, .int (nI ((a + 12 + lgs.length + ((rs.take r).flatMap encR).length) + 4)), .ref 72, .ref ((pi r) + 1)]) (H' := _) (kc' := 0) (ks' := 0) rfl ?_
      refine RQ.call (v := some (.int (numI cf ((a + 12 + lgs.length + ((rs.take r).flatMap encR).length) + 4) 2 0))) (st' := [.ref ((pi r) + 1)]) rfl rfl rfl rfl rfl rfl (args_v [.int 2, .int (nI ((a + 12 + lgs.length + ((rs.take r).flatMap encR).length) + 4))] [.ref ((pi r) + 1)] rfl rfl (Nat.le_of_ble_eq_true rfl) rfl hCA.1 (Nat.le_of_ble_eq_true rfl)) (rc_cnum (i := (a + 12 + lgs.length + ((rs.take r).flatMap encR).length) + 4) (k := 2) hCA.1 rfl hCA.2.1 (by omega) (by omega)) ?_
      rw [v3]
      refine RQ.put (ci := 6) rfl k1A rfl rfl (Nat.le_of_ble_eq_true rfl) ?_
      show RQ sc (d + 1) mr_182 183 [(4, .ref ((pi r) + 1)), (3, .int (nI r)), (2, .int (nI (a + 12 + lgs.length + ((rs.take r).flatMap encR).length))), (0, .ref 84), (1, .int (nI a))] [] (HA.set (pi r) (kO 6 [.ref (pi r + 1 + 1), .int (nI 0), .int (nI x.1), .int (nI x.2.1), .int (nI x.2.2.1)])) 0 0 _
      have k1B : (HA.set (pi r) (kO 6 [.ref (pi r + 1 + 1), .int (nI 0), .int (nI x.1), .int (nI x.2.1), .int (nI x.2.2.1)]))[pi r]? = some (kO 6 [.ref (pi r + 1 + 1), .int (nI 0), .int (nI x.1), .int (nI x.2.1), .int (nI x.2.2.1)]) := get_set k1A
      have k2B : (HA.set (pi r) (kO 6 [.ref (pi r + 1 + 1), .int (nI 0), .int (nI x.1), .int (nI x.2.1), .int (nI x.2.2.1)]))[pi r + 1]? = some (kI 64 (fun j => nI (f2 j))) := (set_far (by omega)).trans k2A
      have hCB := hCA.far (H' := (HA.set (pi r) (kO 6 [.ref (pi r + 1 + 1), .int (nI 0), .int (nI x.1), .int (nI x.2.1), .int (nI x.2.2.1)]))) (fun a a1 a2 => set_far (by omega))
      have hYB : (HA.set (pi r) (kO 6 [.ref (pi r + 1 + 1), .int (nI 0), .int (nI x.1), .int (nI x.2.1), .int (nI x.2.2.1)]))[83]? = some (kO 3 (layF B lgs.length fr ff wr tp rs.length ms mt sq tu 0 0)) := (set_far (by omega)).trans hYA
      have hfB : ∀ a, a ≠ pi r → (HA.set (pi r) (kO 6 [.ref (pi r + 1 + 1), .int (nI 0), .int (nI x.1), .int (nI x.2.1), .int (nI x.2.2.1)]))[a]? = H1[a]? := fun a ha => (set_far ha).trans (hfA a ha)
      generalize (HA.set (pi r) (kO 6 [.ref (pi r + 1 + 1), .int (nI 0), .int (nI x.1), .int (nI x.2.1), .int (nI x.2.2.1)])) = HB at k1B k2B hCB hYB hfB ⊢
      refine RQ.blk 2 (pc' := 186) (lv' := [(4, .ref ((pi r) + 1)), (3, .int (nI r)), (2, .int (nI (a + 12 + lgs.length + ((rs.take r).flatMap encR).length))), (0, .ref 84), (1, .int (nI a))]) (st' := [.ref 84, .ref ((pi r) + 1)]) (H' := _) (kc' := 0) (ks' := 0) rfl ?_
      refine RQ.get (ci := 3) rfl hYB rfl rfl ?_
      refine RQ.blk 3 (pc' := 193) (lv' := [(4, .ref ((pi r) + 1)), (3, .int (nI r)), (2, .int (nI (a + 12 + lgs.length + ((rs.take r).flatMap encR).length))), (0, .ref 84), (1, .int (nI a))]) (st' := [.int (nI (a + 12 + lgs.length + ((rs.take r).flatMap encR).length) + 6), .ref 72, .ref ((pi r) + 1)]) (H' := _) (kc' := 0) (ks' := 0) rfl ?_
      rw [show (nI (a + 12 + lgs.length + ((rs.take r).flatMap encR).length) + 6 : Int32) = nI ((a + 12 + lgs.length + ((rs.take r).flatMap encR).length) + 6) from nI_add (a + 12 + lgs.length + ((rs.take r).flatMap encR).length) 6]
      refine RQ.call (v := some (.int (nI (ub (cf ((a + 12 + lgs.length + ((rs.take r).flatMap encR).length) + 6)))))) (st' := [.ref ((pi r) + 1)]) rfl rfl rfl rfl rfl rfl (args_v [.int (nI ((a + 12 + lgs.length + ((rs.take r).flatMap encR).length) + 6))] [.ref ((pi r) + 1)] rfl rfl (Nat.le_of_ble_eq_true rfl) rfl hCB.1 (Nat.le_of_ble_eq_true rfl)) (rc_cat (i := (a + 12 + lgs.length + ((rs.take r).flatMap encR).length) + 6) hCB.1 rfl hCB.2.1 (by omega) (by omega)) ?_
      rw [v4]
      refine RQ.blk 2 (pc' := 201) (lv' := [(4, .ref ((pi r) + 1)), (3, .int (nI r)), (2, .int (nI (a + 12 + lgs.length + ((rs.take r).flatMap encR).length))), (0, .ref 84), (1, .int (nI a))]) (st' := [.int (if 64 < nI x.2.2.2.length then 64 else nI x.2.2.2.length), .ref ((pi r) + 1)]) (H' := _) (kc' := 0) (ks' := 0) rfl ?_
      rw [show (if 64 < nI x.2.2.2.length then 64 else nI x.2.2.2.length : Int32) = nI (min x.2.2.2.length 64) from minI (a := x.2.2.2.length) (b := 64) (by omega) (by omega)]
      rw [show min x.2.2.2.length 64 = x.2.2.2.length by omega]
      refine RQ.put (ci := 6) rfl k1B rfl rfl (Nat.le_of_ble_eq_true rfl) ?_
      show RQ sc (d + 1) mr_182 204 [(4, .ref ((pi r) + 1)), (3, .int (nI r)), (2, .int (nI (a + 12 + lgs.length + ((rs.take r).flatMap encR).length))), (0, .ref 84), (1, .int (nI a))] [] (HB.set (pi r) (kO 6 [.ref (pi r + 1 + 1), .int (nI x.2.2.2.length), .int (nI x.1), .int (nI x.2.1), .int (nI x.2.2.1)])) 0 0 _
      have k1C : (HB.set (pi r) (kO 6 [.ref (pi r + 1 + 1), .int (nI x.2.2.2.length), .int (nI x.1), .int (nI x.2.1), .int (nI x.2.2.1)]))[pi r]? = some (kO 6 [.ref (pi r + 1 + 1), .int (nI x.2.2.2.length), .int (nI x.1), .int (nI x.2.1), .int (nI x.2.2.1)]) := get_set k1B
      have k2C : (HB.set (pi r) (kO 6 [.ref (pi r + 1 + 1), .int (nI x.2.2.2.length), .int (nI x.1), .int (nI x.2.1), .int (nI x.2.2.1)]))[pi r + 1]? = some (kI 64 (fun j => nI (f2 j))) := (set_far (by omega)).trans k2B
      have hCC := hCB.far (H' := (HB.set (pi r) (kO 6 [.ref (pi r + 1 + 1), .int (nI x.2.2.2.length), .int (nI x.1), .int (nI x.2.1), .int (nI x.2.2.1)]))) (fun a a1 a2 => set_far (by omega))
      have hYC : (HB.set (pi r) (kO 6 [.ref (pi r + 1 + 1), .int (nI x.2.2.2.length), .int (nI x.1), .int (nI x.2.1), .int (nI x.2.2.1)]))[83]? = some (kO 3 (layF B lgs.length fr ff wr tp rs.length ms mt sq tu 0 0)) := (set_far (by omega)).trans hYB
      have hfC : ∀ a, a ≠ pi r → (HB.set (pi r) (kO 6 [.ref (pi r + 1 + 1), .int (nI x.2.2.2.length), .int (nI x.1), .int (nI x.2.1), .int (nI x.2.2.1)]))[a]? = H1[a]? := fun a ha => (set_far ha).trans (hfB a ha)
      generalize (HB.set (pi r) (kO 6 [.ref (pi r + 1 + 1), .int (nI x.2.2.2.length), .int (nI x.1), .int (nI x.2.1), .int (nI x.2.2.1)])) = HC at k1C k2C hCC hYC hfC ⊢
      refine RQ.blk 1 (pc' := 207) (lv' := [(2, .int (nI (a + 12 + lgs.length + ((rs.take r).flatMap encR).length) + 7)), (4, .ref ((pi r) + 1)), (3, .int (nI r)), (0, .ref 84), (1, .int (nI a))]) (st' := []) (H' := _) (kc' := 0) (ks' := 0) rfl ?_
      rw [show (nI (a + 12 + lgs.length + ((rs.take r).flatMap encR).length) + 7 : Int32) = nI ((a + 12 + lgs.length + ((rs.take r).flatMap encR).length) + 7) from nI_add (a + 12 + lgs.length + ((rs.take r).flatMap encR).length) 7]
      refine RQ.blk 2 (pc' := 210) (lv' := [(5, .int 0), (2, .int (nI ((a + 12 + lgs.length + ((rs.take r).flatMap encR).length) + 7))), (4, .ref ((pi r) + 1)), (3, .int (nI r)), (0, .ref 84), (1, .int (nI a))]) (st' := []) (H' := _) (kc' := 0) (ks' := 0) rfl ?_
      refine RQ.pick (a := [(5, .int 0), (4, .ref ((pi r) + 1)), (3, .int (nI r)), (2, .int (nI ((a + 12 + lgs.length + ((rs.take r).flatMap encR).length) + 7))), (0, .ref 84), (1, .int (nI a))]) [0, 2, 3, 1, 4, 5] [5, 2, 4, 3, 0, 1] rfl rfl (by decide) ?_
      refine RQ.while (S := Nat) (pc := 210) (fun k H' => k ≤ x.2.2.2.length ∧ H' = (HC.set (pi r + 1) (kI 64 (fun j => nI (if j < k then x.2.2.2.getD j 0 else f2 j))))) (fun k => [(5, .int (nI k)), (4, .ref ((pi r) + 1)), (3, .int (nI r)), (2, .int (nI ((a + 12 + lgs.length + ((rs.take r).flatMap encR).length) + 7))), (0, .ref 84), (1, .int (nI a))]) (fun k => x.2.2.2.length - k) ?_ 0 HC ⟨Nat.zero_le _, ?_⟩
      · rintro k H2 ⟨hk, e2⟩ ih2
        rw [e2]
        by_cases hkl : k < x.2.2.2.length
        · obtain ⟨y, hy⟩ := lt_get hkl
          refine RQ.blk 2 (pc' := 214) (lv' := [(5, .int (nI k)), (4, .ref ((pi r) + 1)), (3, .int (nI r)), (2, .int (nI ((a + 12 + lgs.length + ((rs.take r).flatMap encR).length) + 7))), (0, .ref 84), (1, .int (nI a))]) (st' := [.ref ((pi r) + 1), .int (nI k)]) (H' := _) (kc' := 0) (ks' := 0) rfl ?_
          refine RQ.get (ci := 6) rfl ((set_far (by omega)).trans k1C) rfl rfl ?_
          refine RQ.brF rfl rfl rfl (cF_ge k x.2.2.2.length) ?_
          refine RQ.blk 1 (pc' := 222) (lv' := [(5, .int (nI k)), (4, .ref ((pi r) + 1)), (3, .int (nI r)), (2, .int (nI ((a + 12 + lgs.length + ((rs.take r).flatMap encR).length) + 7))), (0, .ref 84), (1, .int (nI a))]) (st' := [.ref ((pi r) + 1)]) (H' := _) (kc' := 0) (ks' := 0) rfl ?_
          refine RQ.get (ci := 6) rfl ((set_far (by omega)).trans k1C) rfl rfl ?_
          refine RQ.blk 2 (pc' := 228) (lv' := [(5, .int (nI k)), (4, .ref ((pi r) + 1)), (3, .int (nI r)), (2, .int (nI ((a + 12 + lgs.length + ((rs.take r).flatMap encR).length) + 7))), (0, .ref 84), (1, .int (nI a))]) (st' := [.ref 84, .int (nI k), .ref ((pi r + 1) + 1)]) (H' := _) (kc' := 0) (ks' := 0) rfl ?_
          refine RQ.get (ci := 3) rfl ((set_far (by omega)).trans hYC) rfl rfl ?_
          refine RQ.blk 3 (pc' := 235) (lv' := [(5, .int (nI k)), (4, .ref ((pi r) + 1)), (3, .int (nI r)), (2, .int (nI ((a + 12 + lgs.length + ((rs.take r).flatMap encR).length) + 7))), (0, .ref 84), (1, .int (nI a))]) (st' := [.int (nI ((a + 12 + lgs.length + ((rs.take r).flatMap encR).length) + 7) + nI k), .ref 72, .int (nI k), .ref ((pi r + 1) + 1)]) (H' := _) (kc' := 0) (ks' := 0) rfl ?_
          rw [show (nI ((a + 12 + lgs.length + ((rs.take r).flatMap encR).length) + 7) + nI k : Int32) = nI ((a + 12 + lgs.length + ((rs.take r).flatMap encR).length) + 7 + k) from nI_add ((a + 12 + lgs.length + ((rs.take r).flatMap encR).length) + 7) k]
          refine RQ.call (v := some (.int (nI (ub (cf ((a + 12 + lgs.length + ((rs.take r).flatMap encR).length) + 7 + k)))))) (st' := [.int (nI k), .ref ((pi r + 1) + 1)]) rfl rfl rfl rfl rfl rfl (args_v [.int (nI ((a + 12 + lgs.length + ((rs.take r).flatMap encR).length) + 7 + k))] [.int (nI k), .ref ((pi r + 1) + 1)] rfl rfl (Nat.le_of_ble_eq_true rfl) rfl ((set_far (by omega)).trans hCC.1) (Nat.le_of_ble_eq_true rfl)) (rc_cat (i := (a + 12 + lgs.length + ((rs.take r).flatMap encR).length) + 7 + k) ((set_far (by omega)).trans hCC.1) rfl ((set_far (by omega)).trans hCC.2.1) (by omega) (by omega)) ?_
          rw [sl_at v5 hy]
          refine RQ.iastN (j := k) rfl (get_set k2C) (by omega) (by decide) ?_
          rw [set_set, show va_up (fun j => nI (if j < k then x.2.2.2.getD j 0 else f2 j)) k (nI y) = (fun j => nI (if j < k + 1 then x.2.2.2.getD j 0 else f2 j)) from ?_]
          rotate_left
          · funext j
            unfold va_up
            by_cases hjk : j = k
            · rw [if_pos hjk, if_pos (by omega), hjk, List.getD_eq_getElem?_getD, hy]; rfl
            · rw [if_neg hjk]
              show nI (if j < k then _ else _) = _
              by_cases hj2 : j < k
              · rw [if_pos hj2, if_pos (by omega)]
              · rw [if_neg hj2, if_neg (by omega)]
          refine RQ.blk 1 (pc' := 242) (lv' := [(5, .int (nI k + 1)), (4, .ref ((pi r) + 1)), (3, .int (nI r)), (2, .int (nI ((a + 12 + lgs.length + ((rs.take r).flatMap encR).length) + 7))), (0, .ref 84), (1, .int (nI a))]) (st' := []) (H' := _) (kc' := 0) (ks' := 0) rfl ?_
          rw [show (nI k + 1 : Int32) = nI (k + 1) from nI_add k 1]
          refine RQ.blk 1 (pc' := 210) (lv' := [(5, .int (nI (k + 1))), (4, .ref ((pi r) + 1)), (3, .int (nI r)), (2, .int (nI ((a + 12 + lgs.length + ((rs.take r).flatMap encR).length) + 7))), (0, .ref 84), (1, .int (nI a))]) (st' := []) (H' := _) (kc' := 0) (ks' := 0) rfl ?_
          exact ih2 (k + 1) _ ⟨by omega, rfl⟩ (by omega)
        · have ek : k = x.2.2.2.length := by omega
          subst ek
          refine RQ.blk 2 (pc' := 214) (lv' := [(5, .int (nI x.2.2.2.length)), (4, .ref ((pi r) + 1)), (3, .int (nI r)), (2, .int (nI ((a + 12 + lgs.length + ((rs.take r).flatMap encR).length) + 7))), (0, .ref 84), (1, .int (nI a))]) (st' := [.ref ((pi r) + 1), .int (nI x.2.2.2.length)]) (H' := _) (kc' := 0) (ks' := 0) rfl ?_
          refine RQ.get (ci := 6) rfl ((set_far (by omega)).trans k1C) rfl rfl ?_
          refine RQ.brT rfl rfl rfl (cT_ge x.2.2.2.length x.2.2.2.length) ?_
          refine RQ.blk 2 (pc' := 248) (lv' := [(5, .int (nI x.2.2.2.length)), (4, .ref ((pi r) + 1)), (3, .int (nI r)), (2, .int (nI ((a + 12 + lgs.length + ((rs.take r).flatMap encR).length) + 7))), (0, .ref 84), (1, .int (nI a))]) (st' := [.ref ((pi r) + 1), .int (nI ((a + 12 + lgs.length + ((rs.take r).flatMap encR).length) + 7))]) (H' := _) (kc' := 0) (ks' := 0) rfl ?_
          refine RQ.get (ci := 6) rfl ((set_far (by omega)).trans k1C) rfl rfl ?_
          refine RQ.blk 1 (pc' := 252) (lv' := [(5, .int (nI x.2.2.2.length)), (4, .ref ((pi r) + 1)), (3, .int (nI r)), (2, .int (nI ((a + 12 + lgs.length + ((rs.take r).flatMap encR).length) + 7))), (0, .ref 84), (1, .int (nI a))]) (st' := [.int (nI ((a + 12 + lgs.length + ((rs.take r).flatMap encR).length) + 7) + nI x.2.2.2.length)]) (H' := _) (kc' := 0) (ks' := 0) rfl ?_
          rw [show (nI ((a + 12 + lgs.length + ((rs.take r).flatMap encR).length) + 7) + nI x.2.2.2.length : Int32) = nI ((a + 12 + lgs.length + ((rs.take r).flatMap encR).length) + 7 + x.2.2.2.length) from nI_add ((a + 12 + lgs.length + ((rs.take r).flatMap encR).length) + 7) x.2.2.2.length]
          refine RQ.blk 2 (pc' := 256) (lv' := [(3, .int (nI r + 1)), (2, .int (nI ((a + 12 + lgs.length + ((rs.take r).flatMap encR).length) + 7 + x.2.2.2.length))), (5, .int (nI x.2.2.2.length)), (4, .ref ((pi r) + 1)), (0, .ref 84), (1, .int (nI a))]) (st' := []) (H' := _) (kc' := 0) (ks' := 0) rfl ?_
          rw [show (nI r + 1 : Int32) = nI (r + 1) from nI_add r 1]
          refine RQ.blk 1 (pc' := 122) (lv' := [(3, .int (nI (r + 1))), (2, .int (nI ((a + 12 + lgs.length + ((rs.take r).flatMap encR).length) + 7 + x.2.2.2.length))), (5, .int (nI x.2.2.2.length)), (4, .ref ((pi r) + 1)), (0, .ref 84), (1, .int (nI a))]) (st' := []) (H' := _) (kc' := 0) (ks' := 0) rfl ?_
          refine RQ.pick (a := [(3, .int (nI (r + 1))), (2, .int (nI ((a + 12 + lgs.length + ((rs.take r).flatMap encR).length) + 7 + x.2.2.2.length))), (0, .ref 84), (1, .int (nI a))]) [0, 1, 4, 5] [3, 2, 5, 4, 0, 1] rfl rfl (by decide) ?_
          rw [show (a + 12 + lgs.length + ((rs.take r).flatMap encR).length) + 7 + x.2.2.2.length = (a + 12 + lgs.length + ((rs.take (r + 1)).flatMap encR).length) by omega]
          have hxx : RunIs (HC.set (pi r + 1) (kI 64 (fun j => nI (if j < x.2.2.2.length then x.2.2.2.getD j 0 else f2 j)))) (pi r) x := ⟨_, (set_far (by omega)).trans k1C, get_set k2C, fun i b hib => by rw [if_pos (get_lt hib), List.getD_eq_getElem?_getD, hib]; rfl, x4⟩
          have hfX : ∀ a, a ≠ pi r → a ≠ pi r + 1 → (HC.set (pi r + 1) (kI 64 (fun j => nI (if j < x.2.2.2.length then x.2.2.2.getD j 0 else f2 j))))[a]? = H1[a]? := fun a a1 a2 => (set_far a2).trans (hfC a a1)
          generalize (HC.set (pi r + 1) (kI 64 (fun j => nI (if j < x.2.2.2.length then x.2.2.2.getD j 0 else f2 j)))) = HX at hxx hfX ⊢
          have hoth : ∀ j, j < 24 → j ≠ r → ∀ y, RunIs H1 (pi j) y → RunIs HX (pi j) y := fun j hj hne y hy => by
            obtain ⟨u, u1, u2⟩ := hpi j hj
            have hne2 : pi j ≠ pi r := fun e2 => hne (hinj j r hj (by omega) e2)
            exact hy.far (hfX _ (by omega) (by omega)) (hfX _ (by omega) (by omega))
          refine ih (r + 1) HX ⟨by omega, ⟨lg, ⟨(hfX 83 (by omega) (by omega)).trans hY1.1, (hfX 86 (by omega) (by omega)).trans hY1.2.1, (hfX 87 (by omega) (by omega)).trans hY1.2.2⟩, hlg⟩, ⟨⟨Q, (hfX 84 (by omega) (by omega)).trans hQ, hQ2⟩, hpi, hinj, fun j y hy => ?_, fun j hj => ?_, by rw [List.length_take]; omega⟩, fun a ha => (hfX a (by omega) (by omega)).trans (hfr1 a ha)⟩ (by omega)
          · by_cases ej : j = r
            · rw [ej] at hy ⊢
              rw [List.getElem?_take, if_pos (by omega), hx] at hy
              rw [← Option.some.inj hy]
              exact hxx
            · rw [List.getElem?_take] at hy
              split at hy
              · next h8 =>
                exact hoth j (by omega) ej y (hrun j y (by rw [List.getElem?_take, if_pos (by omega)]; exact hy))
              · cases hy
          · by_cases ej : j = r
            · rw [ej]; exact ⟨x, hxx⟩
            · obtain ⟨y, hy⟩ := hall j hj
              exact ⟨y, hoth j hj ej y hy⟩
      · rw [show (fun j => nI (if j < 0 then x.2.2.2.getD j 0 else f2 j)) = (fun j => nI (f2 j)) from funext (fun j => by rw [if_neg (Nat.not_lt_zero j)]), set_self k2C]
    · have er : r = rs.length := by omega
      subst er
      refine RQ.blk 2 (pc' := 124) (lv' := [(3, .int (nI rs.length)), (2, .int (nI (a + 12 + lgs.length + ((rs.take rs.length).flatMap encR).length))), (0, .ref 84), (1, .int (nI a))]) (st' := [.ref 84, .int (nI rs.length)]) (H' := _) (kc' := 0) (ks' := 0) rfl ?_
      refine RQ.get (ci := 3) rfl hY1.1 rfl rfl ?_
      refine RQ.brT rfl rfl rfl (cT_ge rs.length rs.length) ?_
      refine RQ.blk 1 (pc' := 260) (lv' := [(3, .int (nI rs.length)), (2, .int (nI (a + 12 + lgs.length + ((rs.take rs.length).flatMap encR).length))), (0, .ref 84), (1, .int (nI a))]) (st' := [.ref 84]) (H' := _) (kc' := 0) (ks' := 0) rfl ?_
      refine RQ.get (ci := 3) rfl hY1.1 rfl rfl ?_
      refine RQ.blk 3 (pc' := 266) (lv' := [(3, .int (nI rs.length)), (2, .int (nI (a + 12 + lgs.length + ((rs.take rs.length).flatMap encR).length))), (0, .ref 84), (1, .int (nI a))]) (st' := [.int (nI a + 3), .ref 72]) (H' := _) (kc' := 0) (ks' := 0) rfl ?_
      rw [show (nI a + 3 : Int32) = nI (a + 3) from nI_add a 3]
      refine RQ.blk 1 (pc' := 267) (lv' := [(3, .int (nI rs.length)), (2, .int (nI (a + 12 + lgs.length + ((rs.take rs.length).flatMap encR).length))), (0, .ref 84), (1, .int (nI a))]) (st' := [.int 4, .int (nI (a + 3)), .ref 72]) (H' := _) (kc' := 0) (ks' := 0) rfl ?_
      refine RQ.call (v := some (.int (numI cf (a + 3) 4 0))) (st' := []) rfl rfl rfl rfl rfl rfl (args_v [.int 4, .int (nI (a + 3))] [] rfl rfl (Nat.le_of_ble_eq_true rfl) rfl hC1.1 (Nat.le_of_ble_eq_true rfl)) (rc_cnum (i := a + 3) (k := 4) hC1.1 rfl hC1.2.1 (by omega) (by omega)) ?_
      rw [n3]
      exact RQ.done (c := 0) (s := 0) rfl rfl rfl rfl ⟨_, _, rfl, rfl, ⟨lg, pi, hY1, hlg, hlgB, by rw [List.take_of_length_le (Nat.le_refl _)] at hRs; exact hRs⟩, hfr1⟩
  have hC1 := hC
  refine RQ.blk 2 (pc' := 2) (lv' := [(0, .ref 84), (1, .int (nI a))]) (st' := [.ref 84, .ref 84]) (H' := _) (kc' := 0) (ks' := 0) rfl ?_
  refine RQ.get (ci := 3) rfl hY.1 rfl rfl ?_
  refine RQ.blk 3 (pc' := 9) (lv' := [(0, .ref 84), (1, .int (nI a))]) (st' := [.int (nI a + 7), .ref 72, .ref 84]) (H' := _) (kc' := 0) (ks' := 0) rfl ?_
  rw [show (nI a + 7 : Int32) = nI (a + 7) from nI_add a 7]
  refine RQ.blk 1 (pc' := 10) (lv' := [(0, .ref 84), (1, .int (nI a))]) (st' := [.int 1, .int (nI (a + 7)), .ref 72, .ref 84]) (H' := _) (kc' := 0) (ks' := 0) rfl ?_
  refine RQ.call (v := some (.int (numI cf (a + 7) 1 0))) (st' := [.ref 84]) rfl rfl rfl rfl rfl rfl (args_v [.int 1, .int (nI (a + 7))] [.ref 84] rfl rfl (Nat.le_of_ble_eq_true rfl) rfl hC1.1 (Nat.le_of_ble_eq_true rfl)) (rc_cnum (i := a + 7) (k := 1) hC1.1 rfl hC1.2.1 (by omega) (by omega)) ?_
  rw [n4]
  refine RQ.put (ci := 3) rfl hY.1 rfl rfl (Nat.le_of_ble_eq_true rfl) ?_
  show RQ sc (d + 1) mr_182 16 [(0, .ref 84), (1, .int (nI a))] [] (H.set 83 (kO 3 (layF B lgs0.length fr ff0 wr tp rs0.length ms mt sq tu 0 0))) 0 0 _
  have hYA : (H.set 83 (kO 3 (layF B lgs0.length fr ff0 wr tp rs0.length ms mt sq tu 0 0)))[83]? = some (kO 3 (layF B lgs0.length fr ff0 wr tp rs0.length ms mt sq tu 0 0)) := get_set hY.1
  have fA : ∀ a, a ≠ 83 → (H.set 83 (kO 3 (layF B lgs0.length fr ff0 wr tp rs0.length ms mt sq tu 0 0)))[a]? = H[a]? := fun a ha => (set_far ha).trans rfl
  generalize (H.set 83 (kO 3 (layF B lgs0.length fr ff0 wr tp rs0.length ms mt sq tu 0 0))) = HA at hYA fA ⊢
  have hCA := hC.far (H' := HA) (fun a a1 a2 => fA a (by omega))
  refine RQ.blk 2 (pc' := 18) (lv' := [(0, .ref 84), (1, .int (nI a))]) (st' := [.ref 84, .ref 84]) (H' := _) (kc' := 0) (ks' := 0) rfl ?_
  refine RQ.get (ci := 3) rfl hYA rfl rfl ?_
  refine RQ.blk 3 (pc' := 25) (lv' := [(0, .ref 84), (1, .int (nI a))]) (st' := [.int (nI a + 8), .ref 72, .ref 84]) (H' := _) (kc' := 0) (ks' := 0) rfl ?_
  rw [show (nI a + 8 : Int32) = nI (a + 8) from nI_add a 8]
  refine RQ.blk 1 (pc' := 26) (lv' := [(0, .ref 84), (1, .int (nI a))]) (st' := [.int 2, .int (nI (a + 8)), .ref 72, .ref 84]) (H' := _) (kc' := 0) (ks' := 0) rfl ?_
  refine RQ.call (v := some (.int (numI cf (a + 8) 2 0))) (st' := [.ref 84]) rfl rfl rfl rfl rfl rfl (args_v [.int 2, .int (nI (a + 8))] [.ref 84] rfl rfl (Nat.le_of_ble_eq_true rfl) rfl hCA.1 (Nat.le_of_ble_eq_true rfl)) (rc_cnum (i := a + 8) (k := 2) hCA.1 rfl hCA.2.1 (by omega) (by omega)) ?_
  rw [n5]
  refine RQ.put (ci := 3) rfl hYA rfl rfl (Nat.le_of_ble_eq_true rfl) ?_
  show RQ sc (d + 1) mr_182 32 [(0, .ref 84), (1, .int (nI a))] [] (HA.set 83 (kO 3 (layF B lgs0.length fr ff wr tp rs0.length ms mt sq tu 0 0))) 0 0 _
  have hYB : (HA.set 83 (kO 3 (layF B lgs0.length fr ff wr tp rs0.length ms mt sq tu 0 0)))[83]? = some (kO 3 (layF B lgs0.length fr ff wr tp rs0.length ms mt sq tu 0 0)) := get_set hYA
  have fB : ∀ a, a ≠ 83 → (HA.set 83 (kO 3 (layF B lgs0.length fr ff wr tp rs0.length ms mt sq tu 0 0)))[a]? = H[a]? := fun a ha => (set_far ha).trans (fA a ha)
  generalize (HA.set 83 (kO 3 (layF B lgs0.length fr ff wr tp rs0.length ms mt sq tu 0 0))) = HB at hYB fB ⊢
  have hCB := hC.far (H' := HB) (fun a a1 a2 => fB a (by omega))
  refine RQ.blk 2 (pc' := 34) (lv' := [(0, .ref 84), (1, .int (nI a))]) (st' := [.ref 84, .ref 84]) (H' := _) (kc' := 0) (ks' := 0) rfl ?_
  refine RQ.get (ci := 3) rfl hYB rfl rfl ?_
  refine RQ.blk 3 (pc' := 41) (lv' := [(0, .ref 84), (1, .int (nI a))]) (st' := [.int (nI a + 10), .ref 72, .ref 84]) (H' := _) (kc' := 0) (ks' := 0) rfl ?_
  rw [show (nI a + 10 : Int32) = nI (a + 10) from nI_add a 10]
  refine RQ.blk 1 (pc' := 42) (lv' := [(0, .ref 84), (1, .int (nI a))]) (st' := [.int 1, .int (nI (a + 10)), .ref 72, .ref 84]) (H' := _) (kc' := 0) (ks' := 0) rfl ?_
  refine RQ.call (v := some (.int (numI cf (a + 10) 1 0))) (st' := [.ref 84]) rfl rfl rfl rfl rfl rfl (args_v [.int 1, .int (nI (a + 10))] [.ref 84] rfl rfl (Nat.le_of_ble_eq_true rfl) rfl hCB.1 (Nat.le_of_ble_eq_true rfl)) (rc_cnum (i := a + 10) (k := 1) hCB.1 rfl hCB.2.1 (by omega) (by omega)) ?_
  rw [n6]
  refine RQ.blk 1 (pc' := 46) (lv' := [(0, .ref 84), (1, .int (nI a))]) (st' := [.ref 84, .int (nI lgs.length), .ref 84]) (H' := _) (kc' := 0) (ks' := 0) rfl ?_
  refine RQ.get (ci := 3) rfl hYB rfl rfl ?_
  refine RQ.len rfl ((fB 87 (by decide)).trans hY.2.2) rfl ?_
  refine RQ.blk 1 (pc' := 53) (lv' := [(0, .ref 84), (1, .int (nI a))]) (st' := [.int (if nI B < nI lgs.length then nI B else nI lgs.length), .ref 84]) (H' := _) (kc' := 0) (ks' := 0) rfl ?_
  rw [show (if nI B < nI lgs.length then nI B else nI lgs.length : Int32) = nI (min lgs.length B) from minI (a := lgs.length) (b := B) (by omega) (by omega)]
  rw [show min lgs.length B = lgs.length by omega]
  refine RQ.put (ci := 3) rfl hYB rfl rfl (Nat.le_of_ble_eq_true rfl) ?_
  show RQ sc (d + 1) mr_182 56 [(0, .ref 84), (1, .int (nI a))] [] (HB.set 83 (kO 3 (layF B lgs.length fr ff wr tp rs0.length ms mt sq tu 0 0))) 0 0 _
  have hYD : (HB.set 83 (kO 3 (layF B lgs.length fr ff wr tp rs0.length ms mt sq tu 0 0)))[83]? = some (kO 3 (layF B lgs.length fr ff wr tp rs0.length ms mt sq tu 0 0)) := get_set hYB
  have fD : ∀ a, a ≠ 83 → (HB.set 83 (kO 3 (layF B lgs.length fr ff wr tp rs0.length ms mt sq tu 0 0)))[a]? = H[a]? := fun a ha => (set_far ha).trans (fB a ha)
  generalize (HB.set 83 (kO 3 (layF B lgs.length fr ff wr tp rs0.length ms mt sq tu 0 0))) = HD at hYD fD ⊢
  have hCD := hC.far (H' := HD) (fun a a1 a2 => fD a (by omega))
  refine RQ.blk 3 (pc' := 60) (lv' := [(0, .ref 84), (1, .int (nI a))]) (st' := [.int (nI a + 11)]) (H' := _) (kc' := 0) (ks' := 0) rfl ?_
  rw [show (nI a + 11 : Int32) = nI (a + 11) from nI_add a 11]
  refine RQ.blk 3 (pc' := 63) (lv' := [(3, .int 0), (2, .int (nI (a + 11))), (0, .ref 84), (1, .int (nI a))]) (st' := []) (H' := _) (kc' := 0) (ks' := 0) rfl ?_
  refine RQ.while (S := Nat) (pc := 63) (fun i H' => i ≤ lgs.length ∧ H' = (HD.set 87 (kI B (fun j => nI (if j < i then lgs.getD j 0 else lg0 j))))) (fun i => [(3, .int (nI i)), (2, .int (nI (a + 11))), (0, .ref 84), (1, .int (nI a))]) (fun i => lgs.length - i) ?_ 0 HD ⟨Nat.zero_le _, ?_⟩
  · rintro i H1 ⟨hi, e⟩ ih
    rw [e]
    by_cases hil : i < lgs.length
    · obtain ⟨y, hy⟩ := lt_get hil
      refine RQ.blk 2 (pc' := 65) (lv' := [(3, .int (nI i)), (2, .int (nI (a + 11))), (0, .ref 84), (1, .int (nI a))]) (st' := [.ref 84, .int (nI i)]) (H' := _) (kc' := 0) (ks' := 0) rfl ?_
      refine RQ.get (ci := 3) rfl ((set_far (by decide)).trans hYD) rfl rfl ?_
      refine RQ.brF rfl rfl rfl (cF_ge i lgs.length) ?_
      refine RQ.blk 1 (pc' := 72) (lv' := [(3, .int (nI i)), (2, .int (nI (a + 11))), (0, .ref 84), (1, .int (nI a))]) (st' := [.ref 84]) (H' := _) (kc' := 0) (ks' := 0) rfl ?_
      refine RQ.get (ci := 3) rfl ((set_far (by decide)).trans hYD) rfl rfl ?_
      refine RQ.blk 2 (pc' := 77) (lv' := [(3, .int (nI i)), (2, .int (nI (a + 11))), (0, .ref 84), (1, .int (nI a))]) (st' := [.ref 84, .int (nI i), .ref 88]) (H' := _) (kc' := 0) (ks' := 0) rfl ?_
      refine RQ.get (ci := 3) rfl ((set_far (by decide)).trans hYD) rfl rfl ?_
      refine RQ.blk 3 (pc' := 83) (lv' := [(3, .int (nI i)), (2, .int (nI (a + 11))), (0, .ref 84), (1, .int (nI a))]) (st' := [.int (nI (a + 11) + nI i), .ref 72, .int (nI i), .ref 88]) (H' := _) (kc' := 0) (ks' := 0) rfl ?_
      rw [show (nI (a + 11) + nI i : Int32) = nI (a + 11 + i) from nI_add (a + 11) i]
      refine RQ.call (v := some (.int (nI (ub (cf (a + 11 + i)))))) (st' := [.int (nI i), .ref 88]) rfl rfl rfl rfl rfl rfl (args_v [.int (nI (a + 11 + i))] [.int (nI i), .ref 88] rfl rfl (Nat.le_of_ble_eq_true rfl) rfl ((set_far (by decide)).trans hCD.1) (Nat.le_of_ble_eq_true rfl)) (rc_cat (i := a + 11 + i) ((set_far (by decide)).trans hCD.1) rfl ((set_far (by decide)).trans hCD.2.1) (by omega) (by omega)) ?_
      rw [sl_at s7 hy]
      refine RQ.iastN (j := i) rfl (get_set ((fD 87 (by decide)).trans hY.2.2)) (by omega) (by omega) ?_
      rw [set_set, show va_up (fun j => nI (if j < i then lgs.getD j 0 else lg0 j)) i (nI y) = (fun j => nI (if j < i + 1 then lgs.getD j 0 else lg0 j)) from ?_]
      rotate_left
      · funext j
        unfold va_up
        by_cases hjk : j = i
        · rw [if_pos hjk, if_pos (by omega), hjk, List.getD_eq_getElem?_getD, hy]; rfl
        · rw [if_neg hjk]
          show nI (if j < i then _ else _) = _
          by_cases hj2 : j < i
          · rw [if_pos hj2, if_pos (by omega)]
          · rw [if_neg hj2, if_neg (by omega)]
      refine RQ.blk 1 (pc' := 90) (lv' := [(3, .int (nI i + 1)), (2, .int (nI (a + 11))), (0, .ref 84), (1, .int (nI a))]) (st' := []) (H' := _) (kc' := 0) (ks' := 0) rfl ?_
      rw [show (nI i + 1 : Int32) = nI (i + 1) from nI_add i 1]
      refine RQ.blk 1 (pc' := 63) (lv' := [(3, .int (nI (i + 1))), (2, .int (nI (a + 11))), (0, .ref 84), (1, .int (nI a))]) (st' := []) (H' := _) (kc' := 0) (ks' := 0) rfl ?_
      exact ih (i + 1) _ ⟨by omega, rfl⟩ (by omega)
    · have ei : i = lgs.length := by omega
      subst ei
      refine RQ.blk 2 (pc' := 65) (lv' := [(3, .int (nI lgs.length)), (2, .int (nI (a + 11))), (0, .ref 84), (1, .int (nI a))]) (st' := [.ref 84, .int (nI lgs.length)]) (H' := _) (kc' := 0) (ks' := 0) rfl ?_
      refine RQ.get (ci := 3) rfl ((set_far (by decide)).trans hYD) rfl rfl ?_
      refine RQ.brT rfl rfl rfl (cT_ge lgs.length lgs.length) ?_
      refine RQ.blk 2 (pc' := 95) (lv' := [(3, .int (nI lgs.length)), (2, .int (nI (a + 11))), (0, .ref 84), (1, .int (nI a))]) (st' := [.ref 84, .int (nI (a + 11))]) (H' := _) (kc' := 0) (ks' := 0) rfl ?_
      refine RQ.get (ci := 3) rfl ((set_far (by decide)).trans hYD) rfl rfl ?_
      refine RQ.blk 1 (pc' := 99) (lv' := [(3, .int (nI lgs.length)), (2, .int (nI (a + 11))), (0, .ref 84), (1, .int (nI a))]) (st' := [.int (nI (a + 11) + nI lgs.length)]) (H' := _) (kc' := 0) (ks' := 0) rfl ?_
      rw [show (nI (a + 11) + nI lgs.length : Int32) = nI (a + 11 + lgs.length) from nI_add (a + 11) lgs.length]
      refine RQ.blk 3 (pc' := 102) (lv' := [(2, .int (nI (a + 11 + lgs.length))), (3, .int (nI lgs.length)), (0, .ref 84), (1, .int (nI a))]) (st' := [.ref 84, .ref 84]) (H' := _) (kc' := 0) (ks' := 0) rfl ?_
      refine RQ.get (ci := 3) rfl ((set_far (by decide)).trans hYD) rfl rfl ?_
      refine RQ.blk 1 (pc' := 106) (lv' := [(2, .int (nI (a + 11 + lgs.length))), (3, .int (nI lgs.length)), (0, .ref 84), (1, .int (nI a))]) (st' := [.int (nI (a + 11 + lgs.length)), .ref 72, .ref 84]) (H' := _) (kc' := 0) (ks' := 0) rfl ?_
      refine RQ.call (v := some (.int (nI (ub (cf (a + 11 + lgs.length)))))) (st' := [.ref 84]) rfl rfl rfl rfl rfl rfl (args_v [.int (nI (a + 11 + lgs.length))] [.ref 84] rfl rfl (Nat.le_of_ble_eq_true rfl) rfl ((set_far (by decide)).trans hCD.1) (Nat.le_of_ble_eq_true rfl)) (rc_cat (i := a + 11 + lgs.length) ((set_far (by decide)).trans hCD.1) rfl ((set_far (by decide)).trans hCD.2.1) (by omega) (by omega)) ?_
      rw [u8]
      refine RQ.blk 2 (pc' := 114) (lv' := [(2, .int (nI (a + 11 + lgs.length))), (3, .int (nI lgs.length)), (0, .ref 84), (1, .int (nI a))]) (st' := [.int (if 23 < nI rs.length then 23 else nI rs.length), .ref 84]) (H' := _) (kc' := 0) (ks' := 0) rfl ?_
      rw [show (if 23 < nI rs.length then 23 else nI rs.length : Int32) = nI (min rs.length 23) from minI (a := rs.length) (b := 23) (by omega) (by omega)]
      rw [show min rs.length 23 = rs.length by omega]
      refine RQ.put (ci := 3) rfl ((set_far (by decide)).trans hYD) rfl rfl (Nat.le_of_ble_eq_true rfl) ?_
      have hYE := (get_set ((set_far (by decide)).trans hYD) : ((HD.set 87 (kI B (fun j => nI (if j < lgs.length then lgs.getD j 0 else lg0 j)))).set 83 (kO 3 (layF B lgs.length fr ff wr tp rs.length ms mt sq tu 0 0)))[83]? = _)
      refine RQ.blk 1 (pc' := 120) (lv' := [(2, .int (nI (a + 11 + lgs.length) + 1)), (3, .int (nI lgs.length)), (0, .ref 84), (1, .int (nI a))]) (st' := []) (H' := _) (kc' := 0) (ks' := 0) rfl ?_
      rw [show (nI (a + 11 + lgs.length) + 1 : Int32) = nI (a + 11 + lgs.length + 1) from nI_add (a + 11 + lgs.length) 1]
      refine RQ.blk 2 (pc' := 122) (lv' := [(3, .int 0), (2, .int (nI (a + 11 + lgs.length + 1))), (0, .ref 84), (1, .int (nI a))]) (st' := []) (H' := _) (kc' := 0) (ks' := 0) rfl ?_
      rw [show a + 11 + lgs.length + 1 = (a + 12 + lgs.length + ((rs.take 0).flatMap encR).length) from by rw [List.take_zero]; show _ = a + 12 + lgs.length + 0; omega]
      refine fin _ ⟨Nat.zero_le _, ⟨_, ⟨hYE, (set_far (by decide)).trans ((set_far (by decide)).trans ((fD 86 (by decide)).trans hY.2.1)), (set_far (by decide)).trans (get_set ((fD 87 (by decide)).trans hY.2.2))⟩, fun i b hib => by rw [if_pos (get_lt hib), List.getD_eq_getElem?_getD, hib]; rfl⟩, ?_, fun a ha => (set_far (by omega)).trans ((set_far (by omega)).trans (fD a (by omega)))⟩
      have h24 : RunsAt H pi [] := by
        obtain ⟨r1, r2, r3, r4, r5, r6⟩ := hRs0
        exact ⟨r1, r2, r3, fun j x hx => by simp at hx, r5, Nat.zero_le _⟩
      rw [List.take_zero]
      exact h24.far2 ((set_far (by decide)).trans ((set_far (by decide)).trans (fD 84 (by decide)))) (fun a a1 a2 => (set_far (by omega)).trans ((set_far (by omega)).trans (fD a (by omega))))
  · rw [show (fun j => nI (if j < 0 then lgs.getD j 0 else lg0 j)) = (fun j => nI (lg0 j)) from funext (fun j => by rw [if_neg (Nat.not_lt_zero j)]), set_self ((fD 87 (by decide)).trans hY.2.2)]
