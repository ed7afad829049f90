/-! ===== what the log tells behind the tables; class; written by wip/gen/replay.py ===== -/
theorem len_sub {α : Type} [DecidableEq α] : ∀ (l m : List α), l.Nodup → (∀ x ∈ l, x ∈ m) → l.length ≤ m.length
  | [], m, _, _ => Nat.zero_le _
  | a :: l, m, h1, h2 => by
    obtain ⟨n1, n2⟩ := List.nodup_cons.mp h1
    have ha := h2 a List.mem_cons_self
    have h3 := len_sub l (m.erase a) n2 (fun x hx => by
      have hne : x ≠ a := fun e => n1 (by rw [← e]; exact hx)
      exact (List.mem_erase_of_ne hne).mpr (h2 x (List.mem_cons_of_mem _ hx)))
    rw [List.length_erase_of_mem ha] at h3
    have := List.length_pos_of_mem ha
    rw [List.length_cons]
    omega
theorem SS.keys {vs : List aV} (h : SS vs) : (vs.map (fun v => v.1)).Nodup := by
  unfold SS at h
  refine List.pairwise_map.mpr (h.imp (fun {a b} hab e => ?_))
  rw [e] at hab
  exact absurd hab cmpL_irr
/-- there is room for a key, where all keys are known -/
theorem ks_room {KS : List (List Nat)} {vs : List aV} {N : Nat} {k : List Nat} (hs : SS vs) (hv : ∀ v ∈ vs, v.1 ∈ KS) (hk : k ∈ KS) (hN : KS.length ≤ N) : (∀ w ∈ vs, ¬ w.1 = k) → vs.length < N := fun hno => by
  have h1 := len_sub (k :: vs.map (fun v => v.1)) KS (List.nodup_cons.mpr ⟨fun e => by obtain ⟨w, hw, he⟩ := List.mem_map.mp e; exact hno w hw he, hs.keys⟩) (fun x hx => by
    rcases List.mem_cons.mp hx with e | e
    · rw [e]; exact hk
    · obtain ⟨w, hw, he⟩ := List.mem_map.mp e
      rw [← he]; exact hv w hw)
  rw [List.length_cons, List.length_map] at h1
  omega
theorem foldR_ss {vs : List aV} (h : SS vs) : ∀ (xs : List (Nat × aRd)), SS (xs.foldl meetR vs) := by
  intro xs
  induction xs generalizing vs with
  | nil => exact h
  | cons e t ih => exact ih (meetV_ss h)
theorem foldR_mem {v : aV} : ∀ (xs : List (Nat × aRd)) (vs : List aV), v ∈ xs.foldl meetR vs → v ∈ vs ∨ ∃ x ∈ xs, v.1 = x.2.2.1
  | [], vs, h => Or.inl h
  | x :: t, vs, h => by
    rcases foldR_mem t _ h with h | ⟨y, hy, e⟩
    · rcases mem_meetV h with e | e
      · exact Or.inr ⟨x, List.mem_cons_self, by rw [e]⟩
      · exact Or.inl e
    · exact Or.inr ⟨y, List.mem_cons_of_mem _ hy, e⟩
/-- a record that may be met -/
def RdOk (c : Nat → Int8) (B : Nat) (KS : List (List Nat)) (x : Nat × aRd) : Prop := sl c x.1 (encL x.2).length = encL x.2 ∧ LOk x.2 ∧ x.1 + (encL x.2).length ≤ B * 2048 ∧ (x.2.1 ≠ 4 → x.2.2.2.2.1 < 2 ^ 30) ∧ (x.2.1 ≠ 3 → x.2.1 ≠ 4 → 1 ≤ x.2.2.1.length ∧ x.2.2.1 ∈ KS)
set_option maxRecDepth 20000 in
theorem rn_pending {sc : Nat × (Nat → Int32)} {d mp hv N : Nat} {H : aH} {B : Nat} {cf : Nat → Int8} {tf : Nat → Nat} {pq : Option Nat} {bb : Nat} {KS : List (List Nat)} {vs : List aV} {xs : List (Nat × aRd)} {pe : Nat → Nat} (hG : H[190]? = some (kO 4 (logF mp hv))) (hC : ChipAt H B cf tf pq bb 0) (hB : B ≤ 128) (hV : VersIs H N vs) (hss : SS vs) (hk : ∃ g, H[192]? = some (kB 41 g)) (hp : H[193]? = some (kI 40 (fun j => nI (pe j)))) (hpe : ∀ i x, xs[i]? = some x → pe i = x.1) (hx40 : xs.length ≤ 40) (hR : ∀ x ∈ xs, RdOk cf B KS x ∧ x.2.1 ≠ 3 ∧ x.2.1 ≠ 4) (hKv : ∀ v ∈ vs, v.1 ∈ KS) (hKN : KS.length ≤ N) : RN sc (d + 3) mr_188 [.ref 191, .int (nI xs.length)] H (fun H' => VersIs H' N (xs.foldl meetR vs) ∧ (∃ g, H'[192]? = some (kB 41 g)) ∧ ∀ a, ¬ (74 ≤ a ∧ a < 83) → a ≠ 192 → H'[a]? = H[a]?) := by
  refine RN.of ?_
  refine RQ.blk 2 (pc' := 2) (lv' := [(2, .int 0), (0, .ref 191), (1, .int (nI xs.length))]) (st' := []) (H' := _) (kc' := 0) (ks' := 0) rfl ?_
  refine RQ.while (S := Nat) (pc := 2) (fun i H' => i ≤ xs.length ∧ VersIs H' N ((xs.take i).foldl meetR vs) ∧ (∃ g, H'[192]? = some (kB 41 g)) ∧ ∀ a, ¬ (74 ≤ a ∧ a < 83) → a ≠ 192 → H'[a]? = H[a]?) (fun i => [(2, .int (nI i)), (0, .ref 191), (1, .int (nI xs.length))]) (fun i => xs.length - i) ?_ 0 H ⟨Nat.zero_le _, hV, hk, fun a _ _ => rfl⟩
  rintro i H1 ⟨hi, hV1, ⟨g1, hg1⟩, f1⟩ ih
  have hG1 := (f1 190 (by decide) (by decide)).trans hG
  have hp1 := (f1 193 (by decide) (by decide)).trans hp
  have hC1 := hC.far (H' := H1) (fun a a1 a2 => f1 a (by omega) (by omega))
  obtain ⟨vf, hv1⟩ : ∃ vf, H1[74]? = some (kO 10 vf) := by obtain ⟨_, _, _, _, _, _, _, _, _, _, _, q1, _, _⟩ := hV1; exact ⟨_, q1.1⟩
  by_cases hil : i < xs.length
  ·
    obtain ⟨x, hx⟩ := lt_get hil
    have hxm := List.mem_of_getElem? hx
    obtain ⟨⟨R1, R2, R3, R4, R5⟩, R6⟩ := hR x hxm
    obtain ⟨R5, R7⟩ := R5 R6.1 R6.2
    have R4 := R4 R6.2
    obtain ⟨E1, E2, E3, E4, E5, E6, E7⟩ := encL_parts R1
    obtain ⟨L1, L2, L3, L4, L5, L6, L7⟩ := R2
    have hel := encL_len x.2
    rw [hel] at R3
    have hmod : x.2.2.2.2.1 < 2 ^ 31 := L5
    refine RQ.blk 2 (pc' := 4) (lv' := [(2, .int (nI i)), (0, .ref 191), (1, .int (nI xs.length))]) (st' := [.int (nI xs.length), .int (nI i)]) (H' := _) (kc' := 0) (ks' := 0) rfl ?_
    refine RQ.brF rfl rfl rfl (cF_ge i xs.length) ?_
    refine RQ.blk 2 (pc' := 9) (lv' := [(2, .int (nI i)), (0, .ref 191), (1, .int (nI xs.length))]) (st' := [.ref 191, .int (nI i)]) (H' := _) (kc' := 0) (ks' := 0) rfl ?_
    refine RQ.get (ci := 4) rfl hG1 rfl rfl ?_
    refine RQ.len rfl hp1 rfl ?_
    refine RQ.brF rfl rfl rfl (cF_ge i 40) ?_
    refine RQ.blk 1 (pc' := 17) (lv' := [(2, .int (nI i)), (0, .ref 191), (1, .int (nI xs.length))]) (st' := [.ref 191]) (H' := _) (kc' := 0) (ks' := 0) rfl ?_
    refine RQ.get (ci := 4) rfl hG1 rfl rfl ?_
    refine RQ.blk 1 (pc' := 21) (lv' := [(2, .int (nI i)), (0, .ref 191), (1, .int (nI xs.length))]) (st' := [.int (nI i), .ref 194]) (H' := _) (kc' := 0) (ks' := 0) rfl ?_
    refine RQ.ialdN (j := i) rfl hp1 (by omega) (by decide) ?_
    rw [hpe i x hx]
    refine RQ.blk 2 (pc' := 24) (lv' := [(3, .int (nI x.1)), (2, .int (nI i)), (0, .ref 191), (1, .int (nI xs.length))]) (st' := [.ref 191]) (H' := _) (kc' := 0) (ks' := 0) rfl ?_
    refine RQ.get (ci := 4) rfl hG1 rfl rfl ?_
    refine RQ.blk 3 (pc' := 30) (lv' := [(3, .int (nI x.1)), (2, .int (nI i)), (0, .ref 191), (1, .int (nI xs.length))]) (st' := [.int (nI x.1 + 1), .ref 72]) (H' := _) (kc' := 0) (ks' := 0) rfl ?_
    rw [show (nI x.1 + 1 : Int32) = nI (x.1 + 1) from nI_add x.1 1]
    refine RQ.call (v := some (.int (nI (ub (cf (x.1 + 1)))))) (st' := []) rfl rfl rfl rfl rfl rfl (args_v [.int (nI (x.1 + 1))] [] rfl rfl (Nat.le_of_ble_eq_true rfl) rfl hC1.1 (Nat.le_of_ble_eq_true rfl)) (rc_cat (i := x.1 + 1) hC1.1 rfl hC1.2.1 (by omega) (by omega)) ?_
    rw [E2]
    refine RQ.blk 2 (pc' := 36) (lv' := [(4, .int (nI x.2.2.1.length)), (3, .int (nI x.1)), (2, .int (nI i)), (0, .ref 191), (1, .int (nI xs.length))]) (st' := [.ref 191]) (H' := _) (kc' := 0) (ks' := 0) rfl ?_
    refine RQ.get (ci := 4) rfl hG1 rfl rfl ?_
    refine RQ.blk 1 (pc' := 40) (lv' := [(4, .int (nI x.2.2.1.length)), (3, .int (nI x.1)), (2, .int (nI i)), (0, .ref 191), (1, .int (nI xs.length))]) (st' := [.int (nI x.1), .ref 72]) (H' := _) (kc' := 0) (ks' := 0) rfl ?_
    refine RQ.call (v := some (.int (nI (ub (cf x.1))))) (st' := []) rfl rfl rfl rfl rfl rfl (args_v [.int (nI x.1)] [] rfl rfl (Nat.le_of_ble_eq_true rfl) rfl hC1.1 (Nat.le_of_ble_eq_true rfl)) (rc_cat (i := x.1) hC1.1 rfl hC1.2.1 (by omega) (by omega)) ?_
    rw [E1]
    refine RQ.blk 1 (pc' := 44) (lv' := [(4, .int (nI x.2.2.1.length)), (3, .int (nI x.1)), (2, .int (nI i)), (0, .ref 191), (1, .int (nI xs.length))]) (st' := [.int 2, .int (nI x.2.1)]) (H' := _) (kc' := 0) (ks' := 0) rfl ?_
    by_cases hk2 : x.2.1 = 2
    · refine RQ.brF rfl rfl rfl (cF_ne x.2.1 2) ?_
      refine RQ.blk 4 (pc' := 65) (lv' := [(5, .int (-1)), (4, .int (nI x.2.2.1.length)), (3, .int (nI x.1)), (2, .int (nI i)), (0, .ref 191), (1, .int (nI xs.length))]) (st' := [.ref 191]) (H' := _) (kc' := 0) (ks' := 0) rfl ?_
      refine RQ.get (ci := 4) rfl hG1 rfl rfl ?_
      refine RQ.blk 3 (pc' := 72) (lv' := [(5, .int (-1)), (4, .int (nI x.2.2.1.length)), (3, .int (nI x.1)), (2, .int (nI i)), (0, .ref 191), (1, .int (nI xs.length))]) (st' := [.int (nI x.1 + 8), .ref 72]) (H' := _) (kc' := 0) (ks' := 0) rfl ?_
      rw [show (nI x.1 + 8 : Int32) = nI (x.1 + 8) from nI_add x.1 8]
      refine RQ.blk 1 (pc' := 73) (lv' := [(5, .int (-1)), (4, .int (nI x.2.2.1.length)), (3, .int (nI x.1)), (2, .int (nI i)), (0, .ref 191), (1, .int (nI xs.length))]) (st' := [.ref 191, .int (nI (x.1 + 8)), .ref 72]) (H' := _) (kc' := 0) (ks' := 0) rfl ?_
      refine RQ.get (ci := 4) rfl hG1 rfl rfl ?_
      refine RQ.blk 2 (pc' := 79) (lv' := [(5, .int (-1)), (4, .int (nI x.2.2.1.length)), (3, .int (nI x.1)), (2, .int (nI i)), (0, .ref 191), (1, .int (nI xs.length))]) (st' := [.int (nI x.2.2.1.length), .int 0, .ref 193, .int (nI (x.1 + 8)), .ref 72]) (H' := _) (kc' := 0) (ks' := 0) rfl ?_
      refine RQ.call (v := none) (st' := []) rfl rfl rfl rfl rfl rfl (args_v [.int (nI x.2.2.1.length), .int 0, .ref 193, .int (nI (x.1 + 8))] [] rfl rfl (Nat.le_of_ble_eq_true rfl) rfl hC1.1 (Nat.le_of_ble_eq_true rfl)) (rc_copyOut (a := 71) (b := 72) (c := 192) (i := x.1 + 8) (j := 0) (k := x.2.2.1.length) hC1.1 rfl hC1.2.1 (by omega) hg1 (by decide) (by omega) (by omega)) ?_
      have f2 : ∀ a, a ≠ 192 → (H1.set 192 (kB 41 (cpy cf (x.1 + 8) g1 0 x.2.2.1.length)))[a]? = H1[a]? := fun a a1 => set_far a1
      have hg2 : (H1.set 192 (kB 41 (cpy cf (x.1 + 8) g1 0 x.2.2.1.length)))[192]? = _ := get_set hg1
      generalize (H1.set 192 (kB 41 (cpy cf (x.1 + 8) g1 0 x.2.2.1.length))) = H2 at f2 hg2 ⊢
      have hC2 := hC1.far (H' := H2) (fun a a1 a2 => f2 a (by omega))
      have hV2 := hV1.far (H' := H2) (fun a a1 a2 => f2 a (by omega))
      have hG2 := (f2 190 (by decide)).trans hG1
      have hv2 := (f2 74 (by decide)).trans hv1
      have hky : sl (cpy cf (x.1 + 8) g1 0 x.2.2.1.length) 0 x.2.2.1.length = x.2.2.1 := by rw [sl_cpy]; exact E5
      refine RQ.blk 1 (pc' := 83) (lv' := [(5, .int (-1)), (4, .int (nI x.2.2.1.length)), (3, .int (nI x.1)), (2, .int (nI i)), (0, .ref 191), (1, .int (nI xs.length))]) (st' := [.ref 191]) (H' := _) (kc' := 0) (ks' := 0) rfl ?_
      refine RQ.get (ci := 4) rfl hG2 rfl rfl ?_
      refine RQ.blk 1 (pc' := 87) (lv' := [(5, .int (-1)), (4, .int (nI x.2.2.1.length)), (3, .int (nI x.1)), (2, .int (nI i)), (0, .ref 191), (1, .int (nI xs.length))]) (st' := [.ref 191, .ref 75]) (H' := _) (kc' := 0) (ks' := 0) rfl ?_
      refine RQ.get (ci := 4) rfl hG2 rfl rfl ?_
      refine RQ.blk 2 (pc' := 93) (lv' := [(5, .int (-1)), (4, .int (nI x.2.2.1.length)), (3, .int (nI x.1)), (2, .int (nI i)), (0, .ref 191), (1, .int (nI xs.length))]) (st' := [.ref 191, .int (nI x.2.2.1.length), .ref 193, .ref 75]) (H' := _) (kc' := 0) (ks' := 0) rfl ?_
      refine RQ.get (ci := 4) rfl hG2 rfl rfl ?_
      refine RQ.blk 3 (pc' := 99) (lv' := [(5, .int (-1)), (4, .int (nI x.2.2.1.length)), (3, .int (nI x.1)), (2, .int (nI i)), (0, .ref 191), (1, .int (nI xs.length))]) (st' := [.int (nI x.1 + 4), .ref 72, .int (nI x.2.2.1.length), .ref 193, .ref 75]) (H' := _) (kc' := 0) (ks' := 0) rfl ?_
      rw [show (nI x.1 + 4 : Int32) = nI (x.1 + 4) from nI_add x.1 4]
      refine RQ.blk 1 (pc' := 100) (lv' := [(5, .int (-1)), (4, .int (nI x.2.2.1.length)), (3, .int (nI x.1)), (2, .int (nI i)), (0, .ref 191), (1, .int (nI xs.length))]) (st' := [.int 4, .int (nI (x.1 + 4)), .ref 72, .int (nI x.2.2.1.length), .ref 193, .ref 75]) (H' := _) (kc' := 0) (ks' := 0) rfl ?_
      refine RQ.call (v := some (.int (numI cf (x.1 + 4) 4 0))) (st' := [.int (nI x.2.2.1.length), .ref 193, .ref 75]) rfl rfl rfl rfl rfl rfl (args_v [.int 4, .int (nI (x.1 + 4))] [.int (nI x.2.2.1.length), .ref 193, .ref 75] rfl rfl (Nat.le_of_ble_eq_true rfl) rfl hC2.1 (Nat.le_of_ble_eq_true rfl)) (rc_cnum (i := x.1 + 4) (k := 4) hC2.1 rfl hC2.2.1 (by omega) (by omega)) ?_
      rw [show numI cf (x.1 + 4) 4 0 = nI x.2.2.2.2.1 by rw [show (0 : Int32) = nI 0 from rfl, numI_be _ _ _ (by rw [E4, beN_beB0 (by omega)]; omega), E4, beN_beB0 (by omega)]]
      refine RQ.blk 3 (pc' := 107) (lv' := [(5, .int (-1)), (4, .int (nI x.2.2.1.length)), (3, .int (nI x.1)), (2, .int (nI i)), (0, .ref 191), (1, .int (nI xs.length))]) (st' := [.int 1, .int (-1), .int (nI x.1), .int (nI x.2.2.2.2.1), .int (nI x.2.2.1.length), .ref 193, .ref 75]) (H' := _) (kc' := 0) (ks' := 0) rfl ?_
      have hss1 := foldR_ss hss (xs.take i)
      refine RQ.callN (st' := []) rfl rfl rfl rfl rfl rfl (args_v [.int 1, .int (-1), .int (nI x.1), .int (nI x.2.2.2.2.1), .int (nI x.2.2.1.length), .ref 193] [] rfl rfl (Nat.le_of_ble_eq_true rfl) rfl hv2 (Nat.le_of_ble_eq_true rfl)) (rn_meet (a := 192) (na := 41) (n := x.2.2.1.length) (m := x.2.2.2.2.1) (pp := x.1) (l := none) (b := true) hV2 hss1.one hg2 (by decide) (by decide) (by omega) R5 (by omega) R4 (by omega) (by decide) (by rw [hky]; exact ks_room hss1 (fun v hv => by rcases foldR_mem _ _ hv with e | ⟨y, hy, e⟩; exact hKv v e; rw [e]; exact ((hR y (List.mem_of_mem_take hy)).1.2.2.2.2 (hR y (List.mem_of_mem_take hy)).2.1 (hR y (List.mem_of_mem_take hy)).2.2).2) R7 hKN)) (fun H3 hx3 => ?_)
      obtain ⟨hV3, f3⟩ := hx3
      rw [hky] at hV3
      refine RQ.blk 1 (pc' := 113) (lv' := [(2, .int (nI i + 1)), (5, .int (-1)), (4, .int (nI x.2.2.1.length)), (3, .int (nI x.1)), (0, .ref 191), (1, .int (nI xs.length))]) (st' := []) (H' := _) (kc' := 0) (ks' := 0) rfl ?_
      rw [show (nI i + 1 : Int32) = nI (i + 1) from nI_add i 1]
      refine RQ.blk 1 (pc' := 2) (lv' := [(2, .int (nI (i + 1))), (5, .int (-1)), (4, .int (nI x.2.2.1.length)), (3, .int (nI x.1)), (0, .ref 191), (1, .int (nI xs.length))]) (st' := []) (H' := _) (kc' := 0) (ks' := 0) rfl ?_
      refine RQ.pick (a := [(2, .int (nI (i + 1))), (0, .ref 191), (1, .int (nI xs.length))]) [0, 4, 5] [2, 5, 4, 3, 0, 1] rfl rfl (by decide) ?_
      have hfd : meetV (x.2.2.1, x.2.2.2.2.1, x.1, none, true) ((xs.take i).foldl meetR vs) = (xs.take (i + 1)).foldl meetR vs := by
        rw [List.take_add_one, hx]
        show _ = List.foldl meetR vs (xs.take i ++ [x])
        rw [List.foldl_append, List.foldl_cons, List.foldl_nil]
        show _ = meetV (x.2.2.1, x.2.2.2.2.1, x.1, (if x.2.1 = 2 then none else some x.2.2.2.1), true) _
        rw [if_pos hk2]
      rw [hfd] at hV3
      exact ih (i + 1) H3 ⟨by omega, hV3, ⟨_, (f3 192 (by decide)).trans hg2⟩, fun a a1 a2 => (f3 a a1).trans ((f2 a a2).trans (f1 a a1 a2))⟩ (by omega)
    · refine RQ.brT rfl rfl rfl (cT_ne x.2.1 2) ?_
      refine RQ.blk 1 (pc' := 52) (lv' := [(4, .int (nI x.2.2.1.length)), (3, .int (nI x.1)), (2, .int (nI i)), (0, .ref 191), (1, .int (nI xs.length))]) (st' := [.ref 191]) (H' := _) (kc' := 0) (ks' := 0) rfl ?_
      refine RQ.get (ci := 4) rfl hG1 rfl rfl ?_
      refine RQ.blk 3 (pc' := 58) (lv' := [(4, .int (nI x.2.2.1.length)), (3, .int (nI x.1)), (2, .int (nI i)), (0, .ref 191), (1, .int (nI xs.length))]) (st' := [.int (nI x.1 + 2), .ref 72]) (H' := _) (kc' := 0) (ks' := 0) rfl ?_
      rw [show (nI x.1 + 2 : Int32) = nI (x.1 + 2) from nI_add x.1 2]
      refine RQ.blk 1 (pc' := 59) (lv' := [(4, .int (nI x.2.2.1.length)), (3, .int (nI x.1)), (2, .int (nI i)), (0, .ref 191), (1, .int (nI xs.length))]) (st' := [.int 2, .int (nI (x.1 + 2)), .ref 72]) (H' := _) (kc' := 0) (ks' := 0) rfl ?_
      refine RQ.call (v := some (.int (numI cf (x.1 + 2) 2 0))) (st' := []) rfl rfl rfl rfl rfl rfl (args_v [.int 2, .int (nI (x.1 + 2))] [] rfl rfl (Nat.le_of_ble_eq_true rfl) rfl hC1.1 (Nat.le_of_ble_eq_true rfl)) (rc_cnum (i := x.1 + 2) (k := 2) hC1.1 rfl hC1.2.1 (by omega) (by omega)) ?_
      rw [show numI cf (x.1 + 2) 2 0 = nI x.2.2.2.1 by rw [show (0 : Int32) = nI 0 from rfl, numI_be _ _ _ (by rw [E3, beN_beB0 (by omega)]; omega), E3, beN_beB0 (by omega)]]
      refine RQ.blk 2 (pc' := 65) (lv' := [(5, .int (nI x.2.2.2.1)), (4, .int (nI x.2.2.1.length)), (3, .int (nI x.1)), (2, .int (nI i)), (0, .ref 191), (1, .int (nI xs.length))]) (st' := [.ref 191]) (H' := _) (kc' := 0) (ks' := 0) rfl ?_
      refine RQ.get (ci := 4) rfl hG1 rfl rfl ?_
      refine RQ.blk 3 (pc' := 72) (lv' := [(5, .int (nI x.2.2.2.1)), (4, .int (nI x.2.2.1.length)), (3, .int (nI x.1)), (2, .int (nI i)), (0, .ref 191), (1, .int (nI xs.length))]) (st' := [.int (nI x.1 + 8), .ref 72]) (H' := _) (kc' := 0) (ks' := 0) rfl ?_
      rw [show (nI x.1 + 8 : Int32) = nI (x.1 + 8) from nI_add x.1 8]
      refine RQ.blk 1 (pc' := 73) (lv' := [(5, .int (nI x.2.2.2.1)), (4, .int (nI x.2.2.1.length)), (3, .int (nI x.1)), (2, .int (nI i)), (0, .ref 191), (1, .int (nI xs.length))]) (st' := [.ref 191, .int (nI (x.1 + 8)), .ref 72]) (H' := _) (kc' := 0) (ks' := 0) rfl ?_
      refine RQ.get (ci := 4) rfl hG1 rfl rfl ?_
      refine RQ.blk 2 (pc' := 79) (lv' := [(5, .int (nI x.2.2.2.1)), (4, .int (nI x.2.2.1.length)), (3, .int (nI x.1)), (2, .int (nI i)), (0, .ref 191), (1, .int (nI xs.length))]) (st' := [.int (nI x.2.2.1.length), .int 0, .ref 193, .int (nI (x.1 + 8)), .ref 72]) (H' := _) (kc' := 0) (ks' := 0) rfl ?_
      refine RQ.call (v := none) (st' := []) rfl rfl rfl rfl rfl rfl (args_v [.int (nI x.2.2.1.length), .int 0, .ref 193, .int (nI (x.1 + 8))] [] rfl rfl (Nat.le_of_ble_eq_true rfl) rfl hC1.1 (Nat.le_of_ble_eq_true rfl)) (rc_copyOut (a := 71) (b := 72) (c := 192) (i := x.1 + 8) (j := 0) (k := x.2.2.1.length) hC1.1 rfl hC1.2.1 (by omega) hg1 (by decide) (by omega) (by omega)) ?_
      have f2 : ∀ a, a ≠ 192 → (H1.set 192 (kB 41 (cpy cf (x.1 + 8) g1 0 x.2.2.1.length)))[a]? = H1[a]? := fun a a1 => set_far a1
      have hg2 : (H1.set 192 (kB 41 (cpy cf (x.1 + 8) g1 0 x.2.2.1.length)))[192]? = _ := get_set hg1
      generalize (H1.set 192 (kB 41 (cpy cf (x.1 + 8) g1 0 x.2.2.1.length))) = H2 at f2 hg2 ⊢
      have hC2 := hC1.far (H' := H2) (fun a a1 a2 => f2 a (by omega))
      have hV2 := hV1.far (H' := H2) (fun a a1 a2 => f2 a (by omega))
      have hG2 := (f2 190 (by decide)).trans hG1
      have hv2 := (f2 74 (by decide)).trans hv1
      have hky : sl (cpy cf (x.1 + 8) g1 0 x.2.2.1.length) 0 x.2.2.1.length = x.2.2.1 := by rw [sl_cpy]; exact E5
      refine RQ.blk 1 (pc' := 83) (lv' := [(5, .int (nI x.2.2.2.1)), (4, .int (nI x.2.2.1.length)), (3, .int (nI x.1)), (2, .int (nI i)), (0, .ref 191), (1, .int (nI xs.length))]) (st' := [.ref 191]) (H' := _) (kc' := 0) (ks' := 0) rfl ?_
      refine RQ.get (ci := 4) rfl hG2 rfl rfl ?_
      refine RQ.blk 1 (pc' := 87) (lv' := [(5, .int (nI x.2.2.2.1)), (4, .int (nI x.2.2.1.length)), (3, .int (nI x.1)), (2, .int (nI i)), (0, .ref 191), (1, .int (nI xs.length))]) (st' := [.ref 191, .ref 75]) (H' := _) (kc' := 0) (ks' := 0) rfl ?_
      refine RQ.get (ci := 4) rfl hG2 rfl rfl ?_
      refine RQ.blk 2 (pc' := 93) (lv' := [(5, .int (nI x.2.2.2.1)), (4, .int (nI x.2.2.1.length)), (3, .int (nI x.1)), (2, .int (nI i)), (0, .ref 191), (1, .int (nI xs.length))]) (st' := [.ref 191, .int (nI x.2.2.1.length), .ref 193, .ref 75]) (H' := _) (kc' := 0) (ks' := 0) rfl ?_
      refine RQ.get (ci := 4) rfl hG2 rfl rfl ?_
      refine RQ.blk 3 (pc' := 99) (lv' := [(5, .int (nI x.2.2.2.1)), (4, .int (nI x.2.2.1.length)), (3, .int (nI x.1)), (2, .int (nI i)), (0, .ref 191), (1, .int (nI xs.length))]) (st' := [.int (nI x.1 + 4), .ref 72, .int (nI x.2.2.1.length), .ref 193, .ref 75]) (H' := _) (kc' := 0) (ks' := 0) rfl ?_
      rw [show (nI x.1 + 4 : Int32) = nI (x.1 + 4) from nI_add x.1 4]
      refine RQ.blk 1 (pc' := 100) (lv' := [(5, .int (nI x.2.2.2.1)), (4, .int (nI x.2.2.1.length)), (3, .int (nI x.1)), (2, .int (nI i)), (0, .ref 191), (1, .int (nI xs.length))]) (st' := [.int 4, .int (nI (x.1 + 4)), .ref 72, .int (nI x.2.2.1.length), .ref 193, .ref 75]) (H' := _) (kc' := 0) (ks' := 0) rfl ?_
      refine RQ.call (v := some (.int (numI cf (x.1 + 4) 4 0))) (st' := [.int (nI x.2.2.1.length), .ref 193, .ref 75]) rfl rfl rfl rfl rfl rfl (args_v [.int 4, .int (nI (x.1 + 4))] [.int (nI x.2.2.1.length), .ref 193, .ref 75] rfl rfl (Nat.le_of_ble_eq_true rfl) rfl hC2.1 (Nat.le_of_ble_eq_true rfl)) (rc_cnum (i := x.1 + 4) (k := 4) hC2.1 rfl hC2.2.1 (by omega) (by omega)) ?_
      rw [show numI cf (x.1 + 4) 4 0 = nI x.2.2.2.2.1 by rw [show (0 : Int32) = nI 0 from rfl, numI_be _ _ _ (by rw [E4, beN_beB0 (by omega)]; omega), E4, beN_beB0 (by omega)]]
      refine RQ.blk 3 (pc' := 107) (lv' := [(5, .int (nI x.2.2.2.1)), (4, .int (nI x.2.2.1.length)), (3, .int (nI x.1)), (2, .int (nI i)), (0, .ref 191), (1, .int (nI xs.length))]) (st' := [.int 1, .int (nI x.2.2.2.1), .int (nI x.1), .int (nI x.2.2.2.2.1), .int (nI x.2.2.1.length), .ref 193, .ref 75]) (H' := _) (kc' := 0) (ks' := 0) rfl ?_
      have hss1 := foldR_ss hss (xs.take i)
      refine RQ.callN (st' := []) rfl rfl rfl rfl rfl rfl (args_v [.int 1, .int (nI x.2.2.2.1), .int (nI x.1), .int (nI x.2.2.2.2.1), .int (nI x.2.2.1.length), .ref 193] [] rfl rfl (Nat.le_of_ble_eq_true rfl) rfl hv2 (Nat.le_of_ble_eq_true rfl)) (rn_meet (a := 192) (na := 41) (n := x.2.2.1.length) (m := x.2.2.2.2.1) (pp := x.1) (l := (some x.2.2.2.1)) (b := true) hV2 hss1.one hg2 (by decide) (by decide) (by omega) R5 (by omega) R4 (by omega) (by show x.2.2.2.1 < 2 ^ 30; omega) (by rw [hky]; exact ks_room hss1 (fun v hv => by rcases foldR_mem _ _ hv with e | ⟨y, hy, e⟩; exact hKv v e; rw [e]; exact ((hR y (List.mem_of_mem_take hy)).1.2.2.2.2 (hR y (List.mem_of_mem_take hy)).2.1 (hR y (List.mem_of_mem_take hy)).2.2).2) R7 hKN)) (fun H3 hx3 => ?_)
      obtain ⟨hV3, f3⟩ := hx3
      rw [hky] at hV3
      refine RQ.blk 1 (pc' := 113) (lv' := [(2, .int (nI i + 1)), (5, .int (nI x.2.2.2.1)), (4, .int (nI x.2.2.1.length)), (3, .int (nI x.1)), (0, .ref 191), (1, .int (nI xs.length))]) (st' := []) (H' := _) (kc' := 0) (ks' := 0) rfl ?_
      rw [show (nI i + 1 : Int32) = nI (i + 1) from nI_add i 1]
      refine RQ.blk 1 (pc' := 2) (lv' := [(2, .int (nI (i + 1))), (5, .int (nI x.2.2.2.1)), (4, .int (nI x.2.2.1.length)), (3, .int (nI x.1)), (0, .ref 191), (1, .int (nI xs.length))]) (st' := []) (H' := _) (kc' := 0) (ks' := 0) rfl ?_
      refine RQ.pick (a := [(2, .int (nI (i + 1))), (0, .ref 191), (1, .int (nI xs.length))]) [0, 4, 5] [2, 5, 4, 3, 0, 1] rfl rfl (by decide) ?_
      have hfd : meetV (x.2.2.1, x.2.2.2.2.1, x.1, (some x.2.2.2.1), true) ((xs.take i).foldl meetR vs) = (xs.take (i + 1)).foldl meetR vs := by
        rw [List.take_add_one, hx]
        show _ = List.foldl meetR vs (xs.take i ++ [x])
        rw [List.foldl_append, List.foldl_cons, List.foldl_nil]
        show _ = meetV (x.2.2.1, x.2.2.2.2.1, x.1, (if x.2.1 = 2 then none else some x.2.2.2.1), true) _
        rw [if_neg hk2]
      rw [hfd] at hV3
      exact ih (i + 1) H3 ⟨by omega, hV3, ⟨_, (f3 192 (by decide)).trans hg2⟩, fun a a1 a2 => (f3 a a1).trans ((f2 a a2).trans (f1 a a1 a2))⟩ (by omega)
  ·
    have hie : i = xs.length := by omega
    rw [hie, List.take_of_length_le (Nat.le_refl _)] at hV1
    refine RQ.blk 2 (pc' := 4) (lv' := [(2, .int (nI i)), (0, .ref 191), (1, .int (nI xs.length))]) (st' := [.int (nI xs.length), .int (nI i)]) (H' := _) (kc' := 0) (ks' := 0) rfl ?_
    refine RQ.brT rfl rfl rfl (cT_ge i xs.length) ?_
    exact RQ.done (c := 0) (s := 0) rfl rfl rfl rfl ⟨_, rfl, hV1, ⟨_, hg1⟩, f1⟩
/-- a replay's state: what waits are records, what is known are known keys -/
def RpI (c : Nat → Int8) (B : Nat) (KS : List (List Nat)) (st : List (Nat × aRd) × Nat × List aV) : Prop := (∀ x ∈ st.1, RdOk c B KS x ∧ x.2.1 ≠ 3 ∧ x.2.1 ≠ 4) ∧ st.1.length ≤ 40 ∧ st.2.1 < 2 ^ 31 ∧ SS st.2.2 ∧ ∀ v ∈ st.2.2, v.1 ∈ KS
theorem RpI.step {c : Nat → Int8} {B : Nat} {KS : List (List Nat)} {st : List (Nat × aRd) × Nat × List aV} {x : Nat × aRd} (h : RpI c B KS st) (hx : RdOk c B KS x) : RpI c B KS (rpS st x) := by
  obtain ⟨h1, h2, h3, h4, h5⟩ := h
  unfold rpS
  split
  · split
    · refine ⟨fun y hy => absurd hy List.not_mem_nil, Nat.zero_le _, hx.2.1.2.2.2.2.1, foldR_ss h4 _, fun v hv => ?_⟩
      rcases foldR_mem _ _ hv with e | ⟨y, hy, e⟩
      · exact h5 v e
      · rw [e]
        exact ((h1 y hy).1.2.2.2.2 (h1 y hy).2.1 (h1 y hy).2.2).2
    · exact ⟨fun y hy => absurd hy List.not_mem_nil, Nat.zero_le _, h3, h4, h5⟩
  · split
    · rename_i hn3 hc
      refine ⟨fun y hy => ?_, ?_, h3, h4, h5⟩
      · rcases List.mem_append.mp hy with e | e
        · exact h1 y e
        · rw [List.mem_singleton.mp e]
          exact ⟨hx, hn3, hc.1⟩
      · show (st.1 ++ [x]).length ≤ 40
        rw [List.length_append, List.length_singleton]
        omega
    · exact ⟨h1, h2, h3, h4, h5⟩
theorem RpI.fold {c : Nat → Int8} {B : Nat} {KS : List (List Nat)} : ∀ {xs : List (Nat × aRd)} {st : List (Nat × aRd) × Nat × List aV}, RpI c B KS st → (∀ x ∈ xs, RdOk c B KS x) → RpI c B KS (xs.foldl rpS st)
  | [], _, h, _ => h
  | x :: t, st, h, hx => by
    show RpI c B KS (t.foldl rpS (rpS st x))
    exact RpI.fold (xs := t) (h.step (hx x List.mem_cons_self)) (fun y hy => hx y (List.mem_cons_of_mem _ hy))
theorem adL_get : ∀ {a : Nat} {rs : List aRd} {k : Nat} {r : aRd}, rs[k]? = some r → (adL a rs)[k]? = some (a + lenL (rs.take k), r)
  | a, [], k, r, h => by rw [List.getElem?_nil] at h; cases h
  | a, x :: rs, 0, r, h => by
    have h : x = r := Option.some.inj h
    show some (a, x) = some (a + 0, r)
    rw [h, Nat.add_zero]
  | a, x :: rs, k + 1, r, h => by
    show (adL (a + (encL x).length) rs)[k]? = some (a + ((encL x).length + lenL (rs.take k)), r)
    rw [adL_get (k := k) h, Nat.add_assoc]
theorem adL_len : ∀ {a : Nat} {rs : List aRd}, (adL a rs).length = rs.length
  | _, [] => rfl
  | a, x :: rs => by show (adL (a + (encL x).length) rs).length + 1 = _; rw [adL_len]; rfl
theorem lenL_take {rs : List aRd} {k : Nat} {r : aRd} (h : rs[k]? = some r) : lenL (rs.take (k + 1)) = lenL (rs.take k) + (encL r).length := by
  rw [List.take_add_one, h]
  show lenL (rs.take k ++ [r]) = _
  rw [lenL_app]
  rfl
theorem lenL_ge : ∀ (rs : List aRd), 9 * rs.length ≤ lenL rs
  | [] => Nat.le_refl _
  | x :: rs => by
    have h1 := lenL_ge rs
    have h2 := encL_len x
    show 9 * (rs.length + 1) ≤ (encL x).length + lenL rs
    omega
theorem lenL_le {rs : List aRd} {k : Nat} : lenL (rs.take k) ≤ lenL rs := by
  conv => rhs; rw [← List.take_append_drop k rs, lenL_app]
  omega
theorem fold_take {α β : Type} {f : β → α → β} {b : β} {l : List α} {k : Nat} {x : α} (h : l[k]? = some x) : (l.take (k + 1)).foldl f b = f ((l.take k).foldl f b) x := by
  rw [List.take_add_one, h]
  show (l.take k ++ [x]).foldl f b = _
  rw [List.foldl_append]
  rfl
theorem fm_take' {α β : Type} {l : List α} {f : α → List β} {i : Nat} {x : α} (h : l[i]? = some x) : (l.take (i + 1)).flatMap f = (l.take i).flatMap f ++ f x := by
  rw [List.take_add_one, h]
  show (l.take i ++ [x]).flatMap f = _
  rw [List.flatMap_append, List.flatMap_cons, List.flatMap_nil, List.append_nil]
set_option maxRecDepth 20000 in
theorem ri_replay {sc : Nat × (Nat → Int32)} {d mp hv N P : Nat} {H : aH} {B : Nat} {lgs : List Nat} {fr ff : Nat} {wr : Bool} {tp : Nat} {rs : List aR} {ms mt sq tu : Nat} {us : Nat → Bool} {cf : Nat → Int8} {tf : Nat → Nat} {pq : Option Nat} {bb : Nat} {KS : List (List Nat)} {vs : List aV} {gs : List aSg} (h : LayIs H B lgs fr ff wr tp rs ms mt sq tu us) (hB : B ≤ 128) (hG : H[190]? = some (kO 4 (logF mp hv))) (hC : ChipAt H B cf tf pq bb 0)  (hV : VersIs H N vs) (hss : SS vs) (hk : ∃ g, H[192]? = some (kB 41 g)) (hp : ∃ pe : Nat → Nat, H[193]? = some (kI 40 (fun j => nI (pe j)))) (hF : FrC cf lgs fr ff gs) (hR : ∀ x ∈ gs.flatMap flG, RdOk cf B KS x) (hlB : ∀ x ∈ lgs, x < B) (hff : ff ≤ 2048) (hP : P < 2 ^ 31) (hKv : ∀ v ∈ vs, v.1 ∈ KS) (hKN : KS.length ≤ N) : RI sc (d + 4) mr_185 [.ref 191, .int (nI P)] H (fun x H' => x = nI ((gs.flatMap flG).foldl rpS ([], P, vs)).2.1 ∧ VersIs H' N ((gs.flatMap flG).foldl rpS ([], P, vs)).2.2 ∧ (∃ g, H'[192]? = some (kB 41 g)) ∧ (∃ pe : Nat → Nat, H'[193]? = some (kI 40 (fun j => nI (pe j)))) ∧ ∀ a, ¬ (74 ≤ a ∧ a < 83) → a ≠ 192 → a ≠ 193 → H'[a]? = H[a]?) := by
  obtain ⟨lg, pi, hY, hlg, hlc, hRs⟩ := h
  obtain ⟨⟨Q, hQ, hQ2⟩, hpi, hinj, hrun, hall, hrl⟩ := hRs
  obtain ⟨F1, F2, F3, F4, F5⟩ := hF
  obtain ⟨pe0, hp⟩ := hp
  refine RI.of ?_
  refine RQ.blk 5 (pc' := 5) (lv' := [(3, .int 0), (2, .int (nI P)), (0, .ref 191), (1, .int (nI P))]) (st' := [.ref 191]) (H' := _) (kc' := 0) (ks' := 0) rfl ?_
  refine RQ.get (ci := 4) rfl hG rfl rfl ?_
  refine RQ.get (ci := 3) rfl hY.1 rfl rfl ?_
  refine RQ.blk 3 (pc' := 15) (lv' := [(4, .int (nI ff)), (3, .int 0), (2, .int (nI P)), (0, .ref 191), (1, .int (nI P))]) (st' := [.ref 191, .int 0]) (H' := _) (kc' := 0) (ks' := 0) rfl ?_
  refine RQ.get (ci := 4) rfl hG rfl rfl ?_
  refine RQ.get (ci := 3) rfl hY.1 rfl rfl ?_
  refine RQ.blk 1 (pc' := 22) (lv' := [(4, .int (nI ff)), (3, .int 0), (2, .int (nI P)), (0, .ref 191), (1, .int (nI P))]) (st' := [.ref 191, .int (nI lgs.length), .int 0]) (H' := _) (kc' := 0) (ks' := 0) rfl ?_
  refine RQ.get (ci := 4) rfl hG rfl rfl ?_
  refine RQ.get (ci := 3) rfl hY.1 rfl rfl ?_
  refine RQ.blk 1 (pc' := 29) (lv' := [(4, .int (nI ff)), (3, .int 0), (2, .int (nI P)), (0, .ref 191), (1, .int (nI P))]) (st' := [.int (nI lgs.length - nI fr), .int 0]) (H' := _) (kc' := 0) (ks' := 0) rfl ?_
  rw [show (nI lgs.length - nI fr : Int32) = nI (lgs.length - fr) from pk_sub (a := lgs.length) (b := fr) (by omega)]
  refine RQ.blk 1 (pc' := 32) (lv' := [(4, .int (nI ff)), (3, .int 0), (2, .int (nI P)), (0, .ref 191), (1, .int (nI P))]) (st' := [.int (if 0 < nI (lgs.length - fr) then nI (lgs.length - fr) else 0)]) (H' := _) (kc' := 0) (ks' := 0) rfl ?_
  rw [show (if 0 < nI (lgs.length - fr) then nI (lgs.length - fr) else 0 : Int32) = nI (max 0 (lgs.length - fr)) from maxI (a := 0) (b := (lgs.length - fr)) (by omega) (by omega)]
  rw [show max 0 (lgs.length - fr) = lgs.length - fr + 0 by omega]
  refine RQ.blk 1 (pc' := 34) (lv' := [(5, .int (nI (lgs.length - fr + 0))), (4, .int (nI ff)), (3, .int 0), (2, .int (nI P)), (0, .ref 191), (1, .int (nI P))]) (st' := []) (H' := _) (kc' := 0) (ks' := 0) rfl ?_
  refine RQ.while (S := Nat) (pc := 34) (fun j H' => j ≤ gs.length ∧ VersIs H' N (((gs.take j).flatMap flG).foldl rpS ([], P, vs)).2.2 ∧ (∃ g, H'[192]? = some (kB 41 g)) ∧ (∃ pe : Nat → Nat, H'[193]? = some (kI 40 (fun j => nI (pe j))) ∧ ∀ i x, (((gs.take j).flatMap flG).foldl rpS ([], P, vs)).1[i]? = some x → pe i = x.1) ∧ ∀ a, ¬ (74 ≤ a ∧ a < 83) → a ≠ 192 → a ≠ 193 → H'[a]? = H[a]?) (fun j => [(5, .int (nI (lgs.length - fr + j))), (4, .int (nI (if j = 0 then ff else 0))), (3, .int (nI ((((gs.take j).flatMap flG).foldl rpS ([], P, vs)).1.length))), (2, .int (nI ((((gs.take j).flatMap flG).foldl rpS ([], P, vs)).2.1))), (0, .ref 191), (1, .int (nI P))]) (fun j => gs.length - j) ?_ 0 H ⟨Nat.zero_le _, hV, hk, ⟨pe0, hp, fun i x hx => by rw [show ((((gs.take 0).flatMap flG).foldl rpS ([], P, vs))).1 = [] from rfl, List.getElem?_nil] at hx; cases hx⟩, fun a _ _ _ => rfl⟩
  rintro j H1 ⟨hj, hV1, hk1, ⟨pe1, hp1, hpe1⟩, f1⟩ ih
  have hG1 := (f1 190 (by decide) (by decide) (by decide)).trans hG
  have hC1 := hC.far (H' := H1) (fun a a1 a2 => f1 a (by omega) (by omega) (by omega))
  have hL1 : LayAt H1 (layF B lgs.length fr ff wr tp rs.length ms mt sq tu 0 0) B us lg := ⟨(f1 83 (by decide) (by decide) (by decide)).trans hY.1, (f1 86 (by decide) (by decide) (by decide)).trans hY.2.1, (f1 87 (by decide) (by decide) (by decide)).trans hY.2.2⟩
  have hI0 : RpI cf B KS (((gs.take j).flatMap flG).foldl rpS ([], P, vs)) := RpI.fold ⟨fun x hx => absurd hx List.not_mem_nil, Nat.zero_le _, hP, hss, hKv⟩ (fun x hx => hR x (by
    obtain ⟨s, hs, hxs⟩ := List.mem_flatMap.mp hx
    exact List.mem_flatMap.mpr ⟨s, List.mem_of_mem_take hs, hxs⟩))
  have hst : j < gs.length → ∀ s, gs[j]? = some s → (((gs.take (j + 1)).flatMap flG).foldl rpS ([], P, vs)) = (flG s).foldl rpS (((gs.take j).flatMap flG).foldl rpS ([], P, vs)) := fun hjl s hs => by
    rw [fm_take' hs, List.foldl_append]
  generalize hgen : (((gs.take j).flatMap flG).foldl rpS ([], P, vs)) = st0 at hV1 hpe1 hI0 hst ⊢
  by_cases hjl : j < gs.length
  ·
    obtain ⟨s, hs⟩ := lt_get hjl
    have hst := hst hjl s hs
    have hlj : lgs[lgs.length - fr + j]? = some s.1 := by
      have e : (gs.map (fun s => s.1))[j]? = some s.1 := by rw [List.getElem?_map, hs]; rfl
      rw [F3, List.getElem?_drop] at e
      exact e
    have hlt := get_lt hlj
    have hbB := hlB s.1 (List.mem_of_getElem? hlj)
    have ho := F4 j s hs
    obtain ⟨C1, C2, C3⟩ := F5 s (List.mem_of_getElem? hs)
    have C2' : s.2.1 + lenL s.2.2 ≤ 2048 := C2
    rw [← ho]
    refine RQ.blk 2 (pc' := 37) (lv' := [(5, .int (nI (lgs.length - fr + j))), (4, .int (nI s.2.1)), (3, .int (nI st0.1.length)), (2, .int (nI st0.2.1)), (0, .ref 191), (1, .int (nI P))]) (st' := [.ref 191, .int (nI (lgs.length - fr + j))]) (H' := _) (kc' := 0) (ks' := 0) rfl ?_
    refine RQ.get (ci := 4) rfl hG1 rfl rfl ?_
    refine RQ.get (ci := 3) rfl hL1.1 rfl rfl ?_
    refine RQ.brF rfl rfl rfl (cF_ge (lgs.length - fr + j) lgs.length) ?_
    refine RQ.blk 1 (pc' := 47) (lv' := [(5, .int (nI (lgs.length - fr + j))), (4, .int (nI s.2.1)), (3, .int (nI st0.1.length)), (2, .int (nI st0.2.1)), (0, .ref 191), (1, .int (nI P))]) (st' := [.ref 191]) (H' := _) (kc' := 0) (ks' := 0) rfl ?_
    refine RQ.get (ci := 4) rfl hG1 rfl rfl ?_
    refine RQ.get (ci := 3) rfl hL1.1 rfl rfl ?_
    refine RQ.blk 1 (pc' := 55) (lv' := [(5, .int (nI (lgs.length - fr + j))), (4, .int (nI s.2.1)), (3, .int (nI st0.1.length)), (2, .int (nI st0.2.1)), (0, .ref 191), (1, .int (nI P))]) (st' := [.int (nI (lgs.length - fr + j)), .ref 88]) (H' := _) (kc' := 0) (ks' := 0) rfl ?_
    refine RQ.ialdN (j := lgs.length - fr + j) rfl hL1.2.2 (by omega) (by omega) ?_
    rw [hlg _ _ hlj]
    refine RQ.blk 2 (pc' := 60) (lv' := [(5, .int (nI (lgs.length - fr + j))), (4, .int (nI s.2.1)), (3, .int (nI st0.1.length)), (2, .int (nI st0.2.1)), (0, .ref 191), (1, .int (nI P))]) (st' := [.int (nI s.1 * 2048)]) (H' := _) (kc' := 0) (ks' := 0) rfl ?_
    rw [show (nI s.1 * 2048 : Int32) = nI (s.1 * 2048) from pk_mul s.1 2048]
    refine RQ.blk 2 (pc' := 63) (lv' := [(5, .int (nI (lgs.length - fr + j))), (4, .int (nI s.2.1)), (3, .int (nI st0.1.length)), (2, .int (nI st0.2.1)), (0, .ref 191), (1, .int (nI P))]) (st' := [.int (nI (s.1 * 2048) + nI s.2.1)]) (H' := _) (kc' := 0) (ks' := 0) rfl ?_
    rw [show (nI (s.1 * 2048) + nI s.2.1 : Int32) = nI (s.1 * 2048 + s.2.1) from nI_add (s.1 * 2048) s.2.1]
    refine RQ.blk 2 (pc' := 66) (lv' := [(6, .int (nI (s.1 * 2048 + s.2.1))), (5, .int (nI (lgs.length - fr + j))), (4, .int (nI s.2.1)), (3, .int (nI st0.1.length)), (2, .int (nI st0.2.1)), (0, .ref 191), (1, .int (nI P))]) (st' := [.ref 191]) (H' := _) (kc' := 0) (ks' := 0) rfl ?_
    refine RQ.get (ci := 4) rfl hG1 rfl rfl ?_
    refine RQ.get (ci := 3) rfl hL1.1 rfl rfl ?_
    refine RQ.blk 1 (pc' := 74) (lv' := [(6, .int (nI (s.1 * 2048 + s.2.1))), (5, .int (nI (lgs.length - fr + j))), (4, .int (nI s.2.1)), (3, .int (nI st0.1.length)), (2, .int (nI st0.2.1)), (0, .ref 191), (1, .int (nI P))]) (st' := [.int (nI (lgs.length - fr + j)), .ref 88]) (H' := _) (kc' := 0) (ks' := 0) rfl ?_
    refine RQ.ialdN (j := lgs.length - fr + j) rfl hL1.2.2 (by omega) (by omega) ?_
    rw [hlg _ _ hlj]
    refine RQ.blk 2 (pc' := 77) (lv' := [(6, .int (nI (s.1 * 2048 + s.2.1))), (5, .int (nI (lgs.length - fr + j))), (4, .int (nI s.2.1)), (3, .int (nI st0.1.length)), (2, .int (nI st0.2.1)), (0, .ref 191), (1, .int (nI P))]) (st' := [.int (nI s.1 + 1)]) (H' := _) (kc' := 0) (ks' := 0) rfl ?_
    rw [show (nI s.1 + 1 : Int32) = nI (s.1 + 1) from nI_add s.1 1]
    refine RQ.blk 2 (pc' := 81) (lv' := [(6, .int (nI (s.1 * 2048 + s.2.1))), (5, .int (nI (lgs.length - fr + j))), (4, .int (nI s.2.1)), (3, .int (nI st0.1.length)), (2, .int (nI st0.2.1)), (0, .ref 191), (1, .int (nI P))]) (st' := [.int (nI (s.1 + 1) * 2048)]) (H' := _) (kc' := 0) (ks' := 0) rfl ?_
    rw [show (nI (s.1 + 1) * 2048 : Int32) = nI ((s.1 + 1) * 2048) from pk_mul (s.1 + 1) 2048]
    refine RQ.blk 5 (pc' := 89) (lv' := [(8, .int 0), (4, .int 0), (7, .int (nI ((s.1 + 1) * 2048))), (6, .int (nI (s.1 * 2048 + s.2.1))), (5, .int (nI (lgs.length - fr + j))), (3, .int (nI st0.1.length)), (2, .int (nI st0.2.1)), (0, .ref 191), (1, .int (nI P))]) (st' := []) (H' := _) (kc' := 0) (ks' := 0) rfl ?_
    refine RQ.pick (a := [(8, .int 0), (7, .int (nI ((s.1 + 1) * 2048))), (6, .int (nI (s.1 * 2048 + s.2.1))), (5, .int (nI (lgs.length - fr + j))), (4, .int 0), (3, .int (nI st0.1.length)), (2, .int (nI st0.2.1)), (0, .ref 191), (1, .int (nI P))]) [0, 2, 3, 4, 1, 5, 6, 7, 8] [8, 4, 7, 6, 5, 3, 2, 0, 1] rfl rfl (by decide) ?_
    refine RQ.while (S := Nat) (pc := 89) (fun k H' => k ≤ s.2.2.length ∧ VersIs H' N (((flG s).take k).foldl rpS st0).2.2 ∧ (∃ g, H'[192]? = some (kB 41 g)) ∧ (∃ pe : Nat → Nat, H'[193]? = some (kI 40 (fun j => nI (pe j))) ∧ ∀ i x, (((flG s).take k).foldl rpS st0).1[i]? = some x → pe i = x.1) ∧ ∀ a, ¬ (74 ≤ a ∧ a < 83) → a ≠ 192 → a ≠ 193 → H'[a]? = H[a]?) (fun k => [(8, .int (nI k)), (7, .int (nI ((s.1 + 1) * 2048))), (6, .int (nI (s.1 * 2048 + s.2.1 + lenL (s.2.2.take k)))), (5, .int (nI (lgs.length - fr + j))), (4, .int 0), (3, .int (nI ((((flG s).take k).foldl rpS st0).1.length))), (2, .int (nI ((((flG s).take k).foldl rpS st0).2.1))), (0, .ref 191), (1, .int (nI P))]) (fun k => s.2.2.length - k) ?_ 0 H1 ⟨Nat.zero_le _, hV1, hk1, ⟨pe1, hp1, hpe1⟩, f1⟩
    rintro k H2 ⟨hk, hV2, hk2, ⟨pe2, hp2, hpe2⟩, f2⟩ ih2
    have hG2 := (f2 190 (by decide) (by decide) (by decide)).trans hG
    have hC2 := hC.far (H' := H2) (fun a a1 a2 => f2 a (by omega) (by omega) (by omega))
    have hL2 : LayAt H2 (layF B lgs.length fr ff wr tp rs.length ms mt sq tu 0 0) B us lg := ⟨(f2 83 (by decide) (by decide) (by decide)).trans hY.1, (f2 86 (by decide) (by decide) (by decide)).trans hY.2.1, (f2 87 (by decide) (by decide) (by decide)).trans hY.2.2⟩
    have hmem : ∀ x ∈ flG s, x ∈ gs.flatMap flG := fun x hx => List.mem_flatMap.mpr ⟨s, List.mem_of_getElem? hs, hx⟩
    have hIk : RpI cf B KS (((flG s).take k).foldl rpS st0) := RpI.fold hI0 (fun x hx => hR x (hmem x (List.mem_of_mem_take hx)))
    have hall : k = s.2.2.length → (((flG s).take k).foldl rpS st0) = (((gs.take (j + 1)).flatMap flG).foldl rpS ([], P, vs)) := fun e => by
      rw [hst, e, List.take_of_length_le (show (flG s).length ≤ s.2.2.length from Nat.le_of_eq adL_len)]
    have hnx : ∀ r, s.2.2[k]? = some r → (((flG s).take (k + 1)).foldl rpS st0) = rpS (((flG s).take k).foldl rpS st0) (s.1 * 2048 + s.2.1 + lenL (s.2.2.take k), r) := fun r hr => fold_take (adL_get hr)
    have hge := lenL_ge s.2.2
    have hle := lenL_le (rs := s.2.2) (k := k)
    have hss2 : (((flG s).take k).foldl rpS st0).1 = _ := rfl
    clear hss2
    generalize hgk : (((flG s).take k).foldl rpS st0) = st at hV2 hpe2 hIk hall hnx ⊢
    obtain ⟨W1, W2, W3, W4, W5⟩ := id hIk
    by_cases hkl : k < s.2.2.length
    ·
      obtain ⟨r, hr⟩ := lt_get hkl
      have hnx := hnx r hr
      have hlt2 := lenL_take hr
      have hle2 := lenL_le (rs := s.2.2) (k := k + 1)
      have hrl := encL_len r
      have hxm : (s.1 * 2048 + s.2.1 + lenL (s.2.2.take k), r) ∈ flG s := List.mem_of_getElem? (adL_get hr)
      have hRd := hR _ (hmem _ hxm)
      generalize had : s.1 * 2048 + s.2.1 + lenL (s.2.2.take k) = ad at hnx hxm hRd ⊢
      obtain ⟨R1, R2, R3, R4, R5⟩ := id hRd
      have R1 : sl cf ad (encL r).length = encL r := R1
      have R2 : LOk r := R2
      have R3 : ad + (encL r).length ≤ B * 2048 := R3
      have hmd : ad % 2048 = s.2.1 + lenL (s.2.2.take k) := by omega
      have hwh := encL_whole R1 R2 (by rw [hmd]; omega)
      have hsz := encL_szR R1 R2
      obtain ⟨E1, E2, E3, E4, E5, E6, E7⟩ := encL_parts R1
      obtain ⟨L1, L2, L3, L4, L5, L6, L7⟩ := id R2
      refine RQ.blk 2 (pc' := 94) (lv' := [(8, .int (nI k)), (7, .int (nI ((s.1 + 1) * 2048))), (6, .int (nI ad)), (5, .int (nI (lgs.length - fr + j))), (4, .int 0), (3, .int (nI st.1.length)), (2, .int (nI st.2.1)), (0, .ref 191), (1, .int (nI P))]) (st' := [.int 2048, .int (nI k)]) (H' := _) (kc' := 0) (ks' := 0) rfl ?_
      refine RQ.brF rfl rfl rfl (cF_ge k 2048) ?_
      refine RQ.blk 2 (pc' := 101) (lv' := [(8, .int (nI k)), (7, .int (nI ((s.1 + 1) * 2048))), (6, .int (nI ad)), (5, .int (nI (lgs.length - fr + j))), (4, .int 0), (3, .int (nI st.1.length)), (2, .int (nI st.2.1)), (0, .ref 191), (1, .int (nI P))]) (st' := [.int (nI ((s.1 + 1) * 2048)), .int (nI ad)]) (H' := _) (kc' := 0) (ks' := 0) rfl ?_
      refine RQ.brF rfl rfl rfl (cF_ge ad ((s.1 + 1) * 2048)) ?_
      refine RQ.blk 2 (pc' := 107) (lv' := [(8, .int (nI k)), (7, .int (nI ((s.1 + 1) * 2048))), (6, .int (nI ad)), (5, .int (nI (lgs.length - fr + j))), (4, .int 0), (3, .int (nI st.1.length)), (2, .int (nI st.2.1)), (0, .ref 191), (1, .int (nI P))]) (st' := [.int (nI ad), .ref 191]) (H' := _) (kc' := 0) (ks' := 0) rfl ?_
      refine RQ.call (v := some (.int (if wholeR cf ad = true then 1 else 0))) (st' := []) rfl rfl rfl rfl rfl rfl (args_v [.int (nI ad)] [] rfl rfl (Nat.le_of_ble_eq_true rfl) rfl hG2 (Nat.le_of_ble_eq_true rfl)) (rc_isWhole hG2 hC2 hB (by omega)) ?_
      rw [if_pos hwh]
      refine RQ.brF rfl rfl rfl (by decide) ?_
      refine RQ.blk 1 (pc' := 114) (lv' := [(8, .int (nI k)), (7, .int (nI ((s.1 + 1) * 2048))), (6, .int (nI ad)), (5, .int (nI (lgs.length - fr + j))), (4, .int 0), (3, .int (nI st.1.length)), (2, .int (nI st.2.1)), (0, .ref 191), (1, .int (nI P))]) (st' := [.ref 191]) (H' := _) (kc' := 0) (ks' := 0) rfl ?_
      refine RQ.get (ci := 4) rfl hG2 rfl rfl ?_
      refine RQ.blk 1 (pc' := 119) (lv' := [(8, .int (nI k)), (7, .int (nI ((s.1 + 1) * 2048))), (6, .int (nI ad)), (5, .int (nI (lgs.length - fr + j))), (4, .int 0), (3, .int (nI st.1.length)), (2, .int (nI st.2.1)), (0, .ref 191), (1, .int (nI P))]) (st' := [.int (nI ad), .ref 72]) (H' := _) (kc' := 0) (ks' := 0) rfl ?_
      refine RQ.call (v := some (.int (nI (ub (cf ad))))) (st' := []) rfl rfl rfl rfl rfl rfl (args_v [.int (nI ad)] [] rfl rfl (Nat.le_of_ble_eq_true rfl) rfl hC2.1 (Nat.le_of_ble_eq_true rfl)) (rc_cat (i := ad) hC2.1 rfl hC2.2.1 (by omega) (by omega)) ?_
      rw [E1]
      refine RQ.blk 3 (pc' := 127) (lv' := [(9, .int (nI r.1)), (8, .int (nI k)), (7, .int (nI ((s.1 + 1) * 2048))), (6, .int (nI ad)), (5, .int (nI (lgs.length - fr + j))), (4, .int 0), (3, .int (nI st.1.length)), (2, .int (nI st.2.1)), (0, .ref 191), (1, .int (nI P))]) (st' := [.int 3, .int (nI r.1)]) (H' := _) (kc' := 0) (ks' := 0) rfl ?_
      by_cases hk3 : r.1 = 3
      · refine RQ.brF rfl rfl rfl (cF_ne r.1 3) ?_
        refine RQ.blk 1 (pc' := 131) (lv' := [(9, .int (nI r.1)), (8, .int (nI k)), (7, .int (nI ((s.1 + 1) * 2048))), (6, .int (nI ad)), (5, .int (nI (lgs.length - fr + j))), (4, .int 0), (3, .int (nI st.1.length)), (2, .int (nI st.2.1)), (0, .ref 191), (1, .int (nI P))]) (st' := [.ref 191]) (H' := _) (kc' := 0) (ks' := 0) rfl ?_
        refine RQ.get (ci := 4) rfl hG2 rfl rfl ?_
        refine RQ.blk 3 (pc' := 138) (lv' := [(9, .int (nI r.1)), (8, .int (nI k)), (7, .int (nI ((s.1 + 1) * 2048))), (6, .int (nI ad)), (5, .int (nI (lgs.length - fr + j))), (4, .int 0), (3, .int (nI st.1.length)), (2, .int (nI st.2.1)), (0, .ref 191), (1, .int (nI P))]) (st' := [.int (nI ad + 2), .ref 72]) (H' := _) (kc' := 0) (ks' := 0) rfl ?_
        rw [show (nI ad + 2 : Int32) = nI (ad + 2) from nI_add ad 2]
        refine RQ.blk 1 (pc' := 139) (lv' := [(9, .int (nI r.1)), (8, .int (nI k)), (7, .int (nI ((s.1 + 1) * 2048))), (6, .int (nI ad)), (5, .int (nI (lgs.length - fr + j))), (4, .int 0), (3, .int (nI st.1.length)), (2, .int (nI st.2.1)), (0, .ref 191), (1, .int (nI P))]) (st' := [.int 2, .int (nI (ad + 2)), .ref 72]) (H' := _) (kc' := 0) (ks' := 0) rfl ?_
        refine RQ.call (v := some (.int (numI cf (ad + 2) 2 0))) (st' := []) rfl rfl rfl rfl rfl rfl (args_v [.int 2, .int (nI (ad + 2))] [] rfl rfl (Nat.le_of_ble_eq_true rfl) rfl hC2.1 (Nat.le_of_ble_eq_true rfl)) (rc_cnum (i := ad + 2) (k := 2) hC2.1 rfl hC2.2.1 (by omega) (by omega)) ?_
        rw [show numI cf (ad + 2) 2 0 = nI r.2.2.1 by rw [show (0 : Int32) = nI 0 from rfl, numI_be _ _ _ (by rw [E3, beN_beB0 (by omega)]; omega), E3, beN_beB0 (by omega)]]
        refine RQ.blk 1 (pc' := 143) (lv' := [(9, .int (nI r.1)), (8, .int (nI k)), (7, .int (nI ((s.1 + 1) * 2048))), (6, .int (nI ad)), (5, .int (nI (lgs.length - fr + j))), (4, .int 0), (3, .int (nI st.1.length)), (2, .int (nI st.2.1)), (0, .ref 191), (1, .int (nI P))]) (st' := [.int (nI st.1.length), .int (nI r.2.2.1)]) (H' := _) (kc' := 0) (ks' := 0) rfl ?_
        by_cases hkq : r.2.2.1 = st.1.length
        · refine RQ.brF rfl rfl rfl (cF_ne r.2.2.1 st.1.length) ?_
          refine RQ.blk 1 (pc' := 147) (lv' := [(9, .int (nI r.1)), (8, .int (nI k)), (7, .int (nI ((s.1 + 1) * 2048))), (6, .int (nI ad)), (5, .int (nI (lgs.length - fr + j))), (4, .int 0), (3, .int (nI st.1.length)), (2, .int (nI st.2.1)), (0, .ref 191), (1, .int (nI P))]) (st' := [.ref 191]) (H' := _) (kc' := 0) (ks' := 0) rfl ?_
          refine RQ.get (ci := 4) rfl hG2 rfl rfl ?_
          refine RQ.blk 3 (pc' := 154) (lv' := [(9, .int (nI r.1)), (8, .int (nI k)), (7, .int (nI ((s.1 + 1) * 2048))), (6, .int (nI ad)), (5, .int (nI (lgs.length - fr + j))), (4, .int 0), (3, .int (nI st.1.length)), (2, .int (nI st.2.1)), (0, .ref 191), (1, .int (nI P))]) (st' := [.int (nI ad + 4), .ref 72]) (H' := _) (kc' := 0) (ks' := 0) rfl ?_
          rw [show (nI ad + 4 : Int32) = nI (ad + 4) from nI_add ad 4]
          refine RQ.blk 1 (pc' := 155) (lv' := [(9, .int (nI r.1)), (8, .int (nI k)), (7, .int (nI ((s.1 + 1) * 2048))), (6, .int (nI ad)), (5, .int (nI (lgs.length - fr + j))), (4, .int 0), (3, .int (nI st.1.length)), (2, .int (nI st.2.1)), (0, .ref 191), (1, .int (nI P))]) (st' := [.int 4, .int (nI (ad + 4)), .ref 72]) (H' := _) (kc' := 0) (ks' := 0) rfl ?_
          refine RQ.call (v := some (.int (numI cf (ad + 4) 4 0))) (st' := []) rfl rfl rfl rfl rfl rfl (args_v [.int 4, .int (nI (ad + 4))] [] rfl rfl (Nat.le_of_ble_eq_true rfl) rfl hC2.1 (Nat.le_of_ble_eq_true rfl)) (rc_cnum (i := ad + 4) (k := 4) hC2.1 rfl hC2.2.1 (by omega) (by omega)) ?_
          rw [show numI cf (ad + 4) 4 0 = nI r.2.2.2.1 by rw [show (0 : Int32) = nI 0 from rfl, numI_be _ _ _ (by rw [E4, beN_beB0 (by omega)]; omega), E4, beN_beB0 (by omega)]]
          refine RQ.blk 3 (pc' := 161) (lv' := [(2, .int (nI r.2.2.2.1)), (9, .int (nI r.1)), (8, .int (nI k)), (7, .int (nI ((s.1 + 1) * 2048))), (6, .int (nI ad)), (5, .int (nI (lgs.length - fr + j))), (4, .int 0), (3, .int (nI st.1.length)), (0, .ref 191), (1, .int (nI P))]) (st' := [.int (nI st.1.length), .ref 191]) (H' := _) (kc' := 0) (ks' := 0) rfl ?_
          refine RQ.callN (st' := []) rfl rfl rfl rfl rfl rfl (args_v [.int (nI st.1.length)] [] rfl rfl (Nat.le_of_ble_eq_true rfl) rfl hG2 (Nat.le_of_ble_eq_true rfl)) (rn_pending (d := d) hG2 hC2 hB hV2 W4 hk2 hp2 hpe2 W2 W1 W5 hKN) (fun H3 hx3 => ?_)
          obtain ⟨hV3, hk3', f3⟩ := hx3
          have hG3 := (f3 190 (by decide) (by decide)).trans hG2
          have hC3 := hC2.far (H' := H3) (fun a a1 a2 => f3 a (by omega) (by omega))
          have hL3 : LayAt H3 (layF B lgs.length fr ff wr tp rs.length ms mt sq tu 0 0) B us lg := ⟨(f3 83 (by decide) (by decide)).trans hL2.1, (f3 86 (by decide) (by decide)).trans hL2.2.1, (f3 87 (by decide) (by decide)).trans hL2.2.2⟩
          have hp3 := (f3 193 (by decide) (by decide)).trans hp2
          refine RQ.blk 6 (pc' := 200) (lv' := [(3, .int 0), (2, .int (nI r.2.2.2.1)), (9, .int (nI r.1)), (8, .int (nI k)), (7, .int (nI ((s.1 + 1) * 2048))), (6, .int (nI ad)), (5, .int (nI (lgs.length - fr + j))), (4, .int 0), (0, .ref 191), (1, .int (nI P))]) (st' := [.int (nI ad), .ref 191, .int (nI ad)]) (H' := _) (kc' := 0) (ks' := 0) rfl ?_
          refine RQ.call (v := some (.int (nI (szR cf ad)))) (st' := [.int (nI ad)]) rfl rfl rfl rfl rfl rfl (args_v [.int (nI ad)] [.int (nI ad)] rfl rfl (Nat.le_of_ble_eq_true rfl) rfl hG3 (Nat.le_of_ble_eq_true rfl)) (rc_sizeAt hG3 hC3 hB (by omega)) ?_
          rw [hsz]
          refine RQ.blk 1 (pc' := 204) (lv' := [(3, .int 0), (2, .int (nI r.2.2.2.1)), (9, .int (nI r.1)), (8, .int (nI k)), (7, .int (nI ((s.1 + 1) * 2048))), (6, .int (nI ad)), (5, .int (nI (lgs.length - fr + j))), (4, .int 0), (0, .ref 191), (1, .int (nI P))]) (st' := [.int (nI ad + nI ((encL r).length))]) (H' := _) (kc' := 0) (ks' := 0) rfl ?_
          rw [show (nI ad + nI ((encL r).length) : Int32) = nI (ad + ((encL r).length)) from nI_add ad ((encL r).length)]
          refine RQ.blk 2 (pc' := 209) (lv' := [(8, .int (nI k + 1)), (6, .int (nI (ad + ((encL r).length)))), (3, .int 0), (2, .int (nI r.2.2.2.1)), (9, .int (nI r.1)), (7, .int (nI ((s.1 + 1) * 2048))), (5, .int (nI (lgs.length - fr + j))), (4, .int 0), (0, .ref 191), (1, .int (nI P))]) (st' := []) (H' := _) (kc' := 0) (ks' := 0) rfl ?_
          rw [show (nI k + 1 : Int32) = nI (k + 1) from nI_add k 1]
          refine RQ.blk 1 (pc' := 89) (lv' := [(8, .int (nI (k + 1))), (6, .int (nI (ad + ((encL r).length)))), (3, .int 0), (2, .int (nI r.2.2.2.1)), (9, .int (nI r.1)), (7, .int (nI ((s.1 + 1) * 2048))), (5, .int (nI (lgs.length - fr + j))), (4, .int 0), (0, .ref 191), (1, .int (nI P))]) (st' := []) (H' := _) (kc' := 0) (ks' := 0) rfl ?_
          have hnew : rpS st (ad, r) = ([], r.2.2.2.1, st.1.foldl meetR st.2.2) := (if_pos hk3).trans (if_pos hkq)
          rw [hnew] at hnx
          skip
          refine RQ.pick (a := [(8, .int (nI (k + 1))), (7, .int (nI ((s.1 + 1) * 2048))), (6, .int (nI (ad + ((encL r).length)))), (5, .int (nI (lgs.length - fr + j))), (4, .int 0), (3, .int 0), (2, .int (nI r.2.2.2.1)), (0, .ref 191), (1, .int (nI P))]) [0, 5, 1, 6, 7, 2, 3, 8, 9] [8, 6, 3, 2, 9, 7, 5, 4, 0, 1] rfl rfl (by decide) ?_
          have hih := ih2 (k + 1) H3
          rw [hnx, hlt2, ← Nat.add_assoc, had] at hih
          exact hih ⟨by omega, hV3, hk3', ⟨pe2, hp3, fun i x hx => by rw [show (([], r.2.2.2.1, st.1.foldl meetR st.2.2) : List (Nat × aRd) × Nat × List aV).1 = [] from rfl, List.getElem?_nil] at hx; cases hx⟩, fun a a1 a2 a3 => (f3 a a1 a2).trans (f2 a a1 a2 a3)⟩ (by omega)
        · refine RQ.brT rfl rfl rfl (cT_ne r.2.2.1 st.1.length) ?_
          refine RQ.blk 6 (pc' := 200) (lv' := [(3, .int 0), (9, .int (nI r.1)), (8, .int (nI k)), (7, .int (nI ((s.1 + 1) * 2048))), (6, .int (nI ad)), (5, .int (nI (lgs.length - fr + j))), (4, .int 0), (2, .int (nI st.2.1)), (0, .ref 191), (1, .int (nI P))]) (st' := [.int (nI ad), .ref 191, .int (nI ad)]) (H' := _) (kc' := 0) (ks' := 0) rfl ?_
          refine RQ.call (v := some (.int (nI (szR cf ad)))) (st' := [.int (nI ad)]) rfl rfl rfl rfl rfl rfl (args_v [.int (nI ad)] [.int (nI ad)] rfl rfl (Nat.le_of_ble_eq_true rfl) rfl hG2 (Nat.le_of_ble_eq_true rfl)) (rc_sizeAt hG2 hC2 hB (by omega)) ?_
          rw [hsz]
          refine RQ.blk 1 (pc' := 204) (lv' := [(3, .int 0), (9, .int (nI r.1)), (8, .int (nI k)), (7, .int (nI ((s.1 + 1) * 2048))), (6, .int (nI ad)), (5, .int (nI (lgs.length - fr + j))), (4, .int 0), (2, .int (nI st.2.1)), (0, .ref 191), (1, .int (nI P))]) (st' := [.int (nI ad + nI ((encL r).length))]) (H' := _) (kc' := 0) (ks' := 0) rfl ?_
          rw [show (nI ad + nI ((encL r).length) : Int32) = nI (ad + ((encL r).length)) from nI_add ad ((encL r).length)]
          refine RQ.blk 2 (pc' := 209) (lv' := [(8, .int (nI k + 1)), (6, .int (nI (ad + ((encL r).length)))), (3, .int 0), (9, .int (nI r.1)), (7, .int (nI ((s.1 + 1) * 2048))), (5, .int (nI (lgs.length - fr + j))), (4, .int 0), (2, .int (nI st.2.1)), (0, .ref 191), (1, .int (nI P))]) (st' := []) (H' := _) (kc' := 0) (ks' := 0) rfl ?_
          rw [show (nI k + 1 : Int32) = nI (k + 1) from nI_add k 1]
          refine RQ.blk 1 (pc' := 89) (lv' := [(8, .int (nI (k + 1))), (6, .int (nI (ad + ((encL r).length)))), (3, .int 0), (9, .int (nI r.1)), (7, .int (nI ((s.1 + 1) * 2048))), (5, .int (nI (lgs.length - fr + j))), (4, .int 0), (2, .int (nI st.2.1)), (0, .ref 191), (1, .int (nI P))]) (st' := []) (H' := _) (kc' := 0) (ks' := 0) rfl ?_
          have hnew : rpS st (ad, r) = ([], st.2.1, st.2.2) := (if_pos hk3).trans (if_neg hkq)
          rw [hnew] at hnx
          skip
          refine RQ.pick (a := [(8, .int (nI (k + 1))), (7, .int (nI ((s.1 + 1) * 2048))), (6, .int (nI (ad + ((encL r).length)))), (5, .int (nI (lgs.length - fr + j))), (4, .int 0), (3, .int 0), (2, .int (nI st.2.1)), (0, .ref 191), (1, .int (nI P))]) [0, 4, 1, 5, 6, 2, 7, 8, 9] [8, 6, 3, 9, 7, 5, 4, 2, 0, 1] rfl rfl (by decide) ?_
          have hih := ih2 (k + 1) H2
          rw [hnx, hlt2, ← Nat.add_assoc, had] at hih
          exact hih ⟨by omega, hV2, hk2, ⟨pe2, hp2, fun i x hx => by rw [show (([], st.2.1, st.2.2) : List (Nat × aRd) × Nat × List aV).1 = [] from rfl, List.getElem?_nil] at hx; cases hx⟩, f2⟩ (by omega)
      · refine RQ.brT rfl rfl rfl (cT_ne r.1 3) ?_
        refine RQ.blk 2 (pc' := 172) (lv' := [(9, .int (nI r.1)), (8, .int (nI k)), (7, .int (nI ((s.1 + 1) * 2048))), (6, .int (nI ad)), (5, .int (nI (lgs.length - fr + j))), (4, .int 0), (3, .int (nI st.1.length)), (2, .int (nI st.2.1)), (0, .ref 191), (1, .int (nI P))]) (st' := [.int 4, .int (nI r.1)]) (H' := _) (kc' := 0) (ks' := 0) rfl ?_
        by_cases hk4 : r.1 = 4
        · refine RQ.brT rfl rfl rfl (cT_eq r.1 4) ?_
          refine RQ.blk 3 (pc' := 200) (lv' := [(9, .int (nI r.1)), (8, .int (nI k)), (7, .int (nI ((s.1 + 1) * 2048))), (6, .int (nI ad)), (5, .int (nI (lgs.length - fr + j))), (4, .int 0), (3, .int (nI st.1.length)), (2, .int (nI st.2.1)), (0, .ref 191), (1, .int (nI P))]) (st' := [.int (nI ad), .ref 191, .int (nI ad)]) (H' := _) (kc' := 0) (ks' := 0) rfl ?_
          refine RQ.call (v := some (.int (nI (szR cf ad)))) (st' := [.int (nI ad)]) rfl rfl rfl rfl rfl rfl (args_v [.int (nI ad)] [.int (nI ad)] rfl rfl (Nat.le_of_ble_eq_true rfl) rfl hG2 (Nat.le_of_ble_eq_true rfl)) (rc_sizeAt hG2 hC2 hB (by omega)) ?_
          rw [hsz]
          refine RQ.blk 1 (pc' := 204) (lv' := [(9, .int (nI r.1)), (8, .int (nI k)), (7, .int (nI ((s.1 + 1) * 2048))), (6, .int (nI ad)), (5, .int (nI (lgs.length - fr + j))), (4, .int 0), (3, .int (nI st.1.length)), (2, .int (nI st.2.1)), (0, .ref 191), (1, .int (nI P))]) (st' := [.int (nI ad + nI ((encL r).length))]) (H' := _) (kc' := 0) (ks' := 0) rfl ?_
          rw [show (nI ad + nI ((encL r).length) : Int32) = nI (ad + ((encL r).length)) from nI_add ad ((encL r).length)]
          refine RQ.blk 2 (pc' := 209) (lv' := [(8, .int (nI k + 1)), (6, .int (nI (ad + ((encL r).length)))), (9, .int (nI r.1)), (7, .int (nI ((s.1 + 1) * 2048))), (5, .int (nI (lgs.length - fr + j))), (4, .int 0), (3, .int (nI st.1.length)), (2, .int (nI st.2.1)), (0, .ref 191), (1, .int (nI P))]) (st' := []) (H' := _) (kc' := 0) (ks' := 0) rfl ?_
          rw [show (nI k + 1 : Int32) = nI (k + 1) from nI_add k 1]
          refine RQ.blk 1 (pc' := 89) (lv' := [(8, .int (nI (k + 1))), (6, .int (nI (ad + ((encL r).length)))), (9, .int (nI r.1)), (7, .int (nI ((s.1 + 1) * 2048))), (5, .int (nI (lgs.length - fr + j))), (4, .int 0), (3, .int (nI st.1.length)), (2, .int (nI st.2.1)), (0, .ref 191), (1, .int (nI P))]) (st' := []) (H' := _) (kc' := 0) (ks' := 0) rfl ?_
          have hnew : rpS st (ad, r) = st := (if_neg hk3).trans (if_neg (fun e => e.1 hk4))
          rw [hnew] at hnx
          skip
          refine RQ.pick (a := [(8, .int (nI (k + 1))), (7, .int (nI ((s.1 + 1) * 2048))), (6, .int (nI (ad + ((encL r).length)))), (5, .int (nI (lgs.length - fr + j))), (4, .int 0), (3, .int (nI st.1.length)), (2, .int (nI st.2.1)), (0, .ref 191), (1, .int (nI P))]) [0, 3, 1, 4, 5, 6, 7, 8, 9] [8, 6, 9, 7, 5, 4, 3, 2, 0, 1] rfl rfl (by decide) ?_
          have hih := ih2 (k + 1) H2
          rw [hnx, hlt2, ← Nat.add_assoc, had] at hih
          exact hih ⟨by omega, hV2, hk2, ⟨pe2, hp2, hpe2⟩, f2⟩ (by omega)
        · refine RQ.brF rfl rfl rfl (cF_eq r.1 4) ?_
          refine RQ.blk 2 (pc' := 177) (lv' := [(9, .int (nI r.1)), (8, .int (nI k)), (7, .int (nI ((s.1 + 1) * 2048))), (6, .int (nI ad)), (5, .int (nI (lgs.length - fr + j))), (4, .int 0), (3, .int (nI st.1.length)), (2, .int (nI st.2.1)), (0, .ref 191), (1, .int (nI P))]) (st' := [.ref 191, .int (nI st.1.length)]) (H' := _) (kc' := 0) (ks' := 0) rfl ?_
          refine RQ.get (ci := 4) rfl hG2 rfl rfl ?_
          refine RQ.len rfl hp2 rfl ?_
          by_cases hk40 : st.1.length < 40
          · refine RQ.brF rfl rfl rfl (cF_ge st.1.length 40) ?_
            refine RQ.blk 1 (pc' := 185) (lv' := [(9, .int (nI r.1)), (8, .int (nI k)), (7, .int (nI ((s.1 + 1) * 2048))), (6, .int (nI ad)), (5, .int (nI (lgs.length - fr + j))), (4, .int 0), (3, .int (nI st.1.length)), (2, .int (nI st.2.1)), (0, .ref 191), (1, .int (nI P))]) (st' := [.ref 191]) (H' := _) (kc' := 0) (ks' := 0) rfl ?_
            refine RQ.get (ci := 4) rfl hG2 rfl rfl ?_
            refine RQ.blk 2 (pc' := 191) (lv' := [(9, .int (nI r.1)), (8, .int (nI k)), (7, .int (nI ((s.1 + 1) * 2048))), (6, .int (nI ad)), (5, .int (nI (lgs.length - fr + j))), (4, .int 0), (3, .int (nI st.1.length)), (2, .int (nI st.2.1)), (0, .ref 191), (1, .int (nI P))]) (st' := [.int (nI ad), .int (nI st.1.length), .ref 194]) (H' := _) (kc' := 0) (ks' := 0) rfl ?_
            refine RQ.iastN (j := st.1.length) rfl hp2 (by omega) (by decide) ?_
            rw [up_nI]
            refine RQ.blk 1 (pc' := 195) (lv' := [(3, .int (nI st.1.length + 1)), (9, .int (nI r.1)), (8, .int (nI k)), (7, .int (nI ((s.1 + 1) * 2048))), (6, .int (nI ad)), (5, .int (nI (lgs.length - fr + j))), (4, .int 0), (2, .int (nI st.2.1)), (0, .ref 191), (1, .int (nI P))]) (st' := []) (H' := _) (kc' := 0) (ks' := 0) rfl ?_
            rw [show (nI st.1.length + 1 : Int32) = nI (st.1.length + 1) from nI_add st.1.length 1]
            refine RQ.blk 3 (pc' := 200) (lv' := [(3, .int (nI (st.1.length + 1))), (9, .int (nI r.1)), (8, .int (nI k)), (7, .int (nI ((s.1 + 1) * 2048))), (6, .int (nI ad)), (5, .int (nI (lgs.length - fr + j))), (4, .int 0), (2, .int (nI st.2.1)), (0, .ref 191), (1, .int (nI P))]) (st' := [.int (nI ad), .ref 191, .int (nI ad)]) (H' := _) (kc' := 0) (ks' := 0) rfl ?_
            have hG4 : (H2.set 193 (kI 40 (fun j => nI (va_up pe2 st.1.length ad j))))[190]? = _ := (set_far (by decide)).trans hG2
            have hC4 := hC2.far (H' := (H2.set 193 (kI 40 (fun j => nI (va_up pe2 st.1.length ad j))))) (fun a a1 a2 => set_far (by omega))
            refine RQ.call (v := some (.int (nI (szR cf ad)))) (st' := [.int (nI ad)]) rfl rfl rfl rfl rfl rfl (args_v [.int (nI ad)] [.int (nI ad)] rfl rfl (Nat.le_of_ble_eq_true rfl) rfl ((set_far (by decide)).trans hG2) (Nat.le_of_ble_eq_true rfl)) (rc_sizeAt hG4 hC4 hB (by omega)) ?_
            rw [hsz]
            refine RQ.blk 1 (pc' := 204) (lv' := [(3, .int (nI (st.1.length + 1))), (9, .int (nI r.1)), (8, .int (nI k)), (7, .int (nI ((s.1 + 1) * 2048))), (6, .int (nI ad)), (5, .int (nI (lgs.length - fr + j))), (4, .int 0), (2, .int (nI st.2.1)), (0, .ref 191), (1, .int (nI P))]) (st' := [.int (nI ad + nI ((encL r).length))]) (H' := _) (kc' := 0) (ks' := 0) rfl ?_
            rw [show (nI ad + nI ((encL r).length) : Int32) = nI (ad + ((encL r).length)) from nI_add ad ((encL r).length)]
            refine RQ.blk 2 (pc' := 209) (lv' := [(8, .int (nI k + 1)), (6, .int (nI (ad + ((encL r).length)))), (3, .int (nI (st.1.length + 1))), (9, .int (nI r.1)), (7, .int (nI ((s.1 + 1) * 2048))), (5, .int (nI (lgs.length - fr + j))), (4, .int 0), (2, .int (nI st.2.1)), (0, .ref 191), (1, .int (nI P))]) (st' := []) (H' := _) (kc' := 0) (ks' := 0) rfl ?_
            rw [show (nI k + 1 : Int32) = nI (k + 1) from nI_add k 1]
            refine RQ.blk 1 (pc' := 89) (lv' := [(8, .int (nI (k + 1))), (6, .int (nI (ad + ((encL r).length)))), (3, .int (nI (st.1.length + 1))), (9, .int (nI r.1)), (7, .int (nI ((s.1 + 1) * 2048))), (5, .int (nI (lgs.length - fr + j))), (4, .int 0), (2, .int (nI st.2.1)), (0, .ref 191), (1, .int (nI P))]) (st' := []) (H' := _) (kc' := 0) (ks' := 0) rfl ?_
            have hnew : rpS st (ad, r) = (st.1 ++ [(ad, r)], st.2.1, st.2.2) := (if_neg hk3).trans (if_pos ⟨hk4, hk40⟩)
            rw [hnew] at hnx
            skip
            refine RQ.pick (a := [(8, .int (nI (k + 1))), (7, .int (nI ((s.1 + 1) * 2048))), (6, .int (nI (ad + ((encL r).length)))), (5, .int (nI (lgs.length - fr + j))), (4, .int 0), (3, .int (nI (st.1.length + 1))), (2, .int (nI st.2.1)), (0, .ref 191), (1, .int (nI P))]) [0, 4, 1, 5, 6, 2, 7, 8, 9] [8, 6, 3, 9, 7, 5, 4, 2, 0, 1] rfl rfl (by decide) ?_
            have hih := ih2 (k + 1) (H2.set 193 (kI 40 (fun j => nI (va_up pe2 st.1.length ad j))))
            rw [hnx, hlt2, ← Nat.add_assoc, had] at hih
            rw [show ((st.1 ++ [(ad, r)], st.2.1, st.2.2) : List (Nat × aRd) × Nat × List aV).1.length = st.1.length + 1 from List.length_append] at hih
            refine hih ⟨by omega, hV2.far (fun a a1 a2 => set_far (by omega)), hk2.imp (fun g hg => (set_far (by decide)).trans hg), ⟨_, get_set hp2, fun i x hx => ?_⟩, fun a a1 a2 a3 => (set_far a3).trans (f2 a a1 a2 a3)⟩ (by omega)
            by_cases hil : i < st.1.length
            · rw [up_ne (by omega)]; exact hpe2 i x (by rw [show ((st.1 ++ [(ad, r)], st.2.1, st.2.2) : List (Nat × aRd) × Nat × List aV).1 = st.1 ++ [(ad, r)] from rfl, List.getElem?_append_left hil] at hx; exact hx)
            · have hlx := get_lt hx
              rw [show ((st.1 ++ [(ad, r)], st.2.1, st.2.2) : List (Nat × aRd) × Nat × List aV).1 = st.1 ++ [(ad, r)] from rfl, List.length_append, List.length_singleton] at hlx
              have hie : i = st.1.length := by omega
              rw [hie, up_at]
              rw [show ((st.1 ++ [(ad, r)], st.2.1, st.2.2) : List (Nat × aRd) × Nat × List aV).1 = st.1 ++ [(ad, r)] from rfl, hie, List.getElem?_append_right (Nat.le_refl _), Nat.sub_self] at hx
              rw [← Option.some.inj hx]
          · refine RQ.brT rfl rfl rfl (cT_ge st.1.length 40) ?_
            refine RQ.blk 3 (pc' := 200) (lv' := [(9, .int (nI r.1)), (8, .int (nI k)), (7, .int (nI ((s.1 + 1) * 2048))), (6, .int (nI ad)), (5, .int (nI (lgs.length - fr + j))), (4, .int 0), (3, .int (nI st.1.length)), (2, .int (nI st.2.1)), (0, .ref 191), (1, .int (nI P))]) (st' := [.int (nI ad), .ref 191, .int (nI ad)]) (H' := _) (kc' := 0) (ks' := 0) rfl ?_
            refine RQ.call (v := some (.int (nI (szR cf ad)))) (st' := [.int (nI ad)]) rfl rfl rfl rfl rfl rfl (args_v [.int (nI ad)] [.int (nI ad)] rfl rfl (Nat.le_of_ble_eq_true rfl) rfl hG2 (Nat.le_of_ble_eq_true rfl)) (rc_sizeAt hG2 hC2 hB (by omega)) ?_
            rw [hsz]
            refine RQ.blk 1 (pc' := 204) (lv' := [(9, .int (nI r.1)), (8, .int (nI k)), (7, .int (nI ((s.1 + 1) * 2048))), (6, .int (nI ad)), (5, .int (nI (lgs.length - fr + j))), (4, .int 0), (3, .int (nI st.1.length)), (2, .int (nI st.2.1)), (0, .ref 191), (1, .int (nI P))]) (st' := [.int (nI ad + nI ((encL r).length))]) (H' := _) (kc' := 0) (ks' := 0) rfl ?_
            rw [show (nI ad + nI ((encL r).length) : Int32) = nI (ad + ((encL r).length)) from nI_add ad ((encL r).length)]
            refine RQ.blk 2 (pc' := 209) (lv' := [(8, .int (nI k + 1)), (6, .int (nI (ad + ((encL r).length)))), (9, .int (nI r.1)), (7, .int (nI ((s.1 + 1) * 2048))), (5, .int (nI (lgs.length - fr + j))), (4, .int 0), (3, .int (nI st.1.length)), (2, .int (nI st.2.1)), (0, .ref 191), (1, .int (nI P))]) (st' := []) (H' := _) (kc' := 0) (ks' := 0) rfl ?_
            rw [show (nI k + 1 : Int32) = nI (k + 1) from nI_add k 1]
            refine RQ.blk 1 (pc' := 89) (lv' := [(8, .int (nI (k + 1))), (6, .int (nI (ad + ((encL r).length)))), (9, .int (nI r.1)), (7, .int (nI ((s.1 + 1) * 2048))), (5, .int (nI (lgs.length - fr + j))), (4, .int 0), (3, .int (nI st.1.length)), (2, .int (nI st.2.1)), (0, .ref 191), (1, .int (nI P))]) (st' := []) (H' := _) (kc' := 0) (ks' := 0) rfl ?_
            have hnew : rpS st (ad, r) = st := (if_neg hk3).trans (if_neg (fun e => hk40 e.2))
            rw [hnew] at hnx
            skip
            refine RQ.pick (a := [(8, .int (nI (k + 1))), (7, .int (nI ((s.1 + 1) * 2048))), (6, .int (nI (ad + ((encL r).length)))), (5, .int (nI (lgs.length - fr + j))), (4, .int 0), (3, .int (nI st.1.length)), (2, .int (nI st.2.1)), (0, .ref 191), (1, .int (nI P))]) [0, 3, 1, 4, 5, 6, 7, 8, 9] [8, 6, 9, 7, 5, 4, 3, 2, 0, 1] rfl rfl (by decide) ?_
            have hih := ih2 (k + 1) H2
            rw [hnx, hlt2, ← Nat.add_assoc, had] at hih
            exact hih ⟨by omega, hV2, hk2, ⟨pe2, hp2, hpe2⟩, f2⟩ (by omega)
    ·
      have hke : k = s.2.2.length := by omega
      have hall := hall hke
      rw [hke, List.take_of_length_le (Nat.le_refl _)]
      have hEG : endG s = s.2.1 + lenL s.2.2 := rfl
      refine RQ.blk 2 (pc' := 94) (lv' := [(8, .int (nI s.2.2.length)), (7, .int (nI ((s.1 + 1) * 2048))), (6, .int (nI (s.1 * 2048 + s.2.1 + lenL s.2.2))), (5, .int (nI (lgs.length - fr + j))), (4, .int 0), (3, .int (nI st.1.length)), (2, .int (nI st.2.1)), (0, .ref 191), (1, .int (nI P))]) (st' := [.int 2048, .int (nI s.2.2.length)]) (H' := _) (kc' := 0) (ks' := 0) rfl ?_
      refine RQ.brF rfl rfl rfl (cF_ge s.2.2.length 2048) ?_
      refine RQ.blk 2 (pc' := 101) (lv' := [(8, .int (nI s.2.2.length)), (7, .int (nI ((s.1 + 1) * 2048))), (6, .int (nI (s.1 * 2048 + s.2.1 + lenL s.2.2))), (5, .int (nI (lgs.length - fr + j))), (4, .int 0), (3, .int (nI st.1.length)), (2, .int (nI st.2.1)), (0, .ref 191), (1, .int (nI P))]) (st' := [.int (nI ((s.1 + 1) * 2048)), .int (nI (s.1 * 2048 + s.2.1 + lenL s.2.2))]) (H' := _) (kc' := 0) (ks' := 0) rfl ?_
      by_cases hend : endG s = 2048
      · refine RQ.brT rfl rfl rfl (cT_ge (s.1 * 2048 + s.2.1 + lenL s.2.2) ((s.1 + 1) * 2048)) ?_
        refine RQ.blk 1 (pc' := 215) (lv' := [(5, .int (nI (lgs.length - fr + j) + 1)), (8, .int (nI s.2.2.length)), (7, .int (nI ((s.1 + 1) * 2048))), (6, .int (nI (s.1 * 2048 + s.2.1 + lenL s.2.2))), (4, .int 0), (3, .int (nI st.1.length)), (2, .int (nI st.2.1)), (0, .ref 191), (1, .int (nI P))]) (st' := []) (H' := _) (kc' := 0) (ks' := 0) rfl ?_
        rw [show (nI (lgs.length - fr + j) + 1 : Int32) = nI (lgs.length - fr + j + 1) from nI_add (lgs.length - fr + j) 1]
        refine RQ.blk 1 (pc' := 34) (lv' := [(5, .int (nI (lgs.length - fr + j + 1))), (8, .int (nI s.2.2.length)), (7, .int (nI ((s.1 + 1) * 2048))), (6, .int (nI (s.1 * 2048 + s.2.1 + lenL s.2.2))), (4, .int 0), (3, .int (nI st.1.length)), (2, .int (nI st.2.1)), (0, .ref 191), (1, .int (nI P))]) (st' := []) (H' := _) (kc' := 0) (ks' := 0) rfl ?_
        refine RQ.pick (a := [(5, .int (nI (lgs.length - fr + j + 1))), (4, .int 0), (3, .int (nI st.1.length)), (2, .int (nI st.2.1)), (0, .ref 191), (1, .int (nI P))]) [0, 4, 5, 6, 7, 8] [5, 8, 7, 6, 4, 3, 2, 0, 1] rfl rfl (by decide) ?_
        have hih := ih (j + 1) H2
        rw [← hall, if_neg (show ¬ j + 1 = 0 by omega), ← Nat.add_assoc] at hih
        exact hih ⟨by omega, hV2, hk2, ⟨pe2, hp2, hpe2⟩, f2⟩ (by omega)
      · refine RQ.brF rfl rfl rfl (cF_ge (s.1 * 2048 + s.2.1 + lenL s.2.2) ((s.1 + 1) * 2048)) ?_
        refine RQ.blk 2 (pc' := 107) (lv' := [(8, .int (nI s.2.2.length)), (7, .int (nI ((s.1 + 1) * 2048))), (6, .int (nI (s.1 * 2048 + s.2.1 + lenL s.2.2))), (5, .int (nI (lgs.length - fr + j))), (4, .int 0), (3, .int (nI st.1.length)), (2, .int (nI st.2.1)), (0, .ref 191), (1, .int (nI P))]) (st' := [.int (nI (s.1 * 2048 + s.2.1 + lenL s.2.2)), .ref 191]) (H' := _) (kc' := 0) (ks' := 0) rfl ?_
        refine RQ.call (v := some (.int (if wholeR cf (s.1 * 2048 + s.2.1 + lenL s.2.2) = true then 1 else 0))) (st' := []) rfl rfl rfl rfl rfl rfl (args_v [.int (nI (s.1 * 2048 + s.2.1 + lenL s.2.2))] [] rfl rfl (Nat.le_of_ble_eq_true rfl) rfl hG2 (Nat.le_of_ble_eq_true rfl)) (rc_isWhole hG2 hC2 hB (by omega)) ?_
        rw [if_neg (by have h9 := C3 (by omega); rw [show s.1 * 2048 + endG s = s.1 * 2048 + s.2.1 + lenL s.2.2 from (Nat.add_assoc _ _ _).symm] at h9; exact h9)]
        refine RQ.brT rfl rfl rfl (by decide) ?_
        refine RQ.blk 1 (pc' := 215) (lv' := [(5, .int (nI (lgs.length - fr + j) + 1)), (8, .int (nI s.2.2.length)), (7, .int (nI ((s.1 + 1) * 2048))), (6, .int (nI (s.1 * 2048 + s.2.1 + lenL s.2.2))), (4, .int 0), (3, .int (nI st.1.length)), (2, .int (nI st.2.1)), (0, .ref 191), (1, .int (nI P))]) (st' := []) (H' := _) (kc' := 0) (ks' := 0) rfl ?_
        rw [show (nI (lgs.length - fr + j) + 1 : Int32) = nI (lgs.length - fr + j + 1) from nI_add (lgs.length - fr + j) 1]
        refine RQ.blk 1 (pc' := 34) (lv' := [(5, .int (nI (lgs.length - fr + j + 1))), (8, .int (nI s.2.2.length)), (7, .int (nI ((s.1 + 1) * 2048))), (6, .int (nI (s.1 * 2048 + s.2.1 + lenL s.2.2))), (4, .int 0), (3, .int (nI st.1.length)), (2, .int (nI st.2.1)), (0, .ref 191), (1, .int (nI P))]) (st' := []) (H' := _) (kc' := 0) (ks' := 0) rfl ?_
        refine RQ.pick (a := [(5, .int (nI (lgs.length - fr + j + 1))), (4, .int 0), (3, .int (nI st.1.length)), (2, .int (nI st.2.1)), (0, .ref 191), (1, .int (nI P))]) [0, 4, 5, 6, 7, 8] [5, 8, 7, 6, 4, 3, 2, 0, 1] rfl rfl (by decide) ?_
        have hih := ih (j + 1) H2
        rw [← hall, if_neg (show ¬ j + 1 = 0 by omega), ← Nat.add_assoc] at hih
        exact hih ⟨by omega, hV2, hk2, ⟨pe2, hp2, hpe2⟩, f2⟩ (by omega)
  ·
    have hje : j = gs.length := by omega
    rw [hje, List.take_of_length_le (Nat.le_refl _)] at hgen
    rw [← hgen] at hV1
    refine RQ.blk 2 (pc' := 37) (lv' := [(5, .int (nI (lgs.length - fr + j))), (4, .int (nI (if j = 0 then ff else 0))), (3, .int (nI st0.1.length)), (2, .int (nI st0.2.1)), (0, .ref 191), (1, .int (nI P))]) (st' := [.ref 191, .int (nI (lgs.length - fr + j))]) (H' := _) (kc' := 0) (ks' := 0) rfl ?_
    refine RQ.get (ci := 4) rfl hG1 rfl rfl ?_
    refine RQ.get (ci := 3) rfl hL1.1 rfl rfl ?_
    refine RQ.brT rfl rfl rfl (cT_ge (lgs.length - fr + j) lgs.length) ?_
    refine RQ.blk 1 (pc' := 219) (lv' := [(5, .int (nI (lgs.length - fr + j))), (4, .int (nI (if j = 0 then ff else 0))), (3, .int (nI st0.1.length)), (2, .int (nI st0.2.1)), (0, .ref 191), (1, .int (nI P))]) (st' := [.int (nI st0.2.1)]) (H' := _) (kc' := 0) (ks' := 0) rfl ?_
    exact RQ.done (c := 0) (s := 0) rfl rfl rfl rfl ⟨_, _, rfl, by rw [hgen], hV1, hk1, ⟨pe1, hp1⟩, f1⟩
