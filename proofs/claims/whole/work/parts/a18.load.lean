/-! ===== the state is found; the cut is armed, met; class; written by wip/gen/load.py ===== -/
/-- the number of a block of states -/
def sqN (c : Nat → Int8) (m : Nat) : Nat := beN 0 (sl c (m * 2048 + 1) 4)
/-- the state that holds: its block, place, number -/
def pickF (c : Nat → Int8) : Option (Nat × Nat × Nat) := match lastF c 0 2048 5 none, lastF c 1 2048 5 none with
  | none, none => none
  | some a, none => some (0, a, sqN c 0)
  | none, some b => some (1, b, sqN c 1)
  | some a, some b => if sqN c 0 < sqN c 1 then some (1, b, sqN c 1) else some (0, a, sqN c 0)
theorem ri_load0 {sc : Nat × (Nat → Int32)} {d : Nat} {H : aH} {B : Nat} {lgs : List Nat} {fr ff : Nat} {wr : Bool} {tp : Nat} {rs : List aR} {ms mt sq tu : Nat} {us : Nat → Bool} {cf : Nat → Int8} {tf : Nat → Nat} {pq : Option Nat} {bb : Nat} (h : LayIs H B lgs fr ff wr tp rs ms mt sq tu us) (hB : B ≤ 128) (hC : ChipAt H B cf tf pq bb 0) (hB3 : 3 ≤ B) (hq : ∀ m, m < 2 → ∀ a, lastF cf m 2048 5 none = some a → sqN cf m < 2 ^ 31 ∧ a < 2 ^ 30) (hsel : pickF cf = none) : RI sc (d + 3) mr_180 [.ref 84] H (fun x H' => x = 0 ∧ LayIs H' B ([]) 0 0 false 0 ([]) 0 2048 0 tu (fun b => if b < B then usedB [] [] b else us b) ∧ ∀ a, ¬ (83 ≤ a ∧ a < 136 ∧ a ≠ 85) → H'[a]? = H[a]?) := by
  obtain ⟨yf0, hy0⟩ : ∃ yf, H[83]? = some (kO 3 yf) := by obtain ⟨_, _, q1, _⟩ := h; exact ⟨_, q1.1⟩
  refine RI.of ?_
  refine RQ.blk 1 (pc' := 1) (lv' := [(0, .ref 84)]) (st' := [.ref 84]) (H' := _) (kc' := 0) (ks' := 0) rfl ?_
  refine RQ.callN (st' := []) rfl rfl rfl rfl rfl rfl (args_v [] [] rfl rfl (Nat.le_of_ble_eq_true rfl) rfl hy0 (Nat.le_of_ble_eq_true rfl)) (rn_lclear h) (fun H1 hx1 => ?_)
  obtain ⟨hL1, f1⟩ := hx1
  have hC1 := hC.far (H' := H1) (fun a a1 a2 => f1 a (by omega))
  obtain ⟨lg, pi, hY, hlg, hlc, hRs⟩ := id hL1
  have hY1 : H1[83]? = some (kO 3 (layF B 0 0 0 false 0 0 0 2048 0 tu 0 0)) := hY.1
  refine RQ.blk 6 (pc' := 10) (lv' := [(2, .int 0), (1, .int (-1)), (0, .ref 84)]) (st' := [.int 2, .int 0]) (H' := _) (kc' := 0) (ks' := 0) rfl ?_
  refine RQ.brF rfl rfl rfl (by decide) ?_
  refine RQ.blk 2 (pc' := 15) (lv' := [(2, .int 0), (1, .int (-1)), (0, .ref 84)]) (st' := [.int 0, .ref 84]) (H' := _) (kc' := 0) (ks' := 0) rfl ?_
  refine RQ.call (v := some (.int (lI (lastF cf 0 2048 5 none)))) (st' := []) rfl rfl rfl rfl rfl rfl (args_v [.int 0] [] rfl rfl (Nat.le_of_ble_eq_true rfl) rfl hY1 (Nat.le_of_ble_eq_true rfl)) (rc_lastState (m := 0) hY1 rfl hC1 hB (by omega) (by decide)) ?_
  refine RQ.blk 2 (pc' := 20) (lv' := [(3, .int (lI (lastF cf 0 2048 5 none))), (2, .int 0), (1, .int (-1)), (0, .ref 84)]) (st' := [.ref 84]) (H' := _) (kc' := 0) (ks' := 0) rfl ?_
  refine RQ.get (ci := 3) rfl hY1 rfl rfl ?_
  refine RQ.blk 3 (pc' := 28) (lv' := [(3, .int (lI (lastF cf 0 2048 5 none))), (2, .int 0), (1, .int (-1)), (0, .ref 84)]) (st' := [.int (0 * 2048), .ref 72]) (H' := _) (kc' := 0) (ks' := 0) rfl ?_
  rw [show (0 * 2048 : Int32) = nI (0 * 2048) from pk_mul 0 2048]
  refine RQ.blk 2 (pc' := 30) (lv' := [(3, .int (lI (lastF cf 0 2048 5 none))), (2, .int 0), (1, .int (-1)), (0, .ref 84)]) (st' := [.int (nI (0 * 2048) + 1), .ref 72]) (H' := _) (kc' := 0) (ks' := 0) rfl ?_
  rw [show (nI (0 * 2048) + 1 : Int32) = nI (0 * 2048 + 1) from nI_add (0 * 2048) 1]
  refine RQ.blk 1 (pc' := 31) (lv' := [(3, .int (lI (lastF cf 0 2048 5 none))), (2, .int 0), (1, .int (-1)), (0, .ref 84)]) (st' := [.int 4, .int (nI (0 * 2048 + 1)), .ref 72]) (H' := _) (kc' := 0) (ks' := 0) rfl ?_
  have hnm0 := rc_cnum (sc := sc) (d := d + 2) (i := 0 * 2048 + 1) (k := 4) hC1.1 rfl hC1.2.1 (by omega) (by omega)
  generalize hz0 : numI cf (0 * 2048 + 1) 4 0 = z0 at hnm0
  refine RQ.call (v := some (.int z0)) (st' := []) rfl rfl rfl rfl rfl rfl (args_v [.int 4, .int (nI (0 * 2048 + 1))] [] rfl rfl (Nat.le_of_ble_eq_true rfl) rfl hC1.1 (Nat.le_of_ble_eq_true rfl)) hnm0 ?_
  have hzq0 : ∀ a, lastF cf 0 2048 5 none = some a → z0 = nI (sqN cf 0) := fun a ha => by
    rw [← hz0, show (0 : Int32) = nI 0 from rfl, numI_be _ _ _ (by have := (hq 0 (by decide) a ha).1; unfold sqN at this; exact this)]; rfl
  refine RQ.blk 2 (pc' := 37) (lv' := [(4, .int z0), (3, .int (lI (lastF cf 0 2048 5 none))), (2, .int 0), (1, .int (-1)), (0, .ref 84)]) (st' := [.int (lI (lastF cf 0 2048 5 none))]) (H' := _) (kc' := 0) (ks' := 0) rfl ?_
  cases l0 : lastF cf 0 2048 5 none with
  | none =>
    refine RQ.brT rfl rfl rfl (by decide) ?_
    refine RQ.blk 2 (pc' := 8) (lv' := [(2, .int 1), (4, .int z0), (3, .int (-1)), (1, .int (-1)), (0, .ref 84)]) (st' := []) (H' := _) (kc' := 0) (ks' := 0) rfl ?_
    refine RQ.blk 2 (pc' := 10) (lv' := [(2, .int 1), (4, .int z0), (3, .int (-1)), (1, .int (-1)), (0, .ref 84)]) (st' := [.int 2, .int 1]) (H' := _) (kc' := 0) (ks' := 0) rfl ?_
    refine RQ.brF rfl rfl rfl (by decide) ?_
    refine RQ.blk 2 (pc' := 15) (lv' := [(2, .int 1), (4, .int z0), (3, .int (-1)), (1, .int (-1)), (0, .ref 84)]) (st' := [.int 1, .ref 84]) (H' := _) (kc' := 0) (ks' := 0) rfl ?_
    refine RQ.call (v := some (.int (lI (lastF cf 1 2048 5 none)))) (st' := []) rfl rfl rfl rfl rfl rfl (args_v [.int 1] [] rfl rfl (Nat.le_of_ble_eq_true rfl) rfl hY1 (Nat.le_of_ble_eq_true rfl)) (rc_lastState (m := 1) hY1 rfl hC1 hB (by omega) (by decide)) ?_
    refine RQ.blk 2 (pc' := 20) (lv' := [(3, .int (lI (lastF cf 1 2048 5 none))), (2, .int 1), (4, .int z0), (1, .int (-1)), (0, .ref 84)]) (st' := [.ref 84]) (H' := _) (kc' := 0) (ks' := 0) rfl ?_
    refine RQ.get (ci := 3) rfl hY1 rfl rfl ?_
    refine RQ.blk 3 (pc' := 28) (lv' := [(3, .int (lI (lastF cf 1 2048 5 none))), (2, .int 1), (4, .int z0), (1, .int (-1)), (0, .ref 84)]) (st' := [.int (1 * 2048), .ref 72]) (H' := _) (kc' := 0) (ks' := 0) rfl ?_
    rw [show (1 * 2048 : Int32) = nI (1 * 2048) from pk_mul 1 2048]
    refine RQ.blk 2 (pc' := 30) (lv' := [(3, .int (lI (lastF cf 1 2048 5 none))), (2, .int 1), (4, .int z0), (1, .int (-1)), (0, .ref 84)]) (st' := [.int (nI (1 * 2048) + 1), .ref 72]) (H' := _) (kc' := 0) (ks' := 0) rfl ?_
    rw [show (nI (1 * 2048) + 1 : Int32) = nI (1 * 2048 + 1) from nI_add (1 * 2048) 1]
    refine RQ.blk 1 (pc' := 31) (lv' := [(3, .int (lI (lastF cf 1 2048 5 none))), (2, .int 1), (4, .int z0), (1, .int (-1)), (0, .ref 84)]) (st' := [.int 4, .int (nI (1 * 2048 + 1)), .ref 72]) (H' := _) (kc' := 0) (ks' := 0) rfl ?_
    have hnm1 := rc_cnum (sc := sc) (d := d + 2) (i := 1 * 2048 + 1) (k := 4) hC1.1 rfl hC1.2.1 (by omega) (by omega)
    generalize hz1 : numI cf (1 * 2048 + 1) 4 0 = z1 at hnm1
    refine RQ.call (v := some (.int z1)) (st' := []) rfl rfl rfl rfl rfl rfl (args_v [.int 4, .int (nI (1 * 2048 + 1))] [] rfl rfl (Nat.le_of_ble_eq_true rfl) rfl hC1.1 (Nat.le_of_ble_eq_true rfl)) hnm1 ?_
    have hzq1 : ∀ a, lastF cf 1 2048 5 none = some a → z1 = nI (sqN cf 1) := fun a ha => by
      rw [← hz1, show (0 : Int32) = nI 0 from rfl, numI_be _ _ _ (by have := (hq 1 (by decide) a ha).1; unfold sqN at this; exact this)]; rfl
    refine RQ.blk 2 (pc' := 37) (lv' := [(4, .int z1), (3, .int (lI (lastF cf 1 2048 5 none))), (2, .int 1), (1, .int (-1)), (0, .ref 84)]) (st' := [.int (lI (lastF cf 1 2048 5 none))]) (H' := _) (kc' := 0) (ks' := 0) rfl ?_
    cases l1 : lastF cf 1 2048 5 none with
    | none =>
      refine RQ.brT rfl rfl rfl (by decide) ?_
      refine RQ.blk 2 (pc' := 8) (lv' := [(2, .int 2), (4, .int z1), (3, .int (-1)), (1, .int (-1)), (0, .ref 84)]) (st' := []) (H' := _) (kc' := 0) (ks' := 0) rfl ?_
      refine RQ.blk 2 (pc' := 10) (lv' := [(2, .int 2), (4, .int z1), (3, .int (-1)), (1, .int (-1)), (0, .ref 84)]) (st' := [.int 2, .int 2]) (H' := _) (kc' := 0) (ks' := 0) rfl ?_
      refine RQ.brT rfl rfl rfl (by decide) ?_
      have hpk : pickF cf = none := by unfold pickF; rw [l0, l1]
      rw [hpk] at hsel
      refine RQ.blk 1 (pc' := 73) (lv' := [(2, .int 2), (4, .int z1), (3, .int (-1)), (1, .int (-1)), (0, .ref 84)]) (st' := [.int (-1)]) (H' := _) (kc' := 0) (ks' := 0) rfl ?_
      refine RQ.brF rfl rfl rfl (by decide) ?_
      refine RQ.blk 4 (pc' := 87) (lv' := [(2, .int 0), (4, .int z1), (3, .int (-1)), (1, .int (-1)), (0, .ref 84)]) (st' := [.ref 84]) (H' := _) (kc' := 0) (ks' := 0) rfl ?_
      refine RQ.callN (st' := []) rfl rfl rfl rfl rfl rfl (args_v [] [] rfl rfl (Nat.le_of_ble_eq_true rfl) rfl hY1 (Nat.le_of_ble_eq_true rfl)) (rn_noteUse hL1 hB (fun x hx => by simp at hx) (fun x hx => by simp at hx)) (fun HN hxN => ?_)
      rw [hxN]
      refine RQ.blk 1 (pc' := 91) (lv' := [(2, .int 0), (4, .int z1), (3, .int (-1)), (1, .int (-1)), (0, .ref 84)]) (st' := [.int 0]) (H' := _) (kc' := 0) (ks' := 0) rfl ?_
      exact RQ.done (c := 0) (s := 0) rfl rfl rfl rfl ⟨_, _, rfl, rfl, hL1.used _, fun a a1 => (set_far (by omega)).trans (f1 a (by omega))⟩
    | some a1 =>
      obtain ⟨hs1, ha1⟩ := hq 1 (by decide) a1 l1
      rw [show lI (some a1) = nI a1 from rfl, hzq1 a1 l1]
      refine RQ.brF rfl rfl rfl (cF_lt a1 0) ?_
      refine RQ.blk 1 (pc' := 41) (lv' := [(4, .int (nI (sqN cf 1))), (3, .int (nI a1)), (2, .int 1), (1, .int (-1)), (0, .ref 84)]) (st' := [.int (-1)]) (H' := _) (kc' := 0) (ks' := 0) rfl ?_
      refine RQ.brT rfl rfl rfl (by decide) ?_
      refine RQ.blk 2 (pc' := 55) (lv' := [(1, .int (nI a1)), (4, .int (nI (sqN cf 1))), (3, .int (nI a1)), (2, .int 1), (0, .ref 84)]) (st' := []) (H' := _) (kc' := 0) (ks' := 0) rfl ?_
      refine RQ.blk 2 (pc' := 57) (lv' := [(1, .int (nI a1)), (4, .int (nI (sqN cf 1))), (3, .int (nI a1)), (2, .int 1), (0, .ref 84)]) (st' := [.int 1, .ref 84]) (H' := _) (kc' := 0) (ks' := 0) rfl ?_
      refine RQ.put (ci := 3) rfl hY1 rfl rfl (Nat.le_of_ble_eq_true rfl) ?_
      refine RQ.blk 2 (pc' := 63) (lv' := [(1, .int (nI a1)), (4, .int (nI (sqN cf 1))), (3, .int (nI a1)), (2, .int 1), (0, .ref 84)]) (st' := [.int (nI (sqN cf 1)), .ref 84]) (H' := _) (kc' := 0) (ks' := 0) rfl ?_
      refine RQ.put (ci := 3) rfl (get_set hY1) rfl rfl (Nat.le_of_ble_eq_true rfl) ?_
      rw [set_set]
      show RQ sc (d + 3) mr_180 66 [(1, .int (nI a1)), (4, .int (nI (sqN cf 1))), (3, .int (nI a1)), (2, .int 1), (0, .ref 84)] [] (H1.set 83 (kO 3 (layF B 0 0 0 false 0 0 1 2048 (sqN cf 1) tu 0 0))) 0 0 _
      have hYP1 : (H1.set 83 (kO 3 (layF B 0 0 0 false 0 0 1 2048 (sqN cf 1) tu 0 0)))[83]? = some (kO 3 (layF B 0 0 0 false 0 0 1 2048 (sqN cf 1) tu 0 0)) := get_set hY1
      have fP1 : ∀ a, a ≠ 83 → (H1.set 83 (kO 3 (layF B 0 0 0 false 0 0 1 2048 (sqN cf 1) tu 0 0)))[a]? = H1[a]? := fun a ha => (set_far ha).trans rfl
      generalize (H1.set 83 (kO 3 (layF B 0 0 0 false 0 0 1 2048 (sqN cf 1) tu 0 0))) = HP1 at hYP1 fP1 ⊢
      have hCP1 := hC1.far (H' := HP1) (fun a a1 a2 => fP1 a (by omega))
      refine RQ.blk 2 (pc' := 8) (lv' := [(2, .int 2), (1, .int (nI a1)), (4, .int (nI (sqN cf 1))), (3, .int (nI a1)), (0, .ref 84)]) (st' := []) (H' := _) (kc' := 0) (ks' := 0) rfl ?_
      refine RQ.blk 2 (pc' := 10) (lv' := [(2, .int 2), (1, .int (nI a1)), (4, .int (nI (sqN cf 1))), (3, .int (nI a1)), (0, .ref 84)]) (st' := [.int 2, .int 2]) (H' := _) (kc' := 0) (ks' := 0) rfl ?_
      refine RQ.brT rfl rfl rfl (by decide) ?_
      have hpk : pickF cf = some (1, a1, sqN cf 1) := by unfold pickF; rw [l0, l1]
      rw [hpk] at hsel
      cases hsel
  | some a0 =>
    obtain ⟨hs0, ha0⟩ := hq 0 (by decide) a0 l0
    rw [show lI (some a0) = nI a0 from rfl, hzq0 a0 l0]
    refine RQ.brF rfl rfl rfl (cF_lt a0 0) ?_
    refine RQ.blk 1 (pc' := 41) (lv' := [(4, .int (nI (sqN cf 0))), (3, .int (nI a0)), (2, .int 0), (1, .int (-1)), (0, .ref 84)]) (st' := [.int (-1)]) (H' := _) (kc' := 0) (ks' := 0) rfl ?_
    refine RQ.brT rfl rfl rfl (by decide) ?_
    refine RQ.blk 2 (pc' := 55) (lv' := [(1, .int (nI a0)), (4, .int (nI (sqN cf 0))), (3, .int (nI a0)), (2, .int 0), (0, .ref 84)]) (st' := []) (H' := _) (kc' := 0) (ks' := 0) rfl ?_
    refine RQ.blk 2 (pc' := 57) (lv' := [(1, .int (nI a0)), (4, .int (nI (sqN cf 0))), (3, .int (nI a0)), (2, .int 0), (0, .ref 84)]) (st' := [.int 0, .ref 84]) (H' := _) (kc' := 0) (ks' := 0) rfl ?_
    refine RQ.put (ci := 3) rfl hY1 rfl rfl (Nat.le_of_ble_eq_true rfl) ?_
    refine RQ.blk 2 (pc' := 63) (lv' := [(1, .int (nI a0)), (4, .int (nI (sqN cf 0))), (3, .int (nI a0)), (2, .int 0), (0, .ref 84)]) (st' := [.int (nI (sqN cf 0)), .ref 84]) (H' := _) (kc' := 0) (ks' := 0) rfl ?_
    refine RQ.put (ci := 3) rfl (get_set hY1) rfl rfl (Nat.le_of_ble_eq_true rfl) ?_
    rw [set_set]
    show RQ sc (d + 3) mr_180 66 [(1, .int (nI a0)), (4, .int (nI (sqN cf 0))), (3, .int (nI a0)), (2, .int 0), (0, .ref 84)] [] (H1.set 83 (kO 3 (layF B 0 0 0 false 0 0 0 2048 (sqN cf 0) tu 0 0))) 0 0 _
    have hYP0 : (H1.set 83 (kO 3 (layF B 0 0 0 false 0 0 0 2048 (sqN cf 0) tu 0 0)))[83]? = some (kO 3 (layF B 0 0 0 false 0 0 0 2048 (sqN cf 0) tu 0 0)) := get_set hY1
    have fP0 : ∀ a, a ≠ 83 → (H1.set 83 (kO 3 (layF B 0 0 0 false 0 0 0 2048 (sqN cf 0) tu 0 0)))[a]? = H1[a]? := fun a ha => (set_far ha).trans rfl
    generalize (H1.set 83 (kO 3 (layF B 0 0 0 false 0 0 0 2048 (sqN cf 0) tu 0 0))) = HP0 at hYP0 fP0 ⊢
    have hCP0 := hC1.far (H' := HP0) (fun a a1 a2 => fP0 a (by omega))
    refine RQ.blk 2 (pc' := 8) (lv' := [(2, .int 1), (1, .int (nI a0)), (4, .int (nI (sqN cf 0))), (3, .int (nI a0)), (0, .ref 84)]) (st' := []) (H' := _) (kc' := 0) (ks' := 0) rfl ?_
    refine RQ.blk 2 (pc' := 10) (lv' := [(2, .int 1), (1, .int (nI a0)), (4, .int (nI (sqN cf 0))), (3, .int (nI a0)), (0, .ref 84)]) (st' := [.int 2, .int 1]) (H' := _) (kc' := 0) (ks' := 0) rfl ?_
    refine RQ.brF rfl rfl rfl (by decide) ?_
    refine RQ.blk 2 (pc' := 15) (lv' := [(2, .int 1), (1, .int (nI a0)), (4, .int (nI (sqN cf 0))), (3, .int (nI a0)), (0, .ref 84)]) (st' := [.int 1, .ref 84]) (H' := _) (kc' := 0) (ks' := 0) rfl ?_
    refine RQ.call (v := some (.int (lI (lastF cf 1 2048 5 none)))) (st' := []) rfl rfl rfl rfl rfl rfl (args_v [.int 1] [] rfl rfl (Nat.le_of_ble_eq_true rfl) rfl hYP0 (Nat.le_of_ble_eq_true rfl)) (rc_lastState (m := 1) hYP0 rfl hCP0 hB (by omega) (by decide)) ?_
    refine RQ.blk 2 (pc' := 20) (lv' := [(3, .int (lI (lastF cf 1 2048 5 none))), (2, .int 1), (1, .int (nI a0)), (4, .int (nI (sqN cf 0))), (0, .ref 84)]) (st' := [.ref 84]) (H' := _) (kc' := 0) (ks' := 0) rfl ?_
    refine RQ.get (ci := 3) rfl hYP0 rfl rfl ?_
    refine RQ.blk 3 (pc' := 28) (lv' := [(3, .int (lI (lastF cf 1 2048 5 none))), (2, .int 1), (1, .int (nI a0)), (4, .int (nI (sqN cf 0))), (0, .ref 84)]) (st' := [.int (1 * 2048), .ref 72]) (H' := _) (kc' := 0) (ks' := 0) rfl ?_
    rw [show (1 * 2048 : Int32) = nI (1 * 2048) from pk_mul 1 2048]
    refine RQ.blk 2 (pc' := 30) (lv' := [(3, .int (lI (lastF cf 1 2048 5 none))), (2, .int 1), (1, .int (nI a0)), (4, .int (nI (sqN cf 0))), (0, .ref 84)]) (st' := [.int (nI (1 * 2048) + 1), .ref 72]) (H' := _) (kc' := 0) (ks' := 0) rfl ?_
    rw [show (nI (1 * 2048) + 1 : Int32) = nI (1 * 2048 + 1) from nI_add (1 * 2048) 1]
    refine RQ.blk 1 (pc' := 31) (lv' := [(3, .int (lI (lastF cf 1 2048 5 none))), (2, .int 1), (1, .int (nI a0)), (4, .int (nI (sqN cf 0))), (0, .ref 84)]) (st' := [.int 4, .int (nI (1 * 2048 + 1)), .ref 72]) (H' := _) (kc' := 0) (ks' := 0) rfl ?_
    have hnm1 := rc_cnum (sc := sc) (d := d + 2) (i := 1 * 2048 + 1) (k := 4) hCP0.1 rfl hCP0.2.1 (by omega) (by omega)
    generalize hz1 : numI cf (1 * 2048 + 1) 4 0 = z1 at hnm1
    refine RQ.call (v := some (.int z1)) (st' := []) rfl rfl rfl rfl rfl rfl (args_v [.int 4, .int (nI (1 * 2048 + 1))] [] rfl rfl (Nat.le_of_ble_eq_true rfl) rfl hCP0.1 (Nat.le_of_ble_eq_true rfl)) hnm1 ?_
    have hzq1 : ∀ a, lastF cf 1 2048 5 none = some a → z1 = nI (sqN cf 1) := fun a ha => by
      rw [← hz1, show (0 : Int32) = nI 0 from rfl, numI_be _ _ _ (by have := (hq 1 (by decide) a ha).1; unfold sqN at this; exact this)]; rfl
    refine RQ.blk 2 (pc' := 37) (lv' := [(4, .int z1), (3, .int (lI (lastF cf 1 2048 5 none))), (2, .int 1), (1, .int (nI a0)), (0, .ref 84)]) (st' := [.int (lI (lastF cf 1 2048 5 none))]) (H' := _) (kc' := 0) (ks' := 0) rfl ?_
    cases l1 : lastF cf 1 2048 5 none with
    | none =>
      refine RQ.brT rfl rfl rfl (by decide) ?_
      refine RQ.blk 2 (pc' := 8) (lv' := [(2, .int 2), (4, .int z1), (3, .int (-1)), (1, .int (nI a0)), (0, .ref 84)]) (st' := []) (H' := _) (kc' := 0) (ks' := 0) rfl ?_
      refine RQ.blk 2 (pc' := 10) (lv' := [(2, .int 2), (4, .int z1), (3, .int (-1)), (1, .int (nI a0)), (0, .ref 84)]) (st' := [.int 2, .int 2]) (H' := _) (kc' := 0) (ks' := 0) rfl ?_
      refine RQ.brT rfl rfl rfl (by decide) ?_
      have hpk : pickF cf = some (0, a0, sqN cf 0) := by unfold pickF; rw [l0, l1]
      rw [hpk] at hsel
      cases hsel
    | some a1 =>
      obtain ⟨hs1, ha1⟩ := hq 1 (by decide) a1 l1
      rw [show lI (some a1) = nI a1 from rfl, hzq1 a1 l1]
      refine RQ.brF rfl rfl rfl (cF_lt a1 0) ?_
      refine RQ.blk 1 (pc' := 41) (lv' := [(4, .int (nI (sqN cf 1))), (3, .int (nI a1)), (2, .int 1), (1, .int (nI a0)), (0, .ref 84)]) (st' := [.int (nI a0)]) (H' := _) (kc' := 0) (ks' := 0) rfl ?_
      refine RQ.brF rfl rfl rfl (cF_lt a0 0) ?_
      refine RQ.blk 2 (pc' := 47) (lv' := [(4, .int (nI (sqN cf 1))), (3, .int (nI a1)), (2, .int 1), (1, .int (nI a0)), (0, .ref 84)]) (st' := [.ref 84, .int (nI (sqN cf 1))]) (H' := _) (kc' := 0) (ks' := 0) rfl ?_
      refine RQ.get (ci := 3) rfl hYP0 rfl rfl ?_
      by_cases hlt : sqN cf 0 < sqN cf 1
      · refine RQ.brF rfl rfl rfl (cF_le (sqN cf 1) (sqN cf 0)) ?_
        refine RQ.blk 2 (pc' := 55) (lv' := [(1, .int (nI a1)), (4, .int (nI (sqN cf 1))), (3, .int (nI a1)), (2, .int 1), (0, .ref 84)]) (st' := []) (H' := _) (kc' := 0) (ks' := 0) rfl ?_
        refine RQ.blk 2 (pc' := 57) (lv' := [(1, .int (nI a1)), (4, .int (nI (sqN cf 1))), (3, .int (nI a1)), (2, .int 1), (0, .ref 84)]) (st' := [.int 1, .ref 84]) (H' := _) (kc' := 0) (ks' := 0) rfl ?_
        refine RQ.put (ci := 3) rfl hYP0 rfl rfl (Nat.le_of_ble_eq_true rfl) ?_
        refine RQ.blk 2 (pc' := 63) (lv' := [(1, .int (nI a1)), (4, .int (nI (sqN cf 1))), (3, .int (nI a1)), (2, .int 1), (0, .ref 84)]) (st' := [.int (nI (sqN cf 1)), .ref 84]) (H' := _) (kc' := 0) (ks' := 0) rfl ?_
        refine RQ.put (ci := 3) rfl (get_set hYP0) rfl rfl (Nat.le_of_ble_eq_true rfl) ?_
        rw [set_set]
        show RQ sc (d + 3) mr_180 66 [(1, .int (nI a1)), (4, .int (nI (sqN cf 1))), (3, .int (nI a1)), (2, .int 1), (0, .ref 84)] [] (HP0.set 83 (kO 3 (layF B 0 0 0 false 0 0 1 2048 (sqN cf 1) tu 0 0))) 0 0 _
        have hYP1 : (HP0.set 83 (kO 3 (layF B 0 0 0 false 0 0 1 2048 (sqN cf 1) tu 0 0)))[83]? = some (kO 3 (layF B 0 0 0 false 0 0 1 2048 (sqN cf 1) tu 0 0)) := get_set hYP0
        have fP1 : ∀ a, a ≠ 83 → (HP0.set 83 (kO 3 (layF B 0 0 0 false 0 0 1 2048 (sqN cf 1) tu 0 0)))[a]? = H1[a]? := fun a ha => (set_far ha).trans (fP0 a ha)
        generalize (HP0.set 83 (kO 3 (layF B 0 0 0 false 0 0 1 2048 (sqN cf 1) tu 0 0))) = HP1 at hYP1 fP1 ⊢
        have hCP1 := hC1.far (H' := HP1) (fun a a1 a2 => fP1 a (by omega))
        refine RQ.blk 2 (pc' := 8) (lv' := [(2, .int 2), (1, .int (nI a1)), (4, .int (nI (sqN cf 1))), (3, .int (nI a1)), (0, .ref 84)]) (st' := []) (H' := _) (kc' := 0) (ks' := 0) rfl ?_
        refine RQ.blk 2 (pc' := 10) (lv' := [(2, .int 2), (1, .int (nI a1)), (4, .int (nI (sqN cf 1))), (3, .int (nI a1)), (0, .ref 84)]) (st' := [.int 2, .int 2]) (H' := _) (kc' := 0) (ks' := 0) rfl ?_
        refine RQ.brT rfl rfl rfl (by decide) ?_
        have hpk : pickF cf = some (1, a1, sqN cf 1) := by unfold pickF; rw [l0, l1]; exact if_pos hlt
        rw [hpk] at hsel
        cases hsel
      · refine RQ.brT rfl rfl rfl (cT_le (sqN cf 1) (sqN cf 0)) ?_
        refine RQ.blk 2 (pc' := 8) (lv' := [(2, .int 2), (4, .int (nI (sqN cf 1))), (3, .int (nI a1)), (1, .int (nI a0)), (0, .ref 84)]) (st' := []) (H' := _) (kc' := 0) (ks' := 0) rfl ?_
        refine RQ.blk 2 (pc' := 10) (lv' := [(2, .int 2), (4, .int (nI (sqN cf 1))), (3, .int (nI a1)), (1, .int (nI a0)), (0, .ref 84)]) (st' := [.int 2, .int 2]) (H' := _) (kc' := 0) (ks' := 0) rfl ?_
        refine RQ.brT rfl rfl rfl (by decide) ?_
        have hpk : pickF cf = some (0, a0, sqN cf 0) := by unfold pickF; rw [l0, l1]; exact if_neg hlt
        rw [hpk] at hsel
        cases hsel
theorem ri_load1 {sc : Nat × (Nat → Int32)} {d m a q P : Nat} {H : aH} {B : Nat} {lgs0 : List Nat} {fr0 ff0 : Nat} {wr : Bool} {tp : Nat} {rs0 : List aR} {ms0 mt0 sq0 tu : Nat} {us : Nat → Bool} {lgs : List Nat} {fr ff : Nat} {rs : List aR} {cf : Nat → Int8} {tf : Nat → Nat} {pq : Option Nat} {bb : Nat} (h : LayIs H B lgs0 fr0 ff0 wr tp rs0 ms0 mt0 sq0 tu us) (hB : B ≤ 128) (hC : ChipAt H B cf tf pq bb 0) (hB3 : 3 ≤ B) (hq : ∀ m, m < 2 → ∀ a, lastF cf m 2048 5 none = some a → sqN cf m < 2 ^ 31 ∧ a < 2 ^ 30) (hsel : pickF cf = some (m, a, q)) (hs : sl cf a (encS P fr ff lgs rs).length = encS P fr ff lgs rs) (ha9 : a + (encS P fr ff lgs rs).length ≤ B * 2048) (hP : P < 2 ^ 31) (hfr : fr < 256) (hff : ff < 65536) (hlB : ∀ x ∈ lgs, x < B) (hlgB : lgs.length ≤ B) (hrl : rs.length ≤ 23) (hrs : ∀ x ∈ rs, x.1 < 256 ∧ x.2.1 < 2 ^ 24 ∧ x.2.2.1 < 65536 ∧ x.2.2.2.length ≤ 64 ∧ ∀ y ∈ x.2.2.2, y < B) : RI sc (d + 3) mr_180 [.ref 84] H (fun x H' => x = nI P ∧ LayIs H' B lgs fr ff false 0 rs m 2048 q tu (fun b => if b < B then usedB lgs rs b else us b) ∧ ∀ a, ¬ (83 ≤ a ∧ a < 136 ∧ a ≠ 85) → H'[a]? = H[a]?) := by
  obtain ⟨yf0, hy0⟩ : ∃ yf, H[83]? = some (kO 3 yf) := by obtain ⟨_, _, q1, _⟩ := h; exact ⟨_, q1.1⟩
  refine RI.of ?_
  refine RQ.blk 1 (pc' := 1) (lv' := [(0, .ref 84)]) (st' := [.ref 84]) (H' := _) (kc' := 0) (ks' := 0) rfl ?_
  refine RQ.callN (st' := []) rfl rfl rfl rfl rfl rfl (args_v [] [] rfl rfl (Nat.le_of_ble_eq_true rfl) rfl hy0 (Nat.le_of_ble_eq_true rfl)) (rn_lclear h) (fun H1 hx1 => ?_)
  obtain ⟨hL1, f1⟩ := hx1
  have hC1 := hC.far (H' := H1) (fun a a1 a2 => f1 a (by omega))
  obtain ⟨lg, pi, hY, hlg, hlc, hRs⟩ := id hL1
  have hY1 : H1[83]? = some (kO 3 (layF B 0 0 0 false 0 0 0 2048 0 tu 0 0)) := hY.1
  refine RQ.blk 6 (pc' := 10) (lv' := [(2, .int 0), (1, .int (-1)), (0, .ref 84)]) (st' := [.int 2, .int 0]) (H' := _) (kc' := 0) (ks' := 0) rfl ?_
  refine RQ.brF rfl rfl rfl (by decide) ?_
  refine RQ.blk 2 (pc' := 15) (lv' := [(2, .int 0), (1, .int (-1)), (0, .ref 84)]) (st' := [.int 0, .ref 84]) (H' := _) (kc' := 0) (ks' := 0) rfl ?_
  refine RQ.call (v := some (.int (lI (lastF cf 0 2048 5 none)))) (st' := []) rfl rfl rfl rfl rfl rfl (args_v [.int 0] [] rfl rfl (Nat.le_of_ble_eq_true rfl) rfl hY1 (Nat.le_of_ble_eq_true rfl)) (rc_lastState (m := 0) hY1 rfl hC1 hB (by omega) (by decide)) ?_
  refine RQ.blk 2 (pc' := 20) (lv' := [(3, .int (lI (lastF cf 0 2048 5 none))), (2, .int 0), (1, .int (-1)), (0, .ref 84)]) (st' := [.ref 84]) (H' := _) (kc' := 0) (ks' := 0) rfl ?_
  refine RQ.get (ci := 3) rfl hY1 rfl rfl ?_
  refine RQ.blk 3 (pc' := 28) (lv' := [(3, .int (lI (lastF cf 0 2048 5 none))), (2, .int 0), (1, .int (-1)), (0, .ref 84)]) (st' := [.int (0 * 2048), .ref 72]) (H' := _) (kc' := 0) (ks' := 0) rfl ?_
  rw [show (0 * 2048 : Int32) = nI (0 * 2048) from pk_mul 0 2048]
  refine RQ.blk 2 (pc' := 30) (lv' := [(3, .int (lI (lastF cf 0 2048 5 none))), (2, .int 0), (1, .int (-1)), (0, .ref 84)]) (st' := [.int (nI (0 * 2048) + 1), .ref 72]) (H' := _) (kc' := 0) (ks' := 0) rfl ?_
  rw [show (nI (0 * 2048) + 1 : Int32) = nI (0 * 2048 + 1) from nI_add (0 * 2048) 1]
  refine RQ.blk 1 (pc' := 31) (lv' := [(3, .int (lI (lastF cf 0 2048 5 none))), (2, .int 0), (1, .int (-1)), (0, .ref 84)]) (st' := [.int 4, .int (nI (0 * 2048 + 1)), .ref 72]) (H' := _) (kc' := 0) (ks' := 0) rfl ?_
  have hnm0 := rc_cnum (sc := sc) (d := d + 2) (i := 0 * 2048 + 1) (k := 4) hC1.1 rfl hC1.2.1 (by omega) (by omega)
  generalize hz0 : numI cf (0 * 2048 + 1) 4 0 = z0 at hnm0
  refine RQ.call (v := some (.int z0)) (st' := []) rfl rfl rfl rfl rfl rfl (args_v [.int 4, .int (nI (0 * 2048 + 1))] [] rfl rfl (Nat.le_of_ble_eq_true rfl) rfl hC1.1 (Nat.le_of_ble_eq_true rfl)) hnm0 ?_
  have hzq0 : ∀ a, lastF cf 0 2048 5 none = some a → z0 = nI (sqN cf 0) := fun a ha => by
    rw [← hz0, show (0 : Int32) = nI 0 from rfl, numI_be _ _ _ (by have := (hq 0 (by decide) a ha).1; unfold sqN at this; exact this)]; rfl
  refine RQ.blk 2 (pc' := 37) (lv' := [(4, .int z0), (3, .int (lI (lastF cf 0 2048 5 none))), (2, .int 0), (1, .int (-1)), (0, .ref 84)]) (st' := [.int (lI (lastF cf 0 2048 5 none))]) (H' := _) (kc' := 0) (ks' := 0) rfl ?_
  cases l0 : lastF cf 0 2048 5 none with
  | none =>
    refine RQ.brT rfl rfl rfl (by decide) ?_
    refine RQ.blk 2 (pc' := 8) (lv' := [(2, .int 1), (4, .int z0), (3, .int (-1)), (1, .int (-1)), (0, .ref 84)]) (st' := []) (H' := _) (kc' := 0) (ks' := 0) rfl ?_
    refine RQ.blk 2 (pc' := 10) (lv' := [(2, .int 1), (4, .int z0), (3, .int (-1)), (1, .int (-1)), (0, .ref 84)]) (st' := [.int 2, .int 1]) (H' := _) (kc' := 0) (ks' := 0) rfl ?_
    refine RQ.brF rfl rfl rfl (by decide) ?_
    refine RQ.blk 2 (pc' := 15) (lv' := [(2, .int 1), (4, .int z0), (3, .int (-1)), (1, .int (-1)), (0, .ref 84)]) (st' := [.int 1, .ref 84]) (H' := _) (kc' := 0) (ks' := 0) rfl ?_
    refine RQ.call (v := some (.int (lI (lastF cf 1 2048 5 none)))) (st' := []) rfl rfl rfl rfl rfl rfl (args_v [.int 1] [] rfl rfl (Nat.le_of_ble_eq_true rfl) rfl hY1 (Nat.le_of_ble_eq_true rfl)) (rc_lastState (m := 1) hY1 rfl hC1 hB (by omega) (by decide)) ?_
    refine RQ.blk 2 (pc' := 20) (lv' := [(3, .int (lI (lastF cf 1 2048 5 none))), (2, .int 1), (4, .int z0), (1, .int (-1)), (0, .ref 84)]) (st' := [.ref 84]) (H' := _) (kc' := 0) (ks' := 0) rfl ?_
    refine RQ.get (ci := 3) rfl hY1 rfl rfl ?_
    refine RQ.blk 3 (pc' := 28) (lv' := [(3, .int (lI (lastF cf 1 2048 5 none))), (2, .int 1), (4, .int z0), (1, .int (-1)), (0, .ref 84)]) (st' := [.int (1 * 2048), .ref 72]) (H' := _) (kc' := 0) (ks' := 0) rfl ?_
    rw [show (1 * 2048 : Int32) = nI (1 * 2048) from pk_mul 1 2048]
    refine RQ.blk 2 (pc' := 30) (lv' := [(3, .int (lI (lastF cf 1 2048 5 none))), (2, .int 1), (4, .int z0), (1, .int (-1)), (0, .ref 84)]) (st' := [.int (nI (1 * 2048) + 1), .ref 72]) (H' := _) (kc' := 0) (ks' := 0) rfl ?_
    rw [show (nI (1 * 2048) + 1 : Int32) = nI (1 * 2048 + 1) from nI_add (1 * 2048) 1]
    refine RQ.blk 1 (pc' := 31) (lv' := [(3, .int (lI (lastF cf 1 2048 5 none))), (2, .int 1), (4, .int z0), (1, .int (-1)), (0, .ref 84)]) (st' := [.int 4, .int (nI (1 * 2048 + 1)), .ref 72]) (H' := _) (kc' := 0) (ks' := 0) rfl ?_
    have hnm1 := rc_cnum (sc := sc) (d := d + 2) (i := 1 * 2048 + 1) (k := 4) hC1.1 rfl hC1.2.1 (by omega) (by omega)
    generalize hz1 : numI cf (1 * 2048 + 1) 4 0 = z1 at hnm1
    refine RQ.call (v := some (.int z1)) (st' := []) rfl rfl rfl rfl rfl rfl (args_v [.int 4, .int (nI (1 * 2048 + 1))] [] rfl rfl (Nat.le_of_ble_eq_true rfl) rfl hC1.1 (Nat.le_of_ble_eq_true rfl)) hnm1 ?_
    have hzq1 : ∀ a, lastF cf 1 2048 5 none = some a → z1 = nI (sqN cf 1) := fun a ha => by
      rw [← hz1, show (0 : Int32) = nI 0 from rfl, numI_be _ _ _ (by have := (hq 1 (by decide) a ha).1; unfold sqN at this; exact this)]; rfl
    refine RQ.blk 2 (pc' := 37) (lv' := [(4, .int z1), (3, .int (lI (lastF cf 1 2048 5 none))), (2, .int 1), (1, .int (-1)), (0, .ref 84)]) (st' := [.int (lI (lastF cf 1 2048 5 none))]) (H' := _) (kc' := 0) (ks' := 0) rfl ?_
    cases l1 : lastF cf 1 2048 5 none with
    | none =>
      refine RQ.brT rfl rfl rfl (by decide) ?_
      refine RQ.blk 2 (pc' := 8) (lv' := [(2, .int 2), (4, .int z1), (3, .int (-1)), (1, .int (-1)), (0, .ref 84)]) (st' := []) (H' := _) (kc' := 0) (ks' := 0) rfl ?_
      refine RQ.blk 2 (pc' := 10) (lv' := [(2, .int 2), (4, .int z1), (3, .int (-1)), (1, .int (-1)), (0, .ref 84)]) (st' := [.int 2, .int 2]) (H' := _) (kc' := 0) (ks' := 0) rfl ?_
      refine RQ.brT rfl rfl rfl (by decide) ?_
      have hpk : pickF cf = none := by unfold pickF; rw [l0, l1]
      rw [hpk] at hsel
      cases hsel
    | some a1 =>
      obtain ⟨hs1, ha1⟩ := hq 1 (by decide) a1 l1
      rw [show lI (some a1) = nI a1 from rfl, hzq1 a1 l1]
      refine RQ.brF rfl rfl rfl (cF_lt a1 0) ?_
      refine RQ.blk 1 (pc' := 41) (lv' := [(4, .int (nI (sqN cf 1))), (3, .int (nI a1)), (2, .int 1), (1, .int (-1)), (0, .ref 84)]) (st' := [.int (-1)]) (H' := _) (kc' := 0) (ks' := 0) rfl ?_
      refine RQ.brT rfl rfl rfl (by decide) ?_
      refine RQ.blk 2 (pc' := 55) (lv' := [(1, .int (nI a1)), (4, .int (nI (sqN cf 1))), (3, .int (nI a1)), (2, .int 1), (0, .ref 84)]) (st' := []) (H' := _) (kc' := 0) (ks' := 0) rfl ?_
      refine RQ.blk 2 (pc' := 57) (lv' := [(1, .int (nI a1)), (4, .int (nI (sqN cf 1))), (3, .int (nI a1)), (2, .int 1), (0, .ref 84)]) (st' := [.int 1, .ref 84]) (H' := _) (kc' := 0) (ks' := 0) rfl ?_
      refine RQ.put (ci := 3) rfl hY1 rfl rfl (Nat.le_of_ble_eq_true rfl) ?_
      refine RQ.blk 2 (pc' := 63) (lv' := [(1, .int (nI a1)), (4, .int (nI (sqN cf 1))), (3, .int (nI a1)), (2, .int 1), (0, .ref 84)]) (st' := [.int (nI (sqN cf 1)), .ref 84]) (H' := _) (kc' := 0) (ks' := 0) rfl ?_
      refine RQ.put (ci := 3) rfl (get_set hY1) rfl rfl (Nat.le_of_ble_eq_true rfl) ?_
      rw [set_set]
      show RQ sc (d + 3) mr_180 66 [(1, .int (nI a1)), (4, .int (nI (sqN cf 1))), (3, .int (nI a1)), (2, .int 1), (0, .ref 84)] [] (H1.set 83 (kO 3 (layF B 0 0 0 false 0 0 1 2048 (sqN cf 1) tu 0 0))) 0 0 _
      have hYP1 : (H1.set 83 (kO 3 (layF B 0 0 0 false 0 0 1 2048 (sqN cf 1) tu 0 0)))[83]? = some (kO 3 (layF B 0 0 0 false 0 0 1 2048 (sqN cf 1) tu 0 0)) := get_set hY1
      have fP1 : ∀ a, a ≠ 83 → (H1.set 83 (kO 3 (layF B 0 0 0 false 0 0 1 2048 (sqN cf 1) tu 0 0)))[a]? = H1[a]? := fun a ha => (set_far ha).trans rfl
      generalize (H1.set 83 (kO 3 (layF B 0 0 0 false 0 0 1 2048 (sqN cf 1) tu 0 0))) = HP1 at hYP1 fP1 ⊢
      have hCP1 := hC1.far (H' := HP1) (fun a a1 a2 => fP1 a (by omega))
      refine RQ.blk 2 (pc' := 8) (lv' := [(2, .int 2), (1, .int (nI a1)), (4, .int (nI (sqN cf 1))), (3, .int (nI a1)), (0, .ref 84)]) (st' := []) (H' := _) (kc' := 0) (ks' := 0) rfl ?_
      refine RQ.blk 2 (pc' := 10) (lv' := [(2, .int 2), (1, .int (nI a1)), (4, .int (nI (sqN cf 1))), (3, .int (nI a1)), (0, .ref 84)]) (st' := [.int 2, .int 2]) (H' := _) (kc' := 0) (ks' := 0) rfl ?_
      refine RQ.brT rfl rfl rfl (by decide) ?_
      have hpk : pickF cf = some (1, a1, sqN cf 1) := by unfold pickF; rw [l0, l1]
      rw [hpk] at hsel
      have hsel := Option.some.inj hsel
      have e1 := congrArg Prod.fst hsel
      have e2 := congrArg (fun z => z.2.1) hsel
      have e3 := congrArg (fun z => z.2.2) hsel
      dsimp only at e1 e2 e3
      subst e1 e2 e3
      refine RQ.blk 1 (pc' := 73) (lv' := [(2, .int 2), (1, .int (nI a1)), (4, .int (nI (sqN cf 1))), (3, .int (nI a1)), (0, .ref 84)]) (st' := [.int (nI a1)]) (H' := _) (kc' := 0) (ks' := 0) rfl ?_
      refine RQ.brT rfl rfl rfl (cT_ge a1 0) ?_
      refine RQ.blk 2 (pc' := 82) (lv' := [(2, .int 2), (1, .int (nI a1)), (4, .int (nI (sqN cf 1))), (3, .int (nI a1)), (0, .ref 84)]) (st' := [.int (nI a1), .ref 84]) (H' := _) (kc' := 0) (ks' := 0) rfl ?_
      have hL2 : LayIs HP1 B ([]) 0 0 false 0 ([]) 1 2048 (sqN cf 1) tu us := ⟨lg, pi, ⟨hYP1, (fP1 86 (by decide)).trans hY.2.1, (fP1 87 (by decide)).trans hY.2.2⟩, hlg, hlc, hRs.far2 (fP1 84 (by decide)) (fun a a1 a2 => fP1 a (by omega))⟩
      refine RQ.callI (st' := []) rfl rfl rfl rfl rfl rfl (args_v [.int (nI a1)] [] rfl rfl (Nat.le_of_ble_eq_true rfl) rfl hYP1 (Nat.le_of_ble_eq_true rfl)) (ri_adopt (a := a1) hL2 hB hCP1 hs ha9 hP hfr hff hlB hlgB hrl hrs) (fun x HA hxA => ?_)
      obtain ⟨exA, hLA, fAA⟩ := hxA
      rw [exA]
      obtain ⟨yfA, hyA⟩ : ∃ yf, HA[83]? = some (kO 3 yf) := by obtain ⟨_, _, q1, _⟩ := hLA; exact ⟨_, q1.1⟩
      refine RQ.blk 2 (pc' := 87) (lv' := [(2, .int (nI P)), (1, .int (nI a1)), (4, .int (nI (sqN cf 1))), (3, .int (nI a1)), (0, .ref 84)]) (st' := [.ref 84]) (H' := _) (kc' := 0) (ks' := 0) rfl ?_
      refine RQ.callN (st' := []) rfl rfl rfl rfl rfl rfl (args_v [] [] rfl rfl (Nat.le_of_ble_eq_true rfl) rfl hyA (Nat.le_of_ble_eq_true rfl)) (rn_noteUse hLA hB hlB (fun x hx => (hrs x hx).2.2.2.2)) (fun HN hxN => ?_)
      rw [hxN]
      refine RQ.blk 1 (pc' := 91) (lv' := [(2, .int (nI P)), (1, .int (nI a1)), (4, .int (nI (sqN cf 1))), (3, .int (nI a1)), (0, .ref 84)]) (st' := [.int (nI P)]) (H' := _) (kc' := 0) (ks' := 0) rfl ?_
      exact RQ.done (c := 0) (s := 0) rfl rfl rfl rfl ⟨_, _, rfl, rfl, hLA.used _, fun a a1 => (set_far (by omega)).trans ((fAA a (by omega)).trans ((fP1 a (by omega)).trans (f1 a (by omega))))⟩
  | some a0 =>
    obtain ⟨hs0, ha0⟩ := hq 0 (by decide) a0 l0
    rw [show lI (some a0) = nI a0 from rfl, hzq0 a0 l0]
    refine RQ.brF rfl rfl rfl (cF_lt a0 0) ?_
    refine RQ.blk 1 (pc' := 41) (lv' := [(4, .int (nI (sqN cf 0))), (3, .int (nI a0)), (2, .int 0), (1, .int (-1)), (0, .ref 84)]) (st' := [.int (-1)]) (H' := _) (kc' := 0) (ks' := 0) rfl ?_
    refine RQ.brT rfl rfl rfl (by decide) ?_
    refine RQ.blk 2 (pc' := 55) (lv' := [(1, .int (nI a0)), (4, .int (nI (sqN cf 0))), (3, .int (nI a0)), (2, .int 0), (0, .ref 84)]) (st' := []) (H' := _) (kc' := 0) (ks' := 0) rfl ?_
    refine RQ.blk 2 (pc' := 57) (lv' := [(1, .int (nI a0)), (4, .int (nI (sqN cf 0))), (3, .int (nI a0)), (2, .int 0), (0, .ref 84)]) (st' := [.int 0, .ref 84]) (H' := _) (kc' := 0) (ks' := 0) rfl ?_
    refine RQ.put (ci := 3) rfl hY1 rfl rfl (Nat.le_of_ble_eq_true rfl) ?_
    refine RQ.blk 2 (pc' := 63) (lv' := [(1, .int (nI a0)), (4, .int (nI (sqN cf 0))), (3, .int (nI a0)), (2, .int 0), (0, .ref 84)]) (st' := [.int (nI (sqN cf 0)), .ref 84]) (H' := _) (kc' := 0) (ks' := 0) rfl ?_
    refine RQ.put (ci := 3) rfl (get_set hY1) rfl rfl (Nat.le_of_ble_eq_true rfl) ?_
    rw [set_set]
    show RQ sc (d + 3) mr_180 66 [(1, .int (nI a0)), (4, .int (nI (sqN cf 0))), (3, .int (nI a0)), (2, .int 0), (0, .ref 84)] [] (H1.set 83 (kO 3 (layF B 0 0 0 false 0 0 0 2048 (sqN cf 0) tu 0 0))) 0 0 _
    have hYP0 : (H1.set 83 (kO 3 (layF B 0 0 0 false 0 0 0 2048 (sqN cf 0) tu 0 0)))[83]? = some (kO 3 (layF B 0 0 0 false 0 0 0 2048 (sqN cf 0) tu 0 0)) := get_set hY1
    have fP0 : ∀ a, a ≠ 83 → (H1.set 83 (kO 3 (layF B 0 0 0 false 0 0 0 2048 (sqN cf 0) tu 0 0)))[a]? = H1[a]? := fun a ha => (set_far ha).trans rfl
    generalize (H1.set 83 (kO 3 (layF B 0 0 0 false 0 0 0 2048 (sqN cf 0) tu 0 0))) = HP0 at hYP0 fP0 ⊢
    have hCP0 := hC1.far (H' := HP0) (fun a a1 a2 => fP0 a (by omega))
    refine RQ.blk 2 (pc' := 8) (lv' := [(2, .int 1), (1, .int (nI a0)), (4, .int (nI (sqN cf 0))), (3, .int (nI a0)), (0, .ref 84)]) (st' := []) (H' := _) (kc' := 0) (ks' := 0) rfl ?_
    refine RQ.blk 2 (pc' := 10) (lv' := [(2, .int 1), (1, .int (nI a0)), (4, .int (nI (sqN cf 0))), (3, .int (nI a0)), (0, .ref 84)]) (st' := [.int 2, .int 1]) (H' := _) (kc' := 0) (ks' := 0) rfl ?_
    refine RQ.brF rfl rfl rfl (by decide) ?_
    refine RQ.blk 2 (pc' := 15) (lv' := [(2, .int 1), (1, .int (nI a0)), (4, .int (nI (sqN cf 0))), (3, .int (nI a0)), (0, .ref 84)]) (st' := [.int 1, .ref 84]) (H' := _) (kc' := 0) (ks' := 0) rfl ?_
    refine RQ.call (v := some (.int (lI (lastF cf 1 2048 5 none)))) (st' := []) rfl rfl rfl rfl rfl rfl (args_v [.int 1] [] rfl rfl (Nat.le_of_ble_eq_true rfl) rfl hYP0 (Nat.le_of_ble_eq_true rfl)) (rc_lastState (m := 1) hYP0 rfl hCP0 hB (by omega) (by decide)) ?_
    refine RQ.blk 2 (pc' := 20) (lv' := [(3, .int (lI (lastF cf 1 2048 5 none))), (2, .int 1), (1, .int (nI a0)), (4, .int (nI (sqN cf 0))), (0, .ref 84)]) (st' := [.ref 84]) (H' := _) (kc' := 0) (ks' := 0) rfl ?_
    refine RQ.get (ci := 3) rfl hYP0 rfl rfl ?_
    refine RQ.blk 3 (pc' := 28) (lv' := [(3, .int (lI (lastF cf 1 2048 5 none))), (2, .int 1), (1, .int (nI a0)), (4, .int (nI (sqN cf 0))), (0, .ref 84)]) (st' := [.int (1 * 2048), .ref 72]) (H' := _) (kc' := 0) (ks' := 0) rfl ?_
    rw [show (1 * 2048 : Int32) = nI (1 * 2048) from pk_mul 1 2048]
    refine RQ.blk 2 (pc' := 30) (lv' := [(3, .int (lI (lastF cf 1 2048 5 none))), (2, .int 1), (1, .int (nI a0)), (4, .int (nI (sqN cf 0))), (0, .ref 84)]) (st' := [.int (nI (1 * 2048) + 1), .ref 72]) (H' := _) (kc' := 0) (ks' := 0) rfl ?_
    rw [show (nI (1 * 2048) + 1 : Int32) = nI (1 * 2048 + 1) from nI_add (1 * 2048) 1]
    refine RQ.blk 1 (pc' := 31) (lv' := [(3, .int (lI (lastF cf 1 2048 5 none))), (2, .int 1), (1, .int (nI a0)), (4, .int (nI (sqN cf 0))), (0, .ref 84)]) (st' := [.int 4, .int (nI (1 * 2048 + 1)), .ref 72]) (H' := _) (kc' := 0) (ks' := 0) rfl ?_
    have hnm1 := rc_cnum (sc := sc) (d := d + 2) (i := 1 * 2048 + 1) (k := 4) hCP0.1 rfl hCP0.2.1 (by omega) (by omega)
    generalize hz1 : numI cf (1 * 2048 + 1) 4 0 = z1 at hnm1
    refine RQ.call (v := some (.int z1)) (st' := []) rfl rfl rfl rfl rfl rfl (args_v [.int 4, .int (nI (1 * 2048 + 1))] [] rfl rfl (Nat.le_of_ble_eq_true rfl) rfl hCP0.1 (Nat.le_of_ble_eq_true rfl)) hnm1 ?_
    have hzq1 : ∀ a, lastF cf 1 2048 5 none = some a → z1 = nI (sqN cf 1) := fun a ha => by
      rw [← hz1, show (0 : Int32) = nI 0 from rfl, numI_be _ _ _ (by have := (hq 1 (by decide) a ha).1; unfold sqN at this; exact this)]; rfl
    refine RQ.blk 2 (pc' := 37) (lv' := [(4, .int z1), (3, .int (lI (lastF cf 1 2048 5 none))), (2, .int 1), (1, .int (nI a0)), (0, .ref 84)]) (st' := [.int (lI (lastF cf 1 2048 5 none))]) (H' := _) (kc' := 0) (ks' := 0) rfl ?_
    cases l1 : lastF cf 1 2048 5 none with
    | none =>
      refine RQ.brT rfl rfl rfl (by decide) ?_
      refine RQ.blk 2 (pc' := 8) (lv' := [(2, .int 2), (4, .int z1), (3, .int (-1)), (1, .int (nI a0)), (0, .ref 84)]) (st' := []) (H' := _) (kc' := 0) (ks' := 0) rfl ?_
      refine RQ.blk 2 (pc' := 10) (lv' := [(2, .int 2), (4, .int z1), (3, .int (-1)), (1, .int (nI a0)), (0, .ref 84)]) (st' := [.int 2, .int 2]) (H' := _) (kc' := 0) (ks' := 0) rfl ?_
      refine RQ.brT rfl rfl rfl (by decide) ?_
      have hpk : pickF cf = some (0, a0, sqN cf 0) := by unfold pickF; rw [l0, l1]
      rw [hpk] at hsel
      have hsel := Option.some.inj hsel
      have e1 := congrArg Prod.fst hsel
      have e2 := congrArg (fun z => z.2.1) hsel
      have e3 := congrArg (fun z => z.2.2) hsel
      dsimp only at e1 e2 e3
      subst e1 e2 e3
      refine RQ.blk 1 (pc' := 73) (lv' := [(2, .int 2), (4, .int z1), (3, .int (-1)), (1, .int (nI a0)), (0, .ref 84)]) (st' := [.int (nI a0)]) (H' := _) (kc' := 0) (ks' := 0) rfl ?_
      refine RQ.brT rfl rfl rfl (cT_ge a0 0) ?_
      refine RQ.blk 2 (pc' := 82) (lv' := [(2, .int 2), (4, .int z1), (3, .int (-1)), (1, .int (nI a0)), (0, .ref 84)]) (st' := [.int (nI a0), .ref 84]) (H' := _) (kc' := 0) (ks' := 0) rfl ?_
      have hL2 : LayIs HP0 B ([]) 0 0 false 0 ([]) 0 2048 (sqN cf 0) tu us := ⟨lg, pi, ⟨hYP0, (fP0 86 (by decide)).trans hY.2.1, (fP0 87 (by decide)).trans hY.2.2⟩, hlg, hlc, hRs.far2 (fP0 84 (by decide)) (fun a a1 a2 => fP0 a (by omega))⟩
      refine RQ.callI (st' := []) rfl rfl rfl rfl rfl rfl (args_v [.int (nI a0)] [] rfl rfl (Nat.le_of_ble_eq_true rfl) rfl hYP0 (Nat.le_of_ble_eq_true rfl)) (ri_adopt (a := a0) hL2 hB hCP0 hs ha9 hP hfr hff hlB hlgB hrl hrs) (fun x HA hxA => ?_)
      obtain ⟨exA, hLA, fAA⟩ := hxA
      rw [exA]
      obtain ⟨yfA, hyA⟩ : ∃ yf, HA[83]? = some (kO 3 yf) := by obtain ⟨_, _, q1, _⟩ := hLA; exact ⟨_, q1.1⟩
      refine RQ.blk 2 (pc' := 87) (lv' := [(2, .int (nI P)), (4, .int z1), (3, .int (-1)), (1, .int (nI a0)), (0, .ref 84)]) (st' := [.ref 84]) (H' := _) (kc' := 0) (ks' := 0) rfl ?_
      refine RQ.callN (st' := []) rfl rfl rfl rfl rfl rfl (args_v [] [] rfl rfl (Nat.le_of_ble_eq_true rfl) rfl hyA (Nat.le_of_ble_eq_true rfl)) (rn_noteUse hLA hB hlB (fun x hx => (hrs x hx).2.2.2.2)) (fun HN hxN => ?_)
      rw [hxN]
      refine RQ.blk 1 (pc' := 91) (lv' := [(2, .int (nI P)), (4, .int z1), (3, .int (-1)), (1, .int (nI a0)), (0, .ref 84)]) (st' := [.int (nI P)]) (H' := _) (kc' := 0) (ks' := 0) rfl ?_
      exact RQ.done (c := 0) (s := 0) rfl rfl rfl rfl ⟨_, _, rfl, rfl, hLA.used _, fun a a1 => (set_far (by omega)).trans ((fAA a (by omega)).trans ((fP0 a (by omega)).trans (f1 a (by omega))))⟩
    | some a1 =>
      obtain ⟨hs1, ha1⟩ := hq 1 (by decide) a1 l1
      rw [show lI (some a1) = nI a1 from rfl, hzq1 a1 l1]
      refine RQ.brF rfl rfl rfl (cF_lt a1 0) ?_
      refine RQ.blk 1 (pc' := 41) (lv' := [(4, .int (nI (sqN cf 1))), (3, .int (nI a1)), (2, .int 1), (1, .int (nI a0)), (0, .ref 84)]) (st' := [.int (nI a0)]) (H' := _) (kc' := 0) (ks' := 0) rfl ?_
      refine RQ.brF rfl rfl rfl (cF_lt a0 0) ?_
      refine RQ.blk 2 (pc' := 47) (lv' := [(4, .int (nI (sqN cf 1))), (3, .int (nI a1)), (2, .int 1), (1, .int (nI a0)), (0, .ref 84)]) (st' := [.ref 84, .int (nI (sqN cf 1))]) (H' := _) (kc' := 0) (ks' := 0) rfl ?_
      refine RQ.get (ci := 3) rfl hYP0 rfl rfl ?_
      by_cases hlt : sqN cf 0 < sqN cf 1
      · refine RQ.brF rfl rfl rfl (cF_le (sqN cf 1) (sqN cf 0)) ?_
        refine RQ.blk 2 (pc' := 55) (lv' := [(1, .int (nI a1)), (4, .int (nI (sqN cf 1))), (3, .int (nI a1)), (2, .int 1), (0, .ref 84)]) (st' := []) (H' := _) (kc' := 0) (ks' := 0) rfl ?_
        refine RQ.blk 2 (pc' := 57) (lv' := [(1, .int (nI a1)), (4, .int (nI (sqN cf 1))), (3, .int (nI a1)), (2, .int 1), (0, .ref 84)]) (st' := [.int 1, .ref 84]) (H' := _) (kc' := 0) (ks' := 0) rfl ?_
        refine RQ.put (ci := 3) rfl hYP0 rfl rfl (Nat.le_of_ble_eq_true rfl) ?_
        refine RQ.blk 2 (pc' := 63) (lv' := [(1, .int (nI a1)), (4, .int (nI (sqN cf 1))), (3, .int (nI a1)), (2, .int 1), (0, .ref 84)]) (st' := [.int (nI (sqN cf 1)), .ref 84]) (H' := _) (kc' := 0) (ks' := 0) rfl ?_
        refine RQ.put (ci := 3) rfl (get_set hYP0) rfl rfl (Nat.le_of_ble_eq_true rfl) ?_
        rw [set_set]
        show RQ sc (d + 3) mr_180 66 [(1, .int (nI a1)), (4, .int (nI (sqN cf 1))), (3, .int (nI a1)), (2, .int 1), (0, .ref 84)] [] (HP0.set 83 (kO 3 (layF B 0 0 0 false 0 0 1 2048 (sqN cf 1) tu 0 0))) 0 0 _
        have hYP1 : (HP0.set 83 (kO 3 (layF B 0 0 0 false 0 0 1 2048 (sqN cf 1) tu 0 0)))[83]? = some (kO 3 (layF B 0 0 0 false 0 0 1 2048 (sqN cf 1) tu 0 0)) := get_set hYP0
        have fP1 : ∀ a, a ≠ 83 → (HP0.set 83 (kO 3 (layF B 0 0 0 false 0 0 1 2048 (sqN cf 1) tu 0 0)))[a]? = H1[a]? := fun a ha => (set_far ha).trans (fP0 a ha)
        generalize (HP0.set 83 (kO 3 (layF B 0 0 0 false 0 0 1 2048 (sqN cf 1) tu 0 0))) = HP1 at hYP1 fP1 ⊢
        have hCP1 := hC1.far (H' := HP1) (fun a a1 a2 => fP1 a (by omega))
        refine RQ.blk 2 (pc' := 8) (lv' := [(2, .int 2), (1, .int (nI a1)), (4, .int (nI (sqN cf 1))), (3, .int (nI a1)), (0, .ref 84)]) (st' := []) (H' := _) (kc' := 0) (ks' := 0) rfl ?_
        refine RQ.blk 2 (pc' := 10) (lv' := [(2, .int 2), (1, .int (nI a1)), (4, .int (nI (sqN cf 1))), (3, .int (nI a1)), (0, .ref 84)]) (st' := [.int 2, .int 2]) (H' := _) (kc' := 0) (ks' := 0) rfl ?_
        refine RQ.brT rfl rfl rfl (by decide) ?_
        have hpk : pickF cf = some (1, a1, sqN cf 1) := by unfold pickF; rw [l0, l1]; exact if_pos hlt
        rw [hpk] at hsel
        have hsel := Option.some.inj hsel
        have e1 := congrArg Prod.fst hsel
        have e2 := congrArg (fun z => z.2.1) hsel
        have e3 := congrArg (fun z => z.2.2) hsel
        dsimp only at e1 e2 e3
        subst e1 e2 e3
        refine RQ.blk 1 (pc' := 73) (lv' := [(2, .int 2), (1, .int (nI a1)), (4, .int (nI (sqN cf 1))), (3, .int (nI a1)), (0, .ref 84)]) (st' := [.int (nI a1)]) (H' := _) (kc' := 0) (ks' := 0) rfl ?_
        refine RQ.brT rfl rfl rfl (cT_ge a1 0) ?_
        refine RQ.blk 2 (pc' := 82) (lv' := [(2, .int 2), (1, .int (nI a1)), (4, .int (nI (sqN cf 1))), (3, .int (nI a1)), (0, .ref 84)]) (st' := [.int (nI a1), .ref 84]) (H' := _) (kc' := 0) (ks' := 0) rfl ?_
        have hL2 : LayIs HP1 B ([]) 0 0 false 0 ([]) 1 2048 (sqN cf 1) tu us := ⟨lg, pi, ⟨hYP1, (fP1 86 (by decide)).trans hY.2.1, (fP1 87 (by decide)).trans hY.2.2⟩, hlg, hlc, hRs.far2 (fP1 84 (by decide)) (fun a a1 a2 => fP1 a (by omega))⟩
        refine RQ.callI (st' := []) rfl rfl rfl rfl rfl rfl (args_v [.int (nI a1)] [] rfl rfl (Nat.le_of_ble_eq_true rfl) rfl hYP1 (Nat.le_of_ble_eq_true rfl)) (ri_adopt (a := a1) hL2 hB hCP1 hs ha9 hP hfr hff hlB hlgB hrl hrs) (fun x HA hxA => ?_)
        obtain ⟨exA, hLA, fAA⟩ := hxA
        rw [exA]
        obtain ⟨yfA, hyA⟩ : ∃ yf, HA[83]? = some (kO 3 yf) := by obtain ⟨_, _, q1, _⟩ := hLA; exact ⟨_, q1.1⟩
        refine RQ.blk 2 (pc' := 87) (lv' := [(2, .int (nI P)), (1, .int (nI a1)), (4, .int (nI (sqN cf 1))), (3, .int (nI a1)), (0, .ref 84)]) (st' := [.ref 84]) (H' := _) (kc' := 0) (ks' := 0) rfl ?_
        refine RQ.callN (st' := []) rfl rfl rfl rfl rfl rfl (args_v [] [] rfl rfl (Nat.le_of_ble_eq_true rfl) rfl hyA (Nat.le_of_ble_eq_true rfl)) (rn_noteUse hLA hB hlB (fun x hx => (hrs x hx).2.2.2.2)) (fun HN hxN => ?_)
        rw [hxN]
        refine RQ.blk 1 (pc' := 91) (lv' := [(2, .int (nI P)), (1, .int (nI a1)), (4, .int (nI (sqN cf 1))), (3, .int (nI a1)), (0, .ref 84)]) (st' := [.int (nI P)]) (H' := _) (kc' := 0) (ks' := 0) rfl ?_
        exact RQ.done (c := 0) (s := 0) rfl rfl rfl rfl ⟨_, _, rfl, rfl, hLA.used _, fun a a1 => (set_far (by omega)).trans ((fAA a (by omega)).trans ((fP1 a (by omega)).trans (f1 a (by omega))))⟩
      · refine RQ.brT rfl rfl rfl (cT_le (sqN cf 1) (sqN cf 0)) ?_
        refine RQ.blk 2 (pc' := 8) (lv' := [(2, .int 2), (4, .int (nI (sqN cf 1))), (3, .int (nI a1)), (1, .int (nI a0)), (0, .ref 84)]) (st' := []) (H' := _) (kc' := 0) (ks' := 0) rfl ?_
        refine RQ.blk 2 (pc' := 10) (lv' := [(2, .int 2), (4, .int (nI (sqN cf 1))), (3, .int (nI a1)), (1, .int (nI a0)), (0, .ref 84)]) (st' := [.int 2, .int 2]) (H' := _) (kc' := 0) (ks' := 0) rfl ?_
        refine RQ.brT rfl rfl rfl (by decide) ?_
        have hpk : pickF cf = some (0, a0, sqN cf 0) := by unfold pickF; rw [l0, l1]; exact if_neg hlt
        rw [hpk] at hsel
        have hsel := Option.some.inj hsel
        have e1 := congrArg Prod.fst hsel
        have e2 := congrArg (fun z => z.2.1) hsel
        have e3 := congrArg (fun z => z.2.2) hsel
        dsimp only at e1 e2 e3
        subst e1 e2 e3
        refine RQ.blk 1 (pc' := 73) (lv' := [(2, .int 2), (4, .int (nI (sqN cf 1))), (3, .int (nI a1)), (1, .int (nI a0)), (0, .ref 84)]) (st' := [.int (nI a0)]) (H' := _) (kc' := 0) (ks' := 0) rfl ?_
        refine RQ.brT rfl rfl rfl (cT_ge a0 0) ?_
        refine RQ.blk 2 (pc' := 82) (lv' := [(2, .int 2), (4, .int (nI (sqN cf 1))), (3, .int (nI a1)), (1, .int (nI a0)), (0, .ref 84)]) (st' := [.int (nI a0), .ref 84]) (H' := _) (kc' := 0) (ks' := 0) rfl ?_
        have hL2 : LayIs HP0 B ([]) 0 0 false 0 ([]) 0 2048 (sqN cf 0) tu us := ⟨lg, pi, ⟨hYP0, (fP0 86 (by decide)).trans hY.2.1, (fP0 87 (by decide)).trans hY.2.2⟩, hlg, hlc, hRs.far2 (fP0 84 (by decide)) (fun a a1 a2 => fP0 a (by omega))⟩
        refine RQ.callI (st' := []) rfl rfl rfl rfl rfl rfl (args_v [.int (nI a0)] [] rfl rfl (Nat.le_of_ble_eq_true rfl) rfl hYP0 (Nat.le_of_ble_eq_true rfl)) (ri_adopt (a := a0) hL2 hB hCP0 hs ha9 hP hfr hff hlB hlgB hrl hrs) (fun x HA hxA => ?_)
        obtain ⟨exA, hLA, fAA⟩ := hxA
        rw [exA]
        obtain ⟨yfA, hyA⟩ : ∃ yf, HA[83]? = some (kO 3 yf) := by obtain ⟨_, _, q1, _⟩ := hLA; exact ⟨_, q1.1⟩
        refine RQ.blk 2 (pc' := 87) (lv' := [(2, .int (nI P)), (4, .int (nI (sqN cf 1))), (3, .int (nI a1)), (1, .int (nI a0)), (0, .ref 84)]) (st' := [.ref 84]) (H' := _) (kc' := 0) (ks' := 0) rfl ?_
        refine RQ.callN (st' := []) rfl rfl rfl rfl rfl rfl (args_v [] [] rfl rfl (Nat.le_of_ble_eq_true rfl) rfl hyA (Nat.le_of_ble_eq_true rfl)) (rn_noteUse hLA hB hlB (fun x hx => (hrs x hx).2.2.2.2)) (fun HN hxN => ?_)
        rw [hxN]
        refine RQ.blk 1 (pc' := 91) (lv' := [(2, .int (nI P)), (4, .int (nI (sqN cf 1))), (3, .int (nI a1)), (1, .int (nI a0)), (0, .ref 84)]) (st' := [.int (nI P)]) (H' := _) (kc' := 0) (ks' := 0) rfl ?_
        exact RQ.done (c := 0) (s := 0) rfl rfl rfl rfl ⟨_, _, rfl, rfl, hLA.used _, fun a a1 => (set_far (by omega)).trans ((fAA a (by omega)).trans ((fP0 a (by omega)).trans (f1 a (by omega))))⟩
theorem rc_armCut0 {sc : Nat × (Nat → Int32)} {d : Nat} {H : aH} {bl pr up cl cp cb x : Int32} (h0 : H[0]? = some (kO 11 (fvs bl pr up 0 cl cp cb))) : RC sc d mr_94 [.ref 1, .int x] H (.inl none) H 0 0 := by
  refine RP.blk 1 (pc' := 1) (lv' := [(0, .ref 1), (1, .int x)]) (st' := [.ref 1]) (H' := _) (kc' := 0) (ks' := 0) rfl ?_
  refine RP.get (ci := 11) rfl h0 rfl rfl ?_
  refine RP.brT rfl rfl rfl (by decide) ?_
  exact RP.done (c := 0) (s := 0) rfl rfl rfl rfl
theorem rc_armCutL {sc : Nat × (Nat → Int32)} {d : Nat} {H : aH} {bl pr up cp cb x : Int32} (h0 : H[0]? = some (kO 11 (fvs bl pr up 1 1 cp cb))) : RC sc d mr_94 [.ref 1, .int x] H (.inl none) H 0 0 := by
  refine RP.blk 1 (pc' := 1) (lv' := [(0, .ref 1), (1, .int x)]) (st' := [.ref 1]) (H' := _) (kc' := 0) (ks' := 0) rfl ?_
  refine RP.get (ci := 11) rfl h0 rfl rfl ?_
  refine RP.brF rfl rfl rfl (by decide) ?_
  refine RP.blk 1 (pc' := 8) (lv' := [(0, .ref 1), (1, .int x)]) (st' := [.ref 1]) (H' := _) (kc' := 0) (ks' := 0) rfl ?_
  refine RP.get (ci := 11) rfl h0 rfl rfl ?_
  refine RP.brT rfl rfl rfl (by decide) ?_
  exact RP.done (c := 0) (s := 0) rfl rfl rfl rfl
theorem rc_armCut1 {sc : Nat × (Nat → Int32)} {d kp kb : Nat} {H : aH} {bl pr up : Int32} {B : Nat} {cf : Nat → Int8} {tf : Nat → Nat} {pq : Option Nat} {bb : Nat} (h0 : H[0]? = some (kO 11 (fvs bl pr up 1 0 (nI kp) (nI kb)))) (hC : ChipAt H B cf tf pq bb 0) : RC sc (d + 1) mr_94 [.ref 1, .int 0] H (.inl none) (H.set 71 (kO 1 [.ref 73, .ref 74, .int (lI (some (kp))), .int (nI kb), .int (nI 0)])) 0 0 := by
  refine RP.blk 1 (pc' := 1) (lv' := [(0, .ref 1), (1, .int 0)]) (st' := [.ref 1]) (H' := _) (kc' := 0) (ks' := 0) rfl ?_
  refine RP.get (ci := 11) rfl h0 rfl rfl ?_
  refine RP.brF rfl rfl rfl (by decide) ?_
  refine RP.blk 1 (pc' := 8) (lv' := [(0, .ref 1), (1, .int 0)]) (st' := [.ref 1]) (H' := _) (kc' := 0) (ks' := 0) rfl ?_
  refine RP.get (ci := 11) rfl h0 rfl rfl ?_
  refine RP.brF rfl rfl rfl (by decide) ?_
  refine RP.blk 1 (pc' := 15) (lv' := [(0, .ref 1), (1, .int 0)]) (st' := [.ref 1]) (H' := _) (kc' := 0) (ks' := 0) rfl ?_
  refine RP.get (ci := 11) rfl h0 rfl rfl ?_
  refine RP.blk 1 (pc' := 19) (lv' := [(0, .ref 1), (1, .int 0)]) (st' := [.int 0, .ref 72]) (H' := _) (kc' := 0) (ks' := 0) rfl ?_
  refine RP.brT rfl rfl rfl (by decide) ?_
  refine RP.blk 1 (pc' := 32) (lv' := [(0, .ref 1), (1, .int 0)]) (st' := [.ref 1, .ref 72]) (H' := _) (kc' := 0) (ks' := 0) rfl ?_
  refine RP.get (ci := 11) rfl h0 rfl rfl ?_
  refine RP.blk 1 (pc' := 36) (lv' := [(0, .ref 1), (1, .int 0)]) (st' := [.ref 1, .int (nI kp), .ref 72]) (H' := _) (kc' := 0) (ks' := 0) rfl ?_
  refine RP.get (ci := 11) rfl h0 rfl rfl ?_
  refine RP.call (v := none) (st' := []) rfl rfl rfl rfl rfl rfl (args_v [.int (nI kb), .int (nI kp)] [] rfl rfl (Nat.le_of_ble_eq_true rfl) rfl hC.1 (Nat.le_of_ble_eq_true rfl)) (rc_arm (k := kp) (m := kb) hC) ?_
  exact RP.done (c := 0) (s := 0) rfl rfl rfl rfl
theorem rc_armCutM {sc : Nat × (Nat → Int32)} {d kp kb n : Nat} {H : aH} {bl pr up : Int32} {B : Nat} {cf : Nat → Int8} {tf : Nat → Nat} {pq : Option Nat} {bb : Nat} (h0 : H[0]? = some (kO 11 (fvs bl pr up 1 0 (nI kp) (nI kb)))) (hC : ChipAt H B cf tf pq bb 0) (hn : 1 ≤ n) (hn2 : n < 2 ^ 31) (hkp : kp < 2 ^ 31) : RC sc (d + 1) mr_94 [.ref 1, .int (nI n)] H (.inl none) (H.set 71 (kO 1 [.ref 73, .ref 74, .int (lI (some (kp % n))), .int (nI kb), .int (nI 0)])) 0 0 := by
  refine RP.blk 1 (pc' := 1) (lv' := [(0, .ref 1), (1, .int (nI n))]) (st' := [.ref 1]) (H' := _) (kc' := 0) (ks' := 0) rfl ?_
  refine RP.get (ci := 11) rfl h0 rfl rfl ?_
  refine RP.brF rfl rfl rfl (by decide) ?_
  refine RP.blk 1 (pc' := 8) (lv' := [(0, .ref 1), (1, .int (nI n))]) (st' := [.ref 1]) (H' := _) (kc' := 0) (ks' := 0) rfl ?_
  refine RP.get (ci := 11) rfl h0 rfl rfl ?_
  refine RP.brF rfl rfl rfl (by decide) ?_
  refine RP.blk 1 (pc' := 15) (lv' := [(0, .ref 1), (1, .int (nI n))]) (st' := [.ref 1]) (H' := _) (kc' := 0) (ks' := 0) rfl ?_
  refine RP.get (ci := 11) rfl h0 rfl rfl ?_
  refine RP.blk 1 (pc' := 19) (lv' := [(0, .ref 1), (1, .int (nI n))]) (st' := [.int (nI n), .ref 72]) (H' := _) (kc' := 0) (ks' := 0) rfl ?_
  refine RP.brF rfl rfl rfl (cF_le n 0) ?_
  refine RP.blk 1 (pc' := 23) (lv' := [(0, .ref 1), (1, .int (nI n))]) (st' := [.ref 1, .ref 72]) (H' := _) (kc' := 0) (ks' := 0) rfl ?_
  refine RP.get (ci := 11) rfl h0 rfl rfl ?_
  refine RP.blk 1 (pc' := 27) (lv' := [(0, .ref 1), (1, .int (nI n))]) (st' := [.int (nI n), .int (nI kp), .ref 72]) (H' := _) (kc' := 0) (ks' := 0) rfl ?_
  refine RP.goB (I := .irem) (J := .irem) rfl rfl (bin_rem hkp (by omega) (by omega)) ?_
  refine RP.blk 2 (pc' := 36) (lv' := [(0, .ref 1), (1, .int (nI n))]) (st' := [.ref 1, .int (nI (kp % n)), .ref 72]) (H' := _) (kc' := 0) (ks' := 0) rfl ?_
  refine RP.get (ci := 11) rfl h0 rfl rfl ?_
  refine RP.call (v := none) (st' := []) rfl rfl rfl rfl rfl rfl (args_v [.int (nI kb), .int (nI (kp % n))] [] rfl rfl (Nat.le_of_ble_eq_true rfl) rfl hC.1 (Nat.le_of_ble_eq_true rfl)) (rc_arm (k := kp % n) (m := kb) hC) ?_
  exact RP.done (c := 0) (s := 0) rfl rfl rfl rfl
theorem rn_settle0 {sc : Nat × (Nat → Int32)} {d : Nat} {H : aH} {bl pr up cl cp cb : Int32} {B : Nat} {cf : Nat → Int8} {tf : Nat → Nat} {pq : Option Nat} {bb : Nat} (h0 : H[0]? = some (kO 11 (fvs bl pr up 0 cl cp cb))) (hC : ChipAt H B cf tf pq bb 0) : RN sc (d + 1) mr_153 [.ref 1, .int 1] H (fun H' => H'[0]? = some (kO 11 (fvs bl pr up 0 cl cp cb)) ∧ ChipAt H' B cf tf none bb 0 ∧ ∀ a, a ≠ 0 → a ≠ 71 → H'[a]? = H[a]?) := by
  refine RN.of ?_
  refine RQ.blk 1 (pc' := 1) (lv' := [(0, .ref 1), (1, .int 1)]) (st' := [.ref 1]) (H' := _) (kc' := 0) (ks' := 0) rfl ?_
  refine RQ.get (ci := 11) rfl h0 rfl rfl ?_
  refine RQ.brF rfl rfl rfl (by decide) ?_
  refine RQ.blk 1 (pc' := 8) (lv' := [(0, .ref 1), (1, .int 1)]) (st' := [.int 1]) (H' := _) (kc' := 0) (ks' := 0) rfl ?_
  refine RQ.brT rfl rfl rfl (by decide) ?_
  refine RQ.blk 4 (pc' := 19) (lv' := [(2, .int 0), (0, .ref 1), (1, .int 1)]) (st' := [.int 0, .ref 1]) (H' := _) (kc' := 0) (ks' := 0) rfl ?_
  refine RQ.put (ci := 11) rfl h0 rfl rfl (Nat.le_of_ble_eq_true rfl) ?_
  refine RQ.blk 1 (pc' := 23) (lv' := [(2, .int 0), (0, .ref 1), (1, .int 1)]) (st' := [.ref 1]) (H' := _) (kc' := 0) (ks' := 0) rfl ?_
  refine RQ.get (ci := 11) rfl (get_set h0) rfl rfl ?_
  have hC2 := hC.far (H' := (H.set 0 (kO 11 (fvs bl pr up 0 cl cp cb)))) (fun a a1 a2 => set_far (by omega))
  refine RQ.call (v := none) (st' := []) rfl rfl rfl rfl rfl rfl (args_v [] [] rfl rfl (Nat.le_of_ble_eq_true rfl) rfl hC2.1 (Nat.le_of_ble_eq_true rfl)) (rc_disarm hC2) ?_
  refine RQ.blk 1 (pc' := 30) (lv' := [(2, .int 0), (0, .ref 1), (1, .int 1)]) (st' := [.int 0]) (H' := _) (kc' := 0) (ks' := 0) rfl ?_
  refine RQ.brT rfl rfl rfl (by decide) ?_
  exact RQ.done (c := 0) (s := 0) rfl rfl rfl rfl ⟨_, rfl, (set_far (by decide)).trans (get_set h0), ⟨get_set hC2.1, (set_far (by decide)).trans hC2.2.1, (set_far (by decide)).trans hC2.2.2⟩, fun a a1 a2 => (set_far a2).trans (set_far a1)⟩
theorem rx_settle {sc : Nat × (Nat → Int32)} {d : Nat} {H : aH} {x : Int32} {B : Nat} {lgs : List Nat} {fr ff : Nat} {wr : Bool} {tp : Nat} {rs : List aR} {ms mt sq tu : Nat} {us : Nat → Bool} {cf : Nat → Int8} {tf : Nat → Nat} {pq : Option Nat} {bb : Nat} {N : Nat} {l rl no : Nat} {op : Nat → Bool} {sm : Nat → Nat} {vs : List aV} {kd pa sz nl : Nat → Nat} {nm : Nat → Int8} {bl pr up cw cl cp cb : Int32} (h0 : H[0]? = some (kO 11 (fvs bl pr up cw cl cp cb))) (h1 : H[1]? = some (kO 5 [.ref 3, .int (nI l)])) (h3 : H[3]? = some (kO 5 [.ref 5, .int (nI rl)])) (hs : SightAt H op sm) (hV : VersIs H N vs) (hT : TreeAt H kd pa sz nl nm no) (h : LayIs H B lgs fr ff wr tp rs ms mt sq tu us) (hC : ChipAt H B cf tf pq bb 0) (hf : ¬ cw = 0 ∨ x = 0) : ∃ H', RC sc (d + 4) mr_153 [.ref 1, .int x] H (.inr 1) H' 1 6 ∧ H'[0]? = some (kO 11 (fvs bl 0 0 0 cl cp cb)) ∧ H'[1]? = some (kO 5 [.ref 3, .int (nI 0)]) ∧ H'[3]? = some (kO 5 [.ref 5, .int (nI 0)]) ∧ SightAt H' (fun j => if j < 8 then false else op j) sm ∧ VersIs H' N [] ∧ TreeAt H' (va_up (fun j => if j < 201 then 0 else kd j) 0 2) pa sz nl nm 0 ∧ LayIs H' B ([]) 0 0 false 0 ([]) 0 2048 0 tu us ∧ ChipAt H' B cf tf none bb 0 ∧ ∀ a, a ≠ 0 → a ≠ 1 → a ≠ 3 → a ≠ 8 → a ≠ 65 → a ≠ 66 → ¬ (74 ≤ a ∧ a < 83) → a ≠ 83 → a ≠ 71 → H'[a]? = H[a]? := by
  have key : RQ sc (d + 4) mr_153 0 (lv_args 0 [.ref 1, .int x]) [] H 0 0 (fun r => ∃ H', r = (.inr 1, H', 1, 6) ∧ H'[0]? = some (kO 11 (fvs bl 0 0 0 cl cp cb)) ∧ H'[1]? = some (kO 5 [.ref 3, .int (nI 0)]) ∧ H'[3]? = some (kO 5 [.ref 5, .int (nI 0)]) ∧ SightAt H' (fun j => if j < 8 then false else op j) sm ∧ VersIs H' N [] ∧ TreeAt H' (va_up (fun j => if j < 201 then 0 else kd j) 0 2) pa sz nl nm 0 ∧ LayIs H' B ([]) 0 0 false 0 ([]) 0 2048 0 tu us ∧ ChipAt H' B cf tf none bb 0 ∧ ∀ a, a ≠ 0 → a ≠ 1 → a ≠ 3 → a ≠ 8 → a ≠ 65 → a ≠ 66 → ¬ (74 ≤ a ∧ a < 83) → a ≠ 83 → a ≠ 71 → H'[a]? = H[a]?) := by
    refine RQ.blk 1 (pc' := 1) (lv' := [(0, .ref 1), (1, .int x)]) (st' := [.ref 1]) (H' := _) (kc' := 0) (ks' := 0) rfl ?_
    refine RQ.get (ci := 11) rfl h0 rfl rfl ?_
    by_cases hc : cw = 0
    · rw [hc]
      refine RQ.brF rfl rfl rfl (by decide) ?_
      refine RQ.blk 1 (pc' := 8) (lv' := [(0, .ref 1), (1, .int x)]) (st' := [.int x]) (H' := _) (kc' := 0) (ks' := 0) rfl ?_
      have hx0 : x = 0 := hf.resolve_left (fun e => e hc)
      rw [hx0]
      refine RQ.brF rfl rfl rfl (by decide) ?_
      refine RQ.blk 5 (pc' := 19) (lv' := [(2, .int 1), (0, .ref 1), (1, .int 0)]) (st' := [.int 0, .ref 1]) (H' := _) (kc' := 0) (ks' := 0) rfl ?_
      refine RQ.put (ci := 11) rfl h0 rfl rfl (Nat.le_of_ble_eq_true rfl) ?_
      refine RQ.blk 1 (pc' := 23) (lv' := [(2, .int 1), (0, .ref 1), (1, .int 0)]) (st' := [.ref 1]) (H' := _) (kc' := 0) (ks' := 0) rfl ?_
      refine RQ.get (ci := 11) rfl (get_set h0) rfl rfl ?_
      have hC2 := hC.far (H' := (H.set 0 (kO 11 (fvs bl pr up 0 cl cp cb)))) (fun a a1 a2 => set_far (by omega))
      refine RQ.call (v := none) (st' := []) rfl rfl rfl rfl rfl rfl (args_v [] [] rfl rfl (Nat.le_of_ble_eq_true rfl) rfl hC2.1 (Nat.le_of_ble_eq_true rfl)) (rc_disarm hC2) ?_
      refine RQ.blk 1 (pc' := 30) (lv' := [(2, .int 1), (0, .ref 1), (1, .int 0)]) (st' := [.int 1]) (H' := _) (kc' := 0) (ks' := 0) rfl ?_
      refine RQ.brF rfl rfl rfl (by decide) ?_
      refine RQ.blk 1 (pc' := 34) (lv' := [(2, .int 1), (0, .ref 1), (1, .int 0)]) (st' := [.ref 1]) (H' := _) (kc' := 0) (ks' := 0) rfl ?_
      have fG : ∀ a, a ≠ 0 → a ≠ 71 → ((H.set 0 (kO 11 (fvs bl pr up 0 cl cp cb))).set 71 (kO 1 [.ref 73, .ref 74, .int (lI none), .int (nI bb), .int (nI 0)]))[a]? = H[a]? := fun a a1 a2 => (set_far a2).trans (set_far a1)
      have g0 : ((H.set 0 (kO 11 (fvs bl pr up 0 cl cp cb))).set 71 (kO 1 [.ref 73, .ref 74, .int (lI none), .int (nI bb), .int (nI 0)]))[0]? = some (kO 11 (fvs bl pr up 0 cl cp cb)) := (set_far (by decide)).trans (get_set h0)
      have gC : ChipAt ((H.set 0 (kO 11 (fvs bl pr up 0 cl cp cb))).set 71 (kO 1 [.ref 73, .ref 74, .int (lI none), .int (nI bb), .int (nI 0)])) B cf tf none bb 0 := ⟨get_set hC2.1, (set_far (by decide)).trans hC2.2.1, (set_far (by decide)).trans hC2.2.2⟩
      show RQ sc (d + 4) mr_153 34 [(2, .int 1), (0, .ref 1), (1, .int 0)] [.ref 1] ((H.set 0 (kO 11 (fvs bl pr up 0 cl cp cb))).set 71 (kO 1 [.ref 73, .ref 74, .int (lI none), .int (nI bb), .int (nI 0)])) 0 0 _
      generalize ((H.set 0 (kO 11 (fvs bl pr up 0 cl cp cb))).set 71 (kO 1 [.ref 73, .ref 74, .int (lI none), .int (nI bb), .int (nI 0)])) = HG at fG g0 gC ⊢
      refine RQ.callN (st' := []) rfl rfl rfl rfl rfl rfl (args_v [] [] rfl rfl (Nat.le_of_ble_eq_true rfl) rfl g0 (Nat.le_of_ble_eq_true rfl)) (rn_goDown g0 ((fG 1 (by decide) (by decide)).trans h1) ((fG 3 (by decide) (by decide)).trans h3) (hs.far2 (fun a a1 a2 => fG a (by omega) (by omega))) (hV.far (fun a a1 a2 => fG a (by omega) (by omega))) (hT.far (fun a a1 a2 => fG a (by omega) (by omega))) (h.far (fun a a1 a2 a3 => fG a (by omega) (by omega)))) (fun HZ hxZ => ?_)
      obtain ⟨z0, z1, z3, zs, zV, zT, zL, zf⟩ := hxZ
      exact RQ.done (c := 1) (s := 6) rfl rfl rfl rfl ⟨_, rfl, z0, z1, z3, zs, zV, zT, zL, gC.far (fun a a1 a2 => zf a (by omega) (by omega) (by omega) (by omega) (by omega) (by omega) (by omega) (by omega)), fun a a1 a2 a3 a4 a5 a6 a7 a8 a9 => (zf a a1 a2 a3 a4 a5 a6 a7 a8).trans (fG a a1 a9)⟩
    · refine RQ.brT rfl rfl rfl (bnt hc) ?_
      refine RQ.blk 5 (pc' := 19) (lv' := [(2, .int 1), (0, .ref 1), (1, .int x)]) (st' := [.int 0, .ref 1]) (H' := _) (kc' := 0) (ks' := 0) rfl ?_
      refine RQ.put (ci := 11) rfl h0 rfl rfl (Nat.le_of_ble_eq_true rfl) ?_
      refine RQ.blk 1 (pc' := 23) (lv' := [(2, .int 1), (0, .ref 1), (1, .int x)]) (st' := [.ref 1]) (H' := _) (kc' := 0) (ks' := 0) rfl ?_
      refine RQ.get (ci := 11) rfl (get_set h0) rfl rfl ?_
      have hC2 := hC.far (H' := (H.set 0 (kO 11 (fvs bl pr up 0 cl cp cb)))) (fun a a1 a2 => set_far (by omega))
      refine RQ.call (v := none) (st' := []) rfl rfl rfl rfl rfl rfl (args_v [] [] rfl rfl (Nat.le_of_ble_eq_true rfl) rfl hC2.1 (Nat.le_of_ble_eq_true rfl)) (rc_disarm hC2) ?_
      refine RQ.blk 1 (pc' := 30) (lv' := [(2, .int 1), (0, .ref 1), (1, .int x)]) (st' := [.int 1]) (H' := _) (kc' := 0) (ks' := 0) rfl ?_
      refine RQ.brF rfl rfl rfl (by decide) ?_
      refine RQ.blk 1 (pc' := 34) (lv' := [(2, .int 1), (0, .ref 1), (1, .int x)]) (st' := [.ref 1]) (H' := _) (kc' := 0) (ks' := 0) rfl ?_
      have fG : ∀ a, a ≠ 0 → a ≠ 71 → ((H.set 0 (kO 11 (fvs bl pr up 0 cl cp cb))).set 71 (kO 1 [.ref 73, .ref 74, .int (lI none), .int (nI bb), .int (nI 0)]))[a]? = H[a]? := fun a a1 a2 => (set_far a2).trans (set_far a1)
      have g0 : ((H.set 0 (kO 11 (fvs bl pr up 0 cl cp cb))).set 71 (kO 1 [.ref 73, .ref 74, .int (lI none), .int (nI bb), .int (nI 0)]))[0]? = some (kO 11 (fvs bl pr up 0 cl cp cb)) := (set_far (by decide)).trans (get_set h0)
      have gC : ChipAt ((H.set 0 (kO 11 (fvs bl pr up 0 cl cp cb))).set 71 (kO 1 [.ref 73, .ref 74, .int (lI none), .int (nI bb), .int (nI 0)])) B cf tf none bb 0 := ⟨get_set hC2.1, (set_far (by decide)).trans hC2.2.1, (set_far (by decide)).trans hC2.2.2⟩
      show RQ sc (d + 4) mr_153 34 [(2, .int 1), (0, .ref 1), (1, .int x)] [.ref 1] ((H.set 0 (kO 11 (fvs bl pr up 0 cl cp cb))).set 71 (kO 1 [.ref 73, .ref 74, .int (lI none), .int (nI bb), .int (nI 0)])) 0 0 _
      generalize ((H.set 0 (kO 11 (fvs bl pr up 0 cl cp cb))).set 71 (kO 1 [.ref 73, .ref 74, .int (lI none), .int (nI bb), .int (nI 0)])) = HG at fG g0 gC ⊢
      refine RQ.callN (st' := []) rfl rfl rfl rfl rfl rfl (args_v [] [] rfl rfl (Nat.le_of_ble_eq_true rfl) rfl g0 (Nat.le_of_ble_eq_true rfl)) (rn_goDown g0 ((fG 1 (by decide) (by decide)).trans h1) ((fG 3 (by decide) (by decide)).trans h3) (hs.far2 (fun a a1 a2 => fG a (by omega) (by omega))) (hV.far (fun a a1 a2 => fG a (by omega) (by omega))) (hT.far (fun a a1 a2 => fG a (by omega) (by omega))) (h.far (fun a a1 a2 a3 => fG a (by omega) (by omega)))) (fun HZ hxZ => ?_)
      obtain ⟨z0, z1, z3, zs, zV, zT, zL, zf⟩ := hxZ
      exact RQ.done (c := 1) (s := 6) rfl rfl rfl rfl ⟨_, rfl, z0, z1, z3, zs, zV, zT, zL, gC.far (fun a a1 a2 => zf a (by omega) (by omega) (by omega) (by omega) (by omega) (by omega) (by omega) (by omega)), fun a a1 a2 a3 a4 a5 a6 a7 a8 a9 => (zf a a1 a2 a3 a4 a5 a6 a7 a8).trans (fG a a1 a9)⟩
  obtain ⟨r, k1, H', e, k2⟩ := key
  subst e
  exact ⟨H', k1, k2⟩
