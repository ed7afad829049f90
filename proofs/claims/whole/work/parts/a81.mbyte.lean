/-! ===== where a piece lies in the list; a node forgotten, named; a byte of a file; how much a write adds; reference; written by wip/gen/mbyte.py ===== -/
theorem fstF_congr {P Q : Nat → Bool} : ∀ (n v : Nat), (∀ j, v ≤ j → j < v + n → P j = Q j) → fstF P v n = fstF Q v n
  | 0, _, _ => rfl
  | n + 1, v, h => by
    rw [fstF, fstF, h v (Nat.le_refl _) (by omega), fstF_congr n (v + 1) (fun j h1 h2 => h j (by omega) (by omega))]
def pcP (f x : Nat) (y : Option aPc) : Bool := match y with
  | some y => decide (y.1 = f) && decide (y.2.1 = x)
  | none => false
/-- where the piece lies -/
def pcI (ps : List aPc) (f x : Nat) : Option Nat := fstF (fun j => pcP f x ps[j]?) 0 ps.length
theorem fstF_some {P : Nat → Bool} : ∀ {n v j : Nat}, fstF P v n = some j → P j = true
  | 0, _, _, h => by cases h
  | n + 1, v, j, h => by
    rw [fstF] at h
    by_cases c : P v = true
    · rw [if_pos c] at h
      rw [← Option.some.inj h]
      exact c
    · rw [if_neg c] at h
      exact fstF_some h
theorem pcI_some {ps : List aPc} {f x j : Nat} (h : pcI ps f x = some j) : ∃ b, ps[j]? = some (f, x, b) := by
  have h1 := fstF_some h
  unfold pcP at h1
  cases hy : ps[j]? with
  | none => rw [hy] at h1; cases h1
  | some y =>
    rw [hy] at h1
    simp only [Bool.and_eq_true, decide_eq_true_eq] at h1
    obtain ⟨y1, y2, y3⟩ := y
    exact ⟨y3, by rw [← h1.1, ← h1.2]⟩
theorem pcI_none {ps : List aPc} {f x : Nat} (h : pcI ps f x = none) : ∀ b, (f, x, b) ∉ ps := by
  intro b hb
  obtain ⟨j, hj⟩ := List.getElem?_of_mem hb
  obtain ⟨k, hk, -⟩ := fstF_ex (P := fun j => pcP f x ps[j]?) ps.length 0 ⟨j, Nat.zero_le _, by have := get_lt hj; omega, by rw [hj]; unfold pcP; simp⟩
  unfold pcI at h
  rw [h] at hk
  cases hk
theorem rc_mpieceL {sc : Nat × (Nat → Int32)} {d f x : Nat} {H : aH} {fa li dn cw cl tp rs pr ve us : Int32} {ba bo : Nat} {ps : List aPc} (hm : H[195]? = some (kO 12 (mfs fa li dn cw cl tp rs pr ve us (nI ps.length) (nI (plen ps)) ba bo))) (h : PcsIs H ps) (hpi : ps.length ≤ 1300) (hok : ∀ x ∈ ps, PcOk x) (hf : f ≤ 200) (hx : x ≤ 40) : RC sc d mr_324 [.ref 196, .int (nI f), .int (nI x)] H (.inl (some (.int (lI (pcI ps f x))))) H 0 0 := by
  obtain ⟨pf, px, pz, pa, hd, hA, hE, hD⟩ := h
  have hb : ∀ j, j < ps.length → pf j < 2 ^ 31 ∧ px j < 2 ^ 31 := fun j hj => by
    obtain ⟨y, hy⟩ := lt_get hj
    obtain ⟨e1, e2, -⟩ := hE j y hy
    obtain ⟨o1, o2, -⟩ := hok y (List.mem_of_getElem? hy)
    omega
  have e : pcI ps f x = fstF (fun j => decide (pf j = f) && decide (px j = x)) 0 ps.length := fstF_congr _ _ (fun j _ hj => by
    obtain ⟨y, hy⟩ := lt_get (show j < ps.length by omega)
    obtain ⟨e1, e2, -⟩ := hE j y hy
    rw [hy, e1, e2]
    rfl)
  rw [e]
  exact rc_mpiece hm hA.1 hA.2.1 (by decide) hpi (by omega) (by omega) hb
theorem rn_forget {sc : Nat × (Nat → Int32)} {d : Nat} {H : aH} {fa li dn cw cl tp rs pr ve us : Int32} {ba bo : Nat} {ps : List aPc} {f : Nat} {kd : Nat → Nat} (hm : H[195]? = some (kO 12 (mfs fa li dn cw cl tp rs pr ve us (nI ps.length) (nI (plen ps)) ba bo))) (h : PcsIs H ps) (hpi : ps.length ≤ 1300) (hhu : plen ps ≤ 40000) (hok : ∀ x ∈ ps, PcOk x) (hf : f ≤ 200) (hK : H[213]? = some (kI 201 (fun j => nI (kd j)))) : RN sc (d + 3) mr_313 [.ref 196, .int (nI f)] H (fun H' => ∃ cur, H'[195]? = some (kO 12 (mfs fa li dn cw cl tp rs pr ve us (nI cur.length) (nI (plen cur)) ba bo)) ∧ PcsIs H' cur ∧ H'[213]? = some (kI 201 (fun j => nI (va_up kd f 0 j))) ∧ cur.Perm (ps.filterMap (cutE f 0)) ∧ cur.length ≤ ps.length ∧ plen cur ≤ plen ps ∧ ∀ a, ¬ (a = 195 ∨ a = 213 ∨ (218 ≤ a ∧ a < 223)) → H'[a]? = H[a]?) := by
  refine RN.of ?_
  refine RQ.blk 3 (pc' := 3) (lv' := [(0, .ref 196), (1, .int (nI f))]) (st' := [.int 0, .int (nI f), .ref 196]) (H' := _) (kc' := 0) (ks' := 0) rfl ?_
  refine RQ.callN (st' := []) rfl rfl rfl rfl rfl rfl (args_v [.int 0, .int (nI f)] [] rfl rfl (Nat.le_of_ble_eq_true rfl) rfl hm (Nat.le_of_ble_eq_true rfl)) (rn_cutOff (d := d) (n := 0) hm h hpi hhu hok hf (by omega)) (fun H1 hx1 => ?_)
  obtain ⟨cur, hm1, hP1, hpm, hcl, hcp, f1⟩ := hx1
  have hK1 : H1[213]? = _ := (f1 213 (by omega)).trans hK
  refine RQ.blk 1 (pc' := 7) (lv' := [(0, .ref 196), (1, .int (nI f))]) (st' := [.ref 196]) (H' := _) (kc' := 0) (ks' := 0) rfl ?_
  refine RQ.get (ci := 12) rfl hm1 rfl rfl ?_
  refine RQ.blk 2 (pc' := 12) (lv' := [(0, .ref 196), (1, .int (nI f))]) (st' := [.int 0, .int (nI f), .ref 214]) (H' := _) (kc' := 0) (ks' := 0) rfl ?_
  refine RQ.iastN (j := f) rfl hK1 (by omega) (by decide) ?_
  exact RQ.done (c := 0) (s := 0) rfl rfl rfl rfl ⟨_, rfl, cur, (set_far (by decide)).trans hm1, hP1.far (fun a a1 a2 => set_far (by omega)), (get_set hK1).trans (congrArg (fun g => some (kI 201 g)) (by funext j; by_cases e : j = f; rw [e, up_at, up_at]; rfl; rw [up_ne e, up_ne e])), hpm, hcl, hcp, fun a ha => (set_far (by omega)).trans (f1 a (by omega))⟩
theorem rc_mname {sc : Nat × (Nat → Int32)} {d v dir i n : Nat} {H : aH} {fa li dn cw cl tp rs pr ve us pi hu : Int32} {ba bo : Nat} {kd pa sz nl : Nat → Nat} {nm g : Nat → Int8} (hm : H[195]? = some (kO 12 (mfs fa li dn cw cl tp rs pr ve us pi hu ba bo))) (h : MTreeAt H kd pa sz nl nm) (hg : H[196]? = some (kB 2000 g)) (hv : v ≤ 200) (hi : i + n ≤ 2000) (hn : n ≤ 30) : RC sc d mr_309 [.ref 196, .int (nI v), .int (nI dir), .int (nI i), .int (nI n)] H (.inl none) (((H.set 214 (kI 201 (fun j => nI (va_up pa v dir j)))).set 215 (kI 201 (fun j => nI (va_up nl v n j)))).set 216 (kB 6030 (cpy g i nm (30 * v) n))) 0 0 := by
  refine RC.of ?_
  refine RQ.blk 1 (pc' := 1) (lv' := [(0, .ref 196), (1, .int (nI v)), (2, .int (nI dir)), (3, .int (nI i)), (4, .int (nI n))]) (st' := [.ref 196]) (H' := _) (kc' := 0) (ks' := 0) rfl ?_
  refine RQ.get (ci := 12) rfl hm rfl rfl ?_
  refine RQ.blk 2 (pc' := 6) (lv' := [(0, .ref 196), (1, .int (nI v)), (2, .int (nI dir)), (3, .int (nI i)), (4, .int (nI n))]) (st' := [.int (nI dir), .int (nI v), .ref 215]) (H' := _) (kc' := 0) (ks' := 0) rfl ?_
  refine RQ.iastN (j := v) rfl h.2.1 (by omega) (by decide) ?_
  rw [up_nI]
  refine RQ.blk 1 (pc' := 8) (lv' := [(0, .ref 196), (1, .int (nI v)), (2, .int (nI dir)), (3, .int (nI i)), (4, .int (nI n))]) (st' := [.ref 196]) (H' := _) (kc' := 0) (ks' := 0) rfl ?_
  refine RQ.get (ci := 12) rfl ((set_far (by decide)).trans hm) rfl rfl ?_
  refine RQ.blk 2 (pc' := 14) (lv' := [(0, .ref 196), (1, .int (nI v)), (2, .int (nI dir)), (3, .int (nI i)), (4, .int (nI n))]) (st' := [.int (nI n), .int (nI v), .ref 216]) (H' := _) (kc' := 0) (ks' := 0) rfl ?_
  refine RQ.iastN (j := v) rfl ((set_far (by decide)).trans h.2.2.1) (by omega) (by decide) ?_
  rw [up_nI]
  refine RQ.blk 2 (pc' := 18) (lv' := [(5, .int 0), (0, .ref 196), (1, .int (nI v)), (2, .int (nI dir)), (3, .int (nI i)), (4, .int (nI n))]) (st' := []) (H' := _) (kc' := 0) (ks' := 0) rfl ?_
  refine RQ.pick (a := [(5, .int 0), (0, .ref 196), (1, .int (nI v)), (2, .int (nI dir)), (3, .int (nI i)), (4, .int (nI n))]) [0, 1, 2, 3, 4, 5] [5, 0, 1, 2, 3, 4] rfl rfl (by decide) ?_
  refine RQ.while (S := Nat) (pc := 18) (fun k H' => k ≤ n ∧ H' = (((H.set 214 (kI 201 (fun j => nI (va_up pa v dir j)))).set 215 (kI 201 (fun j => nI (va_up nl v n j)))).set 216 (kB 6030 (cpy g i nm (30 * v) k)))) (fun k => [(5, .int (nI k)), (0, .ref 196), (1, .int (nI v)), (2, .int (nI dir)), (3, .int (nI i)), (4, .int (nI n))]) (fun k => n - k) ?_ 0 _ ⟨Nat.zero_le _, ?_⟩
  rotate_left
  · rw [cpy_0, set_self ((set_far (by decide)).trans ((set_far (by decide)).trans h.2.2.2.1))]
  rintro k H1 ⟨hk, e⟩ ih
  rw [e]
  by_cases hlt : k < n
  ·
    refine RQ.blk 2 (pc' := 22) (lv' := [(5, .int (nI k)), (0, .ref 196), (1, .int (nI v)), (2, .int (nI dir)), (3, .int (nI i)), (4, .int (nI n))]) (st' := [.int (nI n), .int (nI k)]) (H' := _) (kc' := 0) (ks' := 0) rfl ?_
    refine RQ.brF rfl rfl rfl (cF_ge k n) ?_
    refine RQ.blk 1 (pc' := 26) (lv' := [(5, .int (nI k)), (0, .ref 196), (1, .int (nI v)), (2, .int (nI dir)), (3, .int (nI i)), (4, .int (nI n))]) (st' := [.ref 196]) (H' := _) (kc' := 0) (ks' := 0) rfl ?_
    refine RQ.get (ci := 12) rfl ((set_far (by decide)).trans ((set_far (by decide)).trans ((set_far (by decide)).trans hm))) rfl rfl ?_
    refine RQ.blk 3 (pc' := 33) (lv' := [(5, .int (nI k)), (0, .ref 196), (1, .int (nI v)), (2, .int (nI dir)), (3, .int (nI i)), (4, .int (nI n))]) (st' := [.int (30 * nI v), .ref 217]) (H' := _) (kc' := 0) (ks' := 0) rfl ?_
    rw [show (30 * nI v : Int32) = nI (30 * v) from pk_mul 30 v]
    refine RQ.blk 2 (pc' := 36) (lv' := [(5, .int (nI k)), (0, .ref 196), (1, .int (nI v)), (2, .int (nI dir)), (3, .int (nI i)), (4, .int (nI n))]) (st' := [.int (nI (30 * v) + nI k), .ref 217]) (H' := _) (kc' := 0) (ks' := 0) rfl ?_
    rw [show (nI (30 * v) + nI k : Int32) = nI (30 * v + k) from nI_add (30 * v) k]
    refine RQ.blk 1 (pc' := 37) (lv' := [(5, .int (nI k)), (0, .ref 196), (1, .int (nI v)), (2, .int (nI dir)), (3, .int (nI i)), (4, .int (nI n))]) (st' := [.ref 196, .int (nI (30 * v + k)), .ref 217]) (H' := _) (kc' := 0) (ks' := 0) rfl ?_
    refine RQ.get (ci := 12) rfl ((set_far (by decide)).trans ((set_far (by decide)).trans ((set_far (by decide)).trans hm))) rfl rfl ?_
    refine RQ.blk 3 (pc' := 44) (lv' := [(5, .int (nI k)), (0, .ref 196), (1, .int (nI v)), (2, .int (nI dir)), (3, .int (nI i)), (4, .int (nI n))]) (st' := [.int (nI i + nI k), .ref 197, .int (nI (30 * v + k)), .ref 217]) (H' := _) (kc' := 0) (ks' := 0) rfl ?_
    rw [show (nI i + nI k : Int32) = nI (i + k) from nI_add i k]
    refine RQ.baldN (j := i + k) rfl ((set_far (by decide)).trans ((set_far (by decide)).trans ((set_far (by decide)).trans hg))) (by omega) (by decide) ?_
    refine RQ.bastN (j := 30 * v + k) rfl (get_set ((set_far (by decide)).trans ((set_far (by decide)).trans h.2.2.2.1))) (by omega) (by decide) ?_
    rw [set_set, Int8.toInt8_toInt32]
    rw [cpy_up']
    refine RQ.blk 1 (pc' := 49) (lv' := [(5, .int (nI k + 1)), (0, .ref 196), (1, .int (nI v)), (2, .int (nI dir)), (3, .int (nI i)), (4, .int (nI n))]) (st' := []) (H' := _) (kc' := 0) (ks' := 0) rfl ?_
    rw [show (nI k + 1 : Int32) = nI (k + 1) from nI_add k 1]
    refine RQ.blk 1 (pc' := 18) (lv' := [(5, .int (nI (k + 1))), (0, .ref 196), (1, .int (nI v)), (2, .int (nI dir)), (3, .int (nI i)), (4, .int (nI n))]) (st' := []) (H' := _) (kc' := 0) (ks' := 0) rfl ?_
    exact ih (k + 1) _ ⟨by omega, rfl⟩ (by omega)
  ·
    refine RQ.blk 2 (pc' := 22) (lv' := [(5, .int (nI k)), (0, .ref 196), (1, .int (nI v)), (2, .int (nI dir)), (3, .int (nI i)), (4, .int (nI n))]) (st' := [.int (nI n), .int (nI k)]) (H' := _) (kc' := 0) (ks' := 0) rfl ?_
    refine RQ.brT rfl rfl rfl (cT_ge k n) ?_
    exact RQ.done (c := 0) (s := 0) rfl rfl rfl rfl (by rw [show k = n by omega])
