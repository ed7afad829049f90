/-! ===== all that is in memory is lost; the power; class; written by wip/gen/down.py ===== -/
theorem cntB_no : ∀ (n : Nat), cntB (fun _ => false) n = 0
  | 0 => rfl
  | n + 1 => by rw [cntB, cntB_no n]; rfl
theorem odK_no {od : Nat → Nat} : ∀ (n : Nat), odK (fun _ => false) od n = od
  | 0 => rfl
  | n + 1 => by rw [odK]; exact odK_no n
theorem rn_vclear {sc : Nat × (Nat → Int32)} {d N : Nat} {H : aH} {vs : List aV} (hV : VersIs H N vs) : RN sc (d + 2) mr_157 [.ref 75] H (fun H' => VersIs H' N [] ∧ ∀ a, ¬ (74 ≤ a ∧ a < 83) → H'[a]? = H[a]?) := by
  obtain ⟨kf, kl, mo, pl, le, al, od, sp, sz, ss, ac, hA, hW, -⟩ := hV
  have hN := hW.1.1
  have hszN := hW.1.2.1
  have hsum := hW.2.2.1
  refine RN.of ?_
  refine RQ.blk 2 (pc' := 2) (lv' := [(1, .int 0), (0, .ref 75)]) (st' := []) (H' := _) (kc' := 0) (ks' := 0) rfl ?_
  refine RQ.while (S := Nat) (pc := 2) (fun p H' => p ≤ sz ∧ VersAt H' N kf kl mo pl le (alK (fun _ => false) od al p) od (spK (fun _ => false) od sp ss p) sz (ss + p) (acK (fun _ => false) od al ac p) ∧ ∀ a, ¬ (74 ≤ a ∧ a < 83) → H'[a]? = H[a]?) (fun p => [(1, .int (nI p)), (0, .ref 75)]) (fun p => sz - p) ?_ 0 H ⟨Nat.zero_le _, hA, fun a _ => rfl⟩
  rintro p H1 ⟨hp, hA1, hf1⟩ ih
  by_cases hlt : p < sz
  · have hod := hW.1.2.2.2.1 p hlt
    have hal0 : alK (fun _ => false) od al p (od p) = al (od p) := alK_ge hW.2.1 p p (Nat.le_refl p) hlt
    have hge := acK_ge (kp := (fun _ => false)) (od := od) (al := al) (ac := ac) p (sz - p) (by rw [show p + (sz - p) = sz by omega, hW.2.2.2.2.2.2.1]; exact Nat.le_refl _)
    rw [show p + (sz - p) = sz by omega] at hge
    have hal : alK (fun _ => false) od al p (od p) = true → 1 ≤ acK (fun _ => false) od al ac p := fun e => by
      have h1 := cntB_mono (fun j => al (od j)) (p + 1) sz (by omega)
      have h2 : cntB (fun j => al (od j)) (p + 1) = cntB (fun j => al (od j)) p + (if al (od p) then 1 else 0) := rfl
      rw [← hal0, e, if_pos rfl] at h2
      omega
    have hok : VersOk N kl mo pl le od (spK (fun _ => false) od sp ss p) sz (ss + p) := by
      obtain ⟨k1, k2, k3, k4, k5, k6⟩ := hW.1
      refine ⟨k1, k2, by omega, k4, fun i hi => ?_, k6⟩
      exact spK_lt k4 k5 p i (by omega) (by rw [cntB_no]; omega)
    refine RQ.blk 2 (pc' := 4) (lv' := [(1, .int (nI p)), (0, .ref 75)]) (st' := [.ref 75, .int (nI p)]) (H' := _) (kc' := 0) (ks' := 0) rfl ?_
    refine RQ.get (ci := 10) rfl hA1.1 rfl rfl ?_
    refine RQ.brF rfl rfl rfl (cF_ge p sz) ?_
    refine RQ.blk 2 (pc' := 12) (lv' := [(1, .int (nI p)), (0, .ref 75)]) (st' := [.ref 75, .ref 75]) (H' := _) (kc' := 0) (ks' := 0) rfl ?_
    refine RQ.get (ci := 10) rfl hA1.1 rfl rfl ?_
    refine RQ.blk 1 (pc' := 16) (lv' := [(1, .int (nI p)), (0, .ref 75)]) (st' := [.int (nI p), .ref 82, .ref 75]) (H' := _) (kc' := 0) (ks' := 0) rfl ?_
    refine RQ.ialdN (j := p) rfl hA1.2.2.2.2.2.2.2.1 (by omega) (by omega) ?_
    refine RQ.callN (st' := []) rfl rfl rfl rfl rfl rfl (args_v [.int (nI (od p))] [] rfl rfl (Nat.le_of_ble_eq_true rfl) rfl hA1.1 (Nat.le_of_ble_eq_true rfl)) (rn_release hA1 hok hod hal (by omega)) (fun H2 hx => ?_)
    obtain ⟨hA2, hf2⟩ := hx
    refine RQ.blk 1 (pc' := 23) (lv' := [(1, .int (nI p + 1)), (0, .ref 75)]) (st' := []) (H' := _) (kc' := 0) (ks' := 0) rfl ?_
    rw [show (nI p + 1 : Int32) = nI (p + 1) from nI_add p 1]
    refine RQ.blk 1 (pc' := 2) (lv' := [(1, .int (nI (p + 1))), (0, .ref 75)]) (st' := []) (H' := _) (kc' := 0) (ks' := 0) rfl ?_
    refine ih (p + 1) H2 ⟨by omega, ?_, fun a ha => (hf2 a ha).trans (hf1 a ha)⟩ (by omega)
    rw [hal0] at hA2
    have e1 : spK (fun _ => false) od sp ss (p + 1) = va_up (spK (fun _ => false) od sp ss p) (ss + p) (od p) := by
      show (if (false = true) then _ else _) = _
      rw [if_neg (fun e => by cases e), cntB_no]
      rfl
    rw [e1]
    exact hA2
  · have ep : p = sz := by omega
    rw [ep] at hA1
    rw [ep]
    refine RQ.blk 2 (pc' := 4) (lv' := [(1, .int (nI sz)), (0, .ref 75)]) (st' := [.ref 75, .int (nI sz)]) (H' := _) (kc' := 0) (ks' := 0) rfl ?_
    refine RQ.get (ci := 10) rfl hA1.1 rfl rfl ?_
    refine RQ.brT rfl rfl rfl (cT_ge sz sz) ?_
    refine RQ.blk 2 (pc' := 28) (lv' := [(1, .int (nI sz)), (0, .ref 75)]) (st' := [.int 0, .ref 75]) (H' := _) (kc' := 0) (ks' := 0) rfl ?_
    refine RQ.put (ci := 10) rfl hA1.1 rfl rfl (Nat.le_of_ble_eq_true rfl) ?_
    have hwf := purge_wf (kp := (fun _ => false)) hW
    rw [cntB_no, odK_no, Nat.sub_zero] at hwf
    exact RQ.done (c := 0) (s := 0) rfl rfl rfl rfl ⟨_, rfl, ⟨_, _, _, _, _, _, _, _, _, _, _, ⟨get_set hA1.1, (set_far (by decide)).trans hA1.2.1, (set_far (by decide)).trans hA1.2.2.1, (set_far (by decide)).trans hA1.2.2.2.1, (set_far (by decide)).trans hA1.2.2.2.2.1, (set_far (by decide)).trans hA1.2.2.2.2.2.1, (set_far (by decide)).trans hA1.2.2.2.2.2.2.1, (set_far (by decide)).trans hA1.2.2.2.2.2.2.2.1, (set_far (by decide)).trans hA1.2.2.2.2.2.2.2.2⟩, hwf, rfl⟩, fun a ha => (set_far (by omega)).trans (hf1 a ha)⟩
theorem rc_fillI {sc : Nat × (Nat → Int32)} {d : Nat} {H : aH} {a n : Nat} {f : Nat → Int32} {v : Int32} (h : H[a]? = some (kI n f)) (hn : n < 2 ^ 31) : RC sc d mr_136 [.ref (a + 1), .int v] H (.inl none) (H.set a (kI n (fun j => if j < n then v else f j))) 0 0 := by
  refine RP.blk 3 (pc' := 3) (lv' := [(2, .int 0), (0, .ref (a + 1)), (1, .int v)]) (st' := [.ref (a + 1)]) (H' := _) (kc' := 0) (ks' := 0) rfl ?_
  refine RP.len rfl h rfl ?_
  refine RP.blk 1 (pc' := 5) (lv' := [(3, .int (nI n)), (2, .int 0), (0, .ref (a + 1)), (1, .int v)]) (st' := []) (H' := _) (kc' := 0) (ks' := 0) rfl ?_
  have start : RP sc d mr_136 5 [(3, .int (nI n)), (2, .int (nI 0)), (0, .ref (a + 1)), (1, .int v)] [] (H.set a (kI n (fun j => if j < 0 then v else f j))) 0 0 (.inl none, (H.set a (kI n (fun j => if j < n then v else f j))), 0, 0) := by
    refine RP.loop 5 (fun i => [(3, .int (nI n)), (2, .int (nI i)), (0, .ref (a + 1)), (1, .int v)]) [] (fun i => (H.set a (kI n (fun j => if j < i then v else f j)))) 0 0 n (fun i hi kk => ?_) ?_
    ·
      refine RP.blk 2 (pc' := 7) (lv' := [(3, .int (nI n)), (2, .int (nI i)), (0, .ref (a + 1)), (1, .int v)]) (st' := [.int (nI n), .int (nI i)]) (H' := _) (kc' := 0) (ks' := 0) rfl ?_
      refine RP.brF rfl rfl rfl (cF_ge i n) ?_
      refine RP.blk 3 (pc' := 13) (lv' := [(3, .int (nI n)), (2, .int (nI i)), (0, .ref (a + 1)), (1, .int v)]) (st' := [.int v, .int (nI i), .ref (a + 1)]) (H' := _) (kc' := 0) (ks' := 0) rfl ?_
      refine RP.iastN (j := i) rfl (get_set h) (by omega) hn ?_
      rw [set_set, show va_up (fun j => if j < i then v else f j) i v = (fun j => if j < i + 1 then v else f j) from ?_]
      rotate_left
      · funext j
        unfold va_up
        by_cases h1 : j = i
        · rw [if_pos h1, if_pos (by omega)]
        · rw [if_neg h1]
          show (if j < i then v else f j) = _
          by_cases h2 : j < i
          · rw [if_pos h2, if_pos (by omega)]
          · rw [if_neg h2, if_neg (by omega)]
      refine RP.blk 1 (pc' := 17) (lv' := [(2, .int (nI i + 1)), (3, .int (nI n)), (0, .ref (a + 1)), (1, .int v)]) (st' := []) (H' := _) (kc' := 0) (ks' := 0) rfl ?_
      rw [show (nI i + 1 : Int32) = nI (i + 1) from nI_add i 1]
      refine RP.blk 1 (pc' := 5) (lv' := [(2, .int (nI (i + 1))), (3, .int (nI n)), (0, .ref (a + 1)), (1, .int v)]) (st' := []) (H' := _) (kc' := 0) (ks' := 0) rfl ?_
      refine RP.pick (a := [(3, .int (nI n)), (2, .int (nI (i + 1))), (0, .ref (a + 1)), (1, .int v)]) [1, 0, 2, 3] [2, 3, 0, 1] rfl rfl (by decide) ?_
      exact kk
    ·
      refine RP.blk 2 (pc' := 7) (lv' := [(3, .int (nI n)), (2, .int (nI n)), (0, .ref (a + 1)), (1, .int v)]) (st' := [.int (nI n), .int (nI n)]) (H' := _) (kc' := 0) (ks' := 0) rfl ?_
      refine RP.brT rfl rfl rfl (cT_ge n n) ?_
      exact RP.done (c := 0) (s := 0) rfl rfl rfl rfl
  rw [show (fun j => if j < 0 then v else f j) = f from funext (fun j => if_neg (Nat.not_lt_zero j)), set_self h] at start
  exact start
theorem rn_tclear {sc : Nat × (Nat → Int32)} {d no : Nat} {H : aH} {kd pa sz nl : Nat → Nat} {nm : Nat → Int8} (hT : TreeAt H kd pa sz nl nm no) : RN sc (d + 1) mr_158 [.ref 66] H (fun H' => TreeAt H' (va_up (fun j => if j < 201 then 0 else kd j) 0 2) pa sz nl nm 0 ∧ ∀ a, a ≠ 65 → a ≠ 66 → H'[a]? = H[a]?) := by
  refine RN.of ?_
  refine RQ.blk 1 (pc' := 1) (lv' := [(0, .ref 66)]) (st' := [.ref 66]) (H' := _) (kc' := 0) (ks' := 0) rfl ?_
  refine RQ.get (ci := 9) rfl hT.1 rfl rfl ?_
  refine RQ.blk 1 (pc' := 5) (lv' := [(0, .ref 66)]) (st' := [.int 0, .ref 67]) (H' := _) (kc' := 0) (ks' := 0) rfl ?_
  refine RQ.call (v := none) (st' := []) rfl rfl rfl rfl rfl rfl rfl (rc_fillI hT.2.1 (by decide)) ?_
  refine RQ.blk 1 (pc' := 9) (lv' := [(0, .ref 66)]) (st' := [.ref 66]) (H' := _) (kc' := 0) (ks' := 0) rfl ?_
  refine RQ.get (ci := 9) rfl ((set_far (by decide)).trans hT.1) rfl rfl ?_
  refine RQ.blk 2 (pc' := 14) (lv' := [(0, .ref 66)]) (st' := [.int 2, .int 0, .ref 67]) (H' := _) (kc' := 0) (ks' := 0) rfl ?_
  refine RQ.iastN (j := 0) rfl (get_set hT.2.1) (by omega) (by decide) ?_
  refine RQ.blk 2 (pc' := 17) (lv' := [(0, .ref 66)]) (st' := [.int 0, .ref 66]) (H' := _) (kc' := 0) (ks' := 0) rfl ?_
  refine RQ.put (ci := 9) rfl ((set_far (by decide)).trans ((set_far (by decide)).trans hT.1)) rfl rfl (Nat.le_of_ble_eq_true rfl) ?_
  rw [set_set]
  have ek : va_up (fun j => if j < 201 then (0 : Int32) else nI (kd j)) 0 2 = (fun j => nI ((va_up (fun j => if j < 201 then 0 else kd j) 0 2) j)) := by
    funext j
    unfold va_up
    by_cases h1 : j = 0
    · rw [if_pos h1, if_pos h1]; rfl
    · rw [if_neg h1, if_neg h1]
      show (if j < 201 then (0 : Int32) else nI (kd j)) = nI (if j < 201 then 0 else kd j)
      split <;> rfl
  rw [ek]
  exact RQ.done (c := 0) (s := 0) rfl rfl rfl rfl ⟨_, rfl, ⟨get_set ((set_far (by decide)).trans hT.1), (set_far (by decide)).trans (get_set hT.2.1), (set_far (by decide)).trans ((set_far (by decide)).trans hT.2.2.1), (set_far (by decide)).trans ((set_far (by decide)).trans hT.2.2.2.1), (set_far (by decide)).trans ((set_far (by decide)).trans hT.2.2.2.2.1), (set_far (by decide)).trans ((set_far (by decide)).trans hT.2.2.2.2.2)⟩, fun a a1 a2 => (set_far a1).trans (set_far a2)⟩
theorem rn_lclear {sc : Nat × (Nat → Int32)} {d : Nat} {H : aH} {B : Nat} {lgs : List Nat} {fr ff : Nat} {wr : Bool} {tp : Nat} {rs : List aR} {ms mt sq tu : Nat} {us : Nat → Bool} (h : LayIs H B lgs fr ff wr tp rs ms mt sq tu us) : RN sc d mr_159 [.ref 84] H (fun H' => LayIs H' B ([]) 0 0 false 0 ([]) 0 2048 0 tu us ∧ ∀ a, a ≠ 83 → H'[a]? = H[a]?) := by
  obtain ⟨lg, pi, hY, -, -, r1, r2, r3, -, r5, -⟩ := h
  refine RN.of ?_
  refine RQ.blk 2 (pc' := 2) (lv' := [(0, .ref 84)]) (st' := [.int 0, .ref 84]) (H' := _) (kc' := 0) (ks' := 0) rfl ?_
  refine RQ.put (ci := 3) rfl hY.1 rfl rfl (Nat.le_of_ble_eq_true rfl) ?_
  refine RQ.blk 2 (pc' := 7) (lv' := [(0, .ref 84)]) (st' := [.int 0, .ref 84]) (H' := _) (kc' := 0) (ks' := 0) rfl ?_
  refine RQ.put (ci := 3) rfl (get_set hY.1) rfl rfl (Nat.le_of_ble_eq_true rfl) ?_
  refine RQ.blk 2 (pc' := 12) (lv' := [(0, .ref 84)]) (st' := [.int 0, .ref 84]) (H' := _) (kc' := 0) (ks' := 0) rfl ?_
  refine RQ.put (ci := 3) rfl (get_set (get_set hY.1)) rfl rfl (Nat.le_of_ble_eq_true rfl) ?_
  refine RQ.blk 2 (pc' := 17) (lv' := [(0, .ref 84)]) (st' := [.int 0, .ref 84]) (H' := _) (kc' := 0) (ks' := 0) rfl ?_
  refine RQ.put (ci := 3) rfl (get_set (get_set (get_set hY.1))) rfl rfl (Nat.le_of_ble_eq_true rfl) ?_
  refine RQ.blk 2 (pc' := 22) (lv' := [(0, .ref 84)]) (st' := [.int 0, .ref 84]) (H' := _) (kc' := 0) (ks' := 0) rfl ?_
  refine RQ.put (ci := 3) rfl (get_set (get_set (get_set (get_set hY.1)))) rfl rfl (Nat.le_of_ble_eq_true rfl) ?_
  refine RQ.blk 2 (pc' := 27) (lv' := [(0, .ref 84)]) (st' := [.int 0, .ref 84]) (H' := _) (kc' := 0) (ks' := 0) rfl ?_
  refine RQ.put (ci := 3) rfl (get_set (get_set (get_set (get_set (get_set hY.1))))) rfl rfl (Nat.le_of_ble_eq_true rfl) ?_
  refine RQ.blk 2 (pc' := 32) (lv' := [(0, .ref 84)]) (st' := [.int 0, .ref 84]) (H' := _) (kc' := 0) (ks' := 0) rfl ?_
  refine RQ.put (ci := 3) rfl (get_set (get_set (get_set (get_set (get_set (get_set hY.1)))))) rfl rfl (Nat.le_of_ble_eq_true rfl) ?_
  refine RQ.blk 2 (pc' := 39) (lv' := [(0, .ref 84)]) (st' := [.int 2048, .ref 84]) (H' := _) (kc' := 0) (ks' := 0) rfl ?_
  refine RQ.put (ci := 3) rfl (get_set (get_set (get_set (get_set (get_set (get_set (get_set hY.1))))))) rfl rfl (Nat.le_of_ble_eq_true rfl) ?_
  refine RQ.blk 2 (pc' := 44) (lv' := [(0, .ref 84)]) (st' := [.int 0, .ref 84]) (H' := _) (kc' := 0) (ks' := 0) rfl ?_
  refine RQ.put (ci := 3) rfl (get_set (get_set (get_set (get_set (get_set (get_set (get_set (get_set hY.1)))))))) rfl rfl (Nat.le_of_ble_eq_true rfl) ?_
  rw [set_set, set_set, set_set, set_set, set_set, set_set, set_set, set_set]
  exact RQ.done (c := 0) (s := 0) rfl rfl rfl rfl ⟨_, rfl, ⟨lg, pi, ⟨get_set hY.1, (set_far (by decide)).trans hY.2.1, (set_far (by decide)).trans hY.2.2⟩, fun i b hb => by simp at hb, Nat.zero_le _, RunsAt.far2 ⟨r1, r2, r3, fun j x hx => by simp at hx, r5, Nat.zero_le _⟩ (set_far (by decide)) (fun a a1 a2 => set_far (by omega))⟩, fun a ha => set_far ha⟩
theorem TreeAt.far {H H' : aH} {kd pa sz nl : Nat → Nat} {nm : Nat → Int8} {no : Nat} (h : TreeAt H kd pa sz nl nm no) (hs : ∀ a, 65 ≤ a → a < 71 → H'[a]? = H[a]?) : TreeAt H' kd pa sz nl nm no := ⟨(hs _ (by omega) (by omega)).trans h.1, (hs _ (by omega) (by omega)).trans h.2.1, (hs _ (by omega) (by omega)).trans h.2.2.1, (hs _ (by omega) (by omega)).trans h.2.2.2.1, (hs _ (by omega) (by omega)).trans h.2.2.2.2.1, (hs _ (by omega) (by omega)).trans h.2.2.2.2.2⟩
theorem rn_goDown {sc : Nat × (Nat → Int32)} {d : Nat} {H : aH} {B : Nat} {lgs : List Nat} {fr ff : Nat} {wr : Bool} {tp : Nat} {rs : List aR} {ms mt sq tu : Nat} {us : Nat → Bool} {N : Nat} {l rl no : Nat} {op : Nat → Bool} {sm : Nat → Nat} {vs : List aV} {kd pa sz nl : Nat → Nat} {nm : Nat → Int8} {bl pr up cw cl cp cb : Int32} (h0 : H[0]? = some (kO 11 (fvs bl pr up cw cl cp cb))) (h1 : H[1]? = some (kO 5 [.ref 3, .int (nI l)])) (h3 : H[3]? = some (kO 5 [.ref 5, .int (nI rl)])) (hs : SightAt H op sm) (hV : VersIs H N vs) (hT : TreeAt H kd pa sz nl nm no) (h : LayIs H B lgs fr ff wr tp rs ms mt sq tu us) : RN sc (d + 3) mr_155 [.ref 1] H (fun H' => H'[0]? = some (kO 11 (fvs bl 0 0 cw cl cp cb)) ∧ H'[1]? = some (kO 5 [.ref 3, .int (nI 0)]) ∧ H'[3]? = some (kO 5 [.ref 5, .int (nI 0)]) ∧ SightAt H' (fun j => if j < 8 then false else op j) sm ∧ VersIs H' N [] ∧ TreeAt H' (va_up (fun j => if j < 201 then 0 else kd j) 0 2) pa sz nl nm 0 ∧ LayIs H' B ([]) 0 0 false 0 ([]) 0 2048 0 tu us ∧ ∀ a, a ≠ 0 → a ≠ 1 → a ≠ 3 → a ≠ 8 → a ≠ 65 → a ≠ 66 → ¬ (74 ≤ a ∧ a < 83) → a ≠ 83 → H'[a]? = H[a]?) := by
  refine RN.of ?_
  refine RQ.blk 2 (pc' := 2) (lv' := [(0, .ref 1)]) (st' := [.int 0, .ref 1]) (H' := _) (kc' := 0) (ks' := 0) rfl ?_
  refine RQ.put (ci := 11) rfl h0 rfl rfl (Nat.le_of_ble_eq_true rfl) ?_
  refine RQ.blk 2 (pc' := 7) (lv' := [(0, .ref 1)]) (st' := [.int 0, .ref 1]) (H' := _) (kc' := 0) (ks' := 0) rfl ?_
  refine RQ.put (ci := 11) rfl (get_set h0) rfl rfl (Nat.le_of_ble_eq_true rfl) ?_
  refine RQ.blk 1 (pc' := 11) (lv' := [(0, .ref 1)]) (st' := [.ref 1]) (H' := _) (kc' := 0) (ks' := 0) rfl ?_
  refine RQ.get (ci := 11) rfl (get_set (get_set h0)) rfl rfl ?_
  refine RQ.blk 1 (pc' := 15) (lv' := [(0, .ref 1)]) (st' := [.int 0, .ref 2]) (H' := _) (kc' := 0) (ks' := 0) rfl ?_
  refine RQ.put (ci := 5) rfl ((set_far (by decide)).trans ((set_far (by decide)).trans h1)) rfl rfl (Nat.le_of_ble_eq_true rfl) ?_
  refine RQ.blk 1 (pc' := 19) (lv' := [(0, .ref 1)]) (st' := [.ref 1]) (H' := _) (kc' := 0) (ks' := 0) rfl ?_
  refine RQ.get (ci := 11) rfl ((set_far (by decide)).trans (get_set (get_set h0))) rfl rfl ?_
  refine RQ.blk 1 (pc' := 23) (lv' := [(0, .ref 1)]) (st' := [.int 0, .ref 4]) (H' := _) (kc' := 0) (ks' := 0) rfl ?_
  refine RQ.put (ci := 5) rfl ((set_far (by decide)).trans ((set_far (by decide)).trans ((set_far (by decide)).trans h3))) rfl rfl (Nat.le_of_ble_eq_true rfl) ?_
  show RQ sc (d + 3) mr_155 26 [(0, .ref 1)] [] ((((H.set 0 (kO 11 (fvs bl pr 0 cw cl cp cb))).set 0 (kO 11 (fvs bl 0 0 cw cl cp cb))).set 1 (kO 5 [.ref 3, .int 0])).set 3 (kO 5 [.ref 5, .int 0])) 0 0 _
  rw [set_set]
  have fA : ∀ a, a ≠ 0 → a ≠ 1 → a ≠ 3 → (((H.set 0 (kO 11 (fvs bl 0 0 cw cl cp cb))).set 1 (kO 5 [.ref 3, .int 0])).set 3 (kO 5 [.ref 5, .int 0]))[a]? = H[a]? := fun a a1 a2 a3 => (set_far a3).trans ((set_far a2).trans (set_far a1))
  have g0 : (((H.set 0 (kO 11 (fvs bl 0 0 cw cl cp cb))).set 1 (kO 5 [.ref 3, .int 0])).set 3 (kO 5 [.ref 5, .int 0]))[0]? = some (kO 11 (fvs bl 0 0 cw cl cp cb)) := (set_far (by decide)).trans ((set_far (by decide)).trans (get_set h0))
  have g1 : (((H.set 0 (kO 11 (fvs bl 0 0 cw cl cp cb))).set 1 (kO 5 [.ref 3, .int 0])).set 3 (kO 5 [.ref 5, .int 0]))[1]? = some (kO 5 [.ref 3, .int (nI 0)]) := (set_far (by decide)).trans (get_set ((set_far (by decide)).trans h1))
  have g3 : (((H.set 0 (kO 11 (fvs bl 0 0 cw cl cp cb))).set 1 (kO 5 [.ref 3, .int 0])).set 3 (kO 5 [.ref 5, .int 0]))[3]? = some (kO 5 [.ref 5, .int (nI 0)]) := get_set ((set_far (by decide)).trans ((set_far (by decide)).trans h3))
  generalize (((H.set 0 (kO 11 (fvs bl 0 0 cw cl cp cb))).set 1 (kO 5 [.ref 3, .int 0])).set 3 (kO 5 [.ref 5, .int 0])) = HA at fA g0 g1 g3 ⊢
  have gs := hs.far2 (H' := HA) (fun a a1 a2 => fA a (by omega) (by omega) (by omega))
  refine RQ.blk 1 (pc' := 27) (lv' := [(0, .ref 1)]) (st' := [.ref 1]) (H' := _) (kc' := 0) (ks' := 0) rfl ?_
  refine RQ.get (ci := 11) rfl g0 rfl rfl ?_
  refine RQ.call (v := none) (st' := []) rfl rfl rfl rfl rfl rfl (args_v [] [] rfl rfl (Nat.le_of_ble_eq_true rfl) rfl gs.1 (Nat.le_of_ble_eq_true rfl)) (rc_closeAll gs) ?_
  have gs2 : SightAt (HA.set 8 (kZ 8 (fun j => if j < 8 then false else op j))) (fun j => if j < 8 then false else op j) sm := ⟨(set_far (by decide)).trans gs.1, get_set gs.2.1, (set_far (by decide)).trans gs.2.2⟩
  have fB : ∀ a, a ≠ 8 → (HA.set 8 (kZ 8 (fun j => if j < 8 then false else op j)))[a]? = HA[a]? := fun a ha => set_far ha
  generalize (HA.set 8 (kZ 8 (fun j => if j < 8 then false else op j))) = HB at gs2 fB ⊢
  have gV := hV.far (H' := HB) (fun a a1 a2 => (fB a (by omega)).trans (fA a (by omega) (by omega) (by omega)))
  obtain ⟨vf, hv0⟩ : ∃ vf, HB[74]? = some (kO 10 vf) := by obtain ⟨_, _, _, _, _, _, _, _, _, _, _, q1, _, _⟩ := gV; exact ⟨_, q1.1⟩
  refine RQ.blk 1 (pc' := 34) (lv' := [(0, .ref 1)]) (st' := [.ref 1]) (H' := _) (kc' := 0) (ks' := 0) rfl ?_
  refine RQ.get (ci := 11) rfl ((fB 0 (by decide)).trans g0) rfl rfl ?_
  refine RQ.callN (st' := []) rfl rfl rfl rfl rfl rfl (args_v [] [] rfl rfl (Nat.le_of_ble_eq_true rfl) rfl hv0 (Nat.le_of_ble_eq_true rfl)) (rn_vclear gV) (fun HC hxC => ?_)
  obtain ⟨gV2, fC⟩ := hxC
  have fC2 : ∀ a, a ≠ 8 → ¬ (74 ≤ a ∧ a < 83) → HC[a]? = HA[a]? := fun a a1 a2 => (fC a a2).trans (fB a a1)
  have gT := hT.far (H' := HC) (fun a a1 a2 => (fC2 a (by omega) (by omega)).trans (fA a (by omega) (by omega) (by omega)))
  refine RQ.blk 1 (pc' := 41) (lv' := [(0, .ref 1)]) (st' := [.ref 1]) (H' := _) (kc' := 0) (ks' := 0) rfl ?_
  refine RQ.get (ci := 11) rfl ((fC2 0 (by decide) (by decide)).trans g0) rfl rfl ?_
  refine RQ.callN (st' := []) rfl rfl rfl rfl rfl rfl (args_v [] [] rfl rfl (Nat.le_of_ble_eq_true rfl) rfl gT.1 (Nat.le_of_ble_eq_true rfl)) (rn_tclear gT) (fun HD hxD => ?_)
  obtain ⟨gT2, fD⟩ := hxD
  have fD2 : ∀ a, a ≠ 8 → ¬ (74 ≤ a ∧ a < 83) → a ≠ 65 → a ≠ 66 → HD[a]? = HA[a]? := fun a a1 a2 a3 a4 => (fD a a3 a4).trans (fC2 a a1 a2)
  have gL := h.far (H' := HD) (fun a a1 a2 a3 => (fD2 a (by omega) (by omega) (by omega) (by omega)).trans (fA a (by omega) (by omega) (by omega)))
  obtain ⟨yf, hy0⟩ : ∃ yf, HD[83]? = some (kO 3 yf) := by obtain ⟨_, _, q1, _⟩ := gL; exact ⟨_, q1.1⟩
  refine RQ.blk 1 (pc' := 48) (lv' := [(0, .ref 1)]) (st' := [.ref 1]) (H' := _) (kc' := 0) (ks' := 0) rfl ?_
  refine RQ.get (ci := 11) rfl ((fD2 0 (by decide) (by decide) (by decide) (by decide)).trans g0) rfl rfl ?_
  refine RQ.callN (st' := []) rfl rfl rfl rfl rfl rfl (args_v [] [] rfl rfl (Nat.le_of_ble_eq_true rfl) rfl hy0 (Nat.le_of_ble_eq_true rfl)) (rn_lclear gL) (fun HE hxE => ?_)
  obtain ⟨gL2, fE⟩ := hxE
  have fE2 : ∀ a, a ≠ 83 → a ≠ 8 → ¬ (74 ≤ a ∧ a < 83) → a ≠ 65 → a ≠ 66 → HE[a]? = HA[a]? := fun a a0 a1 a2 a3 a4 => (fE a a0).trans (fD2 a a1 a2 a3 a4)
  exact RQ.done (c := 0) (s := 0) rfl rfl rfl rfl ⟨_, rfl, (fE2 0 (by decide) (by decide) (by decide) (by decide) (by decide)).trans g0, (fE2 1 (by decide) (by decide) (by decide) (by decide) (by decide)).trans g1, (fE2 3 (by decide) (by decide) (by decide) (by decide) (by decide)).trans g3, gs2.far2 (fun a a1 a2 => (fE a (by omega)).trans ((fD a (by omega) (by omega)).trans (fC a (by omega)))), gV2.far (fun a a1 a2 => (fE a (by omega)).trans (fD a (by omega) (by omega))), gT2.far (fun a a1 a2 => fE a (by omega)), gL2, fun a a1 a2 a3 a4 a5 a6 a7 a8 => (fE2 a a8 a4 a7 a5 a6).trans (fA a a1 a2 a3)⟩
