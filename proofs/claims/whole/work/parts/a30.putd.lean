/-! ===== a draft is begun, and put into the list; class; written by wip/gen/putd.py ===== -/
/-- a table is begun -/
theorem rx_draft {sc : Nat × (Nat → Int32)} {d l : Nat} {H : aH} {B : Nat} {lgs : List Nat} {fr ff : Nat} {wr : Bool} {tp : Nat} {rs : List aR} {ms mt sq tu : Nat} {us : Nat → Bool} (h : LayIs H B lgs fr ff wr tp rs ms mt sq tu us) (hB : B ≤ 128) (hrl2 : rs.length < 24) : ∃ (r : Nat) (H' : aH) (Q : Nat → Option Nat), RC sc (d + 1) mr_98 [.ref 84, .int (nI l)] H (.inl (some (.ref (r + 1)))) H' 0 0 ∧ H'[84]? = some (kQ 5 24 Q) ∧ Q rs.length = some r ∧ 88 ≤ r ∧ r < 135 ∧ RunIs H' r (l, 0, 0, []) ∧ LayIs H' B lgs fr ff wr tp rs ms mt sq tu us ∧ ∀ a, a ≠ r → H'[a]? = H[a]? := by
  have h0 := h
  obtain ⟨lg, pi, hY, hlg, hlc, hRs⟩ := h
  obtain ⟨⟨Q, hQ, hQ2⟩, hpi, hinj, hrun, hall, hrl⟩ := hRs
  obtain ⟨s, s1, s2⟩ := hpi rs.length hrl2
  obtain ⟨x, hx⟩ := hall rs.length hrl2
  obtain ⟨xf, hx0⟩ : ∃ xf, H[pi rs.length]? = some (kO 6 xf) := by obtain ⟨_, q1, _⟩ := hx; exact ⟨_, q1⟩
  have key : RQ sc (d + 1) mr_98 0 (lv_args 0 [.ref 84, .int (nI l)]) [] H 0 0 (fun z => ∃ H', z = (.inl (some (.ref (pi rs.length + 1))), H', 0, 0) ∧ RunIs H' (pi rs.length) (l, 0, 0, []) ∧ ∀ a, a ≠ pi rs.length → H'[a]? = H[a]?) := by
    refine RQ.blk 1 (pc' := 1) (lv' := [(0, .ref 84), (1, .int (nI l))]) (st' := [.ref 84]) (H' := _) (kc' := 0) (ks' := 0) rfl ?_
    refine RQ.get (ci := 3) rfl hY.1 rfl rfl ?_
    refine RQ.blk 1 (pc' := 6) (lv' := [(0, .ref 84), (1, .int (nI l))]) (st' := [.int 24, .int (nI rs.length)]) (H' := _) (kc' := 0) (ks' := 0) rfl ?_
    refine RQ.brT rfl rfl rfl (cT_lt rs.length 24) ?_
    refine RQ.blk 1 (pc' := 20) (lv' := [(0, .ref 84), (1, .int (nI l))]) (st' := [.ref 84]) (H' := _) (kc' := 0) (ks' := 0) rfl ?_
    refine RQ.get (ci := 3) rfl hY.1 rfl rfl ?_
    refine RQ.blk 1 (pc' := 24) (lv' := [(0, .ref 84), (1, .int (nI l))]) (st' := [.ref 84, .ref 85]) (H' := _) (kc' := 0) (ks' := 0) rfl ?_
    refine RQ.get (ci := 3) rfl hY.1 rfl rfl ?_
    refine RQ.aaldN (j := rs.length) rfl hQ (by omega) (by decide) (by decide) (hQ2 rs.length hrl2) ?_
    refine RQ.blk 3 (pc' := 31) (lv' := [(2, .ref ((pi rs.length) + 1)), (0, .ref 84), (1, .int (nI l))]) (st' := [.int (nI l), .ref ((pi rs.length) + 1)]) (H' := _) (kc' := 0) (ks' := 0) rfl ?_
    refine RQ.callN (st' := []) rfl rfl rfl rfl rfl rfl (args_v [.int (nI l)] [] rfl rfl (Nat.le_of_ble_eq_true rfl) rfl hx0 (Nat.le_of_ble_eq_true rfl)) (rn_runClear hx) (fun H2 hx2 => ?_)
    obtain ⟨hx3, f2⟩ := hx2
    refine RQ.blk 1 (pc' := 35) (lv' := [(2, .ref ((pi rs.length) + 1)), (0, .ref 84), (1, .int (nI l))]) (st' := [.ref ((pi rs.length) + 1)]) (H' := _) (kc' := 0) (ks' := 0) rfl ?_
    exact RQ.done (c := 0) (s := 0) rfl rfl rfl rfl ⟨_, rfl, hx3, fun a a1 => f2 a a1⟩
  obtain ⟨z, h1, H', e, h2, h3⟩ := key
  subst e
  exact ⟨pi rs.length, H', Q, h1, (h3 84 (by omega)).trans hQ, hQ2 _ hrl2, by omega, by omega, h2, h0.draft hQ (hQ2 _ hrl2) hrl2 h2 (fun a a1 _ => h3 a a1), h3⟩
theorem pd_loop {sc : Nat × (Nat → Int32)} {d f l r nx : Nat} {H0 H : aH} {B : Nat} {lgs : List Nat} {fr ff : Nat} {wr : Bool} {tp : Nat} {zs : List aR} {ms mt sq tu : Nat} {us : Nat → Bool} (h : LayIs H B lgs fr ff wr tp zs ms mt sq tu us) (hk : nx + (l - f) ≤ zs.length) (hfl : f ≤ l) (hl24 : l ≤ 24) (f0 : ∀ a, a ≠ 83 → a ≠ 84 → H[a]? = H0[a]?) : RQ sc (d + 1) mr_112 74 [(5, .int (nI 0)), (4, .int (nI nx)), (3, .ref (r + 1)), (0, .ref 84), (1, .int (nI f)), (2, .int (nI l))] [] H 0 0 (fun z => ∃ H', z = (.inl none, H', 0, 0) ∧ LayIs H' B lgs fr ff wr tp (zs.take nx ++ zs.drop (nx + (l - f))) ms mt sq tu us ∧ ∀ a, a ≠ 83 → a ≠ 84 → H'[a]? = H0[a]?) := by
  have hz24 : zs.length ≤ 24 := by obtain ⟨_, _, _, _, _, q⟩ := h; exact q.2.2.2.2.2
  refine RQ.while (S := Nat) (pc := 74) (fun i H' => i ≤ l - f ∧ LayIs H' B lgs fr ff wr tp (zs.take nx ++ zs.drop (nx + i)) ms mt sq tu us ∧ ∀ a, a ≠ 83 → a ≠ 84 → H'[a]? = H0[a]?) (fun i => [(5, .int (nI i)), (4, .int (nI nx)), (3, .ref (r + 1)), (0, .ref 84), (1, .int (nI f)), (2, .int (nI l))]) (fun i => l - f - i) ?_ 0 H ⟨Nat.zero_le _, by rw [Nat.add_zero, List.take_append_drop]; exact h, f0⟩
  rintro i H1 ⟨hi, h1, f1⟩ ih
  obtain ⟨ws, hws⟩ : ∃ ws, ws = zs.take nx ++ zs.drop (nx + i) := ⟨_, rfl⟩
  have hwl : ws.length = zs.length - i := by rw [hws, List.length_append, List.length_take, List.length_drop]; omega
  rw [← hws] at h1
  have h1' := h1
  obtain ⟨lg, pi, hY, hlg, hlc, hRs⟩ := h1
  by_cases hil : i < l - f
  ·
    refine RQ.blk 4 (pc' := 79) (lv' := [(5, .int (nI i)), (4, .int (nI nx)), (3, .ref (r + 1)), (0, .ref 84), (1, .int (nI f)), (2, .int (nI l))]) (st' := [.int (nI l - nI f), .int (nI i)]) (H' := _) (kc' := 0) (ks' := 0) rfl ?_
    rw [show (nI l - nI f : Int32) = nI (l - f) from pk_sub (a := l) (b := f) (by omega)]
    refine RQ.brF rfl rfl rfl (cF_ge i (l - f)) ?_
    refine RQ.blk 3 (pc' := 86) (lv' := [(5, .int (nI i)), (4, .int (nI nx)), (3, .ref (r + 1)), (0, .ref 84), (1, .int (nI f)), (2, .int (nI l))]) (st' := [.ref 84, .int (nI nx), .ref 84]) (H' := _) (kc' := 0) (ks' := 0) rfl ?_
    refine RQ.get (ci := 3) rfl hY.1 rfl rfl ?_
    refine RQ.blk 2 (pc' := 91) (lv' := [(5, .int (nI i)), (4, .int (nI nx)), (3, .ref (r + 1)), (0, .ref 84), (1, .int (nI f)), (2, .int (nI l))]) (st' := [.int (nI ws.length - 1), .int (nI nx), .ref 84]) (H' := _) (kc' := 0) (ks' := 0) rfl ?_
    rw [show (nI ws.length - 1 : Int32) = nI (ws.length - 1) from pk_sub (a := ws.length) (b := 1) (by omega)]
    have hRs2 := hRs
    obtain ⟨⟨Q, hQ, hQ2⟩, hpi, hinj, hrun, hall, hrl⟩ := hRs2
    refine RQ.callN (st' := []) rfl rfl rfl rfl rfl rfl (args_v [.int (nI (ws.length - 1)), .int (nI nx)] [] rfl rfl (Nat.le_of_ble_eq_true rfl) rfl hY.1 (Nat.le_of_ble_eq_true rfl)) (rn_moveRun (a := nx) (b := ws.length - 1) hY.1 hQ hQ2 (fun j hj => by obtain ⟨x, q1, q2, _⟩ := hall j hj; exact ⟨_, q2⟩) (fun j hj => by obtain ⟨s, s1, s2⟩ := hpi j hj; omega) (by omega) (by omega)) (fun H2 hx2 => ?_)
    obtain ⟨⟨Q', hQ', hQ3⟩, f2⟩ := hx2
    have hR2 := hRs.del (H' := H2.set 83 (kO 3 (layF B lgs.length fr ff wr tp (ws.length - 1) ms mt sq tu 0 0))) (n := nx) (by omega) ((set_far (by decide)).trans hQ') hQ3 (fun a a1 a2 => (set_far (by omega)).trans (f2 a (by omega)))
    refine RQ.blk 2 (pc' := 96) (lv' := [(5, .int (nI i)), (4, .int (nI nx)), (3, .ref (r + 1)), (0, .ref 84), (1, .int (nI f)), (2, .int (nI l))]) (st' := [.ref 84, .ref 84]) (H' := _) (kc' := 0) (ks' := 0) rfl ?_
    refine RQ.get (ci := 3) rfl ((f2 83 (by decide)).trans hY.1) rfl rfl ?_
    refine RQ.blk 2 (pc' := 101) (lv' := [(5, .int (nI i)), (4, .int (nI nx)), (3, .ref (r + 1)), (0, .ref 84), (1, .int (nI f)), (2, .int (nI l))]) (st' := [.int (nI ws.length - 1), .ref 84]) (H' := _) (kc' := 0) (ks' := 0) rfl ?_
    rw [show (nI ws.length - 1 : Int32) = nI (ws.length - 1) from pk_sub (a := ws.length) (b := 1) (by omega)]
    refine RQ.put (ci := 3) rfl ((f2 83 (by decide)).trans hY.1) rfl rfl (Nat.le_of_ble_eq_true rfl) ?_
    refine RQ.blk 1 (pc' := 107) (lv' := [(5, .int (nI i + 1)), (4, .int (nI nx)), (3, .ref (r + 1)), (0, .ref 84), (1, .int (nI f)), (2, .int (nI l))]) (st' := []) (H' := _) (kc' := 0) (ks' := 0) rfl ?_
    rw [show (nI i + 1 : Int32) = nI (i + 1) from nI_add i 1]
    refine RQ.blk 1 (pc' := 74) (lv' := [(5, .int (nI (i + 1))), (4, .int (nI nx)), (3, .ref (r + 1)), (0, .ref 84), (1, .int (nI f)), (2, .int (nI l))]) (st' := []) (H' := _) (kc' := 0) (ks' := 0) rfl ?_
    have hel := List.length_eraseIdx_of_lt (l := ws) (i := nx) (by omega)
    have hY2 : LayAt (H2.set 83 (kO 3 (layF B lgs.length fr ff wr tp (ws.length - 1) ms mt sq tu 0 0))) (layF B lgs.length fr ff wr tp (ws.eraseIdx nx).length ms mt sq tu 0 0) B us lg := ⟨by rw [hel]; exact get_set ((f2 83 (by decide)).trans hY.1), (set_far (by decide)).trans ((f2 86 (by decide)).trans hY.2.1), (set_far (by decide)).trans ((f2 87 (by decide)).trans hY.2.2)⟩
    have hwe : ws.eraseIdx nx = zs.take nx ++ zs.drop (nx + (i + 1)) := by
      have hl1 : (zs.take nx).length = nx := by rw [List.length_take]; omega
      rw [hws, List.eraseIdx_append_of_length_le (by omega), hl1, Nat.sub_self]
      congr 1
      rw [List.eraseIdx_zero, List.tail_drop]
      rfl
    rw [hwe] at hY2 hR2
    exact ih (i + 1) _ ⟨by omega, ⟨lg, _, hY2, hlg, hlc, hR2⟩, fun a a1 a2 => (set_far a1).trans ((f2 a a2).trans (f1 a a1 a2))⟩ (by omega)
  ·
    refine RQ.blk 4 (pc' := 79) (lv' := [(5, .int (nI i)), (4, .int (nI nx)), (3, .ref (r + 1)), (0, .ref 84), (1, .int (nI f)), (2, .int (nI l))]) (st' := [.int (nI l - nI f), .int (nI i)]) (H' := _) (kc' := 0) (ks' := 0) rfl ?_
    rw [show (nI l - nI f : Int32) = nI (l - f) from pk_sub (a := l) (b := f) (by omega)]
    refine RQ.brT rfl rfl rfl (cT_ge i (l - f)) ?_
    exact RQ.done (c := 0) (s := 0) rfl rfl rfl rfl ⟨_, rfl, by rw [show l - f = i by omega, ← hws]; exact h1', f1⟩
theorem put_in {rs : List aR} {x : aR} {f l : Nat} (hfl : f ≤ l) (hl : l ≤ rs.length) : (rs.take f ++ x :: rs.drop f).take (f + 1) ++ (rs.take f ++ x :: rs.drop f).drop (f + 1 + (l - f)) = rs.take f ++ [x] ++ rs.drop l := by
  have hl1 : (rs.take f).length = f := by rw [List.length_take]; omega
  rw [List.take_append, List.drop_append, hl1, List.take_of_length_le (by omega), List.drop_of_length_le (l := rs.take f) (by omega), show f + 1 - f = 0 + 1 by omega, show f + 1 + (l - f) - f = (l - f) + 1 by omega, List.take_succ_cons, List.take_zero, List.drop_succ_cons, List.drop_drop, List.nil_append, show f + (l - f) = l by omega]
/-- the draft comes into the list -/
theorem rn_putDraft {sc : Nat × (Nat → Int32)} {d f l r : Nat} {H : aH} {x : aR} {Q : Nat → Option Nat} {B : Nat} {lgs : List Nat} {fr ff : Nat} {wr : Bool} {tp : Nat} {rs : List aR} {ms mt sq tu : Nat} {us : Nat → Bool} (h : LayIs H B lgs fr ff wr tp rs ms mt sq tu us) (hB : B ≤ 128) (hQ : H[84]? = some (kQ 5 24 Q)) (hQr : Q rs.length = some r) (hrl2 : rs.length < 24) (hx : RunIs H r x) (hx31 : x.2.1 < 2 ^ 31) (hfl : f ≤ l) (hlr : l ≤ rs.length) : RN sc (d + 1) mr_112 [.ref 84, .int (nI f), .int (nI l)] H (fun H' => LayIs H' B lgs fr ff wr tp (rs.take f ++ (if 0 < x.2.1 then [x] else []) ++ rs.drop l) ms mt sq tu us ∧ ∀ a, a ≠ 83 → a ≠ 84 → H'[a]? = H[a]?) := by
  have h0 := h
  obtain ⟨lg, pi, hY, hlg, hlc, hRs⟩ := h
  have hRs0 := hRs
  obtain ⟨⟨Q0, hQ0, hQ2⟩, hpi, hinj, hrun, hall, hrl⟩ := hRs0
  have eQ : Q0 = Q := by
    have := hQ0.symm.trans hQ
    have := Option.some.inj this
    injection this with this
    injection this with this
    injection this with this
    injection this with this
    injection this with this
    injection this with this this2
    injection this2
  subst eQ
  have epi : pi rs.length = r := Option.some.inj ((hQ2 rs.length hrl2).symm.trans hQr)
  subst epi
  obtain ⟨rf, rk1, rk2, rk3, rk4⟩ := id hx
  refine RN.of ?_
  refine RQ.blk 1 (pc' := 1) (lv' := [(0, .ref 84), (1, .int (nI f)), (2, .int (nI l))]) (st' := [.int (nI f)]) (H' := _) (kc' := 0) (ks' := 0) rfl ?_
  refine RQ.brF rfl rfl rfl (cF_lt f 0) ?_
  refine RQ.blk 2 (pc' := 6) (lv' := [(0, .ref 84), (1, .int (nI f)), (2, .int (nI l))]) (st' := [.int (nI f), .int (nI l)]) (H' := _) (kc' := 0) (ks' := 0) rfl ?_
  refine RQ.brF rfl rfl rfl (cF_lt l f) ?_
  refine RQ.blk 2 (pc' := 11) (lv' := [(0, .ref 84), (1, .int (nI f)), (2, .int (nI l))]) (st' := [.ref 84, .int (nI l)]) (H' := _) (kc' := 0) (ks' := 0) rfl ?_
  refine RQ.get (ci := 3) rfl hY.1 rfl rfl ?_
  refine RQ.brF rfl rfl rfl (cF_gt l rs.length) ?_
  refine RQ.blk 1 (pc' := 18) (lv' := [(0, .ref 84), (1, .int (nI f)), (2, .int (nI l))]) (st' := [.ref 84]) (H' := _) (kc' := 0) (ks' := 0) rfl ?_
  refine RQ.get (ci := 3) rfl hY.1 rfl rfl ?_
  refine RQ.blk 1 (pc' := 23) (lv' := [(0, .ref 84), (1, .int (nI f)), (2, .int (nI l))]) (st' := [.int 24, .int (nI rs.length)]) (H' := _) (kc' := 0) (ks' := 0) rfl ?_
  refine RQ.brT rfl rfl rfl (cT_lt rs.length 24) ?_
  refine RQ.blk 1 (pc' := 28) (lv' := [(0, .ref 84), (1, .int (nI f)), (2, .int (nI l))]) (st' := [.ref 84]) (H' := _) (kc' := 0) (ks' := 0) rfl ?_
  refine RQ.get (ci := 3) rfl hY.1 rfl rfl ?_
  refine RQ.blk 1 (pc' := 32) (lv' := [(0, .ref 84), (1, .int (nI f)), (2, .int (nI l))]) (st' := [.ref 84, .ref 85]) (H' := _) (kc' := 0) (ks' := 0) rfl ?_
  refine RQ.get (ci := 3) rfl hY.1 rfl rfl ?_
  refine RQ.aaldN (j := rs.length) rfl hQ (by omega) (by decide) (by decide) ((hQ2 rs.length hrl2)) ?_
  refine RQ.blk 4 (pc' := 41) (lv' := [(4, .int (nI f)), (3, .ref (pi rs.length + 1)), (0, .ref 84), (1, .int (nI f)), (2, .int (nI l))]) (st' := [.ref (pi rs.length + 1)]) (H' := _) (kc' := 0) (ks' := 0) rfl ?_
  refine RQ.get (ci := 6) rfl rk1 rfl rfl ?_
  by_cases hpos : 0 < x.2.1
  · refine RQ.brF rfl rfl rfl (cF_le x.2.1 0) ?_
    refine RQ.blk 2 (pc' := 49) (lv' := [(4, .int (nI f)), (3, .ref (pi rs.length + 1)), (0, .ref 84), (1, .int (nI f)), (2, .int (nI l))]) (st' := [.ref 84, .ref 84]) (H' := _) (kc' := 0) (ks' := 0) rfl ?_
    refine RQ.get (ci := 3) rfl hY.1 rfl rfl ?_
    refine RQ.blk 1 (pc' := 53) (lv' := [(4, .int (nI f)), (3, .ref (pi rs.length + 1)), (0, .ref 84), (1, .int (nI f)), (2, .int (nI l))]) (st' := [.int (nI f), .int (nI rs.length), .ref 84]) (H' := _) (kc' := 0) (ks' := 0) rfl ?_
    refine RQ.callN (st' := []) rfl rfl rfl rfl rfl rfl (args_v [.int (nI f), .int (nI rs.length)] [] rfl rfl (Nat.le_of_ble_eq_true rfl) rfl hY.1 (Nat.le_of_ble_eq_true rfl)) (rn_moveRun (a := rs.length) (b := f) hY.1 hQ hQ2 (fun j hj => by obtain ⟨x, q1, q2, _⟩ := hall j hj; exact ⟨_, q2⟩) (fun j hj => by obtain ⟨s, s1, s2⟩ := hpi j hj; omega) (by omega) (by omega)) (fun H2 hx2 => ?_)
    obtain ⟨⟨Q', hQ', hQ3⟩, f2⟩ := hx2
    have hR2 := hRs.ins (H' := H2.set 83 (kO 3 (layF B lgs.length fr ff wr tp (rs.length + 1) ms mt sq tu 0 0))) (f := f) hrl2 (by omega) hx ((set_far (by decide)).trans hQ') hQ3 (fun a a1 a2 => (set_far (by omega)).trans (f2 a (by omega)))
    refine RQ.blk 2 (pc' := 58) (lv' := [(4, .int (nI f)), (3, .ref (pi rs.length + 1)), (0, .ref 84), (1, .int (nI f)), (2, .int (nI l))]) (st' := [.ref 84, .ref 84]) (H' := _) (kc' := 0) (ks' := 0) rfl ?_
    refine RQ.get (ci := 3) rfl ((f2 83 (by decide)).trans hY.1) rfl rfl ?_
    refine RQ.blk 2 (pc' := 63) (lv' := [(4, .int (nI f)), (3, .ref (pi rs.length + 1)), (0, .ref 84), (1, .int (nI f)), (2, .int (nI l))]) (st' := [.int (nI rs.length + 1), .ref 84]) (H' := _) (kc' := 0) (ks' := 0) rfl ?_
    rw [show (nI rs.length + 1 : Int32) = nI (rs.length + 1) from nI_add rs.length 1]
    refine RQ.put (ci := 3) rfl ((f2 83 (by decide)).trans hY.1) rfl rfl (Nat.le_of_ble_eq_true rfl) ?_
    refine RQ.blk 3 (pc' := 69) (lv' := [(4, .int (nI f)), (3, .ref (pi rs.length + 1)), (0, .ref 84), (1, .int (nI f)), (2, .int (nI l))]) (st' := [.int (nI f + 1)]) (H' := _) (kc' := 0) (ks' := 0) rfl ?_
    rw [show (nI f + 1 : Int32) = nI (f + 1) from nI_add f 1]
    refine RQ.blk 3 (pc' := 74) (lv' := [(5, .int 0), (4, .int (nI (f + 1))), (3, .ref (pi rs.length + 1)), (0, .ref 84), (1, .int (nI f)), (2, .int (nI l))]) (st' := []) (H' := _) (kc' := 0) (ks' := 0) rfl ?_
    have hzl : (rs.take f ++ x :: rs.drop f).length = rs.length + 1 := by rw [List.length_append, List.length_cons, List.length_take, List.length_drop]; omega
    have hL2 : LayIs (H2.set 83 (kO 3 (layF B lgs.length fr ff wr tp (rs.length + 1) ms mt sq tu 0 0))) B lgs fr ff wr tp (rs.take f ++ x :: rs.drop f) ms mt sq tu us := ⟨lg, _, ⟨by rw [hzl]; exact get_set ((f2 83 (by decide)).trans hY.1), (set_far (by decide)).trans ((f2 86 (by decide)).trans hY.2.1), (set_far (by decide)).trans ((f2 87 (by decide)).trans hY.2.2)⟩, hlg, hlc, hR2⟩
    have hlp := pd_loop (sc := sc) (d := d) (f := f) (l := l) (r := pi rs.length) (nx := f + 1) (H0 := H) hL2 (by omega) hfl (by omega) (fun a a1 a2 => (set_far a1).trans (f2 a a2))
    rw [show (rs.take f ++ x :: rs.drop f).take (f + 1) ++ (rs.take f ++ x :: rs.drop f).drop (f + 1 + (l - f)) = rs.take f ++ (if 0 < x.2.1 then [x] else []) ++ rs.drop l by rw [if_pos hpos]; exact put_in hfl (by omega)] at hlp
    exact hlp
  · refine RQ.brT rfl rfl rfl (cT_le x.2.1 0) ?_
    refine RQ.blk 2 (pc' := 74) (lv' := [(5, .int 0), (4, .int (nI f)), (3, .ref (pi rs.length + 1)), (0, .ref 84), (1, .int (nI f)), (2, .int (nI l))]) (st' := []) (H' := _) (kc' := 0) (ks' := 0) rfl ?_
    have hlp := pd_loop (sc := sc) (d := d) (f := f) (l := l) (r := pi rs.length) (nx := f) (H0 := H) h0 (by omega) hfl (by omega) (fun a a1 a2 => rfl)
    rw [show rs.take f ++ rs.drop (f + (l - f)) = rs.take f ++ (if 0 < x.2.1 then [x] else []) ++ rs.drop l by rw [if_neg hpos, List.append_nil, show f + (l - f) = l by omega]] at hlp
    exact hlp
