/-! ===== seek as a whole; class; written by wip/gen/seekc.py ===== -/
/-- a user's key that has a value to a transaction -/
def VisU (ws : List aE) (vs : List aV) (m : Nat) (k : List Nat) : Prop := k.headD 1 = 0 ∧ VisK ws vs m k
theorem key_user {kf : Nat → Int8} {kl od : Nat → Nat} {q : Nat} (h : 1 ≤ kl (od q)) : (keyO kf kl od q).headD 1 = ub (kf (od q * 41)) := by
  show (sl kf (od q * 41) (kl (od q))).headD 1 = _
  obtain ⟨n, hn⟩ : ∃ n, kl (od q) = n + 1 := ⟨kl (od q) - 1, by omega⟩
  rw [hn]
  rfl
theorem sk_f1 {kf : Nat → Int8} {kl mo pl : Nat → Nat} {le : Nat → Option Nat} {al : Nat → Bool} {od : Nat → Nat} {sz k m : Nat} {ws : List aE} {vs : List aV} {k0 : List Nat} {bey : Bool} {x : Int32} (hs : srt kf kl mo od sz) (hvs : vs = vsL kf kl mo pl le al od sz) (hx : x = if bey then -1 else 2147483647) (hc : cutAt kf kl mo od sz k0 x k) (hmo : ∀ q, q < sz → mo (od q) < 2 ^ 31) (hkl : ∀ q, q < sz → 1 ≤ kl (od q)) (hw0 : ∀ e ∈ ws, e.1.headD 1 = 0) : ∀ k', VisU ws vs m k' → GeK k0 bey k' → (∃ (j : Nat) (e : aE), ws[j]? = some e ∧ e.1 = k' ∧ fvK k0 bey e = true) ∨ (∃ q, k ≤ q ∧ q < sz ∧ keyO kf kl od q = k' ∧ ub (kf (od q * 41)) = 0 ∧ okS kf kl mo le od sz m ws q) := fun k' ⟨hu, hv⟩ hg => by
  rcases hv with ⟨e, he, e1, e2⟩ | ⟨hno, v, hv, v1, v2, v3⟩
  · obtain ⟨j, hj⟩ := List.getElem?_of_mem he
    exact Or.inl ⟨j, e, hj, e1, fvK_iff.mpr ⟨e2, by rw [e1]; exact hg⟩⟩
  · rw [hvs] at hv
    obtain ⟨q, hq, hqe⟩ := List.mem_map.mp hv
    have hq := List.mem_range.mp hq
    rw [← hqe] at v1 v2 v3
    have v1 : keyO kf kl od q = k' := v1
    refine Or.inr ⟨q, (cut_ge hx hc hq (hmo q hq)).mpr (by rw [v1]; exact hg), hq, v1, by rw [← key_user (hkl q hq), v1]; exact hu, (okS_iff (pl := pl) (al := al) hs hq).mpr ⟨by rw [hvs] at v2; exact v2, v3, fun e he => by rw [v1]; exact hno e he⟩⟩
theorem sk_f3 {kf : Nat → Int8} {kl mo pl : Nat → Nat} {le : Nat → Option Nat} {al : Nat → Bool} {od : Nat → Nat} {sz k m : Nat} {ws : List aE} {vs : List aV} {k0 : List Nat} {bey : Bool} {x : Int32} (hs : srt kf kl mo od sz) (hvs : vs = vsL kf kl mo pl le al od sz) (hx : x = if bey then -1 else 2147483647) (hc : cutAt kf kl mo od sz k0 x k) (hmo : ∀ q, q < sz → mo (od q) < 2 ^ 31) (hkl : ∀ q, q < sz → 1 ≤ kl (od q)) (hw0 : ∀ e ∈ ws, e.1.headD 1 = 0) {q : Nat} (hk : k ≤ q) (hq : q < sz) (hu : ub (kf (od q * 41)) = 0) (ho : okS kf kl mo le od sz m ws q) : VisU ws vs m (keyO kf kl od q) ∧ GeK k0 bey (keyO kf kl od q) := by
  obtain ⟨o1, o2, o3⟩ := (okS_iff (pl := pl) (al := al) hs hq).mp ho
  refine ⟨⟨by rw [key_user (hkl q hq)]; exact hu, Or.inr ⟨o3, verO kf kl mo pl le al (od q), ?_, rfl, ?_, o2⟩⟩, (cut_ge hx hc hq (hmo q hq)).mp hk⟩
  · rw [hvs]; exact List.mem_map.mpr ⟨q, List.mem_range.mpr hq, rfl⟩
  · rw [hvs]; exact o1
theorem sk_ord {kf : Nat → Int8} {kl mo od : Nat → Nat} {sz p q : Nat} (hs : srt kf kl mo od sz) (h : p ≤ q) (hq : q < sz) : ¬ cmpL (keyO kf kl od q) (keyO kf kl od p) < 0 := fun e => by
  by_cases hpq : p = q
  · rw [hpq] at e; exact absurd e cmpL_irr
  · rcases hs p q (by omega) hq with e2 | ⟨e2, -⟩
    · exact absurd (cmpL_trans e e2) cmpL_irr
    · rw [e2] at e; exact absurd e cmpL_irr
theorem sk_nn {kf : Nat → Int8} {kl mo pl : Nat → Nat} {le : Nat → Option Nat} {al : Nat → Bool} {od : Nat → Nat} {sz k m : Nat} {ws : List aE} {vs : List aV} {k0 : List Nat} {bey : Bool} {x : Int32} (hs : srt kf kl mo od sz) (hvs : vs = vsL kf kl mo pl le al od sz) (hx : x = if bey then -1 else 2147483647) (hc : cutAt kf kl mo od sz k0 x k) (hmo : ∀ q, q < sz → mo (od q) < 2 ^ 31) (hkl : ∀ q, q < sz → 1 ≤ kl (od q)) (hw0 : ∀ e ∈ ws, e.1.headD 1 = 0) (h1 : ∀ q, k ≤ q → q < sz → ub (kf (od q * 41)) = 0 → ¬ okS kf kl mo le od sz m ws q) (h2 : fvS ws k0 bey ws.length = none) : SkS (VisU ws vs m) k0 bey none := fun k' hv hg => by
  rcases sk_f1 hs hvs hx hc hmo hkl hw0 k' hv hg with ⟨j, e, hj, -, hk⟩ | ⟨q, q1, q2, -, q4, q5⟩
  · have := fvS_none h2 j (get_lt hj)
    rw [List.getD_eq_getElem?_getD, hj] at this
    exact this hk
  · exact h1 q q1 q2 q4 q5
theorem sk_w {kf : Nat → Int8} {kl mo pl : Nat → Nat} {le : Nat → Option Nat} {al : Nat → Bool} {od : Nat → Nat} {sz k m : Nat} {ws : List aE} {vs : List aV} {k0 : List Nat} {bey : Bool} {x : Int32} (hs : srt kf kl mo od sz) (hvs : vs = vsL kf kl mo pl le al od sz) (hx : x = if bey then -1 else 2147483647) (hc : cutAt kf kl mo od sz k0 x k) (hmo : ∀ q, q < sz → mo (od q) < 2 ^ 31) (hkl : ∀ q, q < sz → 1 ≤ kl (od q)) (hw0 : ∀ e ∈ ws, e.1.headD 1 = 0) {i : Nat} {e : aE} (he : ws[i]? = some e) (h2 : fvS ws k0 bey ws.length = some i) (h1 : (∀ q, k ≤ q → q < sz → ub (kf (od q * 41)) = 0 → ¬ okS kf kl mo le od sz m ws q) ∨ ∃ p, p < sz ∧ (∀ q, k ≤ q → q < p → ¬ okS kf kl mo le od sz m ws q) ∧ cmpL e.1 (keyO kf kl od p) < 0) : SkS (VisU ws vs m) k0 bey (some e.1) := by
  obtain ⟨-, f2, f3⟩ := fvS_some h2
  have hgd : ws.getD i ([], none) = e := by rw [List.getD_eq_getElem?_getD, he]; rfl
  rw [hgd] at f2
  obtain ⟨g1, g2⟩ := fvK_iff.mp f2
  have hki : keyAt ws i = e.1 := by unfold keyAt; rw [hgd]
  refine ⟨⟨hw0 e (List.mem_of_getElem? he), Or.inl ⟨e, List.mem_of_getElem? he, rfl, g1⟩⟩, g2, fun k' hv hg => ?_⟩
  rcases sk_f1 hs hvs hx hc hmo hkl hw0 k' hv hg with ⟨j, e2, hj, e3, hk⟩ | ⟨q, q1, q2, q3, q4, q5⟩
  · have hgj : ws.getD j ([], none) = e2 := by rw [List.getD_eq_getElem?_getD, hj]; rfl
    have := f3 j (get_lt hj) (by rw [hgj]; exact hk)
    rw [hki, show keyAt ws j = e2.1 by unfold keyAt; rw [hgj], e3] at this
    exact this
  · rcases h1 with h1 | ⟨p, p1, p2, p3⟩
    · exact absurd q5 (h1 q q1 q2 q4)
    · have hpq : p ≤ q := Nat.le_of_not_lt (fun e9 => p2 q q1 e9 q5)
      intro e9
      rw [← q3] at e9
      exact sk_ord hs hpq q2 (cmpL_trans e9 p3)
theorem sk_s {kf : Nat → Int8} {kl mo pl : Nat → Nat} {le : Nat → Option Nat} {al : Nat → Bool} {od : Nat → Nat} {sz k m : Nat} {ws : List aE} {vs : List aV} {k0 : List Nat} {bey : Bool} {x : Int32} (hs : srt kf kl mo od sz) (hvs : vs = vsL kf kl mo pl le al od sz) (hx : x = if bey then -1 else 2147483647) (hc : cutAt kf kl mo od sz k0 x k) (hmo : ∀ q, q < sz → mo (od q) < 2 ^ 31) (hkl : ∀ q, q < sz → 1 ≤ kl (od q)) (hw0 : ∀ e ∈ ws, e.1.headD 1 = 0) {p : Nat} (hp1 : k ≤ p) (hp2 : p < sz) (hu : ub (kf (od p * 41)) = 0) (ho : okS kf kl mo le od sz m ws p) (hno : ∀ q, k ≤ q → q < p → ¬ okS kf kl mo le od sz m ws q) (h2 : fvS ws k0 bey ws.length = none ∨ ∃ (i : Nat) (e : aE), ws[i]? = some e ∧ fvS ws k0 bey ws.length = some i ∧ ¬ cmpL e.1 (keyO kf kl od p) < 0) : SkS (VisU ws vs m) k0 bey (some (keyO kf kl od p)) := by
  obtain ⟨a1, a2⟩ := sk_f3 hs hvs hx hc hmo hkl hw0 hp1 hp2 hu ho
  refine ⟨a1, a2, fun k' hv hg => ?_⟩
  rcases sk_f1 hs hvs hx hc hmo hkl hw0 k' hv hg with ⟨j, e2, hj, e3, hk⟩ | ⟨q, q1, q2, q3, q4, q5⟩
  · have hgj : ws.getD j ([], none) = e2 := by rw [List.getD_eq_getElem?_getD, hj]; rfl
    rcases h2 with h2 | ⟨i, e, he, h2, h3⟩
    · exact absurd hk (by have := fvS_none h2 j (get_lt hj); rw [hgj] at this; exact this)
    · have hgd : ws.getD i ([], none) = e := by rw [List.getD_eq_getElem?_getD, he]; rfl
      have h4 := (fvS_some h2).2.2 j (get_lt hj) (by rw [hgj]; exact hk)
      rw [show keyAt ws j = e2.1 by unfold keyAt; rw [hgj], show keyAt ws i = e.1 by unfold keyAt; rw [hgd], e3] at h4
      intro e9
      have h5 := cmpL_anti e.1 (keyO kf kl od p)
      by_cases h6 : cmpL e.1 (keyO kf kl od p) = 0
      · rw [cmpL_eq.mp h6] at h4
        exact h4 e9
      · exact h4 (cmpL_trans e9 (show cmpL (keyO kf kl od p) e.1 < 0 by omega))
  · have hpq : p ≤ q := Nat.le_of_not_lt (fun e9 => hno q q1 e9 q5)
    rw [← q3]
    exact sk_ord hs hpq q2
theorem ri_seek0 {sc : Nat × (Nat → Int32)} {N : Nat} {kf : Nat → Int8} {kl mo pl : Nat → Nat} {le : Nat → Option Nat} {al : Nat → Bool} {od sp : Nat → Nat} {sz ss ac : Nat} {op : Nat → Bool} {sm : Nat → Nat} {wq : Nat → Option Nat} {d q q5 l t b u : Nat} {H : aH} {bl pr cw cl cp cb : Int32} {f g gg : Nat → Int8} {D : Nat → Int8} {S K : Nat → Nat} {E : Nat → Option Nat} {ws : List aE} {vs : List aV} (h0 : H[0]? = some (kO 11 (fvs bl pr 1 cw cl cp cb))) (h1 : H[1]? = some (kO 5 [.ref 3, .int (nI l)])) (h2 : H[2]? = some (kB 2000 f)) (h3 : H[3]? = some (kO 5 [.ref 5, .int (nI q)])) (h4 : H[4]? = some (kB 1000 g)) (h5 : H[5]? = some (kO 5 [.ref 7, .int (nI q5)])) (h6 : H[6]? = some (kB 41 gg)) (hl2 : l ≤ 40) (hs : SightAt H op sm) (hsm : sm t < 2 ^ 30) (ht : t < 8) (hop : op t = true) (hw : H[10]? = some (kQ 4 8 wq)) (hq : wq t = some b) (hb10 : 10 < b) (hb60 : b < 60) (hA : VersAt H N kf kl mo pl le al od sp sz ss ac) (hV : VersWf N kf kl mo pl le al od sp sz ss ac) (hvs : vs = vsL kf kl mo pl le al od sz) (hb : BatchAt H b D S K E ws.length u) (hbk : BatchOk S K E ws.length u) (hL : LayE D 0 S K E ws) (hw0 : ∀ e ∈ ws, e.1.headD 1 = 0) (hwk : ∀ e ∈ ws, 1 ≤ e.1.length ∧ e.1.length ≤ 41) : RI sc (d + 5) mr_69 [.ref 1, .int (nI t), .int 0] H (fun x H' => ∃ rv : Option (List Nat), SkS (VisU ws vs (sm t)) (sl (prb f gg l) 0 (l + 1)) false rv ∧ x = lI (rv.map (fun k => k.length - 1)) ∧ ResIs H' ((rv.map List.tail).getD []) ∧ H'[5]? = some (kO 5 [.ref 7, .int (nI (l + 1))]) ∧ H'[6]? = some (kB 41 (prb f gg l)) ∧ H'[1]? = some (kO 5 [.ref 3, .int (nI 0)]) ∧ ∀ a, a ≠ 1 → a ≠ 3 → a ≠ 4 → a ≠ 5 → a ≠ 6 → H'[a]? = H[a]?) := by
  have hN := hV.1.1
  obtain ⟨k, hc⟩ := cut_ex (sl (prb f gg l) 0 (l + 1)) 2147483647 hV.2.2.2.2.2.2.2.2 (fun p hp => by have := (hV.1.2.2.2.2.2 _ (hV.1.2.2.2.1 p hp)).2.1; omega)
  refine RI.of ?_
  refine RQ.blk 2 (pc' := 2) (lv' := [(0, .ref 1), (1, .int (nI t)), (2, .int 0)]) (st' := [.int (nI t), .ref 1]) (H' := _) (kc' := 0) (ks' := 0) rfl ?_
  refine RQ.call (v := none) (st' := []) rfl rfl rfl rfl rfl rfl (args_v [.int (nI t)] [] rfl rfl (Nat.le_of_ble_eq_true rfl) rfl h0 (Nat.le_of_ble_eq_true rfl)) (rc_reqTx h0 ht) ?_
  refine RQ.blk 2 (pc' := 7) (lv' := [(0, .ref 1), (1, .int (nI t)), (2, .int 0)]) (st' := [.ref 1, .ref 1]) (H' := _) (kc' := 0) (ks' := 0) rfl ?_
  refine RQ.get (ci := 11) rfl h0 rfl rfl ?_
  refine RQ.get (ci := 5) rfl h1 rfl rfl ?_
  refine RQ.blk 2 (pc' := 16) (lv' := [(0, .ref 1), (1, .int (nI t)), (2, .int 0)]) (st' := [.int 40, .int 0, .int (nI l), .ref 1]) (H' := _) (kc' := 0) (ks' := 0) rfl ?_
  refine RQ.call (v := none) (st' := []) rfl rfl rfl rfl rfl rfl (args_v [.int 40, .int 0, .int (nI l)] [] rfl rfl (Nat.le_of_ble_eq_true rfl) rfl h0 (Nat.le_of_ble_eq_true rfl)) (rc_range (lo := 0) (hi := 40) (nI_nlt (b := 0) (by omega) (by omega)) (nI_le (b := 40) (by omega) (by decide))) ?_
  refine RQ.blk 1 (pc' := 20) (lv' := [(0, .ref 1), (1, .int (nI t)), (2, .int 0)]) (st' := [.ref 1]) (H' := _) (kc' := 0) (ks' := 0) rfl ?_
  refine RQ.call (v := none) (st' := []) rfl rfl rfl rfl rfl rfl (args_v [] [] rfl rfl (Nat.le_of_ble_eq_true rfl) rfl h0 (Nat.le_of_ble_eq_true rfl)) (rc_up h0 rfl) ?_
  refine RQ.blk 1 (pc' := 24) (lv' := [(0, .ref 1), (1, .int (nI t)), (2, .int 0)]) (st' := [.ref 1]) (H' := _) (kc' := 0) (ks' := 0) rfl ?_
  refine RQ.call (v := some (.int (nI l))) (st' := []) rfl rfl rfl rfl rfl rfl (args_v [] [] rfl rfl (Nat.le_of_ble_eq_true rfl) rfl h0 (Nat.le_of_ble_eq_true rfl)) (rc_takeTape h0 h1) ?_
  have far1 : ∀ a, a ≠ 1 → (H.set 1 (kO 5 [.ref 3, .int (nI 0)]))[a]? = H[a]? := fun a ha => set_far ha
  refine RQ.blk 3 (pc' := 30) (lv' := [(3, .int (nI l)), (0, .ref 1), (1, .int (nI t)), (2, .int 0)]) (st' := [.int (nI t), .ref 1]) (H' := _) (kc' := 0) (ks' := 0) rfl ?_
  refine RQ.call (v := none) (st' := []) rfl rfl rfl rfl rfl rfl (args_v [.int (nI t)] [] rfl rfl (Nat.le_of_ble_eq_true rfl) rfl ((set_far (by decide)).trans h0) (Nat.le_of_ble_eq_true rfl)) (rc_reqOpen ((far1 0 (by decide)).trans h0) (hs.far2 (fun a ha _ => far1 a (by omega))) ht hop) ?_
  refine RQ.blk 2 (pc' := 35) (lv' := [(3, .int (nI l)), (0, .ref 1), (1, .int (nI t)), (2, .int 0)]) (st' := [.int (nI l), .ref 1]) (H' := _) (kc' := 0) (ks' := 0) rfl ?_
  refine RQ.call (v := none) (st' := []) rfl rfl rfl rfl rfl rfl (args_v [.int (nI l)] [] rfl rfl (Nat.le_of_ble_eq_true rfl) rfl ((set_far (by decide)).trans h0) (Nat.le_of_ble_eq_true rfl)) (rc_probeUser (q := q5) (l := 0) ((far1 0 (by decide)).trans h0) (get_set h1) ((far1 2 (by decide)).trans h2) ((far1 5 (by decide)).trans h5) ((far1 6 (by decide)).trans h6) hl2) ?_
  have farP : ∀ a, a ≠ 1 → a ≠ 5 → a ≠ 6 → (((H.set 1 (kO 5 [.ref 3, .int (nI 0)])).set 6 (kB 41 (prb f gg l))).set 5 (kO 5 [.ref 7, .int (nI (l + 1))]))[a]? = H[a]? := fun a h1 h2 h3 => (set_far h2).trans ((set_far h3).trans (far1 a h1))
  have P5 : (((H.set 1 (kO 5 [.ref 3, .int (nI 0)])).set 6 (kB 41 (prb f gg l))).set 5 (kO 5 [.ref 7, .int (nI (l + 1))]))[5]? = _ := get_set ((set_far (by decide)).trans ((far1 5 (by decide)).trans h5))
  have P6 : (((H.set 1 (kO 5 [.ref 3, .int (nI 0)])).set 6 (kB 41 (prb f gg l))).set 5 (kO 5 [.ref 7, .int (nI (l + 1))]))[6]? = _ := (set_far (by decide)).trans (get_set ((far1 6 (by decide)).trans h6))
  have P1 : (((H.set 1 (kO 5 [.ref 3, .int (nI 0)])).set 6 (kB 41 (prb f gg l))).set 5 (kO 5 [.ref 7, .int (nI (l + 1))]))[1]? = _ := (set_far (by decide)).trans ((set_far (by decide)).trans (get_set h1))
  generalize (((H.set 1 (kO 5 [.ref 3, .int (nI 0)])).set 6 (kB 41 (prb f gg l))).set 5 (kO 5 [.ref 7, .int (nI (l + 1))])) = H2 at farP P5 P6 P1 ⊢
  refine RQ.blk 1 (pc' := 39) (lv' := [(3, .int (nI l)), (0, .ref 1), (1, .int (nI t)), (2, .int 0)]) (st' := [.ref 1]) (H' := _) (kc' := 0) (ks' := 0) rfl ?_
  refine RQ.get (ci := 11) rfl ((farP 0 (by decide) (by decide) (by decide)).trans h0) rfl rfl ?_
  refine RQ.blk 1 (pc' := 43) (lv' := [(3, .int (nI l)), (0, .ref 1), (1, .int (nI t)), (2, .int 0)]) (st' := [.int 0, .ref 4]) (H' := _) (kc' := 0) (ks' := 0) rfl ?_
  refine RQ.put (ci := 5) rfl ((farP 3 (by decide) (by decide) (by decide)).trans h3) rfl rfl (Nat.le_of_ble_eq_true rfl) ?_
  show RQ _ _ _ _ _ _ (H2.set 3 (kO 5 [.ref 5, .int (nI 0)])) _ _ _
  have far : ∀ a, a ≠ 1 → a ≠ 3 → a ≠ 5 → a ≠ 6 → (H2.set 3 (kO 5 [.ref 5, .int (nI 0)]))[a]? = H[a]? := fun a a1 a3 a5 a6 => (set_far a3).trans (farP a a1 a5 a6)
  have g3 : (H2.set 3 (kO 5 [.ref 5, .int (nI 0)]))[3]? = some (kO 5 [.ref 5, .int (nI 0)]) := get_set ((farP 3 (by decide) (by decide) (by decide)).trans h3)
  have g5 : (H2.set 3 (kO 5 [.ref 5, .int (nI 0)]))[5]? = _ := (set_far (by decide)).trans P5
  have g6 : (H2.set 3 (kO 5 [.ref 5, .int (nI 0)]))[6]? = _ := (set_far (by decide)).trans P6
  have g1 : (H2.set 3 (kO 5 [.ref 5, .int (nI 0)]))[1]? = _ := (set_far (by decide)).trans P1
  generalize (H2.set 3 (kO 5 [.ref 5, .int (nI 0)])) = H3 at far g3 g5 g6 g1 ⊢
  have g0 := (far 0 (by decide) (by decide) (by decide) (by decide)).trans h0
  have g4 := (far 4 (by decide) (by decide) (by decide) (by decide)).trans h4
  have gs : SightAt H3 op sm := hs.far2 (fun a a1 a2 => far a (by omega) (by omega) (by omega) (by omega))
  have gw := (far 10 (by decide) (by decide) (by decide) (by decide)).trans hw
  have gA := hA.far (H' := H3) (fun a a1 a2 => far a (by omega) (by omega) (by omega) (by omega))
  have gb := hb.far (H' := H3) (fun a a1 a2 => far a (by omega) (by omega) (by omega) (by omega))
  have gres : ResIs H3 [] := ⟨g, g3, g4, rfl, Nat.zero_le _⟩
  refine RQ.blk 1 (pc' := 47) (lv' := [(3, .int (nI l)), (0, .ref 1), (1, .int (nI t)), (2, .int 0)]) (st' := [.ref 1]) (H' := _) (kc' := 0) (ks' := 0) rfl ?_
  refine RQ.get (ci := 11) rfl g0 rfl rfl ?_
  refine RQ.blk 1 (pc' := 51) (lv' := [(3, .int (nI l)), (0, .ref 1), (1, .int (nI t)), (2, .int 0)]) (st' := [.int (nI t), .ref 8]) (H' := _) (kc' := 0) (ks' := 0) rfl ?_
  refine RQ.call (v := some (.ref (b + 1))) (st' := []) rfl rfl rfl rfl rfl rfl (args_v [.int (nI t)] [] rfl rfl (Nat.le_of_ble_eq_true rfl) rfl gs.1 (Nat.le_of_ble_eq_true rfl)) (rc_writesOf gs gw hq ht) ?_
  refine RQ.blk 4 (pc' := 60) (lv' := [(4, .ref (b + 1)), (3, .int (nI l)), (0, .ref 1), (1, .int (nI t)), (2, .int 0)]) (st' := [.ref 1, .ref (b + 1), .ref 1]) (H' := _) (kc' := 0) (ks' := 0) rfl ?_
  refine RQ.get (ci := 11) rfl g0 rfl rfl ?_
  refine RQ.blk 1 (pc' := 64) (lv' := [(4, .ref (b + 1)), (3, .int (nI l)), (0, .ref 1), (1, .int (nI t)), (2, .int 0)]) (st' := [.int (nI t), .ref 8, .ref (b + 1), .ref 1]) (H' := _) (kc' := 0) (ks' := 0) rfl ?_
  refine RQ.call (v := some (.int (nI (sm t)))) (st' := [.ref (b + 1), .ref 1]) rfl rfl rfl rfl rfl rfl (args_v [.int (nI t)] [.ref (b + 1), .ref 1] rfl rfl (Nat.le_of_ble_eq_true rfl) rfl gs.1 (Nat.le_of_ble_eq_true rfl)) (rc_momentOf gs ht hop) ?_
  refine RQ.blk 1 (pc' := 68) (lv' := [(4, .ref (b + 1)), (3, .int (nI l)), (0, .ref 1), (1, .int (nI t)), (2, .int 0)]) (st' := [.int 0, .int (nI (sm t)), .ref (b + 1), .ref 1]) (H' := _) (kc' := 0) (ks' := 0) rfl ?_
  refine RQ.callI (st' := []) rfl rfl rfl rfl rfl rfl (args_v [.int 0, .int (nI (sm t)), .ref (b + 1)] [] rfl rfl (Nat.le_of_ble_eq_true rfl) rfl g0 (Nat.le_of_ble_eq_true rfl)) (ri_firstS0 (q0 := 0) (d := d) (m := l + 1) (mm := sm t) g0 g5 g6 (by omega) gA hV gb hbk hL hc (by omega)) (fun y H4 hy => ?_)
  obtain ⟨eH, hy⟩ := hy
  subst eH
  rcases hy with ⟨p, p1, p2, ey, p3, p4, p5⟩ | ⟨ey, hno⟩
  ·
    rw [ey]
    have hod := hV.1.2.2.2.1 p p2
    have hso := hV.1.2.2.2.2.2 _ hod
    have hklp := hV.2.2.2.2.2.2.2.1 p p2
    refine RQ.blk 3 (pc' := 76) (lv' := [(5, .int (nI (od p))), (4, .ref (b + 1)), (3, .int (nI l)), (0, .ref 1), (1, .int (nI t)), (2, .int 0)]) (st' := [.ref 1, .ref (b + 1)]) (H' := _) (kc' := 0) (ks' := 0) rfl ?_
    refine RQ.get (ci := 11) rfl g0 rfl rfl ?_
    refine RQ.get (ci := 5) rfl g5 rfl rfl ?_
    refine RQ.blk 1 (pc' := 83) (lv' := [(5, .int (nI (od p))), (4, .ref (b + 1)), (3, .int (nI l)), (0, .ref 1), (1, .int (nI t)), (2, .int 0)]) (st' := [.ref 1, .ref 7, .ref (b + 1)]) (H' := _) (kc' := 0) (ks' := 0) rfl ?_
    refine RQ.get (ci := 11) rfl g0 rfl rfl ?_
    refine RQ.get (ci := 5) rfl g5 rfl rfl ?_
    refine RQ.blk 1 (pc' := 90) (lv' := [(5, .int (nI (od p))), (4, .ref (b + 1)), (3, .int (nI l)), (0, .ref 1), (1, .int (nI t)), (2, .int 0)]) (st' := [.int 0, .int (nI (l + 1)), .ref 7, .ref (b + 1)]) (H' := _) (kc' := 0) (ks' := 0) rfl ?_
    refine RQ.call (v := some (.int (lI (fvS ws (sl (prb f gg l) 0 (l + 1)) false ws.length)))) (st' := []) rfl rfl rfl rfl rfl rfl (args_v [.int 0, .int (nI (l + 1)), .ref 7] [] rfl rfl (Nat.le_of_ble_eq_true rfl) rfl gb.1 (Nat.le_of_ble_eq_true rfl)) (rc_firstV0 gb hbk hL g6 (by decide) (by omega)) ?_
    have hlt := fun j => fvS_lt (ws := ws) (k := sl (prb f gg l) 0 (l + 1)) (bey := false) (n := ws.length) (i := j)
    have hn40 := hbk.1
    have hu41 := hbk.2.1
    generalize hwv : (fvS ws (sl (prb f gg l) 0 (l + 1)) false ws.length) = wv at hlt ⊢
    refine RQ.blk 2 (pc' := 97) (lv' := [(6, .int (lI wv)), (5, .int (nI (od p))), (4, .ref (b + 1)), (3, .int (nI l)), (0, .ref 1), (1, .int (nI t)), (2, .int 0)]) (st' := [.int (nI (od p))]) (H' := _) (kc' := 0) (ks' := 0) rfl ?_
    cases wv with
    | none =>
      show RQ _ _ _ _ [(6, .int (-1)), (5, .int (nI (od p))), (4, .ref (b + 1)), (3, .int (nI l)), (0, .ref 1), (1, .int (nI t)), (2, .int 0)] [.int (nI (od p))] _ _ _ _
      refine RQ.brT rfl rfl rfl (cT_ge (od p) 0) ?_
      refine RQ.blk 1 (pc' := 109) (lv' := [(6, .int (-1)), (5, .int (nI (od p))), (4, .ref (b + 1)), (3, .int (nI l)), (0, .ref 1), (1, .int (nI t)), (2, .int 0)]) (st' := [.int (nI (od p))]) (H' := _) (kc' := 0) (ks' := 0) rfl ?_
      refine RQ.brF rfl rfl rfl (cF_lt (od p) 0) ?_
      refine RQ.blk 1 (pc' := 114) (lv' := [(6, .int (-1)), (5, .int (nI (od p))), (4, .ref (b + 1)), (3, .int (nI l)), (0, .ref 1), (1, .int (nI t)), (2, .int 0)]) (st' := [.int (-1)]) (H' := _) (kc' := 0) (ks' := 0) rfl ?_
      refine RQ.brT rfl rfl rfl (by decide) ?_
      refine RQ.blk 2 (pc' := 181) (lv' := [(6, .int (-1)), (5, .int (nI (od p))), (4, .ref (b + 1)), (3, .int (nI l)), (0, .ref 1), (1, .int (nI t)), (2, .int 0)]) (st' := [.ref 1, .ref 1]) (H' := _) (kc' := 0) (ks' := 0) rfl ?_
      refine RQ.get (ci := 11) rfl g0 rfl rfl ?_
      refine RQ.get (ci := 10) rfl gA.1 rfl rfl ?_
      refine RQ.blk 3 (pc' := 192) (lv' := [(6, .int (-1)), (5, .int (nI (od p))), (4, .ref (b + 1)), (3, .int (nI l)), (0, .ref 1), (1, .int (nI t)), (2, .int 0)]) (st' := [.int (nI (od p) * 41), .ref 76, .ref 1]) (H' := _) (kc' := 0) (ks' := 0) rfl ?_
      rw [show (nI (od p) * 41 : Int32) = nI ((od p) * 41) from pk_mul (od p) 41]
      refine RQ.blk 2 (pc' := 194) (lv' := [(6, .int (-1)), (5, .int (nI (od p))), (4, .ref (b + 1)), (3, .int (nI l)), (0, .ref 1), (1, .int (nI t)), (2, .int 0)]) (st' := [.int (nI ((od p) * 41) + 1), .ref 76, .ref 1]) (H' := _) (kc' := 0) (ks' := 0) rfl ?_
      rw [show (nI ((od p) * 41) + 1 : Int32) = nI ((od p) * 41 + 1) from nI_add ((od p) * 41) 1]
      refine RQ.blk 1 (pc' := 195) (lv' := [(6, .int (-1)), (5, .int (nI (od p))), (4, .ref (b + 1)), (3, .int (nI l)), (0, .ref 1), (1, .int (nI t)), (2, .int 0)]) (st' := [.ref 1, .int (nI ((od p) * 41 + 1)), .ref 76, .ref 1]) (H' := _) (kc' := 0) (ks' := 0) rfl ?_
      refine RQ.get (ci := 11) rfl g0 rfl rfl ?_
      refine RQ.get (ci := 10) rfl gA.1 rfl rfl ?_
      refine RQ.blk 1 (pc' := 203) (lv' := [(6, .int (-1)), (5, .int (nI (od p))), (4, .ref (b + 1)), (3, .int (nI l)), (0, .ref 1), (1, .int (nI t)), (2, .int 0)]) (st' := [.int (nI (od p)), .ref 77, .int (nI ((od p) * 41 + 1)), .ref 76, .ref 1]) (H' := _) (kc' := 0) (ks' := 0) rfl ?_
      refine RQ.ialdN (j := od p) rfl gA.2.2.1 (by omega) (by omega) ?_
      refine RQ.blk 2 (pc' := 206) (lv' := [(6, .int (-1)), (5, .int (nI (od p))), (4, .ref (b + 1)), (3, .int (nI l)), (0, .ref 1), (1, .int (nI t)), (2, .int 0)]) (st' := [.int (nI (kl (od p)) - 1), .int (nI ((od p) * 41 + 1)), .ref 76, .ref 1]) (H' := _) (kc' := 0) (ks' := 0) rfl ?_
      rw [show (nI (kl (od p)) - 1 : Int32) = nI ((kl (od p)) - 1) from pk_sub (a := (kl (od p))) (b := 1) (by omega)]
      refine RQ.call (v := some (.int (nI (kl (od p) - 1)))) (st' := []) rfl rfl rfl rfl rfl rfl (args_v [.int (nI ((kl (od p)) - 1)), .int (nI ((od p) * 41 + 1)), .ref 76] [] rfl rfl (Nat.le_of_ble_eq_true rfl) rfl g0 (Nat.le_of_ble_eq_true rfl)) (rc_answer (a := 75) (na := N * 41) (i := od p * 41 + 1) (n := kl (od p) - 1) (q := 0) g0 g3 g4 gA.2.1 (by decide) (by decide) (by omega) (by omega) (by omega)) ?_
      have hsk := sk_s hV.2.2.2.2.2.2.2.2 hvs (x := 2147483647) (bey := false) rfl hc (fun q hq => by have := (hV.1.2.2.2.2.2 _ (hV.1.2.2.2.1 q hq)).2.1; omega) (fun q hq => hV.2.2.2.2.2.2.2.1 q hq) hw0 p1 p2 p3 p4 p5 (Or.inl hwv)
      have htl : sl kf ((od p * 41) + 1) ((kl (od p)) - 1) = (keyO kf kl od p).tail ∧ (keyO kf kl od p).length = (kl (od p)) := by
        have hkk : sl kf (od p * 41) (kl (od p)) = (keyO kf kl od p) := rfl
        have hl9 : (keyO kf kl od p).length = (kl (od p)) := by rw [← hkk, sl_length]
        refine ⟨?_, hl9⟩
        obtain ⟨n9, hn9⟩ : ∃ n9, (kl (od p)) = n9 + 1 := ⟨(kl (od p)) - 1, by omega⟩
        rw [← hkk, hn9]
        rfl
      have hlt9 : (keyO kf kl od p).tail.length = (kl (od p)) - 1 := by rw [List.length_tail, htl.2]
      exact RQ.done (c := 0) (s := 0) rfl rfl rfl rfl ⟨_, _, rfl, some (keyO kf kl od p), hsk, by show nI (kl (od p) - 1) = nI ((keyO kf kl od p).length - 1); rw [htl.2], ⟨(cpy kf (od p * 41 + 1) g 0 (kl (od p) - 1)), by show _ = some (kO 5 [.ref 5, .int (nI (keyO kf kl od p).tail.length)]); rw [hlt9]; exact get_set ((set_far (by decide)).trans g3), (set_far (by decide)).trans (get_set g4), by show sl (cpy kf (od p * 41 + 1) g 0 (kl (od p) - 1)) 0 (keyO kf kl od p).tail.length = (keyO kf kl od p).tail; rw [hlt9, sl_cpy]; exact htl.1, by show (keyO kf kl od p).tail.length ≤ 1000; rw [hlt9]; omega⟩, (set_far (by decide)).trans ((set_far (by decide)).trans g5), (set_far (by decide)).trans ((set_far (by decide)).trans g6), (set_far (by decide)).trans ((set_far (by decide)).trans g1), fun a a1 a3 a4 a5 a6 => (set_far a3).trans ((set_far a4).trans (far a a1 a3 a5 a6))⟩
    | some i =>
      show RQ _ _ _ _ [(6, .int (nI i)), (5, .int (nI (od p))), (4, .ref (b + 1)), (3, .int (nI l)), (0, .ref 1), (1, .int (nI t)), (2, .int 0)] [.int (nI (od p))] _ _ _ _
      have hi1 := hlt i rfl
      obtain ⟨e, he⟩ := lt_get hi1
      have hke : sl D (S i) (K i) = e.1 := hL.key he
      have hSK := hbk.2.2 i hi1
      obtain ⟨e1, e2, -⟩ := hL i e he
      obtain ⟨hk1, hk2⟩ := hwk e (List.mem_of_getElem? he)
      refine RQ.brT rfl rfl rfl (cT_ge (od p) 0) ?_
      refine RQ.blk 1 (pc' := 109) (lv' := [(6, .int (nI i)), (5, .int (nI (od p))), (4, .ref (b + 1)), (3, .int (nI l)), (0, .ref 1), (1, .int (nI t)), (2, .int 0)]) (st' := [.int (nI (od p))]) (H' := _) (kc' := 0) (ks' := 0) rfl ?_
      refine RQ.brF rfl rfl rfl (cF_lt (od p) 0) ?_
      refine RQ.blk 1 (pc' := 114) (lv' := [(6, .int (nI i)), (5, .int (nI (od p))), (4, .ref (b + 1)), (3, .int (nI l)), (0, .ref 1), (1, .int (nI t)), (2, .int 0)]) (st' := [.int (nI i)]) (H' := _) (kc' := 0) (ks' := 0) rfl ?_
      refine RQ.brF rfl rfl rfl (cF_lt i 0) ?_
      refine RQ.blk 3 (pc' := 122) (lv' := [(6, .int (nI i)), (5, .int (nI (od p))), (4, .ref (b + 1)), (3, .int (nI l)), (0, .ref 1), (1, .int (nI t)), (2, .int 0)]) (st' := [.ref 1, .int (nI i), .ref (b + 1)]) (H' := _) (kc' := 0) (ks' := 0) rfl ?_
      refine RQ.get (ci := 11) rfl g0 rfl rfl ?_
      refine RQ.get (ci := 10) rfl gA.1 rfl rfl ?_
      refine RQ.blk 3 (pc' := 133) (lv' := [(6, .int (nI i)), (5, .int (nI (od p))), (4, .ref (b + 1)), (3, .int (nI l)), (0, .ref 1), (1, .int (nI t)), (2, .int 0)]) (st' := [.int (nI (od p) * 41), .ref 76, .int (nI i), .ref (b + 1)]) (H' := _) (kc' := 0) (ks' := 0) rfl ?_
      rw [show (nI (od p) * 41 : Int32) = nI ((od p) * 41) from pk_mul (od p) 41]
      refine RQ.blk 1 (pc' := 134) (lv' := [(6, .int (nI i)), (5, .int (nI (od p))), (4, .ref (b + 1)), (3, .int (nI l)), (0, .ref 1), (1, .int (nI t)), (2, .int 0)]) (st' := [.ref 1, .int (nI ((od p) * 41)), .ref 76, .int (nI i), .ref (b + 1)]) (H' := _) (kc' := 0) (ks' := 0) rfl ?_
      refine RQ.get (ci := 11) rfl g0 rfl rfl ?_
      refine RQ.get (ci := 10) rfl gA.1 rfl rfl ?_
      refine RQ.blk 1 (pc' := 142) (lv' := [(6, .int (nI i)), (5, .int (nI (od p))), (4, .ref (b + 1)), (3, .int (nI l)), (0, .ref 1), (1, .int (nI t)), (2, .int 0)]) (st' := [.int (nI (od p)), .ref 77, .int (nI ((od p) * 41)), .ref 76, .int (nI i), .ref (b + 1)]) (H' := _) (kc' := 0) (ks' := 0) rfl ?_
      refine RQ.ialdN (j := od p) rfl gA.2.2.1 (by omega) (by omega) ?_
      refine RQ.callI (st' := []) rfl rfl rfl rfl rfl rfl (args_v [.int (nI (kl (od p))), .int (nI ((od p) * 41)), .ref 76, .int (nI i)] [] rfl rfl (Nat.le_of_ble_eq_true rfl) rfl gb.1 (Nat.le_of_ble_eq_true rfl)) (ri_compareWith (i := i) (j := od p * 41) (m := kl (od p)) gb hbk gA.2.1 (by omega) (by omega) hi1) (fun z H5 hz => ?_)
      obtain ⟨eH5, hz⟩ := hz
      subst eH5
      rw [hke] at hz
      by_cases hlt2 : cmpL e.1 (sl kf (od p * 41) (kl (od p))) < 0
      · refine RQ.brF rfl rfl rfl (decide_eq_false (Int32.not_le.mpr ((cmp_lt0 hz).mpr hlt2))) ?_
        refine RQ.blk 2 (pc' := 152) (lv' := [(6, .int (nI i)), (5, .int (nI (od p))), (4, .ref (b + 1)), (3, .int (nI l)), (0, .ref 1), (1, .int (nI t)), (2, .int 0)]) (st' := [.ref (b + 1), .ref 1]) (H' := _) (kc' := 0) (ks' := 0) rfl ?_
        refine RQ.get (ci := 0) rfl gb.1 rfl rfl ?_
        refine RQ.blk 1 (pc' := 157) (lv' := [(6, .int (nI i)), (5, .int (nI (od p))), (4, .ref (b + 1)), (3, .int (nI l)), (0, .ref 1), (1, .int (nI t)), (2, .int 0)]) (st' := [.ref (b + 1), .ref ((b + 1) + 1), .ref 1]) (H' := _) (kc' := 0) (ks' := 0) rfl ?_
        refine RQ.get (ci := 0) rfl gb.1 rfl rfl ?_
        refine RQ.blk 1 (pc' := 162) (lv' := [(6, .int (nI i)), (5, .int (nI (od p))), (4, .ref (b + 1)), (3, .int (nI l)), (0, .ref 1), (1, .int (nI t)), (2, .int 0)]) (st' := [.int (nI i), .ref ((b + 2) + 1), .ref ((b + 1) + 1), .ref 1]) (H' := _) (kc' := 0) (ks' := 0) rfl ?_
        refine RQ.ialdN (j := i) rfl gb.2.2.1 (by omega) (by decide) ?_
        refine RQ.blk 2 (pc' := 165) (lv' := [(6, .int (nI i)), (5, .int (nI (od p))), (4, .ref (b + 1)), (3, .int (nI l)), (0, .ref 1), (1, .int (nI t)), (2, .int 0)]) (st' := [.int (nI (S i) + 1), .ref ((b + 1) + 1), .ref 1]) (H' := _) (kc' := 0) (ks' := 0) rfl ?_
        rw [show (nI (S i) + 1 : Int32) = nI (S i + 1) from nI_add (S i) 1]
        refine RQ.blk 1 (pc' := 167) (lv' := [(6, .int (nI i)), (5, .int (nI (od p))), (4, .ref (b + 1)), (3, .int (nI l)), (0, .ref 1), (1, .int (nI t)), (2, .int 0)]) (st' := [.ref (b + 1), .int (nI (S i + 1)), .ref ((b + 1) + 1), .ref 1]) (H' := _) (kc' := 0) (ks' := 0) rfl ?_
        refine RQ.get (ci := 0) rfl gb.1 rfl rfl ?_
        refine RQ.blk 1 (pc' := 172) (lv' := [(6, .int (nI i)), (5, .int (nI (od p))), (4, .ref (b + 1)), (3, .int (nI l)), (0, .ref 1), (1, .int (nI t)), (2, .int 0)]) (st' := [.int (nI i), .ref ((b + 3) + 1), .int (nI (S i + 1)), .ref ((b + 1) + 1), .ref 1]) (H' := _) (kc' := 0) (ks' := 0) rfl ?_
        refine RQ.ialdN (j := i) rfl gb.2.2.2.1 (by omega) (by decide) ?_
        refine RQ.blk 2 (pc' := 175) (lv' := [(6, .int (nI i)), (5, .int (nI (od p))), (4, .ref (b + 1)), (3, .int (nI l)), (0, .ref 1), (1, .int (nI t)), (2, .int 0)]) (st' := [.int (nI (K i) - 1), .int (nI (S i + 1)), .ref ((b + 1) + 1), .ref 1]) (H' := _) (kc' := 0) (ks' := 0) rfl ?_
        rw [show (nI (K i) - 1 : Int32) = nI ((K i) - 1) from pk_sub (a := (K i)) (b := 1) (by omega)]
        refine RQ.call (v := some (.int (nI (K i - 1)))) (st' := []) rfl rfl rfl rfl rfl rfl (args_v [.int (nI ((K i) - 1)), .int (nI (S i + 1)), .ref ((b + 1) + 1)] [] rfl rfl (Nat.le_of_ble_eq_true rfl) rfl g0 (Nat.le_of_ble_eq_true rfl)) (rc_answer (a := b + 1) (na := 4100) (i := S i + 1) (n := K i - 1) (q := 0) g0 g3 g4 gb.2.1 (by omega) (by omega) (by decide) (by omega) (by omega)) ?_
        have hsk := sk_w hV.2.2.2.2.2.2.2.2 hvs (x := 2147483647) (bey := false) rfl hc (fun q hq => by have := (hV.1.2.2.2.2.2 _ (hV.1.2.2.2.1 q hq)).2.1; omega) (fun q hq => hV.2.2.2.2.2.2.2.1 q hq) hw0 he hwv (Or.inr ⟨p, p2, p5, hlt2⟩)
        have htl : sl D ((S i) + 1) ((K i) - 1) = e.1.tail ∧ e.1.length = (K i) := by
          have hkk : sl D (S i) (K i) = e.1 := hke
          have hl9 : e.1.length = (K i) := by rw [← hkk, sl_length]
          refine ⟨?_, hl9⟩
          obtain ⟨n9, hn9⟩ : ∃ n9, (K i) = n9 + 1 := ⟨(K i) - 1, by omega⟩
          rw [← hkk, hn9]
          rfl
        have hlt9 : e.1.tail.length = (K i) - 1 := by rw [List.length_tail, htl.2]
        exact RQ.done (c := 0) (s := 0) rfl rfl rfl rfl ⟨_, _, rfl, some e.1, hsk, by show nI (K i - 1) = nI (e.1.length - 1); rw [htl.2], ⟨(cpy D (S i + 1) g 0 (K i - 1)), by show _ = some (kO 5 [.ref 5, .int (nI e.1.tail.length)]); rw [hlt9]; exact get_set ((set_far (by decide)).trans g3), (set_far (by decide)).trans (get_set g4), by show sl (cpy D (S i + 1) g 0 (K i - 1)) 0 e.1.tail.length = e.1.tail; rw [hlt9, sl_cpy]; exact htl.1, by show e.1.tail.length ≤ 1000; rw [hlt9]; omega⟩, (set_far (by decide)).trans ((set_far (by decide)).trans g5), (set_far (by decide)).trans ((set_far (by decide)).trans g6), (set_far (by decide)).trans ((set_far (by decide)).trans g1), fun a a1 a3 a4 a5 a6 => (set_far a3).trans ((set_far a4).trans (far a a1 a3 a5 a6))⟩
      · refine RQ.brT rfl rfl rfl (decide_eq_true (Int32.not_lt.mp (fun e => hlt2 ((cmp_lt0 hz).mp e)))) ?_
        refine RQ.blk 2 (pc' := 181) (lv' := [(6, .int (nI i)), (5, .int (nI (od p))), (4, .ref (b + 1)), (3, .int (nI l)), (0, .ref 1), (1, .int (nI t)), (2, .int 0)]) (st' := [.ref 1, .ref 1]) (H' := _) (kc' := 0) (ks' := 0) rfl ?_
        refine RQ.get (ci := 11) rfl g0 rfl rfl ?_
        refine RQ.get (ci := 10) rfl gA.1 rfl rfl ?_
        refine RQ.blk 3 (pc' := 192) (lv' := [(6, .int (nI i)), (5, .int (nI (od p))), (4, .ref (b + 1)), (3, .int (nI l)), (0, .ref 1), (1, .int (nI t)), (2, .int 0)]) (st' := [.int (nI (od p) * 41), .ref 76, .ref 1]) (H' := _) (kc' := 0) (ks' := 0) rfl ?_
        rw [show (nI (od p) * 41 : Int32) = nI ((od p) * 41) from pk_mul (od p) 41]
        refine RQ.blk 2 (pc' := 194) (lv' := [(6, .int (nI i)), (5, .int (nI (od p))), (4, .ref (b + 1)), (3, .int (nI l)), (0, .ref 1), (1, .int (nI t)), (2, .int 0)]) (st' := [.int (nI ((od p) * 41) + 1), .ref 76, .ref 1]) (H' := _) (kc' := 0) (ks' := 0) rfl ?_
        rw [show (nI ((od p) * 41) + 1 : Int32) = nI ((od p) * 41 + 1) from nI_add ((od p) * 41) 1]
        refine RQ.blk 1 (pc' := 195) (lv' := [(6, .int (nI i)), (5, .int (nI (od p))), (4, .ref (b + 1)), (3, .int (nI l)), (0, .ref 1), (1, .int (nI t)), (2, .int 0)]) (st' := [.ref 1, .int (nI ((od p) * 41 + 1)), .ref 76, .ref 1]) (H' := _) (kc' := 0) (ks' := 0) rfl ?_
        refine RQ.get (ci := 11) rfl g0 rfl rfl ?_
        refine RQ.get (ci := 10) rfl gA.1 rfl rfl ?_
        refine RQ.blk 1 (pc' := 203) (lv' := [(6, .int (nI i)), (5, .int (nI (od p))), (4, .ref (b + 1)), (3, .int (nI l)), (0, .ref 1), (1, .int (nI t)), (2, .int 0)]) (st' := [.int (nI (od p)), .ref 77, .int (nI ((od p) * 41 + 1)), .ref 76, .ref 1]) (H' := _) (kc' := 0) (ks' := 0) rfl ?_
        refine RQ.ialdN (j := od p) rfl gA.2.2.1 (by omega) (by omega) ?_
        refine RQ.blk 2 (pc' := 206) (lv' := [(6, .int (nI i)), (5, .int (nI (od p))), (4, .ref (b + 1)), (3, .int (nI l)), (0, .ref 1), (1, .int (nI t)), (2, .int 0)]) (st' := [.int (nI (kl (od p)) - 1), .int (nI ((od p) * 41 + 1)), .ref 76, .ref 1]) (H' := _) (kc' := 0) (ks' := 0) rfl ?_
        rw [show (nI (kl (od p)) - 1 : Int32) = nI ((kl (od p)) - 1) from pk_sub (a := (kl (od p))) (b := 1) (by omega)]
        refine RQ.call (v := some (.int (nI (kl (od p) - 1)))) (st' := []) rfl rfl rfl rfl rfl rfl (args_v [.int (nI ((kl (od p)) - 1)), .int (nI ((od p) * 41 + 1)), .ref 76] [] rfl rfl (Nat.le_of_ble_eq_true rfl) rfl g0 (Nat.le_of_ble_eq_true rfl)) (rc_answer (a := 75) (na := N * 41) (i := od p * 41 + 1) (n := kl (od p) - 1) (q := 0) g0 g3 g4 gA.2.1 (by decide) (by decide) (by omega) (by omega) (by omega)) ?_
        have hsk := sk_s hV.2.2.2.2.2.2.2.2 hvs (x := 2147483647) (bey := false) rfl hc (fun q hq => by have := (hV.1.2.2.2.2.2 _ (hV.1.2.2.2.1 q hq)).2.1; omega) (fun q hq => hV.2.2.2.2.2.2.2.1 q hq) hw0 p1 p2 p3 p4 p5 (Or.inr ⟨i, e, he, hwv, hlt2⟩)
        have htl : sl kf ((od p * 41) + 1) ((kl (od p)) - 1) = (keyO kf kl od p).tail ∧ (keyO kf kl od p).length = (kl (od p)) := by
          have hkk : sl kf (od p * 41) (kl (od p)) = (keyO kf kl od p) := rfl
          have hl9 : (keyO kf kl od p).length = (kl (od p)) := by rw [← hkk, sl_length]
          refine ⟨?_, hl9⟩
          obtain ⟨n9, hn9⟩ : ∃ n9, (kl (od p)) = n9 + 1 := ⟨(kl (od p)) - 1, by omega⟩
          rw [← hkk, hn9]
          rfl
        have hlt9 : (keyO kf kl od p).tail.length = (kl (od p)) - 1 := by rw [List.length_tail, htl.2]
        exact RQ.done (c := 0) (s := 0) rfl rfl rfl rfl ⟨_, _, rfl, some (keyO kf kl od p), hsk, by show nI (kl (od p) - 1) = nI ((keyO kf kl od p).length - 1); rw [htl.2], ⟨(cpy kf (od p * 41 + 1) g 0 (kl (od p) - 1)), by show _ = some (kO 5 [.ref 5, .int (nI (keyO kf kl od p).tail.length)]); rw [hlt9]; exact get_set ((set_far (by decide)).trans g3), (set_far (by decide)).trans (get_set g4), by show sl (cpy kf (od p * 41 + 1) g 0 (kl (od p) - 1)) 0 (keyO kf kl od p).tail.length = (keyO kf kl od p).tail; rw [hlt9, sl_cpy]; exact htl.1, by show (keyO kf kl od p).tail.length ≤ 1000; rw [hlt9]; omega⟩, (set_far (by decide)).trans ((set_far (by decide)).trans g5), (set_far (by decide)).trans ((set_far (by decide)).trans g6), (set_far (by decide)).trans ((set_far (by decide)).trans g1), fun a a1 a3 a4 a5 a6 => (set_far a3).trans ((set_far a4).trans (far a a1 a3 a5 a6))⟩
  ·
    rw [ey]
    refine RQ.blk 3 (pc' := 76) (lv' := [(5, .int (-1)), (4, .ref (b + 1)), (3, .int (nI l)), (0, .ref 1), (1, .int (nI t)), (2, .int 0)]) (st' := [.ref 1, .ref (b + 1)]) (H' := _) (kc' := 0) (ks' := 0) rfl ?_
    refine RQ.get (ci := 11) rfl g0 rfl rfl ?_
    refine RQ.get (ci := 5) rfl g5 rfl rfl ?_
    refine RQ.blk 1 (pc' := 83) (lv' := [(5, .int (-1)), (4, .ref (b + 1)), (3, .int (nI l)), (0, .ref 1), (1, .int (nI t)), (2, .int 0)]) (st' := [.ref 1, .ref 7, .ref (b + 1)]) (H' := _) (kc' := 0) (ks' := 0) rfl ?_
    refine RQ.get (ci := 11) rfl g0 rfl rfl ?_
    refine RQ.get (ci := 5) rfl g5 rfl rfl ?_
    refine RQ.blk 1 (pc' := 90) (lv' := [(5, .int (-1)), (4, .ref (b + 1)), (3, .int (nI l)), (0, .ref 1), (1, .int (nI t)), (2, .int 0)]) (st' := [.int 0, .int (nI (l + 1)), .ref 7, .ref (b + 1)]) (H' := _) (kc' := 0) (ks' := 0) rfl ?_
    refine RQ.call (v := some (.int (lI (fvS ws (sl (prb f gg l) 0 (l + 1)) false ws.length)))) (st' := []) rfl rfl rfl rfl rfl rfl (args_v [.int 0, .int (nI (l + 1)), .ref 7] [] rfl rfl (Nat.le_of_ble_eq_true rfl) rfl gb.1 (Nat.le_of_ble_eq_true rfl)) (rc_firstV0 gb hbk hL g6 (by decide) (by omega)) ?_
    have hlt := fun j => fvS_lt (ws := ws) (k := sl (prb f gg l) 0 (l + 1)) (bey := false) (n := ws.length) (i := j)
    have hn40 := hbk.1
    have hu41 := hbk.2.1
    generalize hwv : (fvS ws (sl (prb f gg l) 0 (l + 1)) false ws.length) = wv at hlt ⊢
    refine RQ.blk 2 (pc' := 97) (lv' := [(6, .int (lI wv)), (5, .int (-1)), (4, .ref (b + 1)), (3, .int (nI l)), (0, .ref 1), (1, .int (nI t)), (2, .int 0)]) (st' := [.int (-1)]) (H' := _) (kc' := 0) (ks' := 0) rfl ?_
    cases wv with
    | none =>
      show RQ _ _ _ _ [(6, .int (-1)), (5, .int (-1)), (4, .ref (b + 1)), (3, .int (nI l)), (0, .ref 1), (1, .int (nI t)), (2, .int 0)] [.int (-1)] _ _ _ _
      refine RQ.brF rfl rfl rfl (by decide) ?_
      refine RQ.blk 1 (pc' := 102) (lv' := [(6, .int (-1)), (5, .int (-1)), (4, .ref (b + 1)), (3, .int (nI l)), (0, .ref 1), (1, .int (nI t)), (2, .int 0)]) (st' := [.int (-1)]) (H' := _) (kc' := 0) (ks' := 0) rfl ?_
      refine RQ.brF rfl rfl rfl (by decide) ?_
      refine RQ.blk 1 (pc' := 106) (lv' := [(6, .int (-1)), (5, .int (-1)), (4, .ref (b + 1)), (3, .int (nI l)), (0, .ref 1), (1, .int (nI t)), (2, .int 0)]) (st' := [.int (-1)]) (H' := _) (kc' := 0) (ks' := 0) rfl ?_
      exact RQ.done (c := 0) (s := 0) rfl rfl rfl rfl ⟨_, _, rfl, none, sk_nn hV.2.2.2.2.2.2.2.2 hvs (x := 2147483647) (bey := false) rfl hc (fun q hq => by have := (hV.1.2.2.2.2.2 _ (hV.1.2.2.2.1 q hq)).2.1; omega) (fun q hq => hV.2.2.2.2.2.2.2.1 q hq) hw0 hno hwv, rfl, gres, g5, g6, g1, fun a a1 a3 a4 a5 a6 => far a a1 a3 a5 a6⟩
    | some i =>
      show RQ _ _ _ _ [(6, .int (nI i)), (5, .int (-1)), (4, .ref (b + 1)), (3, .int (nI l)), (0, .ref 1), (1, .int (nI t)), (2, .int 0)] [.int (-1)] _ _ _ _
      have hi1 := hlt i rfl
      obtain ⟨e, he⟩ := lt_get hi1
      have hke : sl D (S i) (K i) = e.1 := hL.key he
      have hSK := hbk.2.2 i hi1
      obtain ⟨e1, e2, -⟩ := hL i e he
      obtain ⟨hk1, hk2⟩ := hwk e (List.mem_of_getElem? he)
      refine RQ.brF rfl rfl rfl (by decide) ?_
      refine RQ.blk 1 (pc' := 102) (lv' := [(6, .int (nI i)), (5, .int (-1)), (4, .ref (b + 1)), (3, .int (nI l)), (0, .ref 1), (1, .int (nI t)), (2, .int 0)]) (st' := [.int (nI i)]) (H' := _) (kc' := 0) (ks' := 0) rfl ?_
      refine RQ.brT rfl rfl rfl (cT_ge i 0) ?_
      refine RQ.blk 1 (pc' := 109) (lv' := [(6, .int (nI i)), (5, .int (-1)), (4, .ref (b + 1)), (3, .int (nI l)), (0, .ref 1), (1, .int (nI t)), (2, .int 0)]) (st' := [.int (-1)]) (H' := _) (kc' := 0) (ks' := 0) rfl ?_
      refine RQ.brT rfl rfl rfl (by decide) ?_
      refine RQ.blk 2 (pc' := 152) (lv' := [(6, .int (nI i)), (5, .int (-1)), (4, .ref (b + 1)), (3, .int (nI l)), (0, .ref 1), (1, .int (nI t)), (2, .int 0)]) (st' := [.ref (b + 1), .ref 1]) (H' := _) (kc' := 0) (ks' := 0) rfl ?_
      refine RQ.get (ci := 0) rfl gb.1 rfl rfl ?_
      refine RQ.blk 1 (pc' := 157) (lv' := [(6, .int (nI i)), (5, .int (-1)), (4, .ref (b + 1)), (3, .int (nI l)), (0, .ref 1), (1, .int (nI t)), (2, .int 0)]) (st' := [.ref (b + 1), .ref ((b + 1) + 1), .ref 1]) (H' := _) (kc' := 0) (ks' := 0) rfl ?_
      refine RQ.get (ci := 0) rfl gb.1 rfl rfl ?_
      refine RQ.blk 1 (pc' := 162) (lv' := [(6, .int (nI i)), (5, .int (-1)), (4, .ref (b + 1)), (3, .int (nI l)), (0, .ref 1), (1, .int (nI t)), (2, .int 0)]) (st' := [.int (nI i), .ref ((b + 2) + 1), .ref ((b + 1) + 1), .ref 1]) (H' := _) (kc' := 0) (ks' := 0) rfl ?_
      refine RQ.ialdN (j := i) rfl gb.2.2.1 (by omega) (by decide) ?_
      refine RQ.blk 2 (pc' := 165) (lv' := [(6, .int (nI i)), (5, .int (-1)), (4, .ref (b + 1)), (3, .int (nI l)), (0, .ref 1), (1, .int (nI t)), (2, .int 0)]) (st' := [.int (nI (S i) + 1), .ref ((b + 1) + 1), .ref 1]) (H' := _) (kc' := 0) (ks' := 0) rfl ?_
      rw [show (nI (S i) + 1 : Int32) = nI (S i + 1) from nI_add (S i) 1]
      refine RQ.blk 1 (pc' := 167) (lv' := [(6, .int (nI i)), (5, .int (-1)), (4, .ref (b + 1)), (3, .int (nI l)), (0, .ref 1), (1, .int (nI t)), (2, .int 0)]) (st' := [.ref (b + 1), .int (nI (S i + 1)), .ref ((b + 1) + 1), .ref 1]) (H' := _) (kc' := 0) (ks' := 0) rfl ?_
      refine RQ.get (ci := 0) rfl gb.1 rfl rfl ?_
      refine RQ.blk 1 (pc' := 172) (lv' := [(6, .int (nI i)), (5, .int (-1)), (4, .ref (b + 1)), (3, .int (nI l)), (0, .ref 1), (1, .int (nI t)), (2, .int 0)]) (st' := [.int (nI i), .ref ((b + 3) + 1), .int (nI (S i + 1)), .ref ((b + 1) + 1), .ref 1]) (H' := _) (kc' := 0) (ks' := 0) rfl ?_
      refine RQ.ialdN (j := i) rfl gb.2.2.2.1 (by omega) (by decide) ?_
      refine RQ.blk 2 (pc' := 175) (lv' := [(6, .int (nI i)), (5, .int (-1)), (4, .ref (b + 1)), (3, .int (nI l)), (0, .ref 1), (1, .int (nI t)), (2, .int 0)]) (st' := [.int (nI (K i) - 1), .int (nI (S i + 1)), .ref ((b + 1) + 1), .ref 1]) (H' := _) (kc' := 0) (ks' := 0) rfl ?_
      rw [show (nI (K i) - 1 : Int32) = nI ((K i) - 1) from pk_sub (a := (K i)) (b := 1) (by omega)]
      refine RQ.call (v := some (.int (nI (K i - 1)))) (st' := []) rfl rfl rfl rfl rfl rfl (args_v [.int (nI ((K i) - 1)), .int (nI (S i + 1)), .ref ((b + 1) + 1)] [] rfl rfl (Nat.le_of_ble_eq_true rfl) rfl g0 (Nat.le_of_ble_eq_true rfl)) (rc_answer (a := b + 1) (na := 4100) (i := S i + 1) (n := K i - 1) (q := 0) g0 g3 g4 gb.2.1 (by omega) (by omega) (by decide) (by omega) (by omega)) ?_
      have hsk := sk_w hV.2.2.2.2.2.2.2.2 hvs (x := 2147483647) (bey := false) rfl hc (fun q hq => by have := (hV.1.2.2.2.2.2 _ (hV.1.2.2.2.1 q hq)).2.1; omega) (fun q hq => hV.2.2.2.2.2.2.2.1 q hq) hw0 he hwv (Or.inl hno)
      have htl : sl D ((S i) + 1) ((K i) - 1) = e.1.tail ∧ e.1.length = (K i) := by
        have hkk : sl D (S i) (K i) = e.1 := hke
        have hl9 : e.1.length = (K i) := by rw [← hkk, sl_length]
        refine ⟨?_, hl9⟩
        obtain ⟨n9, hn9⟩ : ∃ n9, (K i) = n9 + 1 := ⟨(K i) - 1, by omega⟩
        rw [← hkk, hn9]
        rfl
      have hlt9 : e.1.tail.length = (K i) - 1 := by rw [List.length_tail, htl.2]
      exact RQ.done (c := 0) (s := 0) rfl rfl rfl rfl ⟨_, _, rfl, some e.1, hsk, by show nI (K i - 1) = nI (e.1.length - 1); rw [htl.2], ⟨(cpy D (S i + 1) g 0 (K i - 1)), by show _ = some (kO 5 [.ref 5, .int (nI e.1.tail.length)]); rw [hlt9]; exact get_set ((set_far (by decide)).trans g3), (set_far (by decide)).trans (get_set g4), by show sl (cpy D (S i + 1) g 0 (K i - 1)) 0 e.1.tail.length = e.1.tail; rw [hlt9, sl_cpy]; exact htl.1, by show e.1.tail.length ≤ 1000; rw [hlt9]; omega⟩, (set_far (by decide)).trans ((set_far (by decide)).trans g5), (set_far (by decide)).trans ((set_far (by decide)).trans g6), (set_far (by decide)).trans ((set_far (by decide)).trans g1), fun a a1 a3 a4 a5 a6 => (set_far a3).trans ((set_far a4).trans (far a a1 a3 a5 a6))⟩
theorem ri_seek1 {sc : Nat × (Nat → Int32)} {N : Nat} {kf : Nat → Int8} {kl mo pl : Nat → Nat} {le : Nat → Option Nat} {al : Nat → Bool} {od sp : Nat → Nat} {sz ss ac : Nat} {op : Nat → Bool} {sm : Nat → Nat} {wq : Nat → Option Nat} {d q q5 l t b u : Nat} {H : aH} {bl pr cw cl cp cb : Int32} {f g gg : Nat → Int8} {D : Nat → Int8} {S K : Nat → Nat} {E : Nat → Option Nat} {ws : List aE} {vs : List aV} (h0 : H[0]? = some (kO 11 (fvs bl pr 1 cw cl cp cb))) (h1 : H[1]? = some (kO 5 [.ref 3, .int (nI l)])) (h2 : H[2]? = some (kB 2000 f)) (h3 : H[3]? = some (kO 5 [.ref 5, .int (nI q)])) (h4 : H[4]? = some (kB 1000 g)) (h5 : H[5]? = some (kO 5 [.ref 7, .int (nI q5)])) (h6 : H[6]? = some (kB 41 gg)) (hl2 : l ≤ 40) (hs : SightAt H op sm) (hsm : sm t < 2 ^ 30) (ht : t < 8) (hop : op t = true) (hw : H[10]? = some (kQ 4 8 wq)) (hq : wq t = some b) (hb10 : 10 < b) (hb60 : b < 60) (hA : VersAt H N kf kl mo pl le al od sp sz ss ac) (hV : VersWf N kf kl mo pl le al od sp sz ss ac) (hvs : vs = vsL kf kl mo pl le al od sz) (hb : BatchAt H b D S K E ws.length u) (hbk : BatchOk S K E ws.length u) (hL : LayE D 0 S K E ws) (hw0 : ∀ e ∈ ws, e.1.headD 1 = 0) (hwk : ∀ e ∈ ws, 1 ≤ e.1.length ∧ e.1.length ≤ 41) : RI sc (d + 5) mr_69 [.ref 1, .int (nI t), .int 1] H (fun x H' => ∃ rv : Option (List Nat), SkS (VisU ws vs (sm t)) (sl (prb f gg l) 0 (l + 1)) true rv ∧ x = lI (rv.map (fun k => k.length - 1)) ∧ ResIs H' ((rv.map List.tail).getD []) ∧ H'[5]? = some (kO 5 [.ref 7, .int (nI (l + 1))]) ∧ H'[6]? = some (kB 41 (prb f gg l)) ∧ H'[1]? = some (kO 5 [.ref 3, .int (nI 0)]) ∧ ∀ a, a ≠ 1 → a ≠ 3 → a ≠ 4 → a ≠ 5 → a ≠ 6 → H'[a]? = H[a]?) := by
  have hN := hV.1.1
  obtain ⟨k, hc⟩ := cut_ex (sl (prb f gg l) 0 (l + 1)) (-1) hV.2.2.2.2.2.2.2.2 (fun p hp => by have := (hV.1.2.2.2.2.2 _ (hV.1.2.2.2.1 p hp)).2.1; omega)
  refine RI.of ?_
  refine RQ.blk 2 (pc' := 2) (lv' := [(0, .ref 1), (1, .int (nI t)), (2, .int 1)]) (st' := [.int (nI t), .ref 1]) (H' := _) (kc' := 0) (ks' := 0) rfl ?_
  refine RQ.call (v := none) (st' := []) rfl rfl rfl rfl rfl rfl (args_v [.int (nI t)] [] rfl rfl (Nat.le_of_ble_eq_true rfl) rfl h0 (Nat.le_of_ble_eq_true rfl)) (rc_reqTx h0 ht) ?_
  refine RQ.blk 2 (pc' := 7) (lv' := [(0, .ref 1), (1, .int (nI t)), (2, .int 1)]) (st' := [.ref 1, .ref 1]) (H' := _) (kc' := 0) (ks' := 0) rfl ?_
  refine RQ.get (ci := 11) rfl h0 rfl rfl ?_
  refine RQ.get (ci := 5) rfl h1 rfl rfl ?_
  refine RQ.blk 2 (pc' := 16) (lv' := [(0, .ref 1), (1, .int (nI t)), (2, .int 1)]) (st' := [.int 40, .int 0, .int (nI l), .ref 1]) (H' := _) (kc' := 0) (ks' := 0) rfl ?_
  refine RQ.call (v := none) (st' := []) rfl rfl rfl rfl rfl rfl (args_v [.int 40, .int 0, .int (nI l)] [] rfl rfl (Nat.le_of_ble_eq_true rfl) rfl h0 (Nat.le_of_ble_eq_true rfl)) (rc_range (lo := 0) (hi := 40) (nI_nlt (b := 0) (by omega) (by omega)) (nI_le (b := 40) (by omega) (by decide))) ?_
  refine RQ.blk 1 (pc' := 20) (lv' := [(0, .ref 1), (1, .int (nI t)), (2, .int 1)]) (st' := [.ref 1]) (H' := _) (kc' := 0) (ks' := 0) rfl ?_
  refine RQ.call (v := none) (st' := []) rfl rfl rfl rfl rfl rfl (args_v [] [] rfl rfl (Nat.le_of_ble_eq_true rfl) rfl h0 (Nat.le_of_ble_eq_true rfl)) (rc_up h0 rfl) ?_
  refine RQ.blk 1 (pc' := 24) (lv' := [(0, .ref 1), (1, .int (nI t)), (2, .int 1)]) (st' := [.ref 1]) (H' := _) (kc' := 0) (ks' := 0) rfl ?_
  refine RQ.call (v := some (.int (nI l))) (st' := []) rfl rfl rfl rfl rfl rfl (args_v [] [] rfl rfl (Nat.le_of_ble_eq_true rfl) rfl h0 (Nat.le_of_ble_eq_true rfl)) (rc_takeTape h0 h1) ?_
  have far1 : ∀ a, a ≠ 1 → (H.set 1 (kO 5 [.ref 3, .int (nI 0)]))[a]? = H[a]? := fun a ha => set_far ha
  refine RQ.blk 3 (pc' := 30) (lv' := [(3, .int (nI l)), (0, .ref 1), (1, .int (nI t)), (2, .int 1)]) (st' := [.int (nI t), .ref 1]) (H' := _) (kc' := 0) (ks' := 0) rfl ?_
  refine RQ.call (v := none) (st' := []) rfl rfl rfl rfl rfl rfl (args_v [.int (nI t)] [] rfl rfl (Nat.le_of_ble_eq_true rfl) rfl ((set_far (by decide)).trans h0) (Nat.le_of_ble_eq_true rfl)) (rc_reqOpen ((far1 0 (by decide)).trans h0) (hs.far2 (fun a ha _ => far1 a (by omega))) ht hop) ?_
  refine RQ.blk 2 (pc' := 35) (lv' := [(3, .int (nI l)), (0, .ref 1), (1, .int (nI t)), (2, .int 1)]) (st' := [.int (nI l), .ref 1]) (H' := _) (kc' := 0) (ks' := 0) rfl ?_
  refine RQ.call (v := none) (st' := []) rfl rfl rfl rfl rfl rfl (args_v [.int (nI l)] [] rfl rfl (Nat.le_of_ble_eq_true rfl) rfl ((set_far (by decide)).trans h0) (Nat.le_of_ble_eq_true rfl)) (rc_probeUser (q := q5) (l := 0) ((far1 0 (by decide)).trans h0) (get_set h1) ((far1 2 (by decide)).trans h2) ((far1 5 (by decide)).trans h5) ((far1 6 (by decide)).trans h6) hl2) ?_
  have farP : ∀ a, a ≠ 1 → a ≠ 5 → a ≠ 6 → (((H.set 1 (kO 5 [.ref 3, .int (nI 0)])).set 6 (kB 41 (prb f gg l))).set 5 (kO 5 [.ref 7, .int (nI (l + 1))]))[a]? = H[a]? := fun a h1 h2 h3 => (set_far h2).trans ((set_far h3).trans (far1 a h1))
  have P5 : (((H.set 1 (kO 5 [.ref 3, .int (nI 0)])).set 6 (kB 41 (prb f gg l))).set 5 (kO 5 [.ref 7, .int (nI (l + 1))]))[5]? = _ := get_set ((set_far (by decide)).trans ((far1 5 (by decide)).trans h5))
  have P6 : (((H.set 1 (kO 5 [.ref 3, .int (nI 0)])).set 6 (kB 41 (prb f gg l))).set 5 (kO 5 [.ref 7, .int (nI (l + 1))]))[6]? = _ := (set_far (by decide)).trans (get_set ((far1 6 (by decide)).trans h6))
  have P1 : (((H.set 1 (kO 5 [.ref 3, .int (nI 0)])).set 6 (kB 41 (prb f gg l))).set 5 (kO 5 [.ref 7, .int (nI (l + 1))]))[1]? = _ := (set_far (by decide)).trans ((set_far (by decide)).trans (get_set h1))
  generalize (((H.set 1 (kO 5 [.ref 3, .int (nI 0)])).set 6 (kB 41 (prb f gg l))).set 5 (kO 5 [.ref 7, .int (nI (l + 1))])) = H2 at farP P5 P6 P1 ⊢
  refine RQ.blk 1 (pc' := 39) (lv' := [(3, .int (nI l)), (0, .ref 1), (1, .int (nI t)), (2, .int 1)]) (st' := [.ref 1]) (H' := _) (kc' := 0) (ks' := 0) rfl ?_
  refine RQ.get (ci := 11) rfl ((farP 0 (by decide) (by decide) (by decide)).trans h0) rfl rfl ?_
  refine RQ.blk 1 (pc' := 43) (lv' := [(3, .int (nI l)), (0, .ref 1), (1, .int (nI t)), (2, .int 1)]) (st' := [.int 0, .ref 4]) (H' := _) (kc' := 0) (ks' := 0) rfl ?_
  refine RQ.put (ci := 5) rfl ((farP 3 (by decide) (by decide) (by decide)).trans h3) rfl rfl (Nat.le_of_ble_eq_true rfl) ?_
  show RQ _ _ _ _ _ _ (H2.set 3 (kO 5 [.ref 5, .int (nI 0)])) _ _ _
  have far : ∀ a, a ≠ 1 → a ≠ 3 → a ≠ 5 → a ≠ 6 → (H2.set 3 (kO 5 [.ref 5, .int (nI 0)]))[a]? = H[a]? := fun a a1 a3 a5 a6 => (set_far a3).trans (farP a a1 a5 a6)
  have g3 : (H2.set 3 (kO 5 [.ref 5, .int (nI 0)]))[3]? = some (kO 5 [.ref 5, .int (nI 0)]) := get_set ((farP 3 (by decide) (by decide) (by decide)).trans h3)
  have g5 : (H2.set 3 (kO 5 [.ref 5, .int (nI 0)]))[5]? = _ := (set_far (by decide)).trans P5
  have g6 : (H2.set 3 (kO 5 [.ref 5, .int (nI 0)]))[6]? = _ := (set_far (by decide)).trans P6
  have g1 : (H2.set 3 (kO 5 [.ref 5, .int (nI 0)]))[1]? = _ := (set_far (by decide)).trans P1
  generalize (H2.set 3 (kO 5 [.ref 5, .int (nI 0)])) = H3 at far g3 g5 g6 g1 ⊢
  have g0 := (far 0 (by decide) (by decide) (by decide) (by decide)).trans h0
  have g4 := (far 4 (by decide) (by decide) (by decide) (by decide)).trans h4
  have gs : SightAt H3 op sm := hs.far2 (fun a a1 a2 => far a (by omega) (by omega) (by omega) (by omega))
  have gw := (far 10 (by decide) (by decide) (by decide) (by decide)).trans hw
  have gA := hA.far (H' := H3) (fun a a1 a2 => far a (by omega) (by omega) (by omega) (by omega))
  have gb := hb.far (H' := H3) (fun a a1 a2 => far a (by omega) (by omega) (by omega) (by omega))
  have gres : ResIs H3 [] := ⟨g, g3, g4, rfl, Nat.zero_le _⟩
  refine RQ.blk 1 (pc' := 47) (lv' := [(3, .int (nI l)), (0, .ref 1), (1, .int (nI t)), (2, .int 1)]) (st' := [.ref 1]) (H' := _) (kc' := 0) (ks' := 0) rfl ?_
  refine RQ.get (ci := 11) rfl g0 rfl rfl ?_
  refine RQ.blk 1 (pc' := 51) (lv' := [(3, .int (nI l)), (0, .ref 1), (1, .int (nI t)), (2, .int 1)]) (st' := [.int (nI t), .ref 8]) (H' := _) (kc' := 0) (ks' := 0) rfl ?_
  refine RQ.call (v := some (.ref (b + 1))) (st' := []) rfl rfl rfl rfl rfl rfl (args_v [.int (nI t)] [] rfl rfl (Nat.le_of_ble_eq_true rfl) rfl gs.1 (Nat.le_of_ble_eq_true rfl)) (rc_writesOf gs gw hq ht) ?_
  refine RQ.blk 4 (pc' := 60) (lv' := [(4, .ref (b + 1)), (3, .int (nI l)), (0, .ref 1), (1, .int (nI t)), (2, .int 1)]) (st' := [.ref 1, .ref (b + 1), .ref 1]) (H' := _) (kc' := 0) (ks' := 0) rfl ?_
  refine RQ.get (ci := 11) rfl g0 rfl rfl ?_
  refine RQ.blk 1 (pc' := 64) (lv' := [(4, .ref (b + 1)), (3, .int (nI l)), (0, .ref 1), (1, .int (nI t)), (2, .int 1)]) (st' := [.int (nI t), .ref 8, .ref (b + 1), .ref 1]) (H' := _) (kc' := 0) (ks' := 0) rfl ?_
  refine RQ.call (v := some (.int (nI (sm t)))) (st' := [.ref (b + 1), .ref 1]) rfl rfl rfl rfl rfl rfl (args_v [.int (nI t)] [.ref (b + 1), .ref 1] rfl rfl (Nat.le_of_ble_eq_true rfl) rfl gs.1 (Nat.le_of_ble_eq_true rfl)) (rc_momentOf gs ht hop) ?_
  refine RQ.blk 1 (pc' := 68) (lv' := [(4, .ref (b + 1)), (3, .int (nI l)), (0, .ref 1), (1, .int (nI t)), (2, .int 1)]) (st' := [.int 1, .int (nI (sm t)), .ref (b + 1), .ref 1]) (H' := _) (kc' := 0) (ks' := 0) rfl ?_
  refine RQ.callI (st' := []) rfl rfl rfl rfl rfl rfl (args_v [.int 1, .int (nI (sm t)), .ref (b + 1)] [] rfl rfl (Nat.le_of_ble_eq_true rfl) rfl g0 (Nat.le_of_ble_eq_true rfl)) (ri_firstS1 (q0 := 0) (d := d) (m := l + 1) (mm := sm t) g0 g5 g6 (by omega) gA hV gb hbk hL hc (by omega)) (fun y H4 hy => ?_)
  obtain ⟨eH, hy⟩ := hy
  subst eH
  rcases hy with ⟨p, p1, p2, ey, p3, p4, p5⟩ | ⟨ey, hno⟩
  ·
    rw [ey]
    have hod := hV.1.2.2.2.1 p p2
    have hso := hV.1.2.2.2.2.2 _ hod
    have hklp := hV.2.2.2.2.2.2.2.1 p p2
    refine RQ.blk 3 (pc' := 76) (lv' := [(5, .int (nI (od p))), (4, .ref (b + 1)), (3, .int (nI l)), (0, .ref 1), (1, .int (nI t)), (2, .int 1)]) (st' := [.ref 1, .ref (b + 1)]) (H' := _) (kc' := 0) (ks' := 0) rfl ?_
    refine RQ.get (ci := 11) rfl g0 rfl rfl ?_
    refine RQ.get (ci := 5) rfl g5 rfl rfl ?_
    refine RQ.blk 1 (pc' := 83) (lv' := [(5, .int (nI (od p))), (4, .ref (b + 1)), (3, .int (nI l)), (0, .ref 1), (1, .int (nI t)), (2, .int 1)]) (st' := [.ref 1, .ref 7, .ref (b + 1)]) (H' := _) (kc' := 0) (ks' := 0) rfl ?_
    refine RQ.get (ci := 11) rfl g0 rfl rfl ?_
    refine RQ.get (ci := 5) rfl g5 rfl rfl ?_
    refine RQ.blk 1 (pc' := 90) (lv' := [(5, .int (nI (od p))), (4, .ref (b + 1)), (3, .int (nI l)), (0, .ref 1), (1, .int (nI t)), (2, .int 1)]) (st' := [.int 1, .int (nI (l + 1)), .ref 7, .ref (b + 1)]) (H' := _) (kc' := 0) (ks' := 0) rfl ?_
    refine RQ.call (v := some (.int (lI (fvS ws (sl (prb f gg l) 0 (l + 1)) true ws.length)))) (st' := []) rfl rfl rfl rfl rfl rfl (args_v [.int 1, .int (nI (l + 1)), .ref 7] [] rfl rfl (Nat.le_of_ble_eq_true rfl) rfl gb.1 (Nat.le_of_ble_eq_true rfl)) (rc_firstV1 gb hbk hL g6 (by decide) (by omega)) ?_
    have hlt := fun j => fvS_lt (ws := ws) (k := sl (prb f gg l) 0 (l + 1)) (bey := true) (n := ws.length) (i := j)
    have hn40 := hbk.1
    have hu41 := hbk.2.1
    generalize hwv : (fvS ws (sl (prb f gg l) 0 (l + 1)) true ws.length) = wv at hlt ⊢
    refine RQ.blk 2 (pc' := 97) (lv' := [(6, .int (lI wv)), (5, .int (nI (od p))), (4, .ref (b + 1)), (3, .int (nI l)), (0, .ref 1), (1, .int (nI t)), (2, .int 1)]) (st' := [.int (nI (od p))]) (H' := _) (kc' := 0) (ks' := 0) rfl ?_
    cases wv with
    | none =>
      show RQ _ _ _ _ [(6, .int (-1)), (5, .int (nI (od p))), (4, .ref (b + 1)), (3, .int (nI l)), (0, .ref 1), (1, .int (nI t)), (2, .int 1)] [.int (nI (od p))] _ _ _ _
      refine RQ.brT rfl rfl rfl (cT_ge (od p) 0) ?_
      refine RQ.blk 1 (pc' := 109) (lv' := [(6, .int (-1)), (5, .int (nI (od p))), (4, .ref (b + 1)), (3, .int (nI l)), (0, .ref 1), (1, .int (nI t)), (2, .int 1)]) (st' := [.int (nI (od p))]) (H' := _) (kc' := 0) (ks' := 0) rfl ?_
      refine RQ.brF rfl rfl rfl (cF_lt (od p) 0) ?_
      refine RQ.blk 1 (pc' := 114) (lv' := [(6, .int (-1)), (5, .int (nI (od p))), (4, .ref (b + 1)), (3, .int (nI l)), (0, .ref 1), (1, .int (nI t)), (2, .int 1)]) (st' := [.int (-1)]) (H' := _) (kc' := 0) (ks' := 0) rfl ?_
      refine RQ.brT rfl rfl rfl (by decide) ?_
      refine RQ.blk 2 (pc' := 181) (lv' := [(6, .int (-1)), (5, .int (nI (od p))), (4, .ref (b + 1)), (3, .int (nI l)), (0, .ref 1), (1, .int (nI t)), (2, .int 1)]) (st' := [.ref 1, .ref 1]) (H' := _) (kc' := 0) (ks' := 0) rfl ?_
      refine RQ.get (ci := 11) rfl g0 rfl rfl ?_
      refine RQ.get (ci := 10) rfl gA.1 rfl rfl ?_
      refine RQ.blk 3 (pc' := 192) (lv' := [(6, .int (-1)), (5, .int (nI (od p))), (4, .ref (b + 1)), (3, .int (nI l)), (0, .ref 1), (1, .int (nI t)), (2, .int 1)]) (st' := [.int (nI (od p) * 41), .ref 76, .ref 1]) (H' := _) (kc' := 0) (ks' := 0) rfl ?_
      rw [show (nI (od p) * 41 : Int32) = nI ((od p) * 41) from pk_mul (od p) 41]
      refine RQ.blk 2 (pc' := 194) (lv' := [(6, .int (-1)), (5, .int (nI (od p))), (4, .ref (b + 1)), (3, .int (nI l)), (0, .ref 1), (1, .int (nI t)), (2, .int 1)]) (st' := [.int (nI ((od p) * 41) + 1), .ref 76, .ref 1]) (H' := _) (kc' := 0) (ks' := 0) rfl ?_
      rw [show (nI ((od p) * 41) + 1 : Int32) = nI ((od p) * 41 + 1) from nI_add ((od p) * 41) 1]
      refine RQ.blk 1 (pc' := 195) (lv' := [(6, .int (-1)), (5, .int (nI (od p))), (4, .ref (b + 1)), (3, .int (nI l)), (0, .ref 1), (1, .int (nI t)), (2, .int 1)]) (st' := [.ref 1, .int (nI ((od p) * 41 + 1)), .ref 76, .ref 1]) (H' := _) (kc' := 0) (ks' := 0) rfl ?_
      refine RQ.get (ci := 11) rfl g0 rfl rfl ?_
      refine RQ.get (ci := 10) rfl gA.1 rfl rfl ?_
      refine RQ.blk 1 (pc' := 203) (lv' := [(6, .int (-1)), (5, .int (nI (od p))), (4, .ref (b + 1)), (3, .int (nI l)), (0, .ref 1), (1, .int (nI t)), (2, .int 1)]) (st' := [.int (nI (od p)), .ref 77, .int (nI ((od p) * 41 + 1)), .ref 76, .ref 1]) (H' := _) (kc' := 0) (ks' := 0) rfl ?_
      refine RQ.ialdN (j := od p) rfl gA.2.2.1 (by omega) (by omega) ?_
      refine RQ.blk 2 (pc' := 206) (lv' := [(6, .int (-1)), (5, .int (nI (od p))), (4, .ref (b + 1)), (3, .int (nI l)), (0, .ref 1), (1, .int (nI t)), (2, .int 1)]) (st' := [.int (nI (kl (od p)) - 1), .int (nI ((od p) * 41 + 1)), .ref 76, .ref 1]) (H' := _) (kc' := 0) (ks' := 0) rfl ?_
      rw [show (nI (kl (od p)) - 1 : Int32) = nI ((kl (od p)) - 1) from pk_sub (a := (kl (od p))) (b := 1) (by omega)]
      refine RQ.call (v := some (.int (nI (kl (od p) - 1)))) (st' := []) rfl rfl rfl rfl rfl rfl (args_v [.int (nI ((kl (od p)) - 1)), .int (nI ((od p) * 41 + 1)), .ref 76] [] rfl rfl (Nat.le_of_ble_eq_true rfl) rfl g0 (Nat.le_of_ble_eq_true rfl)) (rc_answer (a := 75) (na := N * 41) (i := od p * 41 + 1) (n := kl (od p) - 1) (q := 0) g0 g3 g4 gA.2.1 (by decide) (by decide) (by omega) (by omega) (by omega)) ?_
      have hsk := sk_s hV.2.2.2.2.2.2.2.2 hvs (x := (-1)) (bey := true) rfl hc (fun q hq => by have := (hV.1.2.2.2.2.2 _ (hV.1.2.2.2.1 q hq)).2.1; omega) (fun q hq => hV.2.2.2.2.2.2.2.1 q hq) hw0 p1 p2 p3 p4 p5 (Or.inl hwv)
      have htl : sl kf ((od p * 41) + 1) ((kl (od p)) - 1) = (keyO kf kl od p).tail ∧ (keyO kf kl od p).length = (kl (od p)) := by
        have hkk : sl kf (od p * 41) (kl (od p)) = (keyO kf kl od p) := rfl
        have hl9 : (keyO kf kl od p).length = (kl (od p)) := by rw [← hkk, sl_length]
        refine ⟨?_, hl9⟩
        obtain ⟨n9, hn9⟩ : ∃ n9, (kl (od p)) = n9 + 1 := ⟨(kl (od p)) - 1, by omega⟩
        rw [← hkk, hn9]
        rfl
      have hlt9 : (keyO kf kl od p).tail.length = (kl (od p)) - 1 := by rw [List.length_tail, htl.2]
      exact RQ.done (c := 0) (s := 0) rfl rfl rfl rfl ⟨_, _, rfl, some (keyO kf kl od p), hsk, by show nI (kl (od p) - 1) = nI ((keyO kf kl od p).length - 1); rw [htl.2], ⟨(cpy kf (od p * 41 + 1) g 0 (kl (od p) - 1)), by show _ = some (kO 5 [.ref 5, .int (nI (keyO kf kl od p).tail.length)]); rw [hlt9]; exact get_set ((set_far (by decide)).trans g3), (set_far (by decide)).trans (get_set g4), by show sl (cpy kf (od p * 41 + 1) g 0 (kl (od p) - 1)) 0 (keyO kf kl od p).tail.length = (keyO kf kl od p).tail; rw [hlt9, sl_cpy]; exact htl.1, by show (keyO kf kl od p).tail.length ≤ 1000; rw [hlt9]; omega⟩, (set_far (by decide)).trans ((set_far (by decide)).trans g5), (set_far (by decide)).trans ((set_far (by decide)).trans g6), (set_far (by decide)).trans ((set_far (by decide)).trans g1), fun a a1 a3 a4 a5 a6 => (set_far a3).trans ((set_far a4).trans (far a a1 a3 a5 a6))⟩
    | some i =>
      show RQ _ _ _ _ [(6, .int (nI i)), (5, .int (nI (od p))), (4, .ref (b + 1)), (3, .int (nI l)), (0, .ref 1), (1, .int (nI t)), (2, .int 1)] [.int (nI (od p))] _ _ _ _
      have hi1 := hlt i rfl
      obtain ⟨e, he⟩ := lt_get hi1
      have hke : sl D (S i) (K i) = e.1 := hL.key he
      have hSK := hbk.2.2 i hi1
      obtain ⟨e1, e2, -⟩ := hL i e he
      obtain ⟨hk1, hk2⟩ := hwk e (List.mem_of_getElem? he)
      refine RQ.brT rfl rfl rfl (cT_ge (od p) 0) ?_
      refine RQ.blk 1 (pc' := 109) (lv' := [(6, .int (nI i)), (5, .int (nI (od p))), (4, .ref (b + 1)), (3, .int (nI l)), (0, .ref 1), (1, .int (nI t)), (2, .int 1)]) (st' := [.int (nI (od p))]) (H' := _) (kc' := 0) (ks' := 0) rfl ?_
      refine RQ.brF rfl rfl rfl (cF_lt (od p) 0) ?_
      refine RQ.blk 1 (pc' := 114) (lv' := [(6, .int (nI i)), (5, .int (nI (od p))), (4, .ref (b + 1)), (3, .int (nI l)), (0, .ref 1), (1, .int (nI t)), (2, .int 1)]) (st' := [.int (nI i)]) (H' := _) (kc' := 0) (ks' := 0) rfl ?_
      refine RQ.brF rfl rfl rfl (cF_lt i 0) ?_
      refine RQ.blk 3 (pc' := 122) (lv' := [(6, .int (nI i)), (5, .int (nI (od p))), (4, .ref (b + 1)), (3, .int (nI l)), (0, .ref 1), (1, .int (nI t)), (2, .int 1)]) (st' := [.ref 1, .int (nI i), .ref (b + 1)]) (H' := _) (kc' := 0) (ks' := 0) rfl ?_
      refine RQ.get (ci := 11) rfl g0 rfl rfl ?_
      refine RQ.get (ci := 10) rfl gA.1 rfl rfl ?_
      refine RQ.blk 3 (pc' := 133) (lv' := [(6, .int (nI i)), (5, .int (nI (od p))), (4, .ref (b + 1)), (3, .int (nI l)), (0, .ref 1), (1, .int (nI t)), (2, .int 1)]) (st' := [.int (nI (od p) * 41), .ref 76, .int (nI i), .ref (b + 1)]) (H' := _) (kc' := 0) (ks' := 0) rfl ?_
      rw [show (nI (od p) * 41 : Int32) = nI ((od p) * 41) from pk_mul (od p) 41]
      refine RQ.blk 1 (pc' := 134) (lv' := [(6, .int (nI i)), (5, .int (nI (od p))), (4, .ref (b + 1)), (3, .int (nI l)), (0, .ref 1), (1, .int (nI t)), (2, .int 1)]) (st' := [.ref 1, .int (nI ((od p) * 41)), .ref 76, .int (nI i), .ref (b + 1)]) (H' := _) (kc' := 0) (ks' := 0) rfl ?_
      refine RQ.get (ci := 11) rfl g0 rfl rfl ?_
      refine RQ.get (ci := 10) rfl gA.1 rfl rfl ?_
      refine RQ.blk 1 (pc' := 142) (lv' := [(6, .int (nI i)), (5, .int (nI (od p))), (4, .ref (b + 1)), (3, .int (nI l)), (0, .ref 1), (1, .int (nI t)), (2, .int 1)]) (st' := [.int (nI (od p)), .ref 77, .int (nI ((od p) * 41)), .ref 76, .int (nI i), .ref (b + 1)]) (H' := _) (kc' := 0) (ks' := 0) rfl ?_
      refine RQ.ialdN (j := od p) rfl gA.2.2.1 (by omega) (by omega) ?_
      refine RQ.callI (st' := []) rfl rfl rfl rfl rfl rfl (args_v [.int (nI (kl (od p))), .int (nI ((od p) * 41)), .ref 76, .int (nI i)] [] rfl rfl (Nat.le_of_ble_eq_true rfl) rfl gb.1 (Nat.le_of_ble_eq_true rfl)) (ri_compareWith (i := i) (j := od p * 41) (m := kl (od p)) gb hbk gA.2.1 (by omega) (by omega) hi1) (fun z H5 hz => ?_)
      obtain ⟨eH5, hz⟩ := hz
      subst eH5
      rw [hke] at hz
      by_cases hlt2 : cmpL e.1 (sl kf (od p * 41) (kl (od p))) < 0
      · refine RQ.brF rfl rfl rfl (decide_eq_false (Int32.not_le.mpr ((cmp_lt0 hz).mpr hlt2))) ?_
        refine RQ.blk 2 (pc' := 152) (lv' := [(6, .int (nI i)), (5, .int (nI (od p))), (4, .ref (b + 1)), (3, .int (nI l)), (0, .ref 1), (1, .int (nI t)), (2, .int 1)]) (st' := [.ref (b + 1), .ref 1]) (H' := _) (kc' := 0) (ks' := 0) rfl ?_
        refine RQ.get (ci := 0) rfl gb.1 rfl rfl ?_
        refine RQ.blk 1 (pc' := 157) (lv' := [(6, .int (nI i)), (5, .int (nI (od p))), (4, .ref (b + 1)), (3, .int (nI l)), (0, .ref 1), (1, .int (nI t)), (2, .int 1)]) (st' := [.ref (b + 1), .ref ((b + 1) + 1), .ref 1]) (H' := _) (kc' := 0) (ks' := 0) rfl ?_
        refine RQ.get (ci := 0) rfl gb.1 rfl rfl ?_
        refine RQ.blk 1 (pc' := 162) (lv' := [(6, .int (nI i)), (5, .int (nI (od p))), (4, .ref (b + 1)), (3, .int (nI l)), (0, .ref 1), (1, .int (nI t)), (2, .int 1)]) (st' := [.int (nI i), .ref ((b + 2) + 1), .ref ((b + 1) + 1), .ref 1]) (H' := _) (kc' := 0) (ks' := 0) rfl ?_
        refine RQ.ialdN (j := i) rfl gb.2.2.1 (by omega) (by decide) ?_
        refine RQ.blk 2 (pc' := 165) (lv' := [(6, .int (nI i)), (5, .int (nI (od p))), (4, .ref (b + 1)), (3, .int (nI l)), (0, .ref 1), (1, .int (nI t)), (2, .int 1)]) (st' := [.int (nI (S i) + 1), .ref ((b + 1) + 1), .ref 1]) (H' := _) (kc' := 0) (ks' := 0) rfl ?_
        rw [show (nI (S i) + 1 : Int32) = nI (S i + 1) from nI_add (S i) 1]
        refine RQ.blk 1 (pc' := 167) (lv' := [(6, .int (nI i)), (5, .int (nI (od p))), (4, .ref (b + 1)), (3, .int (nI l)), (0, .ref 1), (1, .int (nI t)), (2, .int 1)]) (st' := [.ref (b + 1), .int (nI (S i + 1)), .ref ((b + 1) + 1), .ref 1]) (H' := _) (kc' := 0) (ks' := 0) rfl ?_
        refine RQ.get (ci := 0) rfl gb.1 rfl rfl ?_
        refine RQ.blk 1 (pc' := 172) (lv' := [(6, .int (nI i)), (5, .int (nI (od p))), (4, .ref (b + 1)), (3, .int (nI l)), (0, .ref 1), (1, .int (nI t)), (2, .int 1)]) (st' := [.int (nI i), .ref ((b + 3) + 1), .int (nI (S i + 1)), .ref ((b + 1) + 1), .ref 1]) (H' := _) (kc' := 0) (ks' := 0) rfl ?_
        refine RQ.ialdN (j := i) rfl gb.2.2.2.1 (by omega) (by decide) ?_
        refine RQ.blk 2 (pc' := 175) (lv' := [(6, .int (nI i)), (5, .int (nI (od p))), (4, .ref (b + 1)), (3, .int (nI l)), (0, .ref 1), (1, .int (nI t)), (2, .int 1)]) (st' := [.int (nI (K i) - 1), .int (nI (S i + 1)), .ref ((b + 1) + 1), .ref 1]) (H' := _) (kc' := 0) (ks' := 0) rfl ?_
        rw [show (nI (K i) - 1 : Int32) = nI ((K i) - 1) from pk_sub (a := (K i)) (b := 1) (by omega)]
        refine RQ.call (v := some (.int (nI (K i - 1)))) (st' := []) rfl rfl rfl rfl rfl rfl (args_v [.int (nI ((K i) - 1)), .int (nI (S i + 1)), .ref ((b + 1) + 1)] [] rfl rfl (Nat.le_of_ble_eq_true rfl) rfl g0 (Nat.le_of_ble_eq_true rfl)) (rc_answer (a := b + 1) (na := 4100) (i := S i + 1) (n := K i - 1) (q := 0) g0 g3 g4 gb.2.1 (by omega) (by omega) (by decide) (by omega) (by omega)) ?_
        have hsk := sk_w hV.2.2.2.2.2.2.2.2 hvs (x := (-1)) (bey := true) rfl hc (fun q hq => by have := (hV.1.2.2.2.2.2 _ (hV.1.2.2.2.1 q hq)).2.1; omega) (fun q hq => hV.2.2.2.2.2.2.2.1 q hq) hw0 he hwv (Or.inr ⟨p, p2, p5, hlt2⟩)
        have htl : sl D ((S i) + 1) ((K i) - 1) = e.1.tail ∧ e.1.length = (K i) := by
          have hkk : sl D (S i) (K i) = e.1 := hke
          have hl9 : e.1.length = (K i) := by rw [← hkk, sl_length]
          refine ⟨?_, hl9⟩
          obtain ⟨n9, hn9⟩ : ∃ n9, (K i) = n9 + 1 := ⟨(K i) - 1, by omega⟩
          rw [← hkk, hn9]
          rfl
        have hlt9 : e.1.tail.length = (K i) - 1 := by rw [List.length_tail, htl.2]
        exact RQ.done (c := 0) (s := 0) rfl rfl rfl rfl ⟨_, _, rfl, some e.1, hsk, by show nI (K i - 1) = nI (e.1.length - 1); rw [htl.2], ⟨(cpy D (S i + 1) g 0 (K i - 1)), by show _ = some (kO 5 [.ref 5, .int (nI e.1.tail.length)]); rw [hlt9]; exact get_set ((set_far (by decide)).trans g3), (set_far (by decide)).trans (get_set g4), by show sl (cpy D (S i + 1) g 0 (K i - 1)) 0 e.1.tail.length = e.1.tail; rw [hlt9, sl_cpy]; exact htl.1, by show e.1.tail.length ≤ 1000; rw [hlt9]; omega⟩, (set_far (by decide)).trans ((set_far (by decide)).trans g5), (set_far (by decide)).trans ((set_far (by decide)).trans g6), (set_far (by decide)).trans ((set_far (by decide)).trans g1), fun a a1 a3 a4 a5 a6 => (set_far a3).trans ((set_far a4).trans (far a a1 a3 a5 a6))⟩
      · refine RQ.brT rfl rfl rfl (decide_eq_true (Int32.not_lt.mp (fun e => hlt2 ((cmp_lt0 hz).mp e)))) ?_
        refine RQ.blk 2 (pc' := 181) (lv' := [(6, .int (nI i)), (5, .int (nI (od p))), (4, .ref (b + 1)), (3, .int (nI l)), (0, .ref 1), (1, .int (nI t)), (2, .int 1)]) (st' := [.ref 1, .ref 1]) (H' := _) (kc' := 0) (ks' := 0) rfl ?_
        refine RQ.get (ci := 11) rfl g0 rfl rfl ?_
        refine RQ.get (ci := 10) rfl gA.1 rfl rfl ?_
        refine RQ.blk 3 (pc' := 192) (lv' := [(6, .int (nI i)), (5, .int (nI (od p))), (4, .ref (b + 1)), (3, .int (nI l)), (0, .ref 1), (1, .int (nI t)), (2, .int 1)]) (st' := [.int (nI (od p) * 41), .ref 76, .ref 1]) (H' := _) (kc' := 0) (ks' := 0) rfl ?_
        rw [show (nI (od p) * 41 : Int32) = nI ((od p) * 41) from pk_mul (od p) 41]
        refine RQ.blk 2 (pc' := 194) (lv' := [(6, .int (nI i)), (5, .int (nI (od p))), (4, .ref (b + 1)), (3, .int (nI l)), (0, .ref 1), (1, .int (nI t)), (2, .int 1)]) (st' := [.int (nI ((od p) * 41) + 1), .ref 76, .ref 1]) (H' := _) (kc' := 0) (ks' := 0) rfl ?_
        rw [show (nI ((od p) * 41) + 1 : Int32) = nI ((od p) * 41 + 1) from nI_add ((od p) * 41) 1]
        refine RQ.blk 1 (pc' := 195) (lv' := [(6, .int (nI i)), (5, .int (nI (od p))), (4, .ref (b + 1)), (3, .int (nI l)), (0, .ref 1), (1, .int (nI t)), (2, .int 1)]) (st' := [.ref 1, .int (nI ((od p) * 41 + 1)), .ref 76, .ref 1]) (H' := _) (kc' := 0) (ks' := 0) rfl ?_
        refine RQ.get (ci := 11) rfl g0 rfl rfl ?_
        refine RQ.get (ci := 10) rfl gA.1 rfl rfl ?_
        refine RQ.blk 1 (pc' := 203) (lv' := [(6, .int (nI i)), (5, .int (nI (od p))), (4, .ref (b + 1)), (3, .int (nI l)), (0, .ref 1), (1, .int (nI t)), (2, .int 1)]) (st' := [.int (nI (od p)), .ref 77, .int (nI ((od p) * 41 + 1)), .ref 76, .ref 1]) (H' := _) (kc' := 0) (ks' := 0) rfl ?_
        refine RQ.ialdN (j := od p) rfl gA.2.2.1 (by omega) (by omega) ?_
        refine RQ.blk 2 (pc' := 206) (lv' := [(6, .int (nI i)), (5, .int (nI (od p))), (4, .ref (b + 1)), (3, .int (nI l)), (0, .ref 1), (1, .int (nI t)), (2, .int 1)]) (st' := [.int (nI (kl (od p)) - 1), .int (nI ((od p) * 41 + 1)), .ref 76, .ref 1]) (H' := _) (kc' := 0) (ks' := 0) rfl ?_
        rw [show (nI (kl (od p)) - 1 : Int32) = nI ((kl (od p)) - 1) from pk_sub (a := (kl (od p))) (b := 1) (by omega)]
        refine RQ.call (v := some (.int (nI (kl (od p) - 1)))) (st' := []) rfl rfl rfl rfl rfl rfl (args_v [.int (nI ((kl (od p)) - 1)), .int (nI ((od p) * 41 + 1)), .ref 76] [] rfl rfl (Nat.le_of_ble_eq_true rfl) rfl g0 (Nat.le_of_ble_eq_true rfl)) (rc_answer (a := 75) (na := N * 41) (i := od p * 41 + 1) (n := kl (od p) - 1) (q := 0) g0 g3 g4 gA.2.1 (by decide) (by decide) (by omega) (by omega) (by omega)) ?_
        have hsk := sk_s hV.2.2.2.2.2.2.2.2 hvs (x := (-1)) (bey := true) rfl hc (fun q hq => by have := (hV.1.2.2.2.2.2 _ (hV.1.2.2.2.1 q hq)).2.1; omega) (fun q hq => hV.2.2.2.2.2.2.2.1 q hq) hw0 p1 p2 p3 p4 p5 (Or.inr ⟨i, e, he, hwv, hlt2⟩)
        have htl : sl kf ((od p * 41) + 1) ((kl (od p)) - 1) = (keyO kf kl od p).tail ∧ (keyO kf kl od p).length = (kl (od p)) := by
          have hkk : sl kf (od p * 41) (kl (od p)) = (keyO kf kl od p) := rfl
          have hl9 : (keyO kf kl od p).length = (kl (od p)) := by rw [← hkk, sl_length]
          refine ⟨?_, hl9⟩
          obtain ⟨n9, hn9⟩ : ∃ n9, (kl (od p)) = n9 + 1 := ⟨(kl (od p)) - 1, by omega⟩
          rw [← hkk, hn9]
          rfl
        have hlt9 : (keyO kf kl od p).tail.length = (kl (od p)) - 1 := by rw [List.length_tail, htl.2]
        exact RQ.done (c := 0) (s := 0) rfl rfl rfl rfl ⟨_, _, rfl, some (keyO kf kl od p), hsk, by show nI (kl (od p) - 1) = nI ((keyO kf kl od p).length - 1); rw [htl.2], ⟨(cpy kf (od p * 41 + 1) g 0 (kl (od p) - 1)), by show _ = some (kO 5 [.ref 5, .int (nI (keyO kf kl od p).tail.length)]); rw [hlt9]; exact get_set ((set_far (by decide)).trans g3), (set_far (by decide)).trans (get_set g4), by show sl (cpy kf (od p * 41 + 1) g 0 (kl (od p) - 1)) 0 (keyO kf kl od p).tail.length = (keyO kf kl od p).tail; rw [hlt9, sl_cpy]; exact htl.1, by show (keyO kf kl od p).tail.length ≤ 1000; rw [hlt9]; omega⟩, (set_far (by decide)).trans ((set_far (by decide)).trans g5), (set_far (by decide)).trans ((set_far (by decide)).trans g6), (set_far (by decide)).trans ((set_far (by decide)).trans g1), fun a a1 a3 a4 a5 a6 => (set_far a3).trans ((set_far a4).trans (far a a1 a3 a5 a6))⟩
  ·
    rw [ey]
    refine RQ.blk 3 (pc' := 76) (lv' := [(5, .int (-1)), (4, .ref (b + 1)), (3, .int (nI l)), (0, .ref 1), (1, .int (nI t)), (2, .int 1)]) (st' := [.ref 1, .ref (b + 1)]) (H' := _) (kc' := 0) (ks' := 0) rfl ?_
    refine RQ.get (ci := 11) rfl g0 rfl rfl ?_
    refine RQ.get (ci := 5) rfl g5 rfl rfl ?_
    refine RQ.blk 1 (pc' := 83) (lv' := [(5, .int (-1)), (4, .ref (b + 1)), (3, .int (nI l)), (0, .ref 1), (1, .int (nI t)), (2, .int 1)]) (st' := [.ref 1, .ref 7, .ref (b + 1)]) (H' := _) (kc' := 0) (ks' := 0) rfl ?_
    refine RQ.get (ci := 11) rfl g0 rfl rfl ?_
    refine RQ.get (ci := 5) rfl g5 rfl rfl ?_
    refine RQ.blk 1 (pc' := 90) (lv' := [(5, .int (-1)), (4, .ref (b + 1)), (3, .int (nI l)), (0, .ref 1), (1, .int (nI t)), (2, .int 1)]) (st' := [.int 1, .int (nI (l + 1)), .ref 7, .ref (b + 1)]) (H' := _) (kc' := 0) (ks' := 0) rfl ?_
    refine RQ.call (v := some (.int (lI (fvS ws (sl (prb f gg l) 0 (l + 1)) true ws.length)))) (st' := []) rfl rfl rfl rfl rfl rfl (args_v [.int 1, .int (nI (l + 1)), .ref 7] [] rfl rfl (Nat.le_of_ble_eq_true rfl) rfl gb.1 (Nat.le_of_ble_eq_true rfl)) (rc_firstV1 gb hbk hL g6 (by decide) (by omega)) ?_
    have hlt := fun j => fvS_lt (ws := ws) (k := sl (prb f gg l) 0 (l + 1)) (bey := true) (n := ws.length) (i := j)
    have hn40 := hbk.1
    have hu41 := hbk.2.1
    generalize hwv : (fvS ws (sl (prb f gg l) 0 (l + 1)) true ws.length) = wv at hlt ⊢
    refine RQ.blk 2 (pc' := 97) (lv' := [(6, .int (lI wv)), (5, .int (-1)), (4, .ref (b + 1)), (3, .int (nI l)), (0, .ref 1), (1, .int (nI t)), (2, .int 1)]) (st' := [.int (-1)]) (H' := _) (kc' := 0) (ks' := 0) rfl ?_
    cases wv with
    | none =>
      show RQ _ _ _ _ [(6, .int (-1)), (5, .int (-1)), (4, .ref (b + 1)), (3, .int (nI l)), (0, .ref 1), (1, .int (nI t)), (2, .int 1)] [.int (-1)] _ _ _ _
      refine RQ.brF rfl rfl rfl (by decide) ?_
      refine RQ.blk 1 (pc' := 102) (lv' := [(6, .int (-1)), (5, .int (-1)), (4, .ref (b + 1)), (3, .int (nI l)), (0, .ref 1), (1, .int (nI t)), (2, .int 1)]) (st' := [.int (-1)]) (H' := _) (kc' := 0) (ks' := 0) rfl ?_
      refine RQ.brF rfl rfl rfl (by decide) ?_
      refine RQ.blk 1 (pc' := 106) (lv' := [(6, .int (-1)), (5, .int (-1)), (4, .ref (b + 1)), (3, .int (nI l)), (0, .ref 1), (1, .int (nI t)), (2, .int 1)]) (st' := [.int (-1)]) (H' := _) (kc' := 0) (ks' := 0) rfl ?_
      exact RQ.done (c := 0) (s := 0) rfl rfl rfl rfl ⟨_, _, rfl, none, sk_nn hV.2.2.2.2.2.2.2.2 hvs (x := (-1)) (bey := true) rfl hc (fun q hq => by have := (hV.1.2.2.2.2.2 _ (hV.1.2.2.2.1 q hq)).2.1; omega) (fun q hq => hV.2.2.2.2.2.2.2.1 q hq) hw0 hno hwv, rfl, gres, g5, g6, g1, fun a a1 a3 a4 a5 a6 => far a a1 a3 a5 a6⟩
    | some i =>
      show RQ _ _ _ _ [(6, .int (nI i)), (5, .int (-1)), (4, .ref (b + 1)), (3, .int (nI l)), (0, .ref 1), (1, .int (nI t)), (2, .int 1)] [.int (-1)] _ _ _ _
      have hi1 := hlt i rfl
      obtain ⟨e, he⟩ := lt_get hi1
      have hke : sl D (S i) (K i) = e.1 := hL.key he
      have hSK := hbk.2.2 i hi1
      obtain ⟨e1, e2, -⟩ := hL i e he
      obtain ⟨hk1, hk2⟩ := hwk e (List.mem_of_getElem? he)
      refine RQ.brF rfl rfl rfl (by decide) ?_
      refine RQ.blk 1 (pc' := 102) (lv' := [(6, .int (nI i)), (5, .int (-1)), (4, .ref (b + 1)), (3, .int (nI l)), (0, .ref 1), (1, .int (nI t)), (2, .int 1)]) (st' := [.int (nI i)]) (H' := _) (kc' := 0) (ks' := 0) rfl ?_
      refine RQ.brT rfl rfl rfl (cT_ge i 0) ?_
      refine RQ.blk 1 (pc' := 109) (lv' := [(6, .int (nI i)), (5, .int (-1)), (4, .ref (b + 1)), (3, .int (nI l)), (0, .ref 1), (1, .int (nI t)), (2, .int 1)]) (st' := [.int (-1)]) (H' := _) (kc' := 0) (ks' := 0) rfl ?_
      refine RQ.brT rfl rfl rfl (by decide) ?_
      refine RQ.blk 2 (pc' := 152) (lv' := [(6, .int (nI i)), (5, .int (-1)), (4, .ref (b + 1)), (3, .int (nI l)), (0, .ref 1), (1, .int (nI t)), (2, .int 1)]) (st' := [.ref (b + 1), .ref 1]) (H' := _) (kc' := 0) (ks' := 0) rfl ?_
      refine RQ.get (ci := 0) rfl gb.1 rfl rfl ?_
      refine RQ.blk 1 (pc' := 157) (lv' := [(6, .int (nI i)), (5, .int (-1)), (4, .ref (b + 1)), (3, .int (nI l)), (0, .ref 1), (1, .int (nI t)), (2, .int 1)]) (st' := [.ref (b + 1), .ref ((b + 1) + 1), .ref 1]) (H' := _) (kc' := 0) (ks' := 0) rfl ?_
      refine RQ.get (ci := 0) rfl gb.1 rfl rfl ?_
      refine RQ.blk 1 (pc' := 162) (lv' := [(6, .int (nI i)), (5, .int (-1)), (4, .ref (b + 1)), (3, .int (nI l)), (0, .ref 1), (1, .int (nI t)), (2, .int 1)]) (st' := [.int (nI i), .ref ((b + 2) + 1), .ref ((b + 1) + 1), .ref 1]) (H' := _) (kc' := 0) (ks' := 0) rfl ?_
      refine RQ.ialdN (j := i) rfl gb.2.2.1 (by omega) (by decide) ?_
      refine RQ.blk 2 (pc' := 165) (lv' := [(6, .int (nI i)), (5, .int (-1)), (4, .ref (b + 1)), (3, .int (nI l)), (0, .ref 1), (1, .int (nI t)), (2, .int 1)]) (st' := [.int (nI (S i) + 1), .ref ((b + 1) + 1), .ref 1]) (H' := _) (kc' := 0) (ks' := 0) rfl ?_
      rw [show (nI (S i) + 1 : Int32) = nI (S i + 1) from nI_add (S i) 1]
      refine RQ.blk 1 (pc' := 167) (lv' := [(6, .int (nI i)), (5, .int (-1)), (4, .ref (b + 1)), (3, .int (nI l)), (0, .ref 1), (1, .int (nI t)), (2, .int 1)]) (st' := [.ref (b + 1), .int (nI (S i + 1)), .ref ((b + 1) + 1), .ref 1]) (H' := _) (kc' := 0) (ks' := 0) rfl ?_
      refine RQ.get (ci := 0) rfl gb.1 rfl rfl ?_
      refine RQ.blk 1 (pc' := 172) (lv' := [(6, .int (nI i)), (5, .int (-1)), (4, .ref (b + 1)), (3, .int (nI l)), (0, .ref 1), (1, .int (nI t)), (2, .int 1)]) (st' := [.int (nI i), .ref ((b + 3) + 1), .int (nI (S i + 1)), .ref ((b + 1) + 1), .ref 1]) (H' := _) (kc' := 0) (ks' := 0) rfl ?_
      refine RQ.ialdN (j := i) rfl gb.2.2.2.1 (by omega) (by decide) ?_
      refine RQ.blk 2 (pc' := 175) (lv' := [(6, .int (nI i)), (5, .int (-1)), (4, .ref (b + 1)), (3, .int (nI l)), (0, .ref 1), (1, .int (nI t)), (2, .int 1)]) (st' := [.int (nI (K i) - 1), .int (nI (S i + 1)), .ref ((b + 1) + 1), .ref 1]) (H' := _) (kc' := 0) (ks' := 0) rfl ?_
      rw [show (nI (K i) - 1 : Int32) = nI ((K i) - 1) from pk_sub (a := (K i)) (b := 1) (by omega)]
      refine RQ.call (v := some (.int (nI (K i - 1)))) (st' := []) rfl rfl rfl rfl rfl rfl (args_v [.int (nI ((K i) - 1)), .int (nI (S i + 1)), .ref ((b + 1) + 1)] [] rfl rfl (Nat.le_of_ble_eq_true rfl) rfl g0 (Nat.le_of_ble_eq_true rfl)) (rc_answer (a := b + 1) (na := 4100) (i := S i + 1) (n := K i - 1) (q := 0) g0 g3 g4 gb.2.1 (by omega) (by omega) (by decide) (by omega) (by omega)) ?_
      have hsk := sk_w hV.2.2.2.2.2.2.2.2 hvs (x := (-1)) (bey := true) rfl hc (fun q hq => by have := (hV.1.2.2.2.2.2 _ (hV.1.2.2.2.1 q hq)).2.1; omega) (fun q hq => hV.2.2.2.2.2.2.2.1 q hq) hw0 he hwv (Or.inl hno)
      have htl : sl D ((S i) + 1) ((K i) - 1) = e.1.tail ∧ e.1.length = (K i) := by
        have hkk : sl D (S i) (K i) = e.1 := hke
        have hl9 : e.1.length = (K i) := by rw [← hkk, sl_length]
        refine ⟨?_, hl9⟩
        obtain ⟨n9, hn9⟩ : ∃ n9, (K i) = n9 + 1 := ⟨(K i) - 1, by omega⟩
        rw [← hkk, hn9]
        rfl
      have hlt9 : e.1.tail.length = (K i) - 1 := by rw [List.length_tail, htl.2]
      exact RQ.done (c := 0) (s := 0) rfl rfl rfl rfl ⟨_, _, rfl, some e.1, hsk, by show nI (K i - 1) = nI (e.1.length - 1); rw [htl.2], ⟨(cpy D (S i + 1) g 0 (K i - 1)), by show _ = some (kO 5 [.ref 5, .int (nI e.1.tail.length)]); rw [hlt9]; exact get_set ((set_far (by decide)).trans g3), (set_far (by decide)).trans (get_set g4), by show sl (cpy D (S i + 1) g 0 (K i - 1)) 0 e.1.tail.length = e.1.tail; rw [hlt9, sl_cpy]; exact htl.1, by show e.1.tail.length ≤ 1000; rw [hlt9]; omega⟩, (set_far (by decide)).trans ((set_far (by decide)).trans g5), (set_far (by decide)).trans ((set_far (by decide)).trans g6), (set_far (by decide)).trans ((set_far (by decide)).trans g1), fun a a1 a3 a4 a5 a6 => (set_far a3).trans ((set_far a4).trans (far a a1 a3 a5 a6))⟩
