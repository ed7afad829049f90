/-! ===== a log is cleared; class; written by wip/gen/clearw.py ===== -/
theorem mvX_kind {c : Nat → Int8} {blk : Option Nat} {Q : Nat → Nat} : ∀ (vs : List aV) (i : Nat), ∀ x ∈ mvX c blk Q i vs, x.2.1 = 4
  | [], _, x, h => absurd h List.not_mem_nil
  | v :: vs, i, x, h => by
    rcases List.mem_append.mp h with h | h
    · split at h
      · rw [List.mem_singleton.mp h]; rfl
      · exact absurd h List.not_mem_nil
    · exact mvX_kind vs (i + 1) x h
theorem mvX_mem {c : Nat → Int8} {blk : Option Nat} {Q : Nat → Nat} : ∀ {vs : List aV} {i j : Nat} {v : aV}, vs[j]? = some v → inB blk v = true → (Q (i + j), mvR c v) ∈ mvX c blk Q i vs
  | [], i, j, v, h, _ => absurd (get_lt h) (Nat.not_lt_zero _)
  | w :: vs, i, 0, v, h, hb => by
    have h : w = v := Option.some.inj h
    refine List.mem_append.mpr (Or.inl ?_)
    rw [h, if_pos hb]
    exact List.mem_singleton.mpr rfl
  | w :: vs, i, j + 1, v, h, hb => by
    refine List.mem_append.mpr (Or.inr ?_)
    have := mvX_mem (c := c) (Q := Q) (i := i + 1) (j := j) (vs := vs) h hb
    rw [show i + 1 + j = i + (j + 1) by omega] at this
    exact this
theorem mem_mvL {blk : Option Nat} {Q : Nat → Nat} {vs : List aV} {w : aV} (h : w ∈ mvL blk Q 0 vs) : ∃ j v, vs[j]? = some v ∧ w = mvV blk Q j v := by
  obtain ⟨j, hj⟩ := List.getElem?_of_mem h
  have hl := get_lt hj
  rw [mvL_len] at hl
  obtain ⟨v, hv⟩ := lt_get hl
  rw [mvL_get hv, Nat.zero_add] at hj
  exact ⟨j, v, hv, (Option.some.inj hj).symm⟩
/-- the entries of what is moved -/
def mvB (blk : Option Nat) (vs : List aV) : Nat := ((vs.filter (inB blk)).map (fun v => v.1.length + 10)).sum
theorem mv_alone {blk : Option Nat} {Q : Nat → Nat} : ∀ (vs : List aV) (i : Nat), (∀ v ∈ vs, v.2.2.2.2 = false) → ((aloneE (mvL blk Q i vs)).flatMap encE).length = mvB blk vs ∧ (aloneE (mvL blk Q i vs)).length ≤ vs.length
  | [], _, _ => ⟨rfl, Nat.le_refl _⟩
  | v :: vs, i, h => by
    obtain ⟨h1, h2⟩ := mv_alone vs (i + 1) (fun w hw => h w (List.mem_cons_of_mem _ hw))
    have hv := h v List.mem_cons_self
    have e : aloneE (mvL blk Q i (v :: vs)) = aloneE [mvV blk Q i v] ++ aloneE (mvL blk Q (i + 1) vs) := aloneE_app (a := [mvV blk Q i v])
    rw [e, List.flatMap_append, List.length_append, List.length_append, h1]
    unfold mvB
    rw [List.filter_cons]
    unfold mvV
    by_cases hb : inB blk v = true
    · rw [if_pos hb, if_pos hb, List.map_cons, List.sum_cons]
      have e2 : aloneE [(v.1, v.2.1, Q i, v.2.2.2.1, true)] = [entV (v.1, v.2.1, Q i, v.2.2.2.1, true)] := rfl
      rw [e2, List.flatMap_cons, List.flatMap_nil, List.append_nil, encE_len]
      exact ⟨rfl, by rw [List.length_cons, List.length_cons, List.length_nil]; omega⟩
    · rw [if_neg hb, if_neg hb]
      have e2 : aloneE [v] = [] := by
        unfold aloneE
        rw [List.filter_cons, hv]
        rfl
      rw [e2]
      exact ⟨Nat.zero_add _, by rw [List.length_cons, List.length_nil]; omega⟩
/-- keys of files are short -/
def KeyW (v : aV) : Prop := 1 ≤ v.1.length ∧ v.1.length ≤ 41 ∧ (v.1.headD 0 ≠ 0 → v.1.length ≤ 3)
theorem szV_le {v : aV} (h : KeyW v) : szV v ≤ wgV v := by
  obtain ⟨k1, k2, k3⟩ := h
  unfold szV wgV wgt
  by_cases e0 : v.1.headD 0 = 0
  · rw [if_pos e0]; omega
  · rw [if_neg e0]
    have := k3 e0
    split <;> omega
theorem inB_some {b : Nat} {v : aV} : inB (some b) v = true ↔ (v.2.2.2.1 ≠ none ∧ v.2.2.1 / 2048 = b) := by
  unfold inB
  rw [decide_eq_true_iff]
  exact ⟨fun e => ⟨e.1, e.2.elim (fun q => (Option.some_ne_none _ q).elim) (fun q => (Option.some.inj q).symm)⟩, fun e => ⟨e.1, Or.inr (congrArg some e.2.symm)⟩⟩
theorem inB_none {v : aV} : inB none v = true ↔ v.2.2.2.1 ≠ none := by
  unfold inB
  rw [decide_eq_true_iff]
  exact ⟨fun e => e.1, fun e => ⟨e, Or.inl rfl⟩⟩
theorem mv_due {b : Nat} : ∀ (vs : List aV), (∀ v ∈ vs, KeyW v) → (mvS (some b) vs).sum ≤ ldN vs b
  | [], _ => Nat.le_refl _
  | v :: vs, h => by
    have ih := mv_due (b := b) vs (fun w hw => h w (List.mem_cons_of_mem _ hw))
    have hs := szV_le (h v List.mem_cons_self)
    unfold mvS ldN at ih ⊢
    rw [List.filter_cons, List.map_cons, List.sum_cons]
    by_cases hb : inB (some b) v = true
    · rw [if_pos hb, if_pos (inB_some.mp hb), List.map_cons, List.sum_cons]
      omega
    · rw [if_neg hb]
      omega
theorem mem_erase_ne {l : List Nat} {i x y : Nat} (hi : l[i]? = some y) (hx : x ∈ l) (hne : ¬ x = y) : x ∈ l.eraseIdx i := by
  obtain ⟨k, hk⟩ := List.getElem?_of_mem hx
  refine List.mem_of_getElem? (i := if k < i then k else k - 1) ?_
  rw [List.getElem?_eraseIdx]
  by_cases h1 : k < i
  · rw [if_pos h1, if_pos h1]
    exact hk
  · have h2 : ¬ k = i := fun e => hne (by rw [e, hi] at hk; exact (Option.some.inj hk).symm)
    rw [if_neg h1, if_neg (by omega), show k - 1 + 1 = k by omega]
    exact hk
/-- a fresh record lies in its log, below the top -/
theorem FrW.rec {c : Nat → Int8} {B : Nat} {lgs : List Nat} {fr ff : Nat} {wr : Bool} {tp : Nat} {rs : List aR} {gs : List aSg} {x : Nat × aRd} (h : FrW c lgs fr ff wr tp gs) (hO : LsOk B lgs rs) (hx : x ∈ gs.flatMap flG) : sl c x.1 (encL x.2).length = encL x.2 ∧ LOk x.2 ∧ x.1 % 2048 + (encL x.2).length ≤ 2048 ∧ x.1 / 2048 ∈ lgs ∧ (wr = true → lgs[lgs.length - 1]? = some (x.1 / 2048) → x.1 % 2048 + (encL x.2).length ≤ tp) := by
  obtain ⟨⟨h1, h2, h3, h4, h5⟩, h6⟩ := h
  obtain ⟨s, hs, hxs⟩ := List.mem_flatMap.mp hx
  obtain ⟨c1, c2, c3⟩ := h5 s hs
  obtain ⟨m1, m2, m3, m4⟩ := ChR.mem c1 hxs
  have hel := encL_len x.2
  have c2' : s.2.1 + lenL s.2.2 ≤ 2048 := c2
  have hdiv : x.1 / 2048 = s.1 := by omega
  have hmem : s.1 ∈ lgs := by
    refine List.mem_of_mem_drop (i := lgs.length - fr) ?_
    rw [← h3]
    exact List.mem_map.mpr ⟨s, hs, rfl⟩
  refine ⟨m1, m2, by omega, by rw [hdiv]; exact hmem, fun e1 e2 => ?_⟩
  obtain ⟨gi, s2, g1, g2, g3⟩ := h6 e1
  have hlast : lgs[lgs.length - 1]? = some s2.1 := FrC.last (gi := gi) (s := s2) (c := c) (fr := fr) (ff := ff) (by rw [← g1]; exact ⟨h1, h2, h3, h4, h5⟩) |>.1
  have hss : s.1 = s2.1 := by
    rw [e2, hdiv] at hlast
    exact Option.some.inj hlast
  have hse : s = s2 := by
    rw [g1] at hs
    rcases List.mem_append.mp hs with e | e
    · have hd : (lgs.drop (lgs.length - fr)).Nodup := hO.logs.sublist (List.drop_sublist _ _)
      rw [← h3, g1, List.map_append] at hd
      exact absurd hss ((List.nodup_append.mp hd).2.2 s.1 (List.mem_map.mpr ⟨s, e, rfl⟩) s2.1 (List.mem_map.mpr ⟨s2, List.mem_singleton.mpr rfl, rfl⟩))
    · exact List.mem_singleton.mp e
  have g2' : s.2.1 + lenL s.2.2 = tp := by rw [hse]; exact g2
  omega
/-- where the versions lie behind a clearing -/
theorem mv_recs {c c1 : Nat → Int8} {B : Nat} {blk : Option Nat} {lgs lgs1 lgs2 : List Nat} {rs : List aR} {us us1 : Nat → Bool} {wr wr1 : Bool} {tp tp1 fr1 ff1 : Nat} {gs1 : List aSg} {vs : List aV} {Q : Nat → Nat} (hO : LsOk B lgs rs) (hu : ∀ b ∈ lgs, us b = true) (hO1 : LsOk B lgs1 rs) (hF : FrW c1 lgs1 fr1 ff1 wr1 tp1 gs1) (hfl : gs1.flatMap flG = mvX c blk Q 0 vs) (hR : ∀ v ∈ vs, RecX c lgs wr tp v) (hT : ∀ q, TlU us lgs wr tp q → TlU us1 lgs1 wr1 tp1 q ∧ c1 q = c q) (hQ : ∀ j v, vs[j]? = some v → inB blk v = true → Q j / 2048 ∈ lgs2) (hN : ∀ v ∈ vs, v.2.2.2.1 ≠ none → ¬ inB blk v = true → v.2.2.1 / 2048 ∈ lgs2) (hlast : ∀ x, wr1 = true → lgs2[lgs2.length - 1]? = some x → lgs1[lgs1.length - 1]? = some x) (hk : ∀ v ∈ vs, KeyW v) : ∀ j v, vs[j]? = some v → RecX c1 lgs2 wr1 tp1 (mvV blk Q j v) ∧ (v.2.2.2.1 ≠ none → valB c1 (mvV blk Q j v) = valB c v) := fun j v hv => by
  have hvm := List.mem_of_getElem? hv
  by_cases hb : inB blk v = true
  · have hb2 := hb
    unfold inB at hb2
    rw [decide_eq_true_iff] at hb2
    have q2 := hQ j v hv hb
    have hx := mvX_mem (c := c) (Q := Q) (i := 0) hv hb
    rw [Nat.zero_add, ← hfl] at hx
    obtain ⟨r1, r2, r3, r4, r5⟩ := hF.rec hO1 hx
    cases hn : v.2.2.2.1 with
    | none => exact absurd hn hb2.1
    | some n =>
      have hvl : (valB c v).length = n := valB_len hn
      have hel : (encL (mvR c v)).length = 9 + v.1.length + n := by rw [encL_len]; show 9 + v.1.length + (valB c v).length = _; rw [hvl]
      have r1 : sl c1 (Q j) (encL (mvR c v)).length = encL (mvR c v) := r1
      obtain ⟨-, -, -, -, -, p6, -⟩ := encL_parts r1
      have p6 : sl c1 (Q j + 8 + v.1.length) (valB c v).length = valB c v := p6
      rw [hvl] at p6
      have hmv : mvV blk Q j v = (v.1, v.2.1, Q j, v.2.2.2.1, true) := if_pos hb
      have hval : valB c1 (mvV blk Q j v) = valB c v := by
        rw [hmv]
        show sl c1 (Q j + 8 + v.1.length) (v.2.2.2.1.getD 0) = valB c v
        rw [hn]
        exact p6
      have r3 : Q j % 2048 + (encL (mvR c v)).length ≤ 2048 := r3
      have r4 : Q j / 2048 ∈ lgs1 := r4
      refine ⟨⟨fun m hm => ?_, fun e m hm hl => ?_⟩, fun _ => hval⟩
      · rw [hval]
        rw [hmv] at hm ⊢
        have hm : v.2.2.2.1 = some m := hm
        have hmn : m = n := by rw [hn] at hm; exact (Option.some.inj hm).symm
        rw [hmn]
        refine ⟨⟨4, Or.inr rfl, ?_⟩, ?_, q2⟩
        · show sl c1 (Q j) (9 + v.1.length + n) = encL (4, v.1, n, v.2.1, valB c v)
          rw [← hel, r1]
          unfold mvR
          rw [hn]
          rfl
        · show Q j % 2048 + 9 + v.1.length + n ≤ 2048
          omega
      · rw [hmv] at hm hl ⊢
        have hm : v.2.2.2.1 = some m := hm
        have hmn : m = n := by rw [hn] at hm; exact (Option.some.inj hm).symm
        have r5 : Q j % 2048 + (encL (mvR c v)).length ≤ tp1 := r5 e (hlast _ e hl)
        show Q j % 2048 + 9 + v.1.length + m ≤ tp1
        omega
  · have hmv : mvV blk Q j v = v := if_neg hb
    rw [hmv]
    have hX := hR v hvm
    obtain ⟨g1, g2⟩ := hX.1.far2 (c' := c1) (lgs' := lgs2) (v' := v) rfl rfl rfl rfl (fun n hn q q1 q2 => (hT q (hX.tlu hO hu hn q q1 q2)).2) (fun e => hN v hvm e hb)
    refine ⟨⟨g1, fun e n hn hl => ?_⟩, g2⟩
    have hkv := (hk v hvm).1
    obtain ⟨-, a2, -⟩ := hX.1 n hn
    have htl := (hT (v.2.2.1 + (9 + v.1.length + n) - 1) (hX.tlu hO hu hn _ (by omega) (by omega))).1.2.2
    have hq : (v.2.2.1 + (9 + v.1.length + n) - 1) / 2048 = v.2.2.1 / 2048 := by omega
    rw [hq] at htl
    have : ¬ tp1 ≤ (v.2.2.1 + (9 + v.1.length + n) - 1) % 2048 := fun e3 => htl ⟨e, hlast _ e hl, e3⟩
    omega
theorem frL_more {B : Nat} {rs : List aR} : ∀ {l lgs : List Nat}, LsOk B (lgs ++ l) rs → frL B (lgs ++ l) rs + l.length = frL B lgs rs
  | [], lgs, _ => by rw [List.append_nil]; rfl
  | b :: l, lgs, h => by
    have e : lgs ++ b :: l = (lgs ++ [b]) ++ l := by rw [List.append_assoc]; rfl
    rw [e] at h ⊢
    have h1 := frL_more (l := l) (lgs := lgs ++ [b]) h
    have hbm := h.1 b (List.mem_append.mpr (Or.inl (List.mem_append.mpr (Or.inr (List.mem_singleton.mpr rfl)))))
    have hu : usedB lgs rs b = false := by
      cases e2 : usedB lgs rs b with
      | false => rfl
      | true =>
        exfalso
        have hnd := h.2.2
        rw [List.append_assoc, List.append_assoc] at hnd
        obtain ⟨n1, n2, n3⟩ := List.nodup_append.mp hnd
        rcases usedB_iff.mp e2 with e3 | e3 | ⟨x, hx, e3⟩
        · omega
        · exact n3 b e3 b (List.mem_append.mpr (Or.inl (List.mem_singleton.mpr rfl))) rfl
        · exact (List.nodup_append.mp n2).2.2 b (List.mem_singleton.mpr rfl) b (List.mem_append.mpr (Or.inr (List.mem_flatMap.mpr ⟨x, hx, e3⟩))) rfl
    have h2 := frL_app hbm.2 hu
    rw [List.length_cons]
    omega
theorem usedLt {B b : Nat} {lgs : List Nat} {rs : List aR} (hO : LsOk B lgs rs) (h : usedB lgs rs b = true) (hB : 3 ≤ B) : b < B := by
  rcases usedB_iff.mp h with e | e | ⟨x, hx, e⟩
  · omega
  · exact (hO.1 b e).2
  · exact ((hO.2.1 x hx).2.2.2 b e).2
set_option maxRecDepth 20000 in
theorem cl_tail {sc : Nat × (Nat → Int32)} {d N P pr K T : Nat} {H : aH} {B bb S : Nat} {op : Nat → Bool} {sm : Nat → Nat} {lgs : List Nat} {fr ff : Nat} {wr : Bool} {tp : Nat} {rs : List aR} {us : Nat → Bool} {c : Nat → Int8} {P1 : Nat} {gs : List aSg} {vs : List aV} (h : UpS H B N bb S op sm lgs fr ff wr tp rs us c P1 gs vs) (hgs : gs.flatMap flG = []) (hna : ∀ v ∈ vs, v.2.2.2.2 = false) (hsm : ∀ t, t < 8 → sm t < 2 ^ 31) (hpr : ∀ v ∈ vs, v.2.1 ≤ pr) (hpr31 : ∀ v ∈ vs, v.2.1 < 2 ^ 30) (hB : B ≤ 128) (hB1 : 3 ≤ B) (hbb : bb % 2 ^ 32 < 2 ^ 31) (hP : P < 2 ^ 31) (hrl : rs.length < 24) (hvE : ∀ v ∈ vs, v.2.2.1 < 2 ^ 24 ∧ v.2.2.2.1.getD 0 ≤ 2048) (hkey : ∀ v ∈ vs, KeyW v) (hld : ∀ b, ldN vs b < 2 ^ 31) (hvl : vs.length < 65536) (hK : ∀ i blk, ltF (fun i => ldN vs (lgs.getD i 0)) (fun _ => true) lgs.length = some i → lgs[i]? = some blk → (∀ w, opnN w tp (mvS (some blk) vs) ≤ K) ∧ mvB (some blk) vs ≤ 2048 * T) (hKT : K + T ≤ frL B lgs rs) (hT64 : T ≤ 64) (hlK : lgs.length + K ≤ B) (hlen : 13 + (lgs.length + K) + (8 + T) + (rs.flatMap encR).length ≤ 2043) (hS : S + 1 < 2 ^ 31) : RQ sc (d + 6) mr_140 19 [(0, .ref 191), (1, .int (nI P))] [] H 0 0 (EQ (fun H' => ((lgs = [] ∧ UpS H' B N bb S op sm lgs fr ff wr tp rs us c P1 gs vs) ∨ (∃ i blk Q lgs1 l1 wr1 tp1 x c' us' gs', ltF (fun i => ldN vs (lgs.getD i 0)) (fun _ => true) lgs.length = some i ∧ lgs[i]? = some blk ∧ lgs1 = lgs ++ l1 ∧ l1.length ≤ K ∧ RunOk c' B x (aloneE (mvL (some blk) Q 0 vs)) ∧ x.1 = 0 ∧ x.2.2.2.length * 2048 < mvB (some blk) vs + 2048 ∧ UpS H' B N bb (S + 1) op sm (lgs1.eraseIdx i) (if wr1 then 1 else 0) (if wr1 then tp1 else 0) wr1 tp1 ((if 0 < x.2.1 then [x] else []) ++ rs) us' c' P gs' (((mvL (some blk) Q 0 vs).map toldV).filter (keepS op sm pr (kmV ((mvL (some blk) Q 0 vs).map toldV)))) ∧ gs'.flatMap flG = [] ∧ (∀ q, Tl lgs rs wr tp q → c' q = c q) ∧ (∀ j v, vs[j]? = some v → v.2.2.2.1 ≠ none → valB c' (mvV (some blk) Q j v) = valB c v))) ∧ FrU H H') (fun H' => (∃ c' gs0, DnS H' B N bb S op sm c' P1 fr ff lgs rs gs0 ∧ (∀ x ∈ gs0.flatMap flG, x.2.1 = 4) ∧ ∀ q, Tl lgs rs wr tp q → c' q = c q) ∧ FrU H H')) := by
  have h0 := h
  obtain ⟨hD, hO, hus, hF, htp, hff, hV, hR, hsi, hA⟩ := h
  obtain ⟨A1, ⟨lm, bf, A2, A3⟩, A4, A5, ⟨ldf, A6⟩, A7, A8, A9, A10⟩ := id hA
  obtain ⟨tf, pq, ms, mt, sq, tu, hL, -⟩ := id hD
  obtain ⟨lg0, pi0, hY0, -⟩ := id hL
  have hlB : lgs.length ≤ 128 := by omega
  have hPl : PlB B vs := fun v hv hne => by
    cases hn : v.2.2.2.1 with
    | none => exact absurd hn hne
    | some n => exact (hO.1 _ ((hR v hv).1 n hn).2.2).2
  refine RQ.blk 1 (pc' := 20) (lv' := [(0, .ref 191), (1, .int (nI P))]) (st' := [.ref 191]) (H' := _) (kc' := 0) (ks' := 0) rfl ?_
  refine RQ.get (ci := 4) rfl A1 rfl rfl ?_
  refine RQ.get (ci := 3) rfl hY0.1 rfl rfl ?_
  by_cases hl0 : lgs.length = 0
  · refine RQ.brF rfl rfl rfl (cF_ne lgs.length 0) ?_
    exact RQ.done (c := 0) (s := 0) rfl rfl rfl rfl (Or.inl ⟨_, rfl, Or.inl ⟨List.length_eq_zero_iff.mp hl0, h0⟩, FrU.rfl'⟩)
  · refine RQ.brT rfl rfl rfl (cT_ne lgs.length 0) ?_
    refine RQ.blk 1 (pc' := 31) (lv' := [(0, .ref 191), (1, .int (nI P))]) (st' := [.ref 191]) (H' := _) (kc' := 0) (ks' := 0) rfl ?_
    refine RQ.callN (st' := []) rfl rfl rfl rfl rfl rfl (args_v [] [] rfl rfl (Nat.le_of_ble_eq_true rfl) rfl A1 (Nat.le_of_ble_eq_true rfl)) (rn_weigh hV A1 A6 hB hPl) (fun H1 hx => ?_)
    obtain ⟨g, rfl, hg⟩ := hx
    have fG : ∀ a, a ≠ 194 → (H.set 194 (kI B g))[a]? = H[a]? := fun a a1 => set_far a1
    have hl1 : (H.set 194 (kI B g))[194]? = some (kI B g) := get_set A6
    have hA1 : AuxA (H.set 194 (kI B g)) B N := ⟨(fG 190 (by decide)).trans A1, ⟨lm, bf, A2, (fG 136 (by decide)).trans A3⟩, A4.imp (fun g hg => (fG 192 (by decide)).trans hg), A5.imp (fun g hg => (fG 193 (by decide)).trans hg), ⟨g, hl1⟩, A7.imp (fun g hg => ⟨(fG 137 (by decide)).trans hg.1, hg.2⟩), A8.far (fun a a1 a2 => fG a (by omega)), A9.far (fG 138 (by decide)) (fG 139 (by decide)), A10.imp (fun g hg => (fG 141 (by decide)).trans hg)⟩
    have fU1 : FrU H (H.set 194 (kI B g)) := fun a ha => fG a (by omega)
    have hD1 := hD.far (H' := (H.set 194 (kI B g))) (fun a ha => fG a (by omega))
    have hV1 := hV.far (H' := (H.set 194 (kI B g))) (fun a a1 a2 => fG a (by omega))
    have hsi1 := hsi.frU fU1
    generalize (H.set 194 (kI B g)) = H1 at fG hl1 hA1 fU1 hD1 hV1 hsi1 ⊢
    obtain ⟨B1, ⟨lm1, bf1, B2, B3⟩, B4, B5, -, B7, B8, B9, B10⟩ := id hA1
    obtain ⟨tf1, pq1, ms1, mt1, sq1, tu1, hL1, -⟩ := id hD1
    obtain ⟨lg, pi, hY, hlg, hlc, -⟩ := id hL1
    refine RQ.blk 1 (pc' := 35) (lv' := [(0, .ref 191), (1, .int (nI P))]) (st' := [.ref 191]) (H' := _) (kc' := 0) (ks' := 0) rfl ?_
    refine RQ.callI (st' := []) rfl rfl rfl rfl rfl rfl (args_v [] [] rfl rfl (Nat.le_of_ble_eq_true rfl) rfl B1 (Nat.le_of_ble_eq_true rfl)) (ri_lightest hL1 hB B1 hl1 hg (fun x hx => (hO.1 x hx).2) hld (by omega)) (fun y H1x hx => ?_)
    obtain ⟨eH, i, ey, hmi⟩ := hx
    rw [eH, ey]
    obtain ⟨hil, -, -⟩ := ltF_lt hmi
    obtain ⟨blk, hi⟩ := lt_get hil
    have hKi := hK i blk hmi hi
    have hbB := hO.1 blk (List.mem_of_getElem? hi)
    refine RQ.blk 2 (pc' := 40) (lv' := [(2, .int (nI i)), (0, .ref 191), (1, .int (nI P))]) (st' := [.ref 191]) (H' := _) (kc' := 0) (ks' := 0) rfl ?_
    refine RQ.get (ci := 4) rfl B1 rfl rfl ?_
    refine RQ.blk 1 (pc' := 44) (lv' := [(2, .int (nI i)), (0, .ref 191), (1, .int (nI P))]) (st' := [.int (nI i), .ref 84]) (H' := _) (kc' := 0) (ks' := 0) rfl ?_
    refine RQ.call (v := some (.int (if wr = true ∧ i = lgs.length - 1 then 1 else 0))) (st' := []) rfl rfl rfl rfl rfl rfl (args_v [.int (nI i)] [] rfl rfl (Nat.le_of_ble_eq_true rfl) rfl hY.1 (Nat.le_of_ble_eq_true rfl)) (rc_isWriting hY hB (by omega) hlc (by omega)) ?_
    by_cases hwr : wr = true ∧ i = lgs.length - 1
    · rw [if_pos hwr]
      refine RQ.brF rfl rfl rfl (by decide) ?_
      refine RQ.blk 1 (pc' := 51) (lv' := [(2, .int (nI i)), (0, .ref 191), (1, .int (nI P))]) (st' := [.ref 191]) (H' := _) (kc' := 0) (ks' := 0) rfl ?_
      refine RQ.get (ci := 4) rfl B1 rfl rfl ?_
      obtain ⟨lg2, ms2, mt2, sq2, tu2, hY2, hD2⟩ := hD1.seal
      refine RQ.call (v := none) (st' := []) rfl rfl rfl rfl rfl rfl (args_v [] [] rfl rfl (Nat.le_of_ble_eq_true rfl) rfl hY.1 (Nat.le_of_ble_eq_true rfl)) (rc_seal hY2 hB) ?_
      have fG2 : ∀ a, a ≠ 83 → (H1.set 83 (kO 3 (layF B lgs.length 0 ff false tp rs.length ms2 mt2 sq2 tu2 0 0)))[a]? = H1[a]? := fun a a1 => set_far a1
      generalize (H1.set 83 (kO 3 (layF B lgs.length 0 ff false tp rs.length ms2 mt2 sq2 tu2 0 0))) = H2 at hD2 fG2 ⊢
      have hl2 := (fG2 194 (by decide)).trans hl1
      have hA2 : AuxA H2 B N := hA1.far (fun a a1 a2 a3 a4 => fG2 a (by omega))
      have fU2 : FrU H H2 := fun a ha => (fG2 a (by omega)).trans (fU1 a ha)
      have hV2 := hV1.far (H' := H2) (fun a a1 a2 => fG2 a (by omega))
      have hsi2 := hsi.frU fU2
      obtain ⟨C1, -⟩ := id hA2
      obtain ⟨tf2, pq2, ms3, mt3, sq3, tu3, hL2, -⟩ := id hD2
      obtain ⟨lg3, pi3, hY3, hlg3, hlc3, -⟩ := id hL2
      refine RQ.blk 2 (pc' := 59) (lv' := [(2, .int (nI i)), (0, .ref 191), (1, .int (nI P))]) (st' := [.ref 191, .ref 191]) (H' := _) (kc' := 0) (ks' := 0) rfl ?_
      refine RQ.get (ci := 4) rfl C1 rfl rfl ?_
      refine RQ.get (ci := 3) rfl hY3.1 rfl rfl ?_
      refine RQ.blk 1 (pc' := 66) (lv' := [(2, .int (nI i)), (0, .ref 191), (1, .int (nI P))]) (st' := [.int (nI i), .ref 88, .ref 191]) (H' := _) (kc' := 0) (ks' := 0) rfl ?_
      refine RQ.ialdN (j := i) rfl hY3.2.2 (by omega) (by omega) ?_
      rw [hlg3 i blk hi]
      refine RQ.blk 2 (pc' := 69) (lv' := [(2, .int (nI i)), (0, .ref 191), (1, .int (nI P))]) (st' := [.int (nI i), .ref 191, .int (nI blk), .ref 191]) (H' := _) (kc' := 0) (ks' := 0) rfl ?_
      refine RQ.call (v := some (.int (g blk))) (st' := [.int (nI blk), .ref 191]) rfl rfl rfl rfl rfl rfl (args_v [.int (nI i)] [.int (nI blk), .ref 191] rfl rfl (Nat.le_of_ble_eq_true rfl) rfl C1 (Nat.le_of_ble_eq_true rfl)) (rc_loadOf hL2 hB C1 hl2 hi hbB.2) ?_
      rw [hg blk hbB.2]
      have hub : ∀ b, b < B → us b = false → usedB lgs rs b = false ∧ usedB lgs rs b = false := fun b hb e => by rw [← hus b hb]; exact ⟨e, e⟩
      have hopK : opnN false tp (mvS (some blk) vs) ≤ K := hKi.1 false
      have hfr0 : freeN us B = frL B lgs rs := freeN_congr hus
      have hI : MvI H2 B bb S rs (mvS (some blk) vs) lgs 0 ff false tp us c [] P1 fr ff lgs rs [] True := ⟨hD2, hO, hO, hub, ⟨⟨rfl, Nat.zero_le _, by rw [Nat.sub_zero, List.drop_length]; rfl, fun i s hs => absurd (get_lt hs) (Nat.not_lt_zero _), fun s hs => absurd hs List.not_mem_nil⟩, fun e => Bool.noConfusion e⟩, ⟨gs, [], hF.1, by rw [hgs]; rfl, fun x hx => absurd hx List.not_mem_nil, Or.inl rfl, fun e => Bool.noConfusion e⟩, htp, hff, hff, by omega, by omega⟩
      have hRf : ∀ v ∈ vs, RecX c lgs false tp v := fun v hv => ⟨(hR v hv).1, fun e => Bool.noConfusion e⟩
      have hTl0 : ∀ q, Tl lgs rs wr tp q → TlU us lgs false tp q := fun q hq => ⟨hq.1, by rw [hus _ (usedLt hO hq.2.1 hB1)]; exact hq.2.1, fun e => Bool.noConfusion e.1⟩
      have hbw : false = true → ¬ lgs[lgs.length - 1]? = some blk := fun e => Bool.noConfusion e
      have huL : ∀ b ∈ lgs, us b = true := fun b hb => by rw [hus b (hO.1 b hb).2]; exact usedB_iff.mpr (Or.inr (Or.inl hb))
      refine RQ.callT (st' := []) rfl rfl rfl rfl rfl rfl (args_v [.int (nI (ldN vs blk)), .int (nI blk)] [] rfl rfl (Nat.le_of_ble_eq_true rfl) rfl C1 (Nat.le_of_ble_eq_true rfl)) (re_moveOut (d := d + 1) (mp := 0) (hv := 0) (blk := some blk) (due := ldN vs blk) hV2 hI hRf (Or.inr ⟨blk, rfl, rfl, by omega⟩) (mv_due vs hkey) (hld blk) C1 hB hB1 hbb) rfl (fun H3 hx3 => ?_) (fun H9 hbad => Or.inr (by obtain ⟨⟨vs9, hV9⟩, ⟨c9, gs9, xs9, z0, z1, z2, z3, z4, z5, -, z6⟩, f9⟩ := hbad; exact ⟨_, rfl, ⟨c9, gs9, ⟨z1, z2, z3, z0, ⟨_, hV9⟩, hsi.frU (fun a ha => (f9 a (by omega) (by omega)).trans (fU2 a ha)), (hA2).far (fun a a1 a2 a3 a4 => f9 a (by omega) a4)⟩, fun x hx => z5 x (by rw [z4, List.nil_append] at hx; exact hx), fun q hq => z6 q (hTl0 q hq)⟩, fun a ha => (f9 a (by omega) (by omega)).trans (fU2 a ha)⟩))
      obtain ⟨Q, lgs1, l1, fr1, ff1, wr1, tp1, us1, c1, gs1, hV3, hQ, hbw3, hS3, f3⟩ := hx3
      have hG3 := (f3 190 (by decide) (by decide)).trans C1
      obtain ⟨⟨hD3, hO3, -, hU3, hF3, ⟨gs0, xs0, hF0, hfl0, hx40, -⟩, htp3, -⟩, hl3, hM3, hfl3, hT3, hfre, hmon⟩ := id hS3
      have hfl3 : gs1.flatMap flG = mvX c (some blk) Q 0 vs := by rw [hfl3, show List.flatMap flG [] = [] from rfl]; exact List.nil_append _
      have hi3 : lgs1[i]? = some blk := by rw [hl3, List.getElem?_append_left hil]; exact hi
      have hil3 := get_lt hi3
      have hll : lgs1.length = lgs.length + l1.length := by rw [hl3, List.length_append]
      have hM3 : l1.length = opnN false tp (mvS (some blk) vs) := hM3
      have hnl : ¬ blk ∈ l1 := fun e => by
        have hd := hO3.logs
        rw [hl3] at hd
        exact (List.nodup_append.mp hd).2.2 blk (List.mem_of_getElem? hi) blk e rfl
      have hne : ∀ x, (x ∈ l1 ∨ (false = true ∧ lgs[lgs.length - 1]? = some x)) → ¬ x = blk := fun x hx e => by
        rw [e] at hx
        rcases hx with hx | hx
        · exact hnl hx
        · exact hbw hx.1 hx.2
      have hin1 : ∀ x, (x ∈ l1 ∨ (false = true ∧ lgs[lgs.length - 1]? = some x)) → x ∈ lgs1 := fun x hx => by
        rw [hl3]
        rcases hx with hx | hx
        · exact List.mem_append.mpr (Or.inr hx)
        · exact List.mem_append.mpr (Or.inl (List.mem_of_getElem? hx.2))
      have hw3 : wr1 = true → i + 1 < lgs1.length := fun e => by
        have : ¬ i = lgs1.length - 1 := fun e2 => hne blk (hbw3 e blk (by rw [← e2]; exact hi3)) rfl
        omega
      have hlast : ∀ x, wr1 = true → (lgs1.eraseIdx i)[(lgs1.eraseIdx i).length - 1]? = some x → lgs1[lgs1.length - 1]? = some x := fun x e1 e2 => by
        have hi2 := hw3 e1
        obtain ⟨y, hy⟩ := lt_get (l := lgs1) (i := lgs1.length - 1) (by omega)
        rw [last_erase hi2 hy] at e2
        rw [hy, Option.some.inj e2]
      have hrec := mv_recs (lgs2 := lgs1.eraseIdx i) hO huL hO3 hF3 hfl3 hRf hT3 (fun j v hv hb => mem_erase_ne hi3 (hin1 _ (hQ j v hv hb).2) (hne _ (hQ j v hv hb).2)) (fun v hv e hb => by
        cases hn : v.2.2.2.1 with
        | none => exact absurd hn e
        | some n => exact mem_erase_ne hi3 (by rw [hl3]; exact List.mem_append.mpr (Or.inl ((hR v hv).1 n hn).2.2)) (fun e2 => hb (inB_some.mpr ⟨e, e2⟩))) hlast hkey
      have hA3 : AuxA H3 B N := (hA2).far (fun a a1 a2 a3 a4 => f3 a (by omega) a4)
      have fU3 : FrU H H3 := fun a ha => (f3 a (by omega) (by omega)).trans (fU2 a ha)
      obtain ⟨lg4, ms4, mt4, sq4, tu4, hY4, hlc4, hD5⟩ := hD3.drop hil3 hw3
      refine RQ.blk 1 (pc' := 76) (lv' := [(2, .int (nI i)), (0, .ref 191), (1, .int (nI P))]) (st' := [.ref 191]) (H' := _) (kc' := 0) (ks' := 0) rfl ?_
      refine RQ.get (ci := 4) rfl hG3 rfl rfl ?_
      refine RQ.blk 1 (pc' := 80) (lv' := [(2, .int (nI i)), (0, .ref 191), (1, .int (nI P))]) (st' := [.int (nI i), .ref 84]) (H' := _) (kc' := 0) (ks' := 0) rfl ?_
      refine RQ.call (v := none) (st' := []) rfl rfl rfl rfl rfl rfl (args_v [.int (nI i)] [] rfl rfl (Nat.le_of_ble_eq_true rfl) rfl hY4.1 (Nat.le_of_ble_eq_true rfl)) (rc_dropLog hY4 hB hil3 hlc4) ?_
      have f5 : ∀ a, a ≠ 83 → a ≠ 87 → ((H3.set 87 (kI B (cpyI (fun j => nI (lg4 j)) (i + 1) (fun j => nI (lg4 j)) i (lgs1.length - 1 - i)))).set 83 (kO 3 (layF B (lgs1.length - 1) fr1 ff1 wr1 tp1 rs.length ms4 mt4 sq4 tu4 0 0)))[a]? = H3[a]? := fun a a1 a2 => (set_far a1).trans (set_far a2)
      generalize ((H3.set 87 (kI B (cpyI (fun j => nI (lg4 j)) (i + 1) (fun j => nI (lg4 j)) i (lgs1.length - 1 - i)))).set 83 (kO 3 (layF B (lgs1.length - 1) fr1 ff1 wr1 tp1 rs.length ms4 mt4 sq4 tu4 0 0))) = H5 at f5 hD5 ⊢
      have hG5 := (f5 190 (by decide) (by decide)).trans hG3
      have hA5 : AuxA H5 B N := hA3.far (fun a a1 a2 a3 a4 => f5 a (by omega) (by omega))
      have fU5 : FrU H H5 := fun a ha => (f5 a (by omega) (by omega)).trans (fU3 a ha)
      have hV5 := hV3.far (H' := H5) (fun a a1 a2 => f5 a (by omega) (by omega))
      have hR5 : ∀ v ∈ mvL (some blk) Q 0 vs, RecX c1 (lgs1.eraseIdx i) wr1 tp1 v := fun w hw => by
        obtain ⟨j, v, hv, e⟩ := mem_mvL hw
        rw [e]
        exact (hrec j v hv).1
      have hpr5 : ∀ v ∈ mvL (some blk) Q 0 vs, v.2.1 ≤ pr := fun w hw => by
        obtain ⟨j, v, hv, e⟩ := mem_mvL hw
        rw [e]
        unfold mvV
        split <;> exact hpr v (List.mem_of_getElem? hv)
      have hvE5 : ∀ v ∈ mvL (some blk) Q 0 vs, v.2.2.1 < 2 ^ 24 ∧ v.2.2.2.1.getD 0 ≤ 2048 := fun w hw => by
        obtain ⟨j, v, hv, e⟩ := mem_mvL hw
        rw [e]
        unfold mvV
        split
        · rename_i hb
          have := (hQ j v hv hb).1
          exact ⟨by show Q j < 2 ^ 24; omega, (hvE v (List.mem_of_getElem? hv)).2⟩
        · exact hvE v (List.mem_of_getElem? hv)
      obtain ⟨hal1, hal2⟩ := mv_alone (blk := some blk) (Q := Q) vs 0 hna
      have hmb := hKi.2
      have hW5 : wr1 = true → ∃ b, (lgs1.eraseIdx i)[(lgs1.eraseIdx i).length - 1]? = some b ∧ Ers c1 (b * 2048 + tp1) (b * 2048 + 2048) := fun e => by
        obtain ⟨b, b1, b2⟩ := hF3.wrt e
        exact ⟨b, last_erase (hw3 e) b1, b2⟩
      have hel : (lgs1.eraseIdx i).length = lgs1.length - 1 := List.length_eraseIdx_of_lt hil3
      have htb : ∃ tfs, H5[136]? = some (kO 8 tfs) := by obtain ⟨-, ⟨_, _, _, e⟩, -⟩ := hA5; exact ⟨_, e⟩
      obtain ⟨tfs, htb⟩ := htb
      refine RQ.blk 1 (pc' := 84) (lv' := [(2, .int (nI i)), (0, .ref 191), (1, .int (nI P))]) (st' := [.ref 191]) (H' := _) (kc' := 0) (ks' := 0) rfl ?_
      refine RQ.get (ci := 4) rfl hG5 rfl rfl ?_
      refine RQ.blk 2 (pc' := 89) (lv' := [(2, .int (nI i)), (0, .ref 191), (1, .int (nI P))]) (st' := [.int (nI P), .int 0, .ref 137]) (H' := _) (kc' := 0) (ks' := 0) rfl ?_
      refine RQ.callT (st' := []) rfl rfl rfl rfl rfl rfl (args_v [.int (nI P), .int 0] [] rfl rfl (Nat.le_of_ble_eq_true rfl) rfl htb (Nat.le_of_ble_eq_true rfl)) (re_spillG (d := d + 1) (pr := pr) (gs0 := gs0) hD5 hO3.erase hO (fun b hb e => usedB_erase (hU3 b hb e).1) (fun b hb e => (hU3 b hb e).2) hF0 hff hW5 htp3 hV5 hR5 (hsi.frU fU5) hsm hpr5 hA5 hB hB1 hbb hS hP hrl hvE5 (by rw [hal1]; omega) (by rw [hal1]; omega) (by omega) (fun k hk => by rw [hal1] at hk; rw [hel]; omega)) rfl (fun H6 hx6 => ?_) (fun H9 hbad => Or.inr (by obtain ⟨c', z1, z2, z3⟩ := hbad; exact ⟨_, rfl, ⟨c', gs0, z1, fun x hx => hx40 x (by rw [hfl0, List.nil_append] at hx; exact hx), fun q hq => (z2 q hq.1 (hT3 q (hTl0 q hq)).1.2.1).trans (hT3 q (hTl0 q hq)).2⟩, fU5.trans z3⟩))
      obtain ⟨x, c6, us6, gs6, w1, w2, w3, w4, w5, w6, w7⟩ := hx6
      have hval6 : ∀ j v, vs[j]? = some v → v.2.2.2.1 ≠ none → valB c6 (mvV (some blk) Q j v) = valB c v := fun j v hv hne => by
        rw [← (hrec j v hv).2 hne]
        have hX := (hrec j v hv).1
        have hln : (mvV (some blk) Q j v).2.2.2.1 ≠ none := by unfold mvV; split <;> exact hne
        refine (hX.1.far2 (c' := c6) (lgs' := lgs1.eraseIdx i) (v' := mvV (some blk) Q j v) rfl rfl rfl rfl (fun n hn q q1 q2 => ?_) (fun e => ?_)).2 hln
        · have hin := (hX.1 n hn).2
          have hbm := hO3.erase.1 _ hin.2
          have hqd : q / 2048 = (mvV (some blk) Q j v).2.2.1 / 2048 := by omega
          exact w6 q (by omega) (by rw [hqd]; exact used_us hU3 hbm.2 (Or.inl (usedB_iff.mpr (Or.inr (Or.inl ((List.eraseIdx_sublist _ _).subset hin.2))))))
        · cases hn : (mvV (some blk) Q j v).2.2.2.1 with
          | none => exact absurd hn e
          | some n => exact (hX.1 n hn).2.2
      exact RQ.done (c := 0) (s := 0) rfl rfl rfl rfl (Or.inl ⟨_, rfl, Or.inr ⟨i, blk, Q, lgs1, l1, wr1, tp1, x, c6, us6, gs6, hmi, hi, hl3, by omega, w1, w2, by rw [← hal1]; exact w3, w4, w5, fun q hq => (w6 q hq.1 (hT3 q (hTl0 q hq)).1.2.1).trans (hT3 q (hTl0 q hq)).2, hval6⟩, fU5.trans w7⟩)
    · rw [if_neg hwr]
      refine RQ.brT rfl rfl rfl (by decide) ?_
      refine RQ.blk 2 (pc' := 59) (lv' := [(2, .int (nI i)), (0, .ref 191), (1, .int (nI P))]) (st' := [.ref 191, .ref 191]) (H' := _) (kc' := 0) (ks' := 0) rfl ?_
      refine RQ.get (ci := 4) rfl B1 rfl rfl ?_
      refine RQ.get (ci := 3) rfl hY.1 rfl rfl ?_
      refine RQ.blk 1 (pc' := 66) (lv' := [(2, .int (nI i)), (0, .ref 191), (1, .int (nI P))]) (st' := [.int (nI i), .ref 88, .ref 191]) (H' := _) (kc' := 0) (ks' := 0) rfl ?_
      refine RQ.ialdN (j := i) rfl hY.2.2 (by omega) (by omega) ?_
      rw [hlg i blk hi]
      refine RQ.blk 2 (pc' := 69) (lv' := [(2, .int (nI i)), (0, .ref 191), (1, .int (nI P))]) (st' := [.int (nI i), .ref 191, .int (nI blk), .ref 191]) (H' := _) (kc' := 0) (ks' := 0) rfl ?_
      refine RQ.call (v := some (.int (g blk))) (st' := [.int (nI blk), .ref 191]) rfl rfl rfl rfl rfl rfl (args_v [.int (nI i)] [.int (nI blk), .ref 191] rfl rfl (Nat.le_of_ble_eq_true rfl) rfl B1 (Nat.le_of_ble_eq_true rfl)) (rc_loadOf hL1 hB B1 hl1 hi hbB.2) ?_
      rw [hg blk hbB.2]
      have hub : ∀ b, b < B → us b = false → usedB lgs rs b = false ∧ usedB lgs rs b = false := fun b hb e => by rw [← hus b hb]; exact ⟨e, e⟩
      have hopK : opnN wr tp (mvS (some blk) vs) ≤ K := hKi.1 wr
      have hfr0 : freeN us B = frL B lgs rs := freeN_congr hus
      have hI : MvI H1 B bb S rs (mvS (some blk) vs) lgs fr ff wr tp us c gs P1 fr ff lgs rs [] True := ⟨hD1, hO, hO, hub, hF, ⟨gs, [], hF.1, by rw [hgs]; rfl, fun x hx => absurd hx List.not_mem_nil, Or.inl rfl, fun _ => Or.inl ⟨trivial, rfl, rfl, rfl, rfl⟩⟩, htp, hff, hff, by omega, by omega⟩
      have hRf := hR
      have hTl0 : ∀ q, Tl lgs rs wr tp q → TlU us lgs wr tp q := fun q hq => ⟨hq.1, by rw [hus _ (usedLt hO hq.2.1 hB1)]; exact hq.2.1, hq.2.2⟩
      have hbw : wr = true → ¬ lgs[lgs.length - 1]? = some blk := fun e e2 => hwr ⟨e, (List.getElem?_inj hil hO.logs).mp (hi.trans e2.symm)⟩
      have huL : ∀ b ∈ lgs, us b = true := fun b hb => by rw [hus b (hO.1 b hb).2]; exact usedB_iff.mpr (Or.inr (Or.inl hb))
      refine RQ.callT (st' := []) rfl rfl rfl rfl rfl rfl (args_v [.int (nI (ldN vs blk)), .int (nI blk)] [] rfl rfl (Nat.le_of_ble_eq_true rfl) rfl B1 (Nat.le_of_ble_eq_true rfl)) (re_moveOut (d := d + 1) (mp := 0) (hv := 0) (blk := some blk) (due := ldN vs blk) hV1 hI hRf (Or.inr ⟨blk, rfl, rfl, by omega⟩) (mv_due vs hkey) (hld blk) B1 hB hB1 hbb) rfl (fun H3 hx3 => ?_) (fun H9 hbad => Or.inr (by obtain ⟨⟨vs9, hV9⟩, ⟨c9, gs9, xs9, z0, z1, z2, z3, z4, z5, -, z6⟩, f9⟩ := hbad; exact ⟨_, rfl, ⟨c9, gs9, ⟨z1, z2, z3, z0, ⟨_, hV9⟩, hsi.frU (fun a ha => (f9 a (by omega) (by omega)).trans (fU1 a ha)), (hA1).far (fun a a1 a2 a3 a4 => f9 a (by omega) a4)⟩, fun x hx => z5 x (by rw [z4, List.nil_append] at hx; exact hx), fun q hq => z6 q (hTl0 q hq)⟩, fun a ha => (f9 a (by omega) (by omega)).trans (fU1 a ha)⟩))
      obtain ⟨Q, lgs1, l1, fr1, ff1, wr1, tp1, us1, c1, gs1, hV3, hQ, hbw3, hS3, f3⟩ := hx3
      have hG3 := (f3 190 (by decide) (by decide)).trans B1
      obtain ⟨⟨hD3, hO3, -, hU3, hF3, ⟨gs0, xs0, hF0, hfl0, hx40, -⟩, htp3, -⟩, hl3, hM3, hfl3, hT3, hfre, hmon⟩ := id hS3
      have hfl3 : gs1.flatMap flG = mvX c (some blk) Q 0 vs := by rw [hfl3, hgs]; exact List.nil_append _
      have hi3 : lgs1[i]? = some blk := by rw [hl3, List.getElem?_append_left hil]; exact hi
      have hil3 := get_lt hi3
      have hll : lgs1.length = lgs.length + l1.length := by rw [hl3, List.length_append]
      have hM3 : l1.length = opnN wr tp (mvS (some blk) vs) := hM3
      have hnl : ¬ blk ∈ l1 := fun e => by
        have hd := hO3.logs
        rw [hl3] at hd
        exact (List.nodup_append.mp hd).2.2 blk (List.mem_of_getElem? hi) blk e rfl
      have hne : ∀ x, (x ∈ l1 ∨ (wr = true ∧ lgs[lgs.length - 1]? = some x)) → ¬ x = blk := fun x hx e => by
        rw [e] at hx
        rcases hx with hx | hx
        · exact hnl hx
        · exact hbw hx.1 hx.2
      have hin1 : ∀ x, (x ∈ l1 ∨ (wr = true ∧ lgs[lgs.length - 1]? = some x)) → x ∈ lgs1 := fun x hx => by
        rw [hl3]
        rcases hx with hx | hx
        · exact List.mem_append.mpr (Or.inr hx)
        · exact List.mem_append.mpr (Or.inl (List.mem_of_getElem? hx.2))
      have hw3 : wr1 = true → i + 1 < lgs1.length := fun e => by
        have : ¬ i = lgs1.length - 1 := fun e2 => hne blk (hbw3 e blk (by rw [← e2]; exact hi3)) rfl
        omega
      have hlast : ∀ x, wr1 = true → (lgs1.eraseIdx i)[(lgs1.eraseIdx i).length - 1]? = some x → lgs1[lgs1.length - 1]? = some x := fun x e1 e2 => by
        have hi2 := hw3 e1
        obtain ⟨y, hy⟩ := lt_get (l := lgs1) (i := lgs1.length - 1) (by omega)
        rw [last_erase hi2 hy] at e2
        rw [hy, Option.some.inj e2]
      have hrec := mv_recs (lgs2 := lgs1.eraseIdx i) hO huL hO3 hF3 hfl3 hRf hT3 (fun j v hv hb => mem_erase_ne hi3 (hin1 _ (hQ j v hv hb).2) (hne _ (hQ j v hv hb).2)) (fun v hv e hb => by
        cases hn : v.2.2.2.1 with
        | none => exact absurd hn e
        | some n => exact mem_erase_ne hi3 (by rw [hl3]; exact List.mem_append.mpr (Or.inl ((hR v hv).1 n hn).2.2)) (fun e2 => hb (inB_some.mpr ⟨e, e2⟩))) hlast hkey
      have hA3 : AuxA H3 B N := (hA1).far (fun a a1 a2 a3 a4 => f3 a (by omega) a4)
      have fU3 : FrU H H3 := fun a ha => (f3 a (by omega) (by omega)).trans (fU1 a ha)
      obtain ⟨lg4, ms4, mt4, sq4, tu4, hY4, hlc4, hD5⟩ := hD3.drop hil3 hw3
      refine RQ.blk 1 (pc' := 76) (lv' := [(2, .int (nI i)), (0, .ref 191), (1, .int (nI P))]) (st' := [.ref 191]) (H' := _) (kc' := 0) (ks' := 0) rfl ?_
      refine RQ.get (ci := 4) rfl hG3 rfl rfl ?_
      refine RQ.blk 1 (pc' := 80) (lv' := [(2, .int (nI i)), (0, .ref 191), (1, .int (nI P))]) (st' := [.int (nI i), .ref 84]) (H' := _) (kc' := 0) (ks' := 0) rfl ?_
      refine RQ.call (v := none) (st' := []) rfl rfl rfl rfl rfl rfl (args_v [.int (nI i)] [] rfl rfl (Nat.le_of_ble_eq_true rfl) rfl hY4.1 (Nat.le_of_ble_eq_true rfl)) (rc_dropLog hY4 hB hil3 hlc4) ?_
      have f5 : ∀ a, a ≠ 83 → a ≠ 87 → ((H3.set 87 (kI B (cpyI (fun j => nI (lg4 j)) (i + 1) (fun j => nI (lg4 j)) i (lgs1.length - 1 - i)))).set 83 (kO 3 (layF B (lgs1.length - 1) fr1 ff1 wr1 tp1 rs.length ms4 mt4 sq4 tu4 0 0)))[a]? = H3[a]? := fun a a1 a2 => (set_far a1).trans (set_far a2)
      generalize ((H3.set 87 (kI B (cpyI (fun j => nI (lg4 j)) (i + 1) (fun j => nI (lg4 j)) i (lgs1.length - 1 - i)))).set 83 (kO 3 (layF B (lgs1.length - 1) fr1 ff1 wr1 tp1 rs.length ms4 mt4 sq4 tu4 0 0))) = H5 at f5 hD5 ⊢
      have hG5 := (f5 190 (by decide) (by decide)).trans hG3
      have hA5 : AuxA H5 B N := hA3.far (fun a a1 a2 a3 a4 => f5 a (by omega) (by omega))
      have fU5 : FrU H H5 := fun a ha => (f5 a (by omega) (by omega)).trans (fU3 a ha)
      have hV5 := hV3.far (H' := H5) (fun a a1 a2 => f5 a (by omega) (by omega))
      have hR5 : ∀ v ∈ mvL (some blk) Q 0 vs, RecX c1 (lgs1.eraseIdx i) wr1 tp1 v := fun w hw => by
        obtain ⟨j, v, hv, e⟩ := mem_mvL hw
        rw [e]
        exact (hrec j v hv).1
      have hpr5 : ∀ v ∈ mvL (some blk) Q 0 vs, v.2.1 ≤ pr := fun w hw => by
        obtain ⟨j, v, hv, e⟩ := mem_mvL hw
        rw [e]
        unfold mvV
        split <;> exact hpr v (List.mem_of_getElem? hv)
      have hvE5 : ∀ v ∈ mvL (some blk) Q 0 vs, v.2.2.1 < 2 ^ 24 ∧ v.2.2.2.1.getD 0 ≤ 2048 := fun w hw => by
        obtain ⟨j, v, hv, e⟩ := mem_mvL hw
        rw [e]
        unfold mvV
        split
        · rename_i hb
          have := (hQ j v hv hb).1
          exact ⟨by show Q j < 2 ^ 24; omega, (hvE v (List.mem_of_getElem? hv)).2⟩
        · exact hvE v (List.mem_of_getElem? hv)
      obtain ⟨hal1, hal2⟩ := mv_alone (blk := some blk) (Q := Q) vs 0 hna
      have hmb := hKi.2
      have hW5 : wr1 = true → ∃ b, (lgs1.eraseIdx i)[(lgs1.eraseIdx i).length - 1]? = some b ∧ Ers c1 (b * 2048 + tp1) (b * 2048 + 2048) := fun e => by
        obtain ⟨b, b1, b2⟩ := hF3.wrt e
        exact ⟨b, last_erase (hw3 e) b1, b2⟩
      have hel : (lgs1.eraseIdx i).length = lgs1.length - 1 := List.length_eraseIdx_of_lt hil3
      have htb : ∃ tfs, H5[136]? = some (kO 8 tfs) := by obtain ⟨-, ⟨_, _, _, e⟩, -⟩ := hA5; exact ⟨_, e⟩
      obtain ⟨tfs, htb⟩ := htb
      refine RQ.blk 1 (pc' := 84) (lv' := [(2, .int (nI i)), (0, .ref 191), (1, .int (nI P))]) (st' := [.ref 191]) (H' := _) (kc' := 0) (ks' := 0) rfl ?_
      refine RQ.get (ci := 4) rfl hG5 rfl rfl ?_
      refine RQ.blk 2 (pc' := 89) (lv' := [(2, .int (nI i)), (0, .ref 191), (1, .int (nI P))]) (st' := [.int (nI P), .int 0, .ref 137]) (H' := _) (kc' := 0) (ks' := 0) rfl ?_
      refine RQ.callT (st' := []) rfl rfl rfl rfl rfl rfl (args_v [.int (nI P), .int 0] [] rfl rfl (Nat.le_of_ble_eq_true rfl) rfl htb (Nat.le_of_ble_eq_true rfl)) (re_spillG (d := d + 1) (pr := pr) (gs0 := gs0) hD5 hO3.erase hO (fun b hb e => usedB_erase (hU3 b hb e).1) (fun b hb e => (hU3 b hb e).2) hF0 hff hW5 htp3 hV5 hR5 (hsi.frU fU5) hsm hpr5 hA5 hB hB1 hbb hS hP hrl hvE5 (by rw [hal1]; omega) (by rw [hal1]; omega) (by omega) (fun k hk => by rw [hal1] at hk; rw [hel]; omega)) rfl (fun H6 hx6 => ?_) (fun H9 hbad => Or.inr (by obtain ⟨c', z1, z2, z3⟩ := hbad; exact ⟨_, rfl, ⟨c', gs0, z1, fun x hx => hx40 x (by rw [hfl0, List.nil_append] at hx; exact hx), fun q hq => (z2 q hq.1 (hT3 q (hTl0 q hq)).1.2.1).trans (hT3 q (hTl0 q hq)).2⟩, fU5.trans z3⟩))
      obtain ⟨x, c6, us6, gs6, w1, w2, w3, w4, w5, w6, w7⟩ := hx6
      have hval6 : ∀ j v, vs[j]? = some v → v.2.2.2.1 ≠ none → valB c6 (mvV (some blk) Q j v) = valB c v := fun j v hv hne => by
        rw [← (hrec j v hv).2 hne]
        have hX := (hrec j v hv).1
        have hln : (mvV (some blk) Q j v).2.2.2.1 ≠ none := by unfold mvV; split <;> exact hne
        refine (hX.1.far2 (c' := c6) (lgs' := lgs1.eraseIdx i) (v' := mvV (some blk) Q j v) rfl rfl rfl rfl (fun n hn q q1 q2 => ?_) (fun e => ?_)).2 hln
        · have hin := (hX.1 n hn).2
          have hbm := hO3.erase.1 _ hin.2
          have hqd : q / 2048 = (mvV (some blk) Q j v).2.2.1 / 2048 := by omega
          exact w6 q (by omega) (by rw [hqd]; exact used_us hU3 hbm.2 (Or.inl (usedB_iff.mpr (Or.inr (Or.inl ((List.eraseIdx_sublist _ _).subset hin.2))))))
        · cases hn : (mvV (some blk) Q j v).2.2.2.1 with
          | none => exact absurd hn e
          | some n => exact (hX.1 n hn).2.2
      exact RQ.done (c := 0) (s := 0) rfl rfl rfl rfl (Or.inl ⟨_, rfl, Or.inr ⟨i, blk, Q, lgs1, l1, wr1, tp1, x, c6, us6, gs6, hmi, hi, hl3, by omega, w1, w2, by rw [← hal1]; exact w3, w4, w5, fun q hq => (w6 q hq.1 (hT3 q (hTl0 q hq)).1.2.1).trans (hT3 q (hTl0 q hq)).2, hval6⟩, fU5.trans w7⟩)
