/-! ===== rename: the case of the law, from every state of the invariant; written by wip/gen/rename2.py ===== -/
theorem same_up {t : aTr} {kd pa sz nl : Nat → Nat} {nm : Nat → Int8} {c : Nat} (h : SameT t kd pa sz nl nm) (hW : TrW kd pa) (hp : ∀ v, v ≤ 200 → pa v ≤ 200) : ∀ (n x : Nat), x ≤ 200 → ¬ kd x = 0 → upF t.2.1 c n x = upF pa c n x
  | 0, _, _, _ => rfl
  | n + 1, x, hx, hk => by
    rw [upF, upF]
    by_cases e : x = 0 ∨ x = c
    · rw [if_pos e, if_pos e]
    · rw [if_neg e, if_neg e, (h.2.1 x hx hk).1]
      exact same_up h hW hp n (pa x) (hp x hx) (by rw [(hW.2 x (by omega) hx hk).1]; decide)
theorem SameT.mv {t : aTr} {kd pa sz nl : Nat → Nat} {nm tb : Nat → Int8} {r u k n K s : Nat} (h : SameT t kd pa sz nl nm) (hT : TreeOk kd pa sz nl) (hr1 : 1 ≤ r) (hr : r ≤ 200) (hk : ¬ kd r = 0) (hl : n ≤ 30) (hK : K = kd r) (hs : s = sz r) : SameT (setT r K u s n tb k t) kd (va_up pa r u) sz (va_up nl r n) (cpy tb k nm (30 * r) n) := by
  subst hK
  subst hs
  exact h.set hr1 hr hk hl (fun f hf => (hT f hf).2.2.2) (fun f _ => by
    by_cases e : f = r
    · rw [e, up_at]
    · rw [up_ne e]) (fun _ _ => rfl) (fun f _ => by
    by_cases e : f = r
    · rw [e, up_at]
    · rw [up_ne e]) (fun _ _ => rfl) (by rw [Nat.mul_comm r 30, sl_cpy]) (fun f f1 f2 _ => by
    have := (hT f f1).2.2.2
    exact sl_cpy_out (by omega))
theorem TreeOk.mv {kd pa sz nl : Nat → Nat} {r v n : Nat} (h : TreeOk kd pa sz nl) (hv : v ≤ 200) (hn : n ≤ 30) : TreeOk kd (va_up pa r v) sz (va_up nl r n) := fun x hx => by
  by_cases e : x = r
  · rw [e, up_at, up_at]
    exact ⟨(h r (by omega)).1, hv, (h r (by omega)).2.2.1, hn⟩
  · rw [up_ne e, up_ne e]
    exact h x hx
theorem pl_cut0 {q : Nat} : ∀ (ps : List aPc), 27 * (ps.filterMap (cutE q 0)).length + plen (ps.filterMap (cutE q 0)) + (ps.map (fun x : aPc => if x.1 = q then 27 + x.2.2.length else 0)).sum = 27 * ps.length + plen ps
  | [] => rfl
  | x :: ps => by
    have ih := pl_cut0 (q := q) ps
    have hp : ∀ (y : aPc) (l : List aPc), plen (y :: l) = y.2.2.length + plen l := fun y l => by unfold plen; rw [List.map_cons, List.sum_cons]
    by_cases e : x.1 = q
    · have hc : cutE q 0 x = none := by unfold cutE; rw [if_pos e, if_pos (Nat.zero_le _)]
      rw [List.filterMap_cons_none hc, List.map_cons, List.sum_cons, if_pos e, List.length_cons, hp]
      omega
    · have hc : cutE q 0 x = some x := by unfold cutE; rw [if_neg e]
      rw [List.filterMap_cons_some hc, List.map_cons, List.sum_cons, if_neg e, List.length_cons, List.length_cons, hp, hp]
      omega
theorem nd_mv1 {op : Nat → Bool} {sm : Nat → Nat} {x : Int32} {P r q n : Nat} {ms : List aMV} {kd nl : Nat → Nat} {ps cur : List aPc} (hr1 : 1 ≤ r) (hr2 : r ≤ 200) (hq1 : 1 ≤ q) (hq2 : q ≤ 200) (hqr : ¬ q = r) (hr : ¬ kd r = 0) (hq : ¬ kd q = 0) (hc : cur.Perm (ps.filterMap (cutE q 0))) : ndR op sm x P ms (va_up kd q 0) (va_up nl r n) cur + (nl r + (wtL q ps + nl q)) = ndR op sm x P ms kd nl ps + n := by
  have h0 := nd_mv (op := op) (sm := sm) (x := x) (P := P) (ms := ms) (nl := nl) (ps := cur) (n := n) (kd := va_up kd q 0) hr1 hr2 (by rw [up_ne (fun z => hqr z.symm)]; exact hr)
  have h1 := sumF_at (g := fun f => if va_up kd q 0 f = 0 then 0 else 62 + nl f) (h := fun f => if kd f = 0 then 0 else 62 + nl f) (v := q) 200 hq1 hq2 (fun f _ _ e => by
    show (if va_up kd q 0 f = 0 then 0 else 62 + nl f) = (if kd f = 0 then 0 else 62 + nl f)
    rw [up_ne e])
  have h2 : (if va_up kd q 0 q = 0 then 0 else 62 + nl q) = 0 := if_pos up_at
  have h3 : (if kd q = 0 then 0 else 62 + nl q) = 62 + nl q := if_neg hq
  have h1 : sumF (fun f => if va_up kd q 0 f = 0 then 0 else 62 + nl f) 200 + (if kd q = 0 then 0 else 62 + nl q) = sumF (fun f => if kd f = 0 then 0 else 62 + nl f) 200 + (if va_up kd q 0 q = 0 then 0 else 62 + nl q) := h1
  rw [h2, h3] at h1
  have h4 := plen_perm hc
  have h5 := hc.length_eq
  have h6 := pl_cut0 (q := q) ps
  unfold wtL
  unfold ndR at h0 ⊢
  omega
theorem mv1_rel {ky : List (List Nat)} {c c1 : Nat → Int8} {vs vs' : List aV} {kd pa sz nl : Nat → Nat} {nm tb : Nat → Int8} {ps cur : List aPc} {ws : List aE} {r q u k n P : Nat} (hN : NodR c vs kd pa sz nl nm) (hPc : PcR c vs ps) (hT : TreeOk kd pa sz nl) (hO : OneV vs) (hV : ∀ v ∈ vs, VOk ky P v) (hP : P ≤ 2 ^ 30) (hK : ¬ kd r = 0) (hqr : ¬ q = r) (hws : ws = ([1, r], some ([kd r, u] ++ (beB 2 (sz r) ++ sl tb k n))) :: ([1, q], none) :: goneW vs q 32) (h1 : OneW ws) (hr2 : r ≤ 200) (hn : n ≤ 30) (hc : cur.Perm (ps.filterMap (cutE q 0))) (hI : InV c c1 vs vs' ws) : NodR c1 vs' (va_up kd q 0) (va_up pa r u) sz (va_up nl r n) (cpy tb k nm (30 * r) n) ∧ PcR c1 vs' cur := by
  have m1 : ([1, r], some ([kd r, u] ++ (beB 2 (sz r) ++ sl tb k n))) ∈ ws := by rw [hws]; exact List.mem_cons_self
  have m2 : (([1, q], none) : aE) ∈ ws := by rw [hws]; exact List.mem_cons_of_mem _ List.mem_cons_self
  have mm : ∀ e ∈ ws, e = ([1, r], some ([kd r, u] ++ (beB 2 (sz r) ++ sl tb k n))) ∨ e = ([1, q], none) ∨ e ∈ goneW vs q 32 := fun e he => by
    rw [hws] at he
    rcases List.mem_cons.mp he with z | z
    · exact Or.inl z
    · exact Or.inr (List.mem_cons.mp z)
  refine ⟨fun f f1 f2 b => ?_, hPc.gone hI h1 hO hP hV (fun e he => ?_) hc⟩
  · by_cases e : f = r
    · rw [e, hI.put h1 m1, up_ne (fun z => hqr z.symm)]
      have hb : nodB (va_up kd q 0) (va_up pa r u) sz (va_up nl r n) (cpy tb k nm (30 * r) n) r = [kd r, u] ++ (beB 2 (sz r) ++ sl tb k n) := by
        unfold nodB
        rw [up_at, up_at, up_ne (fun z => hqr z.symm), Nat.mul_comm r 30, sl_cpy]
      rw [hb]
      exact ⟨fun z => ⟨hK, z⟩, fun z => z.2⟩
    · by_cases e2 : f = q
      · rw [e2]
        exact ⟨fun z => absurd z (hI.out h1 m2), fun z => absurd up_at z.1⟩
      · have hs : ∀ x ∈ ws, ¬ x.1 = [1, f] := fun x hx z => by
          rcases mm x hx with y | y | y
          · rw [y] at z
            exact e (List.cons.inj (List.cons.inj z).2).1.symm
          · rw [y] at z
            exact e2 (List.cons.inj (List.cons.inj z).2).1.symm
          · obtain ⟨i, -, -, rfl⟩ := mem_gone.mp y
            exact absurd (List.cons.inj z).1 (by decide)
        have hb : nodB (va_up kd q 0) (va_up pa r u) sz (va_up nl r n) (cpy tb k nm (30 * r) n) f = nodB kd pa sz nl nm f := by
          unfold nodB
          have := (hT f f2).2.2.2
          rw [up_ne e2, up_ne e, up_ne e, sl_cpy_out (by omega)]
        rw [hI.same hs, hN f f1 f2 b, hb, up_ne e2]
  · constructor
    · intro z
      rcases mm e z with y | y | y
      · rw [y] at he
        exact absurd he (by show ¬ 1 = 2; decide)
      · rw [y] at he
        exact absurd he (by show ¬ 1 = 2; decide)
      · exact y
    · intro z
      rw [hws]
      exact List.mem_cons_of_mem _ (List.mem_cons_of_mem _ z)
theorem mv_len {vs : List aV} {r q : Nat} {b : List Nat} {ws : List aE} (hb : b.length ≤ 34) (h : ws = ([1, r], some b) :: ([1, q], none) :: goneW vs q 32) : ws.length ≤ 34 ∧ 1 ≤ ws.length ∧ eOff ws ws.length ≤ 140 := by
  have h8 := gone_len (vs := vs) (f := q) 32
  generalize goneW vs q 32 = g at h h8
  subst h
  rw [List.length_cons, List.length_cons]
  refine ⟨by omega, by omega, ?_⟩
  show eLen (([1, r], some b) : aE) + (eLen (([1, q], none) : aE) + eOff g g.length) ≤ 140
  have h7 : eLen (([1, q], none) : aE) = 2 := rfl
  have h6 : eLen (([1, r], some b) : aE) = 2 + b.length := rfl
  omega
theorem mv_len0 {r : Nat} {b : List Nat} {ws : List aE} (hb : b.length ≤ 34) (h : ws = [([1, r], some b)]) : ws.length ≤ 34 ∧ 1 ≤ ws.length ∧ eOff ws ws.length ≤ 140 := by
  subst h
  refine ⟨Nat.le_of_ble_eq_true rfl, Nat.le_of_ble_eq_true rfl, ?_⟩
  show eLen (([1, r], some b) : aE) + 0 ≤ 140
  have h6 : eLen (([1, r], some b) : aE) = 2 + b.length := rfl
  omega
theorem TrW.mv1 {kd pa : Nat → Nat} {r q u : Nat} (h : TrW kd pa) (hp : ∀ v, v ≤ 200 → pa v ≤ 200) (hr1 : 1 ≤ r) (hq1 : 1 ≤ q) (hu : u ≤ 200) (hku : kd u = 2) (hqr : ¬ q = r) (hr : ¬ kd r = 2) (hq : ¬ kd q = 2) : TrW (va_up kd q 0) (va_up pa r u) := by
  have hg : TrW (va_up kd q 0) pa := h.gone hq1 (fun w h1 h2 h3 h4 => hq (by rw [← h4]; exact (h.2 w h1 h2 h3).1))
  refine hg.move hp hr1 hu ?_ (fun z => ?_)
  · rw [up_ne (fun z => hq (by rw [← z]; exact hku))]
    exact hku
  · rw [up_ne (fun y => hqr y.symm)] at z
    exact hr z.1
section S88
variable {L i k kc ks : Nat} {xs : Nat → Int32} {Q : tO × aH × Nat × Nat → Prop} {H : aH}
theorem iv_rename (hL : L < 2 ^ 30) (h : i + 6 ≤ L) (hI : InvI k H) (hk : k < 512) (kq : Hd L xs i kc ks Q (k + 1)) : RQ (L, xs) 2000 mr_law 1475 [(4, .int (nI i)), (3, .ref 225), (2, .ref 196), (1, .ref 1), (0, .ref 0)] [] H kc ks Q := by
  rcases hI with ⟨ky, B, N, P, bb, cw, cl, cp, cb, tb, l, g, rl, wss, t0, op, sm, ms, kd, pa, sz, nl, nm, ps, fa, rs, g0, hJ⟩ | ⟨ky, B, N, P, cw, cl, cp, cb, tb, l, g, rl, wss, t0, op, sm, ms, kd, pa, sz, nl, nm, ps, fa, rs, g0, hJ⟩
  · obtain ⟨j1, j2, j3, j4, j5, j6, j7, j8, j9, j10, j11, j12, j13, j14, j15, j16, j17, j18, j19, jE, e, j20⟩ := id hJ
    obtain ⟨us, ba, bo, m1, hF, hG, qV, hR⟩ := hJ.fld hk
    obtain ⟨-, -, -, -, -, q5, q6, qR, qT, q8, q9, -⟩ := j10.cells
    have hl := j11.1
    have hTR := j11.2.2.2.2.1
    have hT0 := jE.2.2.2.1
    have hTW := jE.2.2.2.2.2.2.2.2
    have hpa : ∀ v, v ≤ 200 → pa v ≤ 200 := fun x hx => (hTR x hx).2.1
    by_cases hb : (∃ t, xs (i + 1) = nI t ∧ t < 201) ∧ (∃ t, xs (i + 2) = nI t ∧ t < 201) ∧ ∃ k, xs (i + 3) = nI k ∧ k ≤ l ∧ nmOk tb 0 k ∧ nmOk tb k (l - k)
    · obtain ⟨⟨v, e1, hv⟩, ⟨u, e2, hu⟩, n, e3, hnl, ⟨hn1, hn2, hns1⟩, ⟨hm1, hm2, hns2⟩⟩ := hb
      have hv : v ≤ 200 := by omega
      have hu : u ≤ 200 := by omega
      have hnm1 := (nosl_iff (tb := tb) (l := l) (i := 0) (n := n) (by omega)).mp hns1
      have hnm2 := (nosl_iff (tb := tb) (l := l) (i := n) (n := l - n) (by omega)).mp hns2
      by_cases hkd : kd v = 2
      · have hkdt : t0.1 v = 2 := (j17.1 v hv).trans hkd
        by_cases hkd2 : kd u = 2
        · have hkdt2 : t0.1 u = 2 := (j17.1 u hu).trans hkd2
          cases hc1 : fstF (inN kd pa nl nm v (sl tb 0 n)) 1 200 with
          | none =>
            have hc1t := (same_fst j17 v (sl tb 0 n)).trans hc1
            obtain ⟨H1, c1, c4, c5⟩ := rx_rename_none (sc := (L, xs)) (d := 1990) j8 hT0 hv hu hn1 hn2 (by omega) (by omega) hnm1 hnm2 hkdt hkdt2 hc1t
            have hr0 : RefI H1 fa (B * 256) 0 cw cl tb l rs g0 P ms op sm wss kd pa sz nl nm ps := j10.far (fun a a1 a2 => c5 a (by omega))
            obtain ⟨z, H2, r1, r2, r3, r4⟩ := ri_mrename_none (sc := (L, xs)) (d := 1994) hr0 j11 hv hu hn1 hn2 (by omega) hm2 hns1 hns2 hkd hkd2 hc1
            obtain ⟨us2, ba2, bo2, m2, -⟩ := id r3
            exact gs_x21_3 (c1 := 1) (s1 := 6) (c2 := 0) (s2 := 0) hL h j8.1 (by rw [e1, e2, e3]; exact c1) ((c5 195 (by omega)).trans m1) (by rw [e1, e2, e3]; exact r1) m2 rfl (kq.go1 (Or.inl (hJ.row (cw' := cw) (cl' := cl) (cp' := cp) (cb' := cb) (fa' := 3) (tb' := tb) (l' := 0) hk (c4.far (fun a a1 _ => r4 a (by omega))) r3 jE.1 jE.2.1 (Nat.zero_le _) (Nat.zero_le _) j6 j7 (fun a ha => (r4 a (by omega)).trans (c5 a (by omega))) ⟨e, (r4 224 (by omega)).trans ((c5 224 (by omega)).trans j20)⟩)))
          | some r =>
            have hc1t := (same_fst j17 v (sl tb 0 n)).trans hc1
            have hrrr := fstF_lt hc1
            have hr1 : 1 ≤ r := hrrr.1
            have hr2 : r ≤ 200 := by omega
            have hkr : ¬ kd r = 0 := fun z => by
              have h9 := fstF_some hc1
              unfold inN inD at h9
              rw [decide_eq_true z, Bool.not_true, Bool.false_and, Bool.false_and] at h9
              cases h9
            have hup := hTW.up (c := r) hpa hu (by rw [hkd2]; decide)
            cases hc2 : fstF (inN kd pa nl nm u (sl tb n (l - n))) 1 200 with
            | none =>
              have hc2t := (same_fst j17 u (sl tb n (l - n))).trans hc2
              by_cases hwi : kd r = 2 ∧ upF pa r 201 u = r
              · obtain ⟨H1, c1, c4, c5⟩ := rx_rename_way2 (sc := (L, xs)) (d := 1990) j8 hT0 hv hu hn1 hn2 (by omega) (by omega) hnm1 hnm2 hkdt hkdt2 hc1t hc2t ((j17.1 r hr2).trans hwi.1) (by rw [same_up j17 hTW hpa 201 u hu (by rw [hkd2]; decide)]; exact hwi.2)
                have hr0 : RefI H1 fa (B * 256) 0 cw cl tb l rs g0 P ms op sm wss kd pa sz nl nm ps := j10.far (fun a a1 a2 => c5 a (by omega))
                obtain ⟨z, H2, r1, r2, r3, r4⟩ := ri_mrename_in (sc := (L, xs)) (d := 1994) hr0 j11 hv hu hn1 hn2 (by omega) hm2 hns1 hns2 hkd hkd2 hc1 hc2 hup hwi.1 hwi.2
                obtain ⟨us2, ba2, bo2, m2, -⟩ := id r3
                exact gs_x21_4 (c1 := 1) (s1 := 6) (c2 := 0) (s2 := 0) hL h j8.1 (by rw [e1, e2, e3]; exact c1) ((c5 195 (by omega)).trans m1) (by rw [e1, e2, e3]; exact r1) m2 rfl (kq.go1 (Or.inl (hJ.row (cw' := cw) (cl' := cl) (cp' := cp) (cb' := cb) (fa' := 4) (tb' := tb) (l' := 0) hk (c4.far (fun a a1 _ => r4 a (by omega))) r3 jE.1 jE.2.1 (Nat.zero_le _) (Nat.zero_le _) j6 j7 (fun a ha => (r4 a (by omega)).trans (c5 a (by omega))) ⟨e, (r4 224 (by omega)).trans ((c5 224 (by omega)).trans j20)⟩)))
              ·
                have hsub : ∀ x ∈ ky, x ∈ [] ++ ky := fun x hx => List.mem_append.mpr (Or.inr hx)
                have hQ := j9.ky hsub
                obtain ⟨S, lgs, fr, ff, wr, tp, rs9, us9, c, P1, gs, vs, tss, Lc, u1, u2, ⟨hrl, u3⟩, u4⟩ := id hQ
                have hs := u1.2.2.2.2.2.2.2.2.1
                have hV9 := u1.2.2.2.2.2.2.1
                have hK7 := u2.2.2.2.2.2.2.1
                have hmP : ∀ w ∈ ms, w.2.1 ≤ P := rel_le hrl.2.1 (fun v hv => (hK7 v hv).1)
                have hX := xc_b (xc_rel (kd := kd) (pa := pa) (sz := sz) (nl := nl) (nm := nm) (ps := ps) j12)
                have hXN : ∀ c vs, (∀ v ∈ vs, VOk ([] ++ ky) P v) → Xb (RlX op sm ms kd pa sz nl nm ps) c vs → sumN op sm (-1) P (kmV vs) vs ≤ B * 256 := fun c vs hv hx => by
                  rw [rlx_need hv hx.1 j13]
                  exact j14
                have h64 : nB B + 40 ≤ N := by unfold nB; omega
                have hpl := UpQ.pl (M := 0) u1 (by omega)
                obtain ⟨a1, a2, a3, a4⟩ := j17.2.1 r hr2 hkr
                have hkrt : t0.1 r = kd r := j17.1 r hr2
                have hnbl : ([kd r, u] ++ (beB 2 (sz r) ++ sl tb n (l - n))).length = 4 + (l - n) := by
                  rw [List.length_append, List.length_append, beB_len, sl_length]
                  show 2 + (2 + (l - n)) = _
                  omega
                have hkr9 := (hTR r hr2).1
                have hbb9 : ∀ b ∈ ([kd r, u] ++ (beB 2 (sz r) ++ sl tb n (l - n))), b < 256 := fun b hb => by
                  rcases List.mem_append.mp hb with z | z
                  · rcases List.mem_cons.mp z with z | z
                    · rw [z]; omega
                    · rw [List.mem_singleton.mp z]; omega
                  · rcases List.mem_append.mp z with z | z
                    · exact beB_lt z
                    · exact sl_b b z
                have hKr : EntK ([] ++ ky) ([1, r], some ([kd r, u] ++ (beB 2 (sz r) ++ sl tb n (l - n)))) := by
                  obtain ⟨v9, b1, b2⟩ := node_key hrl.2.2.1 hr1 hr2 hkr
                  refine ⟨Or.inr (Or.inl ⟨r, rfl, hr1, hr2, fun m hm => ?_⟩), by rw [← b2]; exact (hK7 v9 b1).2.2.2⟩
                  rw [← Option.some.inj hm, hnbl]
                  omega
                obtain ⟨ws, hws⟩ : ∃ ws : List aE, ws = [([1, r], some ([kd r, u] ++ (beB 2 (sz r) ++ sl tb n (l - n))))] := ⟨_, rfl⟩
                have hwst : [([1, r], some ([t0.1 r, u] ++ (beB 2 (t0.2.2.1 r) ++ sl tb n (l - n))))] = ws := by rw [hws, hkrt, a2]
                have hlen := mv_len0 (by rw [hnbl]; omega) hws
                have h1W : OneW ws := by
                  rw [hws]
                  exact one_w
                have hK9 : ∀ e ∈ ws, EntK ([] ++ ky) e := fun e he => by
                  rw [hws] at he
                  rw [List.mem_singleton.mp he]
                  exact hKr
                have hf9 : ∀ e ∈ ws, ¬ e.1.head? = some 0 := fun e he => by
                  rw [hws] at he
                  rw [List.mem_singleton.mp he]
                  exact fun z => absurd (Option.some.inj z) (by decide)
                have hb9 : ∀ e ∈ ws, ∀ b8, e.2 = some b8 → ∀ b ∈ b8, b < 256 := fun e he b8 h8 b hb => by
                  rw [hws] at he
                  rw [List.mem_singleton.mp he] at h8
                  rw [← Option.some.inj h8] at hb
                  exact hbb9 b hb
                have hwit : ¬ (t0.1 r = 2 ∧ upF t0.2.1 r 201 u = r) := by
                  rw [hkrt, same_up j17 hTW hpa 201 u hu (by rw [hkd2]; decide)]
                  exact hwi
                have hnd0 := nd_mv (op := op) (sm := sm) (x := -1) (P := P) (ms := ms) (nl := nl) (ps := ps) (n := l - n) hr1 hr2 hkr
                have hnd0' := nd_mv (op := op) (sm := sm) (x := -1) (P := P + 1) (ms := ms) (nl := nl) (ps := ps) (n := l - n) hr1 hr2 hkr
                have hndn := nd_next (op := op) (sm := sm) (x := -1) (kd := kd) (nl := nl) (ps := ps) hmP
                have hnd1 : ndR op sm (-1) (P + 1) ms kd (va_up nl r (l - n)) ps = ndR op sm (-1) P ms kd nl ps + (l - n) - (nl r) := by omega
                have hneed := need_fil (x := -1) (kd' := kd) (pa' := va_up pa r u) (sz' := sz) (nl' := va_up nl r (l - n)) (nm' := cpy tb n nm (30 * r) (l - n)) (ps' := ps) (ws := ws) hrl hK7 hpl j13 h1W hK9 hb9 (by omega) hf9 (fun c1 vs' hI => mv_rel hrl.2.2.1 hrl.2.2.2 hTR hkr hm2 (by rw [hws] at hI; exact hI))
                have hT' : TreeOk kd (va_up pa r u) sz (va_up nl r (l - n)) := hTR.mv hu hm2
                have hW' : TrW kd (va_up pa r u) := hTW.move hpa hr1 hu hkd2 hwi
                have hS9 : SameT (setT r (t0.1 r) u (t0.2.2.1 r) (l - n) tb n t0) kd (va_up pa r u) sz (va_up nl r (l - n)) (cpy tb n nm (30 * r) (l - n)) := j17.mv hTR hr1 hr2 hkr hm2 hkrt a2
                have hT1 : TreeOk (setT r (t0.1 r) u (t0.2.2.1 r) (l - n) tb n t0).1 (setT r (t0.1 r) u (t0.2.2.1 r) (l - n) tb n t0).2.1 (setT r (t0.1 r) u (t0.2.2.1 r) (l - n) tb n t0).2.2.1 (setT r (t0.1 r) u (t0.2.2.1 r) (l - n) tb n t0).2.2.2.1 := hT0.set (hT0 r hr2).1 hu (hT0 r hr2).2.2.1 hm2
                have hkl : ∀ e ∈ ws, 1 ≤ e.1.length := fun e he => (hK9 e he).len.1
                have hopn := opn_5 (ws := ws) (by rw [szW_sum]; omega)
                rw [hnd1] at hneed
                have hkyl : 512 * ([] ++ ky).length ≤ 1024 * (k + 1) := by
                  rw [List.nil_append]
                  have := jE.2.2.2.2.2.2.2.1
                  omega
                by_cases hfull : ndR op sm (-1) P ms kd nl ps + (l - n) - (nl r) ≤ B * 256
                · have hle : sumN op sm (-1) (P + 1) (kmV (inclV (P + 1) (fun _ => 0) 0 ws vs)) (inclV (P + 1) (fun _ => 0) 0 ws vs) ≤ B * 256 := by rw [hneed]; exact hfull
                  have hnd9 : ndR op sm (-1) (P + 1) ms kd (va_up nl r (l - n)) ps ≤ B * 256 := by rw [hnd1]; exact hfull
                  rcases jE.1 with rfl | rfl
                  · obtain ⟨x, H1, c1, c2, c3, c4, c5⟩ := ri_rename0_okQ (M := 48 * (k + 1)) (sc := (L, xs)) (d := 1990) j8 hT0 hv hu hn1 hn2 (by omega) (by omega) hnm1 hnm2 hkdt hkdt2 hc1t hc2t hwit hwst h1W hkl hs j15 hV9 (fun v hv => (hK7 v hv).1) (by omega) (by omega) hle hX hXN hQ j1 j5 (by omega) (by omega) (by omega) (by omega) hopn hK9 (by omega) hr1 hr2 hm2 (by omega)
                    have h224 : H1[224]? = some (kJ 1 e) := (c5 224 (by decide)).trans j20
                    have hr0 : RefI (H1.set 224 (kJ 1 (va_up e 0 x.toInt64))) fa (B * 256) 0 0 cl tb l rs g0 P ms op sm wss kd pa sz nl nm ps := j10.far (fun a b1 b2 => (set_far (by omega)).trans (c5 a b1))
                    obtain ⟨z, H2, r1, r2, r3, r4⟩ := ri_mrename0_ok (sc := (L, xs)) (d := 1994) hr0 j11 hv hu hn1 hn2 (by omega) hm2 hns1 hns2 hkd hkd2 hc1 hc2 hup hwi (by omega) (by omega) (by omega) hfull
                    have hxz : z = x := r2.trans c2.symm
                    rw [hxz] at r1
                    obtain ⟨us2, ba2, bo2, m2, -⟩ := id r3
                    have hlow : ∀ a, a < 195 → H2[a]? = H1[a]? := fun a ha => (r4 a (by omega)).trans (set_far (by omega))
                    have h2 : H2[224]? = some (kJ 1 (va_up e 0 x.toInt64)) := (r4 224 (by omega)).trans (get_set h224)
                    have hQ2 : UpQ ([] ++ ky) (48 * (k + 1)) H1 B N bb (P + 1) op sm (nB B) (Xb (RlX op sm ms kd (va_up pa r u) sz (va_up nl r (l - n)) (cpy tb n nm (30 * r) (l - n)) ps)) := inc_Q c3 (by omega) (fun c c1 vs9 Q hx hs1 hI hnew hold hVk => fil_rel hx.1 hs1 hold (fun v hv => (hVk v hv).1) hf9 j12 (mv_rel (u := u) (k := n) (n := l - n) (tb := tb) hx.1.2.2.1 hx.1.2.2.2 hTR hkr hm2 (by rw [← hws]; exact hI))) (fun c vs hv hx => by
                      rw [rlx_need hv hx j13]
                      exact hnd9)
                    refine gs_ok21 (c1 := 0) (s1 := 0) (c2 := 0) (s2 := 0) (x := x) hL h j8.1 (by rw [e1, e2, e3]; exact c1) h224 ((c5 195 (by decide)).trans m1) (by rw [e1, e2, e3]; exact r1) m2 rfl h2 (kq.go0 (Or.inl ?_))
                    exact hJ.fil hk hmP (c4.far (fun a b1 _ => hlow a (by omega))) (hQ2.nr hlow) r3 (Nat.zero_le _) hT' j11.2.2.2.2.2.2.2 j13 hnd9 hS9 hT1 jE.2.2.2.2.2.1 hW' hsub (by omega) ⟨_, h2⟩ ⟨up_ne (by omega), rfl, up_ne (by omega)⟩
                  · rcases jE.2.1 with rfl | rfl
                    · obtain ⟨H1, nn, hnn, c1, c3, c4, c6, c5⟩ := rx_rename0_cutQ (M := 48 * (k + 1)) (sc := (L, xs)) (d := 1990) j8 hT0 hv hu hn1 hn2 (by omega) (by omega) hnm1 hnm2 hkdt hkdt2 hc1t hc2t hwit hwst h1W hkl hs j15 hV9 (fun v hv => (hK7 v hv).1) (by omega) (by omega) hle j6 hX hXN hQ j1 j7 (by omega) (by omega) (by omega) (by omega) hopn hK9 (by omega)
                      have hr0 : RefI H1 fa (B * 256) 0 1 0 tb l rs g0 P ms op sm wss kd pa sz nl nm ps := j10.far (fun a b1 b2 => c5 a b1)
                      obtain ⟨z, H2, r1, r2, r3, r4⟩ := ri_mrename0_lost (sc := (L, xs)) (d := 1994) hr0 j11 hv hu hn1 hn2 (by omega) hm2 hns1 hns2 hkd hkd2 hc1 hc2 hup hwi (by omega) (by omega) (by omega) hfull
                      obtain ⟨us2, ba2, bo2, m2, -⟩ := id r3
                      have hlow : ∀ a, a < 195 → H2[a]? = H1[a]? := fun a ha => r4 a (by omega)
                      have h2 : H2[224]? = some (kJ 1 e) := (r4 224 (by omega)).trans ((c5 224 (by decide)).trans j20)
                      refine gs_x21_1 (c1 := nn) (s1 := 6 * nn) (c2 := 0) (s2 := 0) hL h j8.1 (by rw [e1, e2, e3]; exact c1) ((c5 195 (by decide)).trans m1) (by rw [e1, e2, e3]; exact r1) m2 rfl (kq H2 nn hnn (Or.inr ?_))
                      exact hJ.filD hk (Nat.le_refl _) (by omega) (Or.inl rfl) (c4.far (fun a b1 _ => hlow a (by omega))) ((cut_D c3 (by omega) c6).nr hlow) r3 hTR j11.2.2.2.2.2.2.2 j13 j14 jE.2.2.2.2.2.1 hTW hsub (by omega) ⟨_, h2⟩ ⟨rfl, rfl, rfl⟩
                    · obtain ⟨H1, nn, hnn, c1, c3, c4, c6, c5⟩ := rx_rename0_lateQ (M := 48 * (k + 1)) (sc := (L, xs)) (d := 1990) j8 hT0 hv hu hn1 hn2 (by omega) (by omega) hnm1 hnm2 hkdt hkdt2 hc1t hc2t hwit hwst h1W hkl hs j15 hV9 (fun v hv => (hK7 v hv).1) (by omega) (by omega) hle hX hXN hQ j1 j5 (by omega) (by omega) (by omega) (by omega) hopn hK9 (by omega) (by omega)
                      have hr0 : RefI H1 fa (B * 256) 0 1 1 tb l rs g0 P ms op sm wss kd pa sz nl nm ps := j10.far (fun a b1 b2 => c5 a b1)
                      obtain ⟨z, H2, r1, r2, r3, r4⟩ := ri_mrename0_late (sc := (L, xs)) (d := 1994) hr0 j11 hv hu hn1 hn2 (by omega) hm2 hns1 hns2 hkd hkd2 hc1 hc2 hup hwi (by omega) (by omega) (by omega) hfull
                      obtain ⟨us2, ba2, bo2, m2, -⟩ := id r3
                      have hlow : ∀ a, a < 195 → H2[a]? = H1[a]? := fun a ha => r4 a (by omega)
                      have h2 : H2[224]? = some (kJ 1 e) := (r4 224 (by omega)).trans ((c5 224 (by decide)).trans j20)
                      have hD := lat_D (op := op) c3 h1W c6 (fun c c1 vs9 Q hx hs1 hI hnew hold hVk => fil_rel0 hx.1 (fun j hj q => by rw [dnO_no hj] at q; exact absurd q Bool.false_ne_true) hs1 hold (fun v hv => (hVk v hv).1) hf9 (mv_rel (u := u) (k := n) (n := l - n) (tb := tb) hx.1.2.2.1 hx.1.2.2.2 hTR hkr hm2 (by rw [← hws]; exact hI)))
                      refine gs_x21_1 (c1 := nn) (s1 := 6 * nn) (c2 := 0) (s2 := 0) hL h j8.1 (by rw [e1, e2, e3]; exact c1) ((c5 195 (by decide)).trans m1) (by rw [e1, e2, e3]; exact r1) m2 rfl (kq H2 nn hnn (Or.inr ?_))
                      exact hJ.filD hk (Nat.le_succ _) (Nat.le_refl _) (Or.inr rfl) (c4.far (fun a b1 _ => hlow a (by omega))) (hD.nr hlow) r3 hT' j11.2.2.2.2.2.2.2 j13 hnd9 jE.2.2.2.2.2.1 hW' hsub (by omega) ⟨_, h2⟩ ⟨up_ne (by omega), rfl, up_ne (by omega)⟩
                · obtain ⟨H1, c1, c4, c5⟩ := rx_rename0_full (sc := (L, xs)) (d := 1990) j8 hT0 hv hu hn1 hn2 (by omega) (by omega) hnm1 hnm2 hkdt hkdt2 hc1t hc2t hwit hwst h1W hkl hs j15 hV9 (fun v hv => (hK7 v hv).1) (by omega) (by omega) (by rw [hneed]; omega) (by rw [hneed]; omega)
                  have hr0 : RefI H1 fa (B * 256) 0 cw cl tb l rs g0 P ms op sm wss kd pa sz nl nm ps := j10.far (fun a a1 a2 => c5 a (by omega))
                  obtain ⟨z, H2, r1, r2, r3, r4⟩ := ri_mrename0_full (sc := (L, xs)) (d := 1994) hr0 j11 hv hu hn1 hn2 (by omega) hm2 hns1 hns2 hkd hkd2 hc1 hc2 hup hwi (by omega) (by omega) (by omega) (by omega)
                  obtain ⟨us2, ba2, bo2, m2, -⟩ := id r3
                  exact gs_x21_2 (c1 := 1) (s1 := 6) (c2 := 0) (s2 := 0) hL h j8.1 (by rw [e1, e2, e3]; exact c1) ((c5 195 (by omega)).trans m1) (by rw [e1, e2, e3]; exact r1) m2 rfl (kq.go1 (Or.inl (hJ.row (cw' := cw) (cl' := cl) (cp' := cp) (cb' := cb) (fa' := 5) (tb' := tb) (l' := 0) hk (c4.far (fun a a1 _ => r4 a (by omega))) r3 jE.1 jE.2.1 (Nat.zero_le _) (Nat.zero_le _) j6 j7 (fun a ha => (r4 a (by omega)).trans (c5 a (by omega))) ⟨e, (r4 224 (by omega)).trans ((c5 224 (by omega)).trans j20)⟩)))
            | some q =>
              have hc2t := (same_fst j17 u (sl tb n (l - n))).trans hc2
              have hrrq := fstF_lt hc2
              have hq1 : 1 ≤ q := hrrq.1
              have hq2 : q ≤ 200 := by omega
              have hkq : ¬ kd q = 0 := fun z => by
                have h9 := fstF_some hc2
                unfold inN inD at h9
                rw [decide_eq_true z, Bool.not_true, Bool.false_and, Bool.false_and] at h9
                cases h9
              by_cases hqr : q = r
              · rw [hqr] at hc2t
                obtain ⟨x, H1, c1, c2, c4, c5⟩ := ri_rename_same (sc := (L, xs)) (d := 1990) j8 hT0 hv hu hn1 hn2 (by omega) (by omega) hnm1 hnm2 hkdt hkdt2 hc1t hc2t
                have h224 : H1[224]? = some (kJ 1 e) := (c5 224 (by omega)).trans j20
                have hr0 : RefI (H1.set 224 (kJ 1 (va_up e 0 x.toInt64))) fa (B * 256) 0 cw cl tb l rs g0 P ms op sm wss kd pa sz nl nm ps := j10.far (fun a b1 b2 => (set_far (by omega)).trans (c5 a (by omega)))
                obtain ⟨z, H2, r1, r2, r3, r4⟩ := ri_mrename_same (sc := (L, xs)) (d := 1994) hr0 j11 hv hu hn1 hn2 (by omega) hm2 hns1 hns2 hkd hkd2 hc1 hc2 hqr
                have hxz : z = x := r2.trans c2.symm
                rw [hxz] at r1
                obtain ⟨us2, ba2, bo2, m2, -⟩ := id r3
                have hlow : ∀ a, a < 195 → H2[a]? = H1[a]? := fun a ha => (r4 a (by omega)).trans (set_far (by omega))
                have h2 : H2[224]? = some (kJ 1 (va_up e 0 x.toInt64)) := (r4 224 (by omega)).trans (get_set h224)
                exact gs_ok21 (c1 := 0) (s1 := 0) (c2 := 0) (s2 := 0) (x := x) hL h j8.1 (by rw [e1, e2, e3]; exact c1) h224 ((c5 195 (by omega)).trans m1) (by rw [e1, e2, e3]; exact r1) m2 rfl h2 (kq.go0 (Or.inl (hJ.row (cw' := cw) (cl' := cl) (cp' := cp) (cb' := cb) (fa' := 0) (tb' := tb) (l' := 0) hk (c4.far (fun a b1 _ => hlow a (by omega))) r3 jE.1 jE.2.1 (Nat.zero_le _) (Nat.zero_le _) j6 j7 (fun a ha => (hlow a (by omega)).trans (c5 a (by omega))) ⟨_, h2⟩)))
              · by_cases hkr2 : kd r = 2
                · obtain ⟨H1, c1, c4, c5⟩ := rx_rename_way1 (sc := (L, xs)) (d := 1990) j8 hT0 hv hu hn1 hn2 (by omega) (by omega) hnm1 hnm2 hkdt hkdt2 hc1t hc2t hqr ((j17.1 r hr2).trans hkr2)
                  have hr0 : RefI H1 fa (B * 256) 0 cw cl tb l rs g0 P ms op sm wss kd pa sz nl nm ps := j10.far (fun a a1 a2 => c5 a (by omega))
                  obtain ⟨z, H2, r1, r2, r3, r4⟩ := ri_mrename_clash (sc := (L, xs)) (d := 1994) hr0 j11 hv hu hn1 hn2 (by omega) hm2 hns1 hns2 hkd hkd2 hc1 hc2 hqr hup (Or.inl hkr2)
                  obtain ⟨us2, ba2, bo2, m2, -⟩ := id r3
                  exact gs_x21_4 (c1 := 1) (s1 := 6) (c2 := 0) (s2 := 0) hL h j8.1 (by rw [e1, e2, e3]; exact c1) ((c5 195 (by omega)).trans m1) (by rw [e1, e2, e3]; exact r1) m2 rfl (kq.go1 (Or.inl (hJ.row (cw' := cw) (cl' := cl) (cp' := cp) (cb' := cb) (fa' := 4) (tb' := tb) (l' := 0) hk (c4.far (fun a a1 _ => r4 a (by omega))) r3 jE.1 jE.2.1 (Nat.zero_le _) (Nat.zero_le _) j6 j7 (fun a ha => (r4 a (by omega)).trans (c5 a (by omega))) ⟨e, (r4 224 (by omega)).trans ((c5 224 (by omega)).trans j20)⟩)))
                · by_cases hkq2 : kd q = 2
                  · obtain ⟨H1, c1, c4, c5⟩ := rx_rename_way3 (sc := (L, xs)) (d := 1990) j8 hT0 hv hu hn1 hn2 (by omega) (by omega) hnm1 hnm2 hkdt hkdt2 hc1t hc2t hqr (by rw [j17.1 r hr2]; exact hkr2) ((j17.1 q hq2).trans hkq2)
                    have hr0 : RefI H1 fa (B * 256) 0 cw cl tb l rs g0 P ms op sm wss kd pa sz nl nm ps := j10.far (fun a a1 a2 => c5 a (by omega))
                    obtain ⟨z, H2, r1, r2, r3, r4⟩ := ri_mrename_clash (sc := (L, xs)) (d := 1994) hr0 j11 hv hu hn1 hn2 (by omega) hm2 hns1 hns2 hkd hkd2 hc1 hc2 hqr hup (Or.inr hkq2)
                    obtain ⟨us2, ba2, bo2, m2, -⟩ := id r3
                    exact gs_x21_4 (c1 := 1) (s1 := 6) (c2 := 0) (s2 := 0) hL h j8.1 (by rw [e1, e2, e3]; exact c1) ((c5 195 (by omega)).trans m1) (by rw [e1, e2, e3]; exact r1) m2 rfl (kq.go1 (Or.inl (hJ.row (cw' := cw) (cl' := cl) (cp' := cp) (cb' := cb) (fa' := 4) (tb' := tb) (l' := 0) hk (c4.far (fun a a1 _ => r4 a (by omega))) r3 jE.1 jE.2.1 (Nat.zero_le _) (Nat.zero_le _) j6 j7 (fun a ha => (r4 a (by omega)).trans (c5 a (by omega))) ⟨e, (r4 224 (by omega)).trans ((c5 224 (by omega)).trans j20)⟩)))
                  ·
                    have hsub : ∀ x ∈ ky, x ∈ [] ++ ky := fun x hx => List.mem_append.mpr (Or.inr hx)
                    have hQ := j9.ky hsub
                    obtain ⟨S, lgs, fr, ff, wr, tp, rs9, us9, c, P1, gs, vs, tss, Lc, u1, u2, ⟨hrl, u3⟩, u4⟩ := id hQ
                    have hs := u1.2.2.2.2.2.2.2.2.1
                    have hV9 := u1.2.2.2.2.2.2.1
                    have hK7 := u2.2.2.2.2.2.2.1
                    have hmP : ∀ w ∈ ms, w.2.1 ≤ P := rel_le hrl.2.1 (fun v hv => (hK7 v hv).1)
                    have hX := xc_b (xc_rel (kd := kd) (pa := pa) (sz := sz) (nl := nl) (nm := nm) (ps := ps) j12)
                    have hXN : ∀ c vs, (∀ v ∈ vs, VOk ([] ++ ky) P v) → Xb (RlX op sm ms kd pa sz nl nm ps) c vs → sumN op sm (-1) P (kmV vs) vs ≤ B * 256 := fun c vs hv hx => by
                      rw [rlx_need hv hx.1 j13]
                      exact j14
                    have h64 : nB B + 40 ≤ N := by unfold nB; omega
                    have hpl := UpQ.pl (M := 0) u1 (by omega)
                    obtain ⟨a1, a2, a3, a4⟩ := j17.2.1 r hr2 hkr
                    have hkrt : t0.1 r = kd r := j17.1 r hr2
                    have hnbl : ([kd r, u] ++ (beB 2 (sz r) ++ sl tb n (l - n))).length = 4 + (l - n) := by
                      rw [List.length_append, List.length_append, beB_len, sl_length]
                      show 2 + (2 + (l - n)) = _
                      omega
                    have hkr9 := (hTR r hr2).1
                    have hbb9 : ∀ b ∈ ([kd r, u] ++ (beB 2 (sz r) ++ sl tb n (l - n))), b < 256 := fun b hb => by
                      rcases List.mem_append.mp hb with z | z
                      · rcases List.mem_cons.mp z with z | z
                        · rw [z]; omega
                        · rw [List.mem_singleton.mp z]; omega
                      · rcases List.mem_append.mp z with z | z
                        · exact beB_lt z
                        · exact sl_b b z
                    have hKr : EntK ([] ++ ky) ([1, r], some ([kd r, u] ++ (beB 2 (sz r) ++ sl tb n (l - n)))) := by
                      obtain ⟨v9, b1, b2⟩ := node_key hrl.2.2.1 hr1 hr2 hkr
                      refine ⟨Or.inr (Or.inl ⟨r, rfl, hr1, hr2, fun m hm => ?_⟩), by rw [← b2]; exact (hK7 v9 b1).2.2.2⟩
                      rw [← Option.some.inj hm, hnbl]
                      omega
                    obtain ⟨ws, hws⟩ : ∃ ws : List aE, ws = ([1, r], some ([kd r, u] ++ (beB 2 (sz r) ++ sl tb n (l - n)))) :: ([1, q], none) :: goneW vs q 32 := ⟨_, rfl⟩
                    have hwst : [([1, r], some ([t0.1 r, u] ++ (beB 2 (t0.2.2.1 r) ++ sl tb n (l - n))))] ++ [([1, q], none)] ++ goneW vs q 32 = ws := by rw [hws, hkrt, a2, List.append_assoc, List.singleton_append, List.singleton_append]
                    have hlen := mv_len (by rw [hnbl]; omega) hws
                    have h1W : OneW ws := by
                      rw [hws]
                      exact OneW.cons (OneW.cons (gone_one 32) (fun e he z => by
                        obtain ⟨i, -, -, rfl⟩ := mem_gone.mp he
                        exact absurd (List.cons.inj z).1 (by decide))) (fun e he z => by
                        rcases List.mem_cons.mp he with y | y
                        · rw [y] at z
                          exact hqr (List.cons.inj (List.cons.inj z).2).1
                        · obtain ⟨i, -, -, rfl⟩ := mem_gone.mp y
                          exact absurd (List.cons.inj z).1 (by decide))
                    have hmm : ∀ e ∈ ws, e = ([1, r], some ([kd r, u] ++ (beB 2 (sz r) ++ sl tb n (l - n)))) ∨ e = ([1, q], none) ∨ e ∈ goneW vs q 32 := fun e he => by
                      rw [hws] at he
                      rcases List.mem_cons.mp he with z | z
                      · exact Or.inl z
                      · exact Or.inr (List.mem_cons.mp z)
                    have hK9 : ∀ e ∈ ws, EntK ([] ++ ky) e := fun e he => by
                      rcases hmm e he with z | z | z
                      · rw [z]
                        exact hKr
                      · rw [z]
                        obtain ⟨v9, b1, b2⟩ := node_key hrl.2.2.1 hq1 hq2 hkq
                        exact ⟨Or.inr (Or.inl ⟨q, rfl, hq1, hq2, fun n hn => by cases hn⟩), by rw [← b2]; exact (hK7 v9 b1).2.2.2⟩
                      · obtain ⟨i9, b1, b2, rfl⟩ := mem_gone.mp z
                        obtain ⟨v9, b3, b4⟩ := pcIn_key hrl.1.one b2
                        exact ⟨Or.inr (Or.inr ⟨q, i9, rfl, hq2, b1, fun n hn => by cases hn⟩), by rw [← b4]; exact (hK7 v9 b3).2.2.2⟩
                    have hf9 : ∀ e ∈ ws, ¬ e.1.head? = some 0 := fun e he => by
                      rcases hmm e he with z | z | z
                      · rw [z]
                        exact fun z => absurd (Option.some.inj z) (by decide)
                      · rw [z]
                        exact fun z => absurd (Option.some.inj z) (by decide)
                      · obtain ⟨i9, b1, b2, rfl⟩ := mem_gone.mp z
                        exact fun z => absurd (Option.some.inj z) (by decide)
                    have hb9 : ∀ e ∈ ws, ∀ b8, e.2 = some b8 → ∀ b ∈ b8, b < 256 := fun e he b8 h8 b hb => by
                      rcases hmm e he with z | z | z
                      · rw [z] at h8
                        rw [← Option.some.inj h8] at hb
                        exact hbb9 b hb
                      · rw [z] at h8
                        cases h8
                      · obtain ⟨i9, b1, b2, rfl⟩ := mem_gone.mp z
                        cases h8
                    have hq3 : ¬ t0.1 q = 0 := by rw [j17.1 q hq2]; exact hkq
                    have hd : ¬ t0.1 r = 2 := by rw [hkrt]; exact hkr2
                    have hd2 : ¬ t0.1 q = 2 := by rw [j17.1 q hq2]; exact hkq2
                    have hcnt : 1 ≤ t0.2.2.2.2.2 := by
                      rw [j17.2.2]
                      refine Nat.le_trans ?_ (sumF_ge hr1 hr2)
                      rw [if_neg hkr]
                      exact Nat.le_refl _
                    have hndn := nd_next (op := op) (sm := sm) (x := -1) (kd := kd) (nl := nl) (ps := ps) hmP
                    have hnd0 := nd_mv1 (op := op) (sm := sm) (x := -1) (P := P + 1) (ms := ms) (nl := nl) (ps := ps) (n := l - n) hr1 hr2 hq1 hq2 hqr hkr hkq (List.Perm.refl _)
                    have hnd1 : ∀ cur : List aPc, cur.Perm (ps.filterMap (cutE q 0)) → ndR op sm (-1) (P + 1) ms (va_up kd q 0) (va_up nl r (l - n)) cur = ndR op sm (-1) P ms kd nl ps + (l - n) - (nl r + (wtL q ps + nl q)) := fun cur hcur => by
                      have := nd_mv1 (op := op) (sm := sm) (x := -1) (P := P + 1) (ms := ms) (nl := nl) (ps := ps) (n := l - n) hr1 hr2 hq1 hq2 hqr hkr hkq hcur
                      omega
                    have hneed := need_fil (x := -1) (kd' := va_up kd q 0) (pa' := va_up pa r u) (sz' := sz) (nl' := va_up nl r (l - n)) (nm' := cpy tb n nm (30 * r) (l - n)) (ps' := ps.filterMap (cutE q 0)) (ws := ws) hrl hK7 hpl (j13.gone (List.Perm.refl _)) h1W hK9 hb9 (by omega) hf9 (fun c1 vs' hI => mv1_rel hrl.2.2.1 hrl.2.2.2 hTR hrl.1.one hK7 (by omega) hkr hqr hws h1W hr2 hm2 (List.Perm.refl _) hI)
                    have hT' : TreeOk (va_up kd q 0) (va_up pa r u) sz (va_up nl r (l - n)) := hTR.kd0.mv hu hm2
                    have hW' : TrW (va_up kd q 0) (va_up pa r u) := hTW.mv1 hpa hr1 hq1 hu hkd2 hqr hkr2 hkq2
                    have hG9 : SameT (va_up t0.1 q 0, t0.2.1, t0.2.2.1, t0.2.2.2.1, t0.2.2.2.2.1, t0.2.2.2.2.2 - 1) (va_up kd q 0) pa sz nl nm := j17.gone hq1 hq2 hkq (fun f _ => rfl) rfl rfl rfl rfl rfl (fun f _ => rfl)
                    have hS9 : SameT (setT r (t0.1 r) u (t0.2.2.1 r) (l - n) tb n (va_up t0.1 q 0, t0.2.1, t0.2.2.1, t0.2.2.2.1, t0.2.2.2.2.1, t0.2.2.2.2.2 - 1)) (va_up kd q 0) (va_up pa r u) sz (va_up nl r (l - n)) (cpy tb n nm (30 * r) (l - n)) := hG9.mv hTR.kd0 hr1 hr2 (by rw [up_ne (fun z => hqr z.symm)]; exact hkr) hm2 (by rw [up_ne (fun z => hqr z.symm)]; exact hkrt) a2
                    have hT1 : TreeOk (setT r (t0.1 r) u (t0.2.2.1 r) (l - n) tb n (va_up t0.1 q 0, t0.2.1, t0.2.2.1, t0.2.2.2.1, t0.2.2.2.2.1, t0.2.2.2.2.2 - 1)).1 (setT r (t0.1 r) u (t0.2.2.1 r) (l - n) tb n (va_up t0.1 q 0, t0.2.1, t0.2.2.1, t0.2.2.2.1, t0.2.2.2.2.1, t0.2.2.2.2.2 - 1)).2.1 (setT r (t0.1 r) u (t0.2.2.1 r) (l - n) tb n (va_up t0.1 q 0, t0.2.1, t0.2.2.1, t0.2.2.2.1, t0.2.2.2.2.1, t0.2.2.2.2.2 - 1)).2.2.1 (setT r (t0.1 r) u (t0.2.2.1 r) (l - n) tb n (va_up t0.1 q 0, t0.2.1, t0.2.2.1, t0.2.2.2.1, t0.2.2.2.2.1, t0.2.2.2.2.2 - 1)).2.2.2.1 := (hT0.kd0 (r := q)).set (hT0 r hr2).1 hu (hT0 r hr2).2.2.1 hm2
                    have hpz9 : ∀ cur : List aPc, cur.Perm (ps.filterMap (cutE q 0)) → (∀ x ∈ cur, PcOk x) ∧ ∀ x ∈ cur, va_up kd q 0 x.1 = 1 ∧ 512 * x.2.1 + x.2.2.length ≤ sz x.1 := fun cur hcur => by
                      refine ⟨fun x hx => j11.2.2.2.2.2.2.2 x (cut0_mem (hcur.mem_iff.mp hx)).1, fun x hx => ?_⟩
                      obtain ⟨b1, b2⟩ := cut0_mem (hcur.mem_iff.mp hx)
                      rw [up_ne b2]
                      exact jE.2.2.2.2.2.1 x b1
                    have hkl : ∀ e ∈ ws, 1 ≤ e.1.length := fun e he => (hK9 e he).len.1
                    have hopn := opn_5 (ws := ws) (by rw [szW_sum]; omega)
                    rw [hnd1 _ (List.Perm.refl _)] at hneed
                    have hkyl : 512 * ([] ++ ky).length ≤ 1024 * (k + 1) := by
                      rw [List.nil_append]
                      have := jE.2.2.2.2.2.2.2.1
                      omega
                    by_cases hfull : ndR op sm (-1) P ms kd nl ps + (l - n) - (nl r + (wtL q ps + nl q)) ≤ B * 256
                    · have hle : sumN op sm (-1) (P + 1) (kmV (inclV (P + 1) (fun _ => 0) 0 ws vs)) (inclV (P + 1) (fun _ => 0) 0 ws vs) ≤ B * 256 := by rw [hneed]; exact hfull
                      have hnd9 : ∀ cur : List aPc, cur.Perm (ps.filterMap (cutE q 0)) → ndR op sm (-1) (P + 1) ms (va_up kd q 0) (va_up nl r (l - n)) cur ≤ B * 256 := fun cur hcur => by rw [hnd1 cur hcur]; exact hfull
                      rcases jE.1 with rfl | rfl
                      · obtain ⟨x, H1, c1, c2, c3, c4, c5⟩ := ri_rename1_okQ (M := 48 * (k + 1)) (sc := (L, xs)) (d := 1990) j8 hT0 hv hu hn1 hn2 (by omega) (by omega) hnm1 hnm2 hkdt hkdt2 hc1t hc2t hqr hd hd2 hwst h1W hkl hs j15 hV9 (fun v hv => (hK7 v hv).1) (by omega) (by omega) hle hX hXN hQ j1 j5 (by omega) (by omega) (by omega) (by omega) hopn hK9 (by omega) hr1 hr2 hm2 (by omega) hq1 hq2 hq3 hcnt hT0.kd0
                        have h224 : H1[224]? = some (kJ 1 e) := (c5 224 (by decide)).trans j20
                        have hr0 : RefI (H1.set 224 (kJ 1 (va_up e 0 x.toInt64))) fa (B * 256) 0 0 cl tb l rs g0 P ms op sm wss kd pa sz nl nm ps := j10.far (fun a b1 b2 => (set_far (by omega)).trans (c5 a b1))
                        obtain ⟨z, H2, r1, r2, cur, hcur, r3, r4⟩ := ri_mrename1_ok (sc := (L, xs)) (d := 1994) hr0 j11 hv hu hn1 hn2 (by omega) hm2 hns1 hns2 hkd hkd2 hc1 hc2 hqr hkr2 hkq2 (by omega) (by omega) (by omega) hfull
                        have hxz : z = x := r2.trans c2.symm
                        rw [hxz] at r1
                        obtain ⟨us2, ba2, bo2, m2, -⟩ := id r3
                        have hlow : ∀ a, a < 195 → H2[a]? = H1[a]? := fun a ha => (r4 a (by omega)).trans (set_far (by omega))
                        have h2 : H2[224]? = some (kJ 1 (va_up e 0 x.toInt64)) := (r4 224 (by omega)).trans (get_set h224)
                        have hQ2 : UpQ ([] ++ ky) (48 * (k + 1)) H1 B N bb (P + 1) op sm (nB B) (Xb (RlX op sm ms (va_up kd q 0) (va_up pa r u) sz (va_up nl r (l - n)) (cpy tb n nm (30 * r) (l - n)) cur)) := inc_Q c3 (by omega) (fun c c1 vs9 Q hx hs1 hI hnew hold hVk => fil_rel hx.1 hs1 hold (fun v hv => (hVk v hv).1) hf9 j12 (mv1_rel hx.1.2.2.1 hx.1.2.2.2 hTR hx.1.1.one hVk (by omega) hkr hqr (by rw [hws, gone_eq hrl.2.2.2 hx.1.2.2.2 hrl.1.one hx.1.1.one (fun v hv => by have := (hK7 v hv).1; omega) (fun v hv => by have := (hVk v hv).1; omega) 32]) h1W hr2 hm2 hcur hI)) (fun c vs hv hx => by
                          rw [rlx_need hv hx (j13.gone hcur)]
                          exact (hnd9 cur hcur))
                        refine gs_ok21 (c1 := 0) (s1 := 0) (c2 := 0) (s2 := 0) (x := x) hL h j8.1 (by rw [e1, e2, e3]; exact c1) h224 ((c5 195 (by decide)).trans m1) (by rw [e1, e2, e3]; exact r1) m2 rfl h2 (kq.go0 (Or.inl ?_))
                        exact hJ.fil hk hmP (c4.far (fun a b1 _ => hlow a (by omega))) (hQ2.nr hlow) r3 (Nat.zero_le _) hT' (hpz9 cur hcur).1 (j13.gone hcur) (hnd9 cur hcur) hS9 hT1 (hpz9 cur hcur).2 hW' hsub (by omega) ⟨_, h2⟩ ⟨up_ne (by omega), rfl, up_ne (by omega)⟩
                      · rcases jE.2.1 with rfl | rfl
                        · obtain ⟨H1, nn, hnn, c1, c3, c4, c6, c5⟩ := rx_rename1_cutQ (M := 48 * (k + 1)) (sc := (L, xs)) (d := 1990) j8 hT0 hv hu hn1 hn2 (by omega) (by omega) hnm1 hnm2 hkdt hkdt2 hc1t hc2t hqr hd hd2 hwst h1W hkl hs j15 hV9 (fun v hv => (hK7 v hv).1) (by omega) (by omega) hle j6 hX hXN hQ j1 j7 (by omega) (by omega) (by omega) (by omega) hopn hK9 (by omega)
                          have hr0 : RefI H1 fa (B * 256) 0 1 0 tb l rs g0 P ms op sm wss kd pa sz nl nm ps := j10.far (fun a b1 b2 => c5 a b1)
                          obtain ⟨z, H2, r1, r2, r3, r4⟩ := ri_mrename1_lost (sc := (L, xs)) (d := 1994) hr0 j11 hv hu hn1 hn2 (by omega) hm2 hns1 hns2 hkd hkd2 hc1 hc2 hqr hkr2 hkq2 (by omega) (by omega) (by omega) hfull
                          obtain ⟨us2, ba2, bo2, m2, -⟩ := id r3
                          have hlow : ∀ a, a < 195 → H2[a]? = H1[a]? := fun a ha => r4 a (by omega)
                          have h2 : H2[224]? = some (kJ 1 e) := (r4 224 (by omega)).trans ((c5 224 (by decide)).trans j20)
                          refine gs_x21_1 (c1 := nn) (s1 := 6 * nn) (c2 := 0) (s2 := 0) hL h j8.1 (by rw [e1, e2, e3]; exact c1) ((c5 195 (by decide)).trans m1) (by rw [e1, e2, e3]; exact r1) m2 rfl (kq H2 nn hnn (Or.inr ?_))
                          exact hJ.filD hk (Nat.le_refl _) (by omega) (Or.inl rfl) (c4.far (fun a b1 _ => hlow a (by omega))) ((cut_D c3 (by omega) c6).nr hlow) r3 hTR j11.2.2.2.2.2.2.2 j13 j14 jE.2.2.2.2.2.1 hTW hsub (by omega) ⟨_, h2⟩ ⟨rfl, rfl, rfl⟩
                        · obtain ⟨H1, nn, hnn, c1, c3, c4, c6, c5⟩ := rx_rename1_lateQ (M := 48 * (k + 1)) (sc := (L, xs)) (d := 1990) j8 hT0 hv hu hn1 hn2 (by omega) (by omega) hnm1 hnm2 hkdt hkdt2 hc1t hc2t hqr hd hd2 hwst h1W hkl hs j15 hV9 (fun v hv => (hK7 v hv).1) (by omega) (by omega) hle hX hXN hQ j1 j5 (by omega) (by omega) (by omega) (by omega) hopn hK9 (by omega) (by omega)
                          have hr0 : RefI H1 fa (B * 256) 0 1 1 tb l rs g0 P ms op sm wss kd pa sz nl nm ps := j10.far (fun a b1 b2 => c5 a b1)
                          obtain ⟨z, H2, r1, r2, cur, hcur, r3, r4⟩ := ri_mrename1_late (sc := (L, xs)) (d := 1994) hr0 j11 hv hu hn1 hn2 (by omega) hm2 hns1 hns2 hkd hkd2 hc1 hc2 hqr hkr2 hkq2 (by omega) (by omega) (by omega) hfull
                          obtain ⟨us2, ba2, bo2, m2, -⟩ := id r3
                          have hlow : ∀ a, a < 195 → H2[a]? = H1[a]? := fun a ha => r4 a (by omega)
                          have h2 : H2[224]? = some (kJ 1 e) := (r4 224 (by omega)).trans ((c5 224 (by decide)).trans j20)
                          have hD := lat_D (op := op) c3 h1W c6 (fun c c1 vs9 Q hx hs1 hI hnew hold hVk => fil_rel0 hx.1 (fun j hj q => by rw [dnO_no hj] at q; exact absurd q Bool.false_ne_true) hs1 hold (fun v hv => (hVk v hv).1) hf9 (mv1_rel hx.1.2.2.1 hx.1.2.2.2 hTR hx.1.1.one hVk (by omega) hkr hqr (by rw [hws, gone_eq hrl.2.2.2 hx.1.2.2.2 hrl.1.one hx.1.1.one (fun v hv => by have := (hK7 v hv).1; omega) (fun v hv => by have := (hVk v hv).1; omega) 32]) h1W hr2 hm2 hcur hI))
                          refine gs_x21_1 (c1 := nn) (s1 := 6 * nn) (c2 := 0) (s2 := 0) hL h j8.1 (by rw [e1, e2, e3]; exact c1) ((c5 195 (by decide)).trans m1) (by rw [e1, e2, e3]; exact r1) m2 rfl (kq H2 nn hnn (Or.inr ?_))
                          exact hJ.filD hk (Nat.le_succ _) (Nat.le_refl _) (Or.inr rfl) (c4.far (fun a b1 _ => hlow a (by omega))) (hD.nr hlow) r3 hT' (hpz9 cur hcur).1 (j13.gone hcur) (hnd9 cur hcur) (hpz9 cur hcur).2 hW' hsub (by omega) ⟨_, h2⟩ ⟨up_ne (by omega), rfl, up_ne (by omega)⟩
                    · obtain ⟨H1, c1, c4, c5⟩ := rx_rename1_full (sc := (L, xs)) (d := 1990) j8 hT0 hv hu hn1 hn2 (by omega) (by omega) hnm1 hnm2 hkdt hkdt2 hc1t hc2t hqr hd hd2 hwst h1W hkl hs j15 hV9 (fun v hv => (hK7 v hv).1) (by omega) (by omega) (by rw [hneed]; omega) (by rw [hneed]; omega)
                      have hr0 : RefI H1 fa (B * 256) 0 cw cl tb l rs g0 P ms op sm wss kd pa sz nl nm ps := j10.far (fun a a1 a2 => c5 a (by omega))
                      obtain ⟨z, H2, r1, r2, r3, r4⟩ := ri_mrename1_full (sc := (L, xs)) (d := 1994) hr0 j11 hv hu hn1 hn2 (by omega) hm2 hns1 hns2 hkd hkd2 hc1 hc2 hqr hkr2 hkq2 (by omega) (by omega) (by omega) (by omega)
                      obtain ⟨us2, ba2, bo2, m2, -⟩ := id r3
                      exact gs_x21_2 (c1 := 1) (s1 := 6) (c2 := 0) (s2 := 0) hL h j8.1 (by rw [e1, e2, e3]; exact c1) ((c5 195 (by omega)).trans m1) (by rw [e1, e2, e3]; exact r1) m2 rfl (kq.go1 (Or.inl (hJ.row (cw' := cw) (cl' := cl) (cp' := cp) (cb' := cb) (fa' := 5) (tb' := tb) (l' := 0) hk (c4.far (fun a a1 _ => r4 a (by omega))) r3 jE.1 jE.2.1 (Nat.zero_le _) (Nat.zero_le _) j6 j7 (fun a ha => (r4 a (by omega)).trans (c5 a (by omega))) ⟨e, (r4 224 (by omega)).trans ((c5 224 (by omega)).trans j20)⟩)))
        · obtain ⟨H1, c1, c4, c5⟩ := rx_rename_no2 (sc := (L, xs)) (d := 1990) j8 hT0 hv hu hn1 hn2 (by omega) (by omega) hnm1 hnm2 hkdt (by rw [j17.1 u hu]; exact hkd2)
          have hr0 : RefI H1 fa (B * 256) 0 cw cl tb l rs g0 P ms op sm wss kd pa sz nl nm ps := j10.far (fun a a1 a2 => c5 a (by omega))
          obtain ⟨z, H2, r1, r2, r3, r4⟩ := ri_mrename_no2 (sc := (L, xs)) (d := 1994) hr0 j11 hv hu hn1 hn2 (by omega) hm2 hns1 hns2 hkd hkd2
          obtain ⟨us2, ba2, bo2, m2, -⟩ := id r3
          exact gs_x21_3 (c1 := 1) (s1 := 6) (c2 := 0) (s2 := 0) hL h j8.1 (by rw [e1, e2, e3]; exact c1) ((c5 195 (by omega)).trans m1) (by rw [e1, e2, e3]; exact r1) m2 rfl (kq.go1 (Or.inl (hJ.row (cw' := cw) (cl' := cl) (cp' := cp) (cb' := cb) (fa' := 3) (tb' := tb) (l' := 0) hk (c4.far (fun a a1 _ => r4 a (by omega))) r3 jE.1 jE.2.1 (Nat.zero_le _) (Nat.zero_le _) j6 j7 (fun a ha => (r4 a (by omega)).trans (c5 a (by omega))) ⟨e, (r4 224 (by omega)).trans ((c5 224 (by omega)).trans j20)⟩)))
      · obtain ⟨H1, c1, c4, c5⟩ := rx_rename_no1 (sc := (L, xs)) (d := 1990) j8 hT0 hv hu hn1 hn2 (by omega) (by omega) hnm1 hnm2 (by rw [j17.1 v hv]; exact hkd)
        have hr0 : RefI H1 fa (B * 256) 0 cw cl tb l rs g0 P ms op sm wss kd pa sz nl nm ps := j10.far (fun a a1 a2 => c5 a (by omega))
        obtain ⟨z, H2, r1, r2, r3, r4⟩ := ri_mrename_no1 (sc := (L, xs)) (d := 1994) hr0 j11 hv hu hn1 hn2 (by omega) hm2 hns1 hns2 hkd
        obtain ⟨us2, ba2, bo2, m2, -⟩ := id r3
        exact gs_x21_3 (c1 := 1) (s1 := 6) (c2 := 0) (s2 := 0) hL h j8.1 (by rw [e1, e2, e3]; exact c1) ((c5 195 (by omega)).trans m1) (by rw [e1, e2, e3]; exact r1) m2 rfl (kq.go1 (Or.inl (hJ.row (cw' := cw) (cl' := cl) (cp' := cp) (cb' := cb) (fa' := 3) (tb' := tb) (l' := 0) hk (c4.far (fun a a1 _ => r4 a (by omega))) r3 jE.1 jE.2.1 (Nat.zero_le _) (Nat.zero_le _) j6 j7 (fun a ha => (r4 a (by omega)).trans (c5 a (by omega))) ⟨e, (r4 224 (by omega)).trans ((c5 224 (by omega)).trans j20)⟩)))
    · obtain ⟨H1, c1, c4, c5⟩ := rx_rename_bad (sc := (L, xs)) (d := 1990) j8 hl hb
      have hr0 : RefI H1 fa (B * 256) 0 cw cl tb l rs g0 P ms op sm wss kd pa sz nl nm ps := j10.far (fun a a1 a2 => c5 a (by omega))
      obtain ⟨z, H2, r1, r2, r3, r4⟩ := ri_mrename_bad (sc := (L, xs)) (d := 1994) hr0 j11 hb
      obtain ⟨us2, ba2, bo2, m2, -⟩ := id r3
      exact gs_x21_0 (c1 := 1) (s1 := 6) (c2 := 0) (s2 := 0) hL h j8.1 c1 ((c5 195 (by omega)).trans m1) r1 m2 rfl (kq.go1 (Or.inl (hJ.row (cw' := cw) (cl' := cl) (cp' := cp) (cb' := cb) (fa' := 1) (tb' := tb) (l' := l) hk (c4.far (fun a a1 _ => r4 a (by omega))) r3 jE.1 jE.2.1 j11.1 (by omega) j6 j7 (fun a ha => (r4 a (by omega)).trans (c5 a (by omega))) ⟨e, (r4 224 (by omega)).trans ((c5 224 (by omega)).trans j20)⟩)))
  · obtain ⟨d1, d2, d3, d4, d5, d6, d7, d8, d9, d10, d11, d12, d13, d14, d15, d16, d17, jE, e, d19⟩ := id hJ
    obtain ⟨us, ba, bo, m1, hF, hG, qV, hR⟩ := hJ.fld hk
    obtain ⟨-, -, -, -, -, q5, q6, qR, qT, q8, q9, -⟩ := d9.cells
    have hl := d10.1
    by_cases hb : (∃ t, xs (i + 1) = nI t ∧ t < 201) ∧ (∃ t, xs (i + 2) = nI t ∧ t < 201) ∧ ∃ k, xs (i + 3) = nI k ∧ k ≤ l ∧ nmOk tb 0 k ∧ nmOk tb k (l - k)
    · obtain ⟨⟨v, e1, hv⟩, ⟨u, e2, hu⟩, n, e3, hnl, ⟨hn1, hn2, hns1⟩, ⟨hm1, hm2, hns2⟩⟩ := hb
      have hv : v ≤ 200 := by omega
      have hu : u ≤ 200 := by omega
      have hnm1 := (nosl_iff (tb := tb) (l := l) (i := 0) (n := n) (by omega)).mp hns1
      have hnm2 := (nosl_iff (tb := tb) (l := l) (i := n) (n := l - n) (by omega)).mp hns2
      obtain ⟨H1, c1, c4, c5⟩ := rx_rename_down (sc := (L, xs)) (d := 1990) d7 hv hu hn1 hn2 (by omega) (by omega) hnm1 hnm2
      have hr0 : RefI H1 fa (B * 256) 1 cw cl tb l rs g0 P ms op sm wss kd pa sz nl nm ps := d9.far (fun a a1 a2 => c5 a (by omega))
      obtain ⟨z, H2, r1, r2, r3, r4⟩ := ri_mrename_down (sc := (L, xs)) (d := 1994) hr0 d10 hv hu hn1 hn2 (by omega) hm2 hns1 hns2
      obtain ⟨us2, ba2, bo2, m2, -⟩ := id r3
      exact gs_x21_1 (c1 := 1) (s1 := 6) (c2 := 0) (s2 := 0) hL h d7.1 (by rw [e1, e2, e3]; exact c1) ((c5 195 (by omega)).trans m1) (by rw [e1, e2, e3]; exact r1) m2 rfl (kq.go1 (Or.inr (hJ.row (cw' := cw) (cl' := cl) (cp' := cp) (cb' := cb) (fa' := 2) (tb' := tb) (l' := l) hk (c4.far (fun a a1 _ => r4 a (by omega))) r3 jE.1 jE.2.1 d10.1 (by omega) d5 d6 (fun a ha => (r4 a (by omega)).trans (c5 a (by omega))) ⟨e, (r4 224 (by omega)).trans ((c5 224 (by omega)).trans d19)⟩)))
    · obtain ⟨H1, c1, c4, c5⟩ := rx_rename_bad (sc := (L, xs)) (d := 1990) d7 hl hb
      have hr0 : RefI H1 fa (B * 256) 1 cw cl tb l rs g0 P ms op sm wss kd pa sz nl nm ps := d9.far (fun a a1 a2 => c5 a (by omega))
      obtain ⟨z, H2, r1, r2, r3, r4⟩ := ri_mrename_bad (sc := (L, xs)) (d := 1994) hr0 d10 hb
      obtain ⟨us2, ba2, bo2, m2, -⟩ := id r3
      exact gs_x21_0 (c1 := 1) (s1 := 6) (c2 := 0) (s2 := 0) hL h d7.1 c1 ((c5 195 (by omega)).trans m1) r1 m2 rfl (kq.go1 (Or.inr (hJ.row (cw' := cw) (cl' := cl) (cp' := cp) (cb' := cb) (fa' := 1) (tb' := tb) (l' := l) hk (c4.far (fun a a1 _ => r4 a (by omega))) r3 jE.1 jE.2.1 d10.1 (by omega) d5 d6 (fun a ha => (r4 a (by omega)).trans (c5 a (by omega))) ⟨e, (r4 224 (by omega)).trans ((c5 224 (by omega)).trans d19)⟩)))
end S88
