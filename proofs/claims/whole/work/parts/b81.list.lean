/-! ===== list: the case of the law, from every state of the invariant; written by wip/gen/list2.py ===== -/
set_option maxRecDepth 20000 in
theorem ri_mlist_downY {sc : Nat × (Nat → Int32)} {d l : Nat} {H : aH} {fa cw cl rs : Int32} {li : Nat} {tb : Nat → Int8} {g0 : Nat → Int8} {p : Nat} {ms : List aMV} {op : Nat → Bool} {se : Nat → Nat} {wss : Nat → List aE} {kd pa sz nl : Nat → Nat} {nm : Nat → Int8} {ps : List aPc} {v : Nat} {y : Int32} (h : RefI H fa li 1 cw cl tb l rs g0 p ms op se wss kd pa sz nl nm ps) (hk : RefOk l p ms se kd pa sz nl ps) (hv : v ≤ 200) : RI sc (d + 5) mr_329 [.ref 196, .int (nI v), .int y] H (fun x H' => x = 0 ∧ RefI H' 2 li 1 cw cl tb l rs g0 p ms op se wss kd pa sz nl nm ps ∧ ∀ a, ¬ (195 ≤ a ∧ a < 224) → H'[a]? = H[a]?) := by
  obtain ⟨us, ba, bo, hm, hV, h5, h6, hR, hT, hP, h196, h197⟩ := h
  obtain ⟨k1, k2, k3, k4, k5, k6, k7, k8⟩ := hk
  refine RI.of ?_
  refine RQ.blk 2 (pc' := 2) (lv' := [(0, .ref 196), (1, .int (nI v)), (2, .int y)]) (st' := [.int 0, .ref 196]) (H' := _) (kc' := 0) (ks' := 0) rfl ?_
  refine RQ.put (ci := 12) rfl hm rfl rfl (Nat.le_of_ble_eq_true rfl) ?_
  have hm1 : (H.set 195 (kO 12 (mfs 0 (nI li) 1 cw cl (nI l) rs (nI p) (nI ms.length) (nI us) (nI ps.length) (nI (plen ps)) ba bo)))[195]? = some (kO 12 (mfs 0 (nI li) 1 cw cl (nI l) rs (nI p) (nI ms.length) (nI us) (nI ps.length) (nI (plen ps)) ba bo)) := get_set hm
  have f1 : ∀ a, a ≠ 195 → (H.set 195 (kO 12 (mfs 0 (nI li) 1 cw cl (nI l) rs (nI p) (nI ms.length) (nI us) (nI ps.length) (nI (plen ps)) ba bo)))[a]? = H[a]? := fun a ha => set_far ha
  show RQ _ _ _ 5 [(0, .ref 196), (1, .int (nI v)), (2, .int y)] [] (H.set 195 (kO 12 (mfs 0 (nI li) 1 cw cl (nI l) rs (nI p) (nI ms.length) (nI us) (nI ps.length) (nI (plen ps)) ba bo))) 0 0 _
  generalize (H.set 195 (kO 12 (mfs 0 (nI li) 1 cw cl (nI l) rs (nI p) (nI ms.length) (nI us) (nI ps.length) (nI (plen ps)) ba bo))) = H1 at hm1 f1 ⊢
  have hV1 := hV.far (fun a a1 a2 => f1 a (by omega)) (f1 223 (by decide))
  have h51 := (f1 205 (by decide)).trans h5
  have h61 := (f1 206 (by decide)).trans h6
  have hR1 := hR.far (fun a a1 => f1 a (by omega))
  have hT1 := hT.far (fun a a1 a2 => f1 a (by omega))
  have hP1 := hP.far (fun a a1 a2 => f1 a (by omega))
  have h1961 := (f1 196 (by decide)).trans h196
  have h1971 := (f1 197 (by decide)).trans h197
  have hkv := k5 v hv
  refine RQ.blk 3 (pc' := 10) (lv' := [(0, .ref 196), (1, .int (nI v)), (2, .int y)]) (st' := [.int 201, .int (nI v), .ref 196]) (H' := _) (kc' := 0) (ks' := 0) rfl ?_
  refine RQ.call (v := some (.int 0)) (st' := []) rfl rfl rfl rfl rfl rfl (args_v [.int 201, .int (nI v)] [] rfl rfl (Nat.le_of_ble_eq_true rfl) rfl hm1 (Nat.le_of_ble_eq_true rfl)) (rc_out (v := v) (m := 201) (by omega) (by decide)) ?_
  refine RQ.brT rfl rfl rfl (by decide) ?_
  refine RQ.blk 1 (pc' := 23) (lv' := [(0, .ref 196), (1, .int (nI v)), (2, .int y)]) (st' := [.ref 196]) (H' := _) (kc' := 0) (ks' := 0) rfl ?_
  refine RQ.get (ci := 12) rfl hm1 rfl rfl ?_
  refine RQ.brF rfl rfl rfl (by decide) ?_
  refine RQ.blk 2 (pc' := 31) (lv' := [(0, .ref 196), (1, .int (nI v)), (2, .int y)]) (st' := [.int 2, .ref 196]) (H' := _) (kc' := 0) (ks' := 0) rfl ?_
  refine RQ.call (v := some (.int 0)) (st' := []) rfl rfl rfl rfl rfl rfl (args_v [.int 2] [] rfl rfl (Nat.le_of_ble_eq_true rfl) rfl hm1 (Nat.le_of_ble_eq_true rfl)) (rc_mfail hm1 rfl) ?_
  exact RQ.done (c := 0) (s := 0) rfl rfl rfl rfl ⟨_, _, rfl, rfl, ⟨us, ba, bo, get_set hm1, hV1.far (fun a a1 a2 => set_far (by omega)) (set_far (by decide)), (set_far (by decide)).trans h51, (set_far (by decide)).trans h61, hR1.far (fun a a1 => set_far (by omega)), hT1.far (fun a a1 a2 => set_far (by omega)), hP1.far (fun a a1 a2 => set_far (by omega)), (set_far (by decide)).trans h1961, (set_far (by decide)).trans h1971⟩, fun a ha => (set_far (by omega)).trans (f1 a (by omega))⟩
theorem rkF_congr {P Q : Nat → Bool} : ∀ (n : Nat), (∀ w, 1 ≤ w → w ≤ n → P w = Q w) → rkF P n = rkF Q n
  | 0, _ => rfl
  | n + 1, h => by
    show rkF P n + (if P (n + 1) = true then 1 else 0) = rkF Q n + (if Q (n + 1) = true then 1 else 0)
    rw [rkF_congr n (fun w h1 h2 => h w h1 (by omega)), h (n + 1) (by omega) (Nat.le_refl _)]
theorem same_inD {t : aTr} {kd pa sz nl : Nat → Nat} {nm : Nat → Int8} (h : SameT t kd pa sz nl nm) {v w : Nat} (hw : w ≤ 200) : inD t.1 t.2.1 v w = inD kd pa v w := by
  unfold inD
  rw [h.1 w hw]
  by_cases e : kd w = 0
  · rw [decide_eq_true e, Bool.not_true, Bool.false_and, Bool.false_and]
  · rw [(h.2.1 w hw e).1]
theorem inD_kd {kd pa : Nat → Nat} {v w : Nat} (h : inD kd pa v w = true) : ¬ kd w = 0 := fun q => by
  unfold inD at h
  rw [decide_eq_true q, Bool.not_true, Bool.false_and] at h
  cases h
theorem same_lsP {t : aTr} {kd pa sz nl : Nat → Nat} {nm : Nat → Int8} (h : SameT t kd pa sz nl nm) (v n : Nat) : fstF (lsP t.1 t.2.1 t.2.2.2.1 t.2.2.2.2.1 v n) 1 200 = fstF (lsP kd pa nl nm v n) 1 200 := fstF_congr 200 1 (fun c h1 h2 => by
  have hc : c ≤ 200 := by omega
  unfold lsP
  rw [same_inD h hc]
  cases e : inD kd pa v c with
  | false => rw [Bool.false_and, Bool.false_and]
  | true =>
    obtain ⟨-, -, a3, a4⟩ := h.2.1 c hc (inD_kd e)
    rw [rkF_congr 200 (fun w w1 w2 => ?_)]
    unfold rkP
    rw [same_inD h w2]
    cases e2 : inD kd pa v w with
    | false => rw [Bool.false_and, Bool.false_and]
    | true =>
      obtain ⟨-, -, b3, b4⟩ := h.2.1 w w2 (inD_kd e2)
      rw [a3, a4, b3, b4])
section S81
variable {L i k kc ks : Nat} {xs : Nat → Int32} {Q : tO × aH × Nat × Nat → Prop} {H : aH}
theorem iv_list (hL : L < 2 ^ 30) (h : i + 6 ≤ L) (hI : InvI k H) (hk : k < 512) (kq : Hd L xs i kc ks Q (k + 1)) : RQ (L, xs) 2000 mr_law 1815 [(4, .int (nI i)), (3, .ref 225), (2, .ref 196), (1, .ref 1), (0, .ref 0)] [] H kc ks Q := by
  rcases hI with ⟨ky, B, N, P, bb, cw, cl, cp, cb, tb, l, g, rl, wss, t0, op, sm, ms, kd, pa, sz, nl, nm, ps, fa, rs, g0, hJ⟩ | ⟨ky, B, N, P, cw, cl, cp, cb, tb, l, g, rl, wss, t0, op, sm, ms, kd, pa, sz, nl, nm, ps, fa, rs, g0, hJ⟩
  · obtain ⟨j1, j2, j3, j4, j5, j6, j7, j8, j9, j10, j11, j12, j13, j14, j15, j16, j17, j18, j19, jE, e, j20⟩ := id hJ
    obtain ⟨us, ba, bo, m1, hF, hG, qV, hR⟩ := hJ.fld hk
    obtain ⟨-, -, -, -, -, q5, q6, qR, qT, q8, q9, -⟩ := j10.cells
    have hTR := j11.2.2.2.2.1
    have hT0 := jE.2.2.2.1
    rcases pk_ix (xs (i + 1)) (n := 201) (by decide) with h9 | h9 | ⟨v, hv, e1⟩
    · exact gs_x26_0 (c1 := 1) (s1 := 6) (c2 := 0) (s2 := 0) hL h j8.1 (rc_list_bad (o := 0) (d := 1996) j8.1 (Or.inl h9)) m1 (rc_mlist_bad (a := 195) (d := 1998) m1 rfl (Or.inl h9)) (get_set m1) rfl (kq.go1 (Or.inl (hF 1)))
    · exact gs_x26_0 (c1 := 1) (s1 := 6) (c2 := 0) (s2 := 0) hL h j8.1 (rc_list_bad (o := 0) (d := 1996) j8.1 (Or.inr (not200 h9))) m1 (rc_mlist_bad (a := 195) (d := 1998) m1 rfl (Or.inr (Int32.not_lt.mpr h9))) (get_set m1) rfl (kq.go1 (Or.inl (hF 1)))
    · have hv : v ≤ 200 := by omega
      by_cases hk0 : xs (i + 2) < 0
      · by_cases hkd : kd v = 2
        · obtain ⟨H1, c1, c4, c5⟩ := rx_list_neg (sc := (L, xs)) (d := 1990) j8 hT0 hv ((j17.1 v hv).trans hkd) hk0
          have hr0 : RefI H1 fa (B * 256) 0 cw cl tb l rs g0 P ms op sm wss kd pa sz nl nm ps := j10.far (fun a a1 a2 => c5 a (by omega))
          obtain ⟨z, H2, r1, r2, r3, r4⟩ := ri_mlist_neg (sc := (L, xs)) (d := 1994) hr0 j11 hv hkd hk0
          obtain ⟨us2, ba2, bo2, m2, -⟩ := id r3
          exact gs_x26_3 (c1 := 1) (s1 := 6) (c2 := 0) (s2 := 0) hL h j8.1 (by rw [e1]; exact c1) ((c5 195 (by omega)).trans m1) (by rw [e1]; exact r1) m2 rfl (kq.go1 (Or.inl (hJ.row (cw' := cw) (cl' := cl) (cp' := cp) (cb' := cb) (fa' := 3) (tb' := tb) (l' := l) hk (c4.far (fun a a1 _ => r4 a (by omega))) r3 jE.1 jE.2.1 j11.1 (by omega) j6 j7 (fun a ha => (r4 a (by omega)).trans (c5 a (by omega))) ⟨e, (r4 224 (by omega)).trans ((c5 224 (by omega)).trans j20)⟩)))
        · obtain ⟨H1, c1, c4, c5⟩ := rx_list_nodir (sc := (L, xs)) (d := 1990) (k := xs (i + 2)) j8 hT0 hv (by rw [j17.1 v hv]; exact hkd)
          have hr0 : RefI H1 fa (B * 256) 0 cw cl tb l rs g0 P ms op sm wss kd pa sz nl nm ps := j10.far (fun a a1 a2 => c5 a (by omega))
          obtain ⟨us2, ba2, bo2, n1, -, -, -, -, pT, p8, p9, hR2⟩ := hr0.cells
          have hne2 : ¬ nI (kd v) = 2 := by
            rcases (show kd v = 0 ∨ kd v = 1 by have := (hTR v hv).1; omega) with q | q <;> rw [q] <;> decide
          have hr := rc_mlist_no (sc := (L, xs)) (a := 195) (k := 213) (d := 1998) (y := xs (i + 2)) n1 rfl rfl pT.1 (by decide) rfl hv hne2
          exact gs_x26_3 (c1 := 1) (s1 := 6) (c2 := 0) (s2 := 0) hL h j8.1 (by rw [e1]; exact c1) n1 (by rw [e1]; exact hr) (get_set n1) rfl (kq.go1 (Or.inl (hJ.row (cw' := cw) (cl' := cl) (cp' := cp) (cb' := cb) (fa' := 3) (tb' := tb) (l' := l) hk (c4.far (fun a a1 _ => set_far (by omega))) (hR2 _ 3 0 cw cl tb l rs g0 (get_set n1) ((set_far (by decide)).trans p8) ((set_far (by decide)).trans p9) (fun a a1 a2 => set_far (by omega))) jE.1 jE.2.1 j11.1 (by omega) j6 j7 (fun a ha => (set_far (by omega)).trans (c5 a (by omega))) ⟨e, (set_far (by decide)).trans ((c5 224 (by omega)).trans j20)⟩)))
      · obtain ⟨n, hn, e2⟩ := nI_of hk0
        by_cases hkd : kd v = 2
        · have hkdt : t0.1 v = 2 := (j17.1 v hv).trans hkd
          cases hfn : fstF (lsP kd pa nl nm v n) 1 200 with
          | none =>
            have hfnt := (same_lsP j17 v n).trans hfn
            obtain ⟨H1, c1, c4, c5⟩ := rx_list_none (sc := (L, xs)) (d := 1990) j8 hT0 hv hkdt hn hfnt
            have hr0 : RefI H1 fa (B * 256) 0 cw cl tb l rs g0 P ms op sm wss kd pa sz nl nm ps := j10.far (fun a a1 a2 => c5 a (by omega))
            obtain ⟨z, H2, r1, r2, r3, r4⟩ := ri_mlist_none (sc := (L, xs)) (d := 1994) hr0 j11 hv hn hkd hfn
            obtain ⟨us2, ba2, bo2, m2, -⟩ := id r3
            exact gs_x26_3 (c1 := 1) (s1 := 6) (c2 := 0) (s2 := 0) hL h j8.1 (by rw [e1, e2]; exact c1) ((c5 195 (by omega)).trans m1) (by rw [e1, e2]; exact r1) m2 rfl (kq.go1 (Or.inl (hJ.row (cw' := cw) (cl' := cl) (cp' := cp) (cb' := cb) (fa' := 3) (tb' := tb) (l' := l) hk (c4.far (fun a a1 _ => r4 a (by omega))) r3 jE.1 jE.2.1 j11.1 (by omega) j6 j7 (fun a ha => (r4 a (by omega)).trans (c5 a (by omega))) ⟨e, (r4 224 (by omega)).trans ((c5 224 (by omega)).trans j20)⟩)))
          | some r =>
            have hfnt := (same_lsP j17 v n).trans hfn
            have hrr := fstF_lt hfn
            have hr2 : r ≤ 200 := by omega
            have hkr : ¬ kd r = 0 := by
              have h9 := fstF_some hfn
              unfold lsP at h9
              rw [Bool.and_eq_true] at h9
              exact inD_kd h9.1
            obtain ⟨a1, a2, a3, a4⟩ := j17.2.1 r hr2 hkr
            have hnl := (hTR r hr2).2.2.2
            obtain ⟨x, H1, c1, c2, c4, c5⟩ := ri_list (sc := (L, xs)) (d := 1990) j8 hT0 hv hkdt hn hfnt
            have h224 : H1[224]? = some (kJ 1 e) := (c5 224 (by omega)).trans j20
            have hr0 : RefI (H1.set 224 (kJ 1 (va_up e 0 x.toInt64))) fa (B * 256) 0 cw cl tb l rs g0 P ms op sm wss kd pa sz nl nm ps := j10.far (fun a b1 b2 => (set_far (by omega)).trans (c5 a (by omega)))
            obtain ⟨z, H2, r1, r2, r3, r4⟩ := ri_mlist_ok (sc := (L, xs)) (d := 1994) hr0 j11 hv hn hkd hfn
            have hxz : z = x := r2.trans c2.symm
            rw [hxz] at r1
            rw [a3] at c4
            obtain ⟨us2, ba2, bo2, m2, -⟩ := id r3
            have hlow : ∀ a, a < 195 → H2[a]? = H1[a]? := fun a ha => (r4 a (by omega)).trans (set_far (by omega))
            have h2 : H2[224]? = some (kJ 1 (va_up e 0 x.toInt64)) := (r4 224 (by omega)).trans (get_set h224)
            refine gs_ok26 (c1 := 0) (s1 := 0) (c2 := 0) (s2 := 0) (x := x) hL h j8.1 (by rw [e1, e2]; exact c1) h224 ((c5 195 (by omega)).trans m1) (by rw [e1, e2]; exact r1) m2 rfl h2 (kq.go0 (Or.inl (hJ.res (g' := cpy t0.2.2.2.2.1 (r * 30) g 0 (nl r)) (rl' := nl r) (g0' := cpy nm (30 * r) g0 0 (nl r)) (l' := l) (tb' := tb) (fa' := 0) hk (c4.far (fun a b1 _ => hlow a (by omega))) r3 (Nat.le_refl _) (by omega) (fun j hj => ?_) (fun a ha => (hlow a (by omega)).trans (c5 a (by omega))) ⟨_, h2⟩)))
            have h9 := sl_inj a4 j hj
            have h8 := cpy_in (f := t0.2.2.2.2.1) (g := g) (i := r * 30) (j := 0) (k := nl r) hj
            have h7 := cpy_in (f := nm) (g := g0) (i := 30 * r) (j := 0) (k := nl r) hj
            rw [Nat.zero_add] at h8 h7
            rw [h8, h7, h9, Nat.mul_comm 30 r]
        · obtain ⟨H1, c1, c4, c5⟩ := rx_list_nodir (sc := (L, xs)) (d := 1990) (k := nI n) j8 hT0 hv (by rw [j17.1 v hv]; exact hkd)
          have hr0 : RefI H1 fa (B * 256) 0 cw cl tb l rs g0 P ms op sm wss kd pa sz nl nm ps := j10.far (fun a a1 a2 => c5 a (by omega))
          obtain ⟨z, H2, r1, r2, r3, r4⟩ := ri_mlist_nodir (sc := (L, xs)) (d := 1994) hr0 j11 hv hn hkd
          obtain ⟨us2, ba2, bo2, m2, -⟩ := id r3
          exact gs_x26_3 (c1 := 1) (s1 := 6) (c2 := 0) (s2 := 0) hL h j8.1 (by rw [e1, e2]; exact c1) ((c5 195 (by omega)).trans m1) (by rw [e1, e2]; exact r1) m2 rfl (kq.go1 (Or.inl (hJ.row (cw' := cw) (cl' := cl) (cp' := cp) (cb' := cb) (fa' := 3) (tb' := tb) (l' := l) hk (c4.far (fun a a1 _ => r4 a (by omega))) r3 jE.1 jE.2.1 j11.1 (by omega) j6 j7 (fun a ha => (r4 a (by omega)).trans (c5 a (by omega))) ⟨e, (r4 224 (by omega)).trans ((c5 224 (by omega)).trans j20)⟩)))
  · obtain ⟨d1, d2, d3, d4, d5, d6, d7, d8, d9, d10, d11, d12, d13, d14, d15, d16, d17, jE, e, d19⟩ := id hJ
    obtain ⟨us, ba, bo, m1, hF, hG, qV, hR⟩ := hJ.fld hk
    obtain ⟨-, -, -, -, -, q5, q6, qR, qT, q8, q9, -⟩ := d9.cells
    rcases pk_ix (xs (i + 1)) (n := 201) (by decide) with h9 | h9 | ⟨v, hv, e1⟩
    · exact gs_x26_0 (c1 := 1) (s1 := 6) (c2 := 0) (s2 := 0) hL h d7.1 (rc_list_bad (o := 0) (d := 1996) d7.1 (Or.inl h9)) m1 (rc_mlist_bad (a := 195) (d := 1998) m1 rfl (Or.inl h9)) (get_set m1) rfl (kq.go1 (Or.inr (hF 1)))
    · exact gs_x26_0 (c1 := 1) (s1 := 6) (c2 := 0) (s2 := 0) hL h d7.1 (rc_list_bad (o := 0) (d := 1996) d7.1 (Or.inr (not200 h9))) m1 (rc_mlist_bad (a := 195) (d := 1998) m1 rfl (Or.inr (Int32.not_lt.mpr h9))) (get_set m1) rfl (kq.go1 (Or.inr (hF 1)))
    · have hv : v ≤ 200 := by omega
      obtain ⟨H1, c1, c4, c5⟩ := rx_list_down (sc := (L, xs)) (d := 1990) (k := xs (i + 2)) d7 hv
      have hr0 : RefI H1 fa (B * 256) 1 cw cl tb l rs g0 P ms op sm wss kd pa sz nl nm ps := d9.far (fun a a1 a2 => c5 a (by omega))
      obtain ⟨z, H2, r1, r2, r3, r4⟩ := ri_mlist_downY (sc := (L, xs)) (d := 1994) (y := xs (i + 2)) hr0 d10 hv
      obtain ⟨us2, ba2, bo2, m2, -⟩ := id r3
      exact gs_x26_1 (c1 := 1) (s1 := 6) (c2 := 0) (s2 := 0) hL h d7.1 (by rw [e1]; exact c1) ((c5 195 (by omega)).trans m1) (by rw [e1]; exact r1) m2 rfl (kq.go1 (Or.inr (hJ.row (cw' := cw) (cl' := cl) (cp' := cp) (cb' := cb) (fa' := 2) (tb' := tb) (l' := l) hk (c4.far (fun a a1 _ => r4 a (by omega))) r3 jE.1 jE.2.1 d10.1 (by omega) d5 d6 (fun a ha => (r4 a (by omega)).trans (c5 a (by omega))) ⟨e, (r4 224 (by omega)).trans ((c5 224 (by omega)).trans d19)⟩)))
end S81
