/-! ===== about: the case of the law, from every state of the invariant; written by wip/gen/about2.py ===== -/
theorem cnt_nd {P : Nat → Bool} : ∀ (n : Nat) (L : List Nat), L.Nodup → (∀ i, i ∈ L ↔ i < n ∧ P i = true) → L.length = cntB P n
  | 0, L, _, h => by
    cases L with
    | nil => rfl
    | cons a t => exact absurd ((h a).mp List.mem_cons_self).1 (Nat.not_lt_zero a)
  | n + 1, L, hn, h => by
    have e : cntB P (n + 1) = cntB P n + (if P n = true then 1 else 0) := rfl
    by_cases hp : P n = true
    · have hm : n ∈ L := (h n).mpr ⟨by omega, hp⟩
      have h1 := cnt_nd n (L.erase n) (hn.erase n) (fun i => by
        rw [hn.mem_erase_iff, h i]
        constructor
        · rintro ⟨q1, q2, q3⟩
          exact ⟨by omega, q3⟩
        · rintro ⟨q1, q2⟩
          exact ⟨by omega, by omega, q2⟩)
      have h2 := List.length_erase_of_mem hm
      have h3 := List.length_pos_of_mem hm
      rw [e, if_pos hp]
      omega
    · have h1 := cnt_nd n L hn (fun i => by
        rw [h i]
        constructor
        · rintro ⟨q1, q2⟩
          refine ⟨?_, q2⟩
          rcases Nat.lt_or_eq_of_le (Nat.le_of_lt_succ q1) with z | z
          · exact z
          · rw [z] at q2
            exact absurd q2 hp
        · rintro ⟨q1, q2⟩
          exact ⟨by omega, q2⟩)
      rw [e, if_neg hp]
      omega
theorem cntP_f {v : Nat} : ∀ (ps : List aPc), cntP v ps = ((ps.filter (fun x => decide (x.1 = v))).map (fun x => x.2.1)).length
  | [] => rfl
  | x :: ps => by
    have h := cntP_f (v := v) ps
    have hx : cntP v (x :: ps) = (if x.1 = v then 1 else 0) + cntP v ps := by unfold cntP; rw [List.map_cons, List.sum_cons]
    rw [hx, List.filter_cons]
    by_cases e : x.1 = v
    · rw [if_pos e, if_pos (decide_eq_true e), List.map_cons, List.length_cons]
      omega
    · rw [if_neg e, if_neg (fun q => e (of_decide_eq_true q))]
      omega
theorem pc_nd {ps : List aPc} {v : Nat} (h : OneP ps) : ((ps.filter (fun x => decide (x.1 = v))).map (fun x => x.2.1)).Nodup := by
  refine List.pairwise_map.mpr ?_
  exact List.Pairwise.imp_of_mem (fun {a b} ha hb hr hq => hr ⟨(of_decide_eq_true (List.mem_filter.mp ha).2).trans (of_decide_eq_true (List.mem_filter.mp hb).2).symm, hq⟩) (h.1.filter _)
/-- as many pieces on both sides -/
theorem cnt_pc {ky : List (List Nat)} {c : Nat → Int8} {vs : List aV} {ps : List aPc} {v P : Nat} (h : PcR c vs ps) (hp : OneP ps) (hO : OneV vs) (hV : ∀ v ∈ vs, VOk ky P v) (hP : P ≤ 2 ^ 30) : cntB (pcIn vs v) 32 = cntP v ps := by
  have hM : ∀ v ∈ vs, v.2.1 ≤ 2 ^ 30 := fun v hv => Nat.le_trans (hV v hv).1 hP
  rw [cntP_f]
  refine (cnt_nd 32 _ (pc_nd hp) (fun i => ?_)).symm
  constructor
  · intro hm
    obtain ⟨⟨f9, i9, y⟩, hx, e⟩ := List.mem_map.mp hm
    obtain ⟨hx1, hx2⟩ := List.mem_filter.mp hx
    have ef : f9 = v := of_decide_eq_true hx2
    have ei : i9 = i := e
    rw [ef, ei] at hx1
    have hin := (h.there hO hM hx1).1
    refine ⟨?_, hin⟩
    obtain ⟨w, b1, b2⟩ := pcIn_key hO hin
    rcases (hV w b1).2.1 with ⟨k, h1, -⟩ | ⟨g, h1, -⟩ | ⟨g, j, h1, -, h3, -⟩
    · rw [b2] at h1
      exact absurd (List.cons.inj h1).1 (by decide)
    · rw [b2] at h1
      exact absurd (List.cons.inj h1).1 (by decide)
    · rw [b2] at h1
      rw [(List.cons.inj (List.cons.inj (List.cons.inj h1).2).2).1]
      exact h3
  · rintro ⟨q1, q2⟩
    obtain ⟨y, hy, -⟩ := h.noth hO hM q2
    exact List.mem_map.mpr ⟨(v, i, y), List.mem_filter.mpr ⟨hy, decide_eq_true rfl⟩, rfl⟩
theorem not200 {x : Int32} (h : nI 201 ≤ x) : ¬ x ≤ 200 := fun e => Int32.not_lt.mpr h ((le_pred (n := 200) (by decide)).mp e)
theorem not3 {x : Int32} (h : nI 4 ≤ x) : ¬ x ≤ 3 := fun e => Int32.not_lt.mpr h ((le_pred (n := 3) (by decide)).mp e)
section S80
variable {L i k kc ks : Nat} {xs : Nat → Int32} {Q : tO × aH × Nat × Nat → Prop} {H : aH}
theorem iv_about (hL : L < 2 ^ 30) (h : i + 6 ≤ L) (hI : InvI k H) (hk : k < 512) (kq : Hd L xs i kc ks Q (k + 1)) : RQ (L, xs) 2000 mr_law 1883 [(4, .int (nI i)), (3, .ref 225), (2, .ref 196), (1, .ref 1), (0, .ref 0)] [] H kc ks Q := by
  rcases hI with ⟨ky, B, N, P, bb, cw, cl, cp, cb, tb, l, g, rl, wss, t0, op, sm, ms, kd, pa, sz, nl, nm, ps, fa, rs, g0, hJ⟩ | ⟨ky, B, N, P, cw, cl, cp, cb, tb, l, g, rl, wss, t0, op, sm, ms, kd, pa, sz, nl, nm, ps, fa, rs, g0, hJ⟩
  · obtain ⟨j1, j2, j3, j4, j5, j6, j7, j8, j9, j10, j11, j12, j13, j14, j15, j16, j17, j18, j19, jE, e, j20⟩ := id hJ
    obtain ⟨us, ba, bo, m1, hF, hG, qV, hR⟩ := hJ.fld hk
    obtain ⟨-, -, -, -, -, q5, q6, qR, qT, q8, q9, -⟩ := j10.cells
    have hTR := j11.2.2.2.2.1
    have hT0 := jE.2.2.2.1
    rcases pk_ix (xs (i + 1)) (n := 201) (by decide) with h9 | h9 | ⟨v, hv, e1⟩
    · exact gs_x27_0 (c1 := 1) (s1 := 6) (c2 := 0) (s2 := 0) hL h j8.1 (rc_about_bad (o := 0) (d := 1996) j8.1 (Or.inl (Or.inl h9))) m1 (rc_mabout_bad (a := 195) (d := 1998) m1 rfl (Or.inl (Or.inl h9))) (get_set m1) rfl (kq.go1 (Or.inl (hF 1)))
    · exact gs_x27_0 (c1 := 1) (s1 := 6) (c2 := 0) (s2 := 0) hL h j8.1 (rc_about_bad (o := 0) (d := 1996) j8.1 (Or.inl (Or.inr (not200 h9)))) m1 (rc_mabout_bad (a := 195) (d := 1998) m1 rfl (Or.inl (Or.inr (Int32.not_lt.mpr h9)))) (get_set m1) rfl (kq.go1 (Or.inl (hF 1)))
    · have hv : v ≤ 200 := by omega
      rcases pk_ix (xs (i + 2)) (n := 4) (by decide) with h9 | h9 | ⟨w, hw, e2⟩
      · exact gs_x27_0 (c1 := 1) (s1 := 6) (c2 := 0) (s2 := 0) hL h j8.1 (rc_about_bad (o := 0) (d := 1996) j8.1 (Or.inr (Or.inl h9))) m1 (rc_mabout_bad (a := 195) (d := 1998) m1 rfl (Or.inr (Or.inl h9))) (get_set m1) rfl (kq.go1 (Or.inl (hF 1)))
      · exact gs_x27_0 (c1 := 1) (s1 := 6) (c2 := 0) (s2 := 0) hL h j8.1 (rc_about_bad (o := 0) (d := 1996) j8.1 (Or.inr (Or.inr (not3 h9)))) m1 (rc_mabout_bad (a := 195) (d := 1998) m1 rfl (Or.inr (Or.inr (Int32.not_lt.mpr h9)))) (get_set m1) rfl (kq.go1 (Or.inl (hF 1)))
      · have hw : w ≤ 3 := by omega
        by_cases hkd : kd v = 0
        · obtain ⟨H1, c1, c4, c5⟩ := rx_about_no (sc := (L, xs)) (d := 1990) j8 hT0 hv hw (by rw [j17.1 v hv]; exact hkd)
          have hr0 : RefI H1 fa (B * 256) 0 cw cl tb l rs g0 P ms op sm wss kd pa sz nl nm ps := j10.far (fun a a1 a2 => c5 a (by omega))
          obtain ⟨z, H2, r1, r2, r3, r4⟩ := ri_mabout_no (sc := (L, xs)) (d := 1994) hr0 j11 hv hw hkd
          obtain ⟨us2, ba2, bo2, m2, -⟩ := id r3
          exact gs_x27_3 (c1 := 1) (s1 := 6) (c2 := 0) (s2 := 0) hL h j8.1 (by rw [e1, e2]; exact c1) ((c5 195 (by omega)).trans m1) (by rw [e1, e2]; exact r1) m2 rfl (kq.go1 (Or.inl (hJ.row (cw' := cw) (cl' := cl) (cp' := cp) (cb' := cb) (fa' := 3) (tb' := tb) (l' := l) hk (c4.far (fun a a1 _ => r4 a (by omega))) r3 jE.1 jE.2.1 j11.1 (by omega) j6 j7 (fun a ha => (r4 a (by omega)).trans (c5 a (by omega))) ⟨e, (r4 224 (by omega)).trans ((c5 224 (by omega)).trans j20)⟩)))
        · have hkt := j17.1 v hv
          have hkdt : ¬ t0.1 v = 0 := by rw [hkt]; exact hkd
          obtain ⟨a1, a2, a3, a4⟩ := j17.2.1 v hv hkd
          have hk12 : kd v = 1 ∨ kd v = 2 := by
            have := (hTR v hv).1
            omega
          obtain ⟨S, lgs, fr, ff, wr, tp, rs9, us9, c, P1, gs, vs, tss, Lc, u1, u2, ⟨hrl, u3⟩, u4⟩ := id j9
          have hV9 := u1.2.2.2.2.2.2.1
          have hK7 := u2.2.2.2.2.2.2.1
          rcases (show w = 0 ∨ w = 1 ∨ w = 2 ∨ w = 3 by omega) with r | r | r | r <;> subst r
          · obtain ⟨x, H1, c1, c2, c4, c5⟩ := ri_about0 (sc := (L, xs)) (d := 1990) j8 hT0 hv hkdt
            have h224 : H1[224]? = some (kJ 1 e) := (c5 224 (by omega)).trans j20
            have hr0 : RefI (H1.set 224 (kJ 1 (va_up e 0 x.toInt64))) fa (B * 256) 0 cw cl tb l rs g0 P ms op sm wss kd pa sz nl nm ps := j10.far (fun a b1 b2 => (set_far (by omega)).trans (c5 a (by omega)))
            obtain ⟨z, H2, r1, r2, r3, r4⟩ := ri_mabout0_ok (sc := (L, xs)) (d := 1994) hr0 j11 hv hkd
            have hxz : z = x := by rw [r2, c2, hkt]
            rw [hxz] at r1
            obtain ⟨us2, ba2, bo2, m2, -⟩ := id r3
            have hlow : ∀ a, a < 195 → H2[a]? = H1[a]? := fun a ha => (r4 a (by omega)).trans (set_far (by omega))
            have h2 : H2[224]? = some (kJ 1 (va_up e 0 x.toInt64)) := (r4 224 (by omega)).trans (get_set h224)
            exact gs_ok27 (c1 := 0) (s1 := 0) (c2 := 0) (s2 := 0) (x := x) hL h j8.1 (by rw [e1, e2]; exact c1) h224 ((c5 195 (by omega)).trans m1) (by rw [e1, e2]; exact r1) m2 rfl h2 (kq.go0 (Or.inl (hJ.row (cw' := cw) (cl' := cl) (cp' := cp) (cb' := cb) (fa' := 0) (tb' := tb) (l' := l) hk (c4.far (fun a b1 _ => hlow a (by omega))) r3 jE.1 jE.2.1 j11.1 (by omega) j6 j7 (fun a ha => (hlow a (by omega)).trans (c5 a (by omega))) ⟨_, h2⟩)))
          · obtain ⟨x, H1, c1, c2, c4, c5⟩ := ri_about1 (sc := (L, xs)) (d := 1990) j8 hT0 hv hkdt
            have h224 : H1[224]? = some (kJ 1 e) := (c5 224 (by omega)).trans j20
            have hr0 : RefI (H1.set 224 (kJ 1 (va_up e 0 x.toInt64))) fa (B * 256) 0 cw cl tb l rs g0 P ms op sm wss kd pa sz nl nm ps := j10.far (fun a b1 b2 => (set_far (by omega)).trans (c5 a (by omega)))
            obtain ⟨z, H2, r1, r2, r3, r4⟩ := ri_mabout1_ok (sc := (L, xs)) (d := 1994) hr0 j11 hv hkd
            have hxz : z = x := by
              rw [r2, c2, hkt, a2, same_cnt j17 v]
              rcases hk12 with q | q
              · rw [if_neg (by rw [q]; decide), if_pos q]
              · rw [if_pos q, if_neg (by rw [q]; decide)]
            rw [hxz] at r1
            obtain ⟨us2, ba2, bo2, m2, -⟩ := id r3
            have hlow : ∀ a, a < 195 → H2[a]? = H1[a]? := fun a ha => (r4 a (by omega)).trans (set_far (by omega))
            have h2 : H2[224]? = some (kJ 1 (va_up e 0 x.toInt64)) := (r4 224 (by omega)).trans (get_set h224)
            exact gs_ok27 (c1 := 0) (s1 := 0) (c2 := 0) (s2 := 0) (x := x) hL h j8.1 (by rw [e1, e2]; exact c1) h224 ((c5 195 (by omega)).trans m1) (by rw [e1, e2]; exact r1) m2 rfl h2 (kq.go0 (Or.inl (hJ.row (cw' := cw) (cl' := cl) (cp' := cp) (cb' := cb) (fa' := 0) (tb' := tb) (l' := l) hk (c4.far (fun a b1 _ => hlow a (by omega))) r3 jE.1 jE.2.1 j11.1 (by omega) j6 j7 (fun a ha => (hlow a (by omega)).trans (c5 a (by omega))) ⟨_, h2⟩)))
          · obtain ⟨x, H1, c1, c2, c4, c5⟩ := ri_about2 (sc := (L, xs)) (d := 1990) j8 hT0 hv hkdt
            have h224 : H1[224]? = some (kJ 1 e) := (c5 224 (by omega)).trans j20
            have hr0 : RefI (H1.set 224 (kJ 1 (va_up e 0 x.toInt64))) fa (B * 256) 0 cw cl tb l rs g0 P ms op sm wss kd pa sz nl nm ps := j10.far (fun a b1 b2 => (set_far (by omega)).trans (c5 a (by omega)))
            obtain ⟨z, H2, r1, r2, r3, r4⟩ := ri_mabout2_ok (sc := (L, xs)) (d := 1994) hr0 j11 hv hkd
            have hxz : z = x := by rw [r2, c2, a1]
            rw [hxz] at r1
            obtain ⟨us2, ba2, bo2, m2, -⟩ := id r3
            have hlow : ∀ a, a < 195 → H2[a]? = H1[a]? := fun a ha => (r4 a (by omega)).trans (set_far (by omega))
            have h2 : H2[224]? = some (kJ 1 (va_up e 0 x.toInt64)) := (r4 224 (by omega)).trans (get_set h224)
            exact gs_ok27 (c1 := 0) (s1 := 0) (c2 := 0) (s2 := 0) (x := x) hL h j8.1 (by rw [e1, e2]; exact c1) h224 ((c5 195 (by omega)).trans m1) (by rw [e1, e2]; exact r1) m2 rfl h2 (kq.go0 (Or.inl (hJ.row (cw' := cw) (cl' := cl) (cp' := cp) (cb' := cb) (fa' := 0) (tb' := tb) (l' := l) hk (c4.far (fun a b1 _ => hlow a (by omega))) r3 jE.1 jE.2.1 j11.1 (by omega) j6 j7 (fun a ha => (hlow a (by omega)).trans (c5 a (by omega))) ⟨_, h2⟩)))
          · obtain ⟨x, H1, c1, c2, c4, c5⟩ := ri_about3 (sc := (L, xs)) (d := 1990) j8 hT0 hv hkdt hV9
            have h224 : H1[224]? = some (kJ 1 e) := (c5 224 (by omega)).trans j20
            have hr0 : RefI (H1.set 224 (kJ 1 (va_up e 0 x.toInt64))) fa (B * 256) 0 cw cl tb l rs g0 P ms op sm wss kd pa sz nl nm ps := j10.far (fun a b1 b2 => (set_far (by omega)).trans (c5 a (by omega)))
            obtain ⟨z, H2, r1, r2, r3, r4⟩ := ri_mabout3_ok (sc := (L, xs)) (d := 1994) hr0 j11 hv hkd
            have hxz : z = x := by rw [r2, c2, cnt_pc hrl.2.2.2 j13 hrl.1.one hK7 (by omega)]
            rw [hxz] at r1
            obtain ⟨us2, ba2, bo2, m2, -⟩ := id r3
            have hlow : ∀ a, a < 195 → H2[a]? = H1[a]? := fun a ha => (r4 a (by omega)).trans (set_far (by omega))
            have h2 : H2[224]? = some (kJ 1 (va_up e 0 x.toInt64)) := (r4 224 (by omega)).trans (get_set h224)
            exact gs_ok27 (c1 := 0) (s1 := 0) (c2 := 0) (s2 := 0) (x := x) hL h j8.1 (by rw [e1, e2]; exact c1) h224 ((c5 195 (by omega)).trans m1) (by rw [e1, e2]; exact r1) m2 rfl h2 (kq.go0 (Or.inl (hJ.row (cw' := cw) (cl' := cl) (cp' := cp) (cb' := cb) (fa' := 0) (tb' := tb) (l' := l) hk (c4.far (fun a b1 _ => hlow a (by omega))) r3 jE.1 jE.2.1 j11.1 (by omega) j6 j7 (fun a ha => (hlow a (by omega)).trans (c5 a (by omega))) ⟨_, h2⟩)))
  · obtain ⟨d1, d2, d3, d4, d5, d6, d7, d8, d9, d10, d11, d12, d13, d14, d15, d16, d17, jE, e, d19⟩ := id hJ
    obtain ⟨us, ba, bo, m1, hF, hG, qV, hR⟩ := hJ.fld hk
    obtain ⟨-, -, -, -, -, q5, q6, qR, qT, q8, q9, -⟩ := d9.cells
    rcases pk_ix (xs (i + 1)) (n := 201) (by decide) with h9 | h9 | ⟨v, hv, e1⟩
    · exact gs_x27_0 (c1 := 1) (s1 := 6) (c2 := 0) (s2 := 0) hL h d7.1 (rc_about_bad (o := 0) (d := 1996) d7.1 (Or.inl (Or.inl h9))) m1 (rc_mabout_bad (a := 195) (d := 1998) m1 rfl (Or.inl (Or.inl h9))) (get_set m1) rfl (kq.go1 (Or.inr (hF 1)))
    · exact gs_x27_0 (c1 := 1) (s1 := 6) (c2 := 0) (s2 := 0) hL h d7.1 (rc_about_bad (o := 0) (d := 1996) d7.1 (Or.inl (Or.inr (not200 h9)))) m1 (rc_mabout_bad (a := 195) (d := 1998) m1 rfl (Or.inl (Or.inr (Int32.not_lt.mpr h9)))) (get_set m1) rfl (kq.go1 (Or.inr (hF 1)))
    · have hv : v ≤ 200 := by omega
      rcases pk_ix (xs (i + 2)) (n := 4) (by decide) with h9 | h9 | ⟨w, hw, e2⟩
      · exact gs_x27_0 (c1 := 1) (s1 := 6) (c2 := 0) (s2 := 0) hL h d7.1 (rc_about_bad (o := 0) (d := 1996) d7.1 (Or.inr (Or.inl h9))) m1 (rc_mabout_bad (a := 195) (d := 1998) m1 rfl (Or.inr (Or.inl h9))) (get_set m1) rfl (kq.go1 (Or.inr (hF 1)))
      · exact gs_x27_0 (c1 := 1) (s1 := 6) (c2 := 0) (s2 := 0) hL h d7.1 (rc_about_bad (o := 0) (d := 1996) d7.1 (Or.inr (Or.inr (not3 h9)))) m1 (rc_mabout_bad (a := 195) (d := 1998) m1 rfl (Or.inr (Or.inr (Int32.not_lt.mpr h9)))) (get_set m1) rfl (kq.go1 (Or.inr (hF 1)))
      · have hw : w ≤ 3 := by omega
        obtain ⟨H1, c1, c4, c5⟩ := rx_about_down (sc := (L, xs)) (d := 1990) d7 hv hw
        have hr0 : RefI H1 fa (B * 256) 1 cw cl tb l rs g0 P ms op sm wss kd pa sz nl nm ps := d9.far (fun a a1 a2 => c5 a (by omega))
        obtain ⟨z, H2, r1, r2, r3, r4⟩ := ri_mabout_down (sc := (L, xs)) (d := 1994) hr0 d10 hv hw
        obtain ⟨us2, ba2, bo2, m2, -⟩ := id r3
        exact gs_x27_1 (c1 := 1) (s1 := 6) (c2 := 0) (s2 := 0) hL h d7.1 (by rw [e1, e2]; exact c1) ((c5 195 (by omega)).trans m1) (by rw [e1, e2]; exact r1) m2 rfl (kq.go1 (Or.inr (hJ.row (cw' := cw) (cl' := cl) (cp' := cp) (cb' := cb) (fa' := 2) (tb' := tb) (l' := l) hk (c4.far (fun a a1 _ => r4 a (by omega))) r3 jE.1 jE.2.1 d10.1 (by omega) d5 d6 (fun a ha => (r4 a (by omega)).trans (c5 a (by omega))) ⟨e, (r4 224 (by omega)).trans ((c5 224 (by omega)).trans d19)⟩)))
end S80
