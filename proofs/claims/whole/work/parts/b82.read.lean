/-! ===== read: the case of the law, from every state of the invariant; written by wip/gen/read2.py ===== -/
theorem byG_old {ps : List aPc} {f p : Nat} : byG ps f p = ((oldP ps f (p / 512))[p % 512]?).getD 0 := by
  unfold byG oldP
  cases e : pcI ps f (p / 512) with
  | none => rfl
  | some j =>
    show (match (some j).bind (fun j => ps[j]?) with | some y => (y.2.2[p % 512]?).getD 0 | none => 0) = _
    unfold pcB
    cases e2 : ps[j]? with
    | none => simp [e2]
    | some y => simp [e2]
theorem pcV_get {c : Nat → Int8} {vs : List aV} {f i q : Nat} (h : q < (pcV c vs f i).length) : pcIn vs f i = true ∧ (pcV c vs f i)[q]? = some (ub (pcA c vs f i q)) := by
  unfold pcV at h ⊢
  unfold pcIn pcA
  cases e : seenV vs [2, f, i] (2 ^ 30) with
  | none =>
    rw [e] at h
    exact absurd h (Nat.not_lt_zero q)
  | some v =>
    rw [e] at h
    have h : q < (sl c (v.2.2.1 + 8 + v.1.length) (v.2.2.2.1.getD 0)).length := h
    rw [sl_length] at h
    refine ⟨decide_eq_true (fun z => ?_), sl_get _ _ _ h⟩
    rw [z] at h
    exact absurd h (Nat.not_lt_zero q)
theorem cB_byG {ky : List (List Nat)} {c : Nat → Int8} {vs : List aV} {ps : List aPc} {f p P : Nat} (h : PcR c vs ps) (hp : OneP ps) (hO : OneV vs) (hV : ∀ v ∈ vs, VOk ky P v) (hP : P ≤ 2 ^ 30) : cB c vs f p = byG ps f p := by
  have hM : ∀ v ∈ vs, v.2.1 ≤ 2 ^ 30 := fun v hv => Nat.le_trans (hV v hv).1 hP
  have ho := h.old (f := f) (i := p / 512) hp hO hM
  rw [byG_old]
  unfold cB
  by_cases hq : p % 512 < (pcV c vs f (p / 512)).length
  · obtain ⟨h1, h2⟩ := pcV_get hq
    rw [if_pos ⟨h1, hq⟩]
    rw [ho, List.getElem?_map] at h2
    cases e : (oldP ps f (p / 512))[p % 512]? with
    | none => rw [e] at h2; cases h2
    | some b =>
      rw [e] at h2
      have h3 : ub b = ub (pcA c vs f (p / 512) (p % 512)) := Option.some.inj h2
      exact (ub_inj h3).symm
  · rw [if_neg (fun z => hq z.2)]
    rw [ho, List.length_map] at hq
    rw [List.getElem?_eq_none (by omega)]
    rfl
section S82
variable {L i k kc ks : Nat} {xs : Nat → Int32} {Q : tO × aH × Nat × Nat → Prop} {H : aH}
theorem iv_read (hL : L < 2 ^ 30) (h : i + 6 ≤ L) (hI : InvI k H) (hk : k < 512) (kq : Hd L xs i kc ks Q (k + 1)) : RQ (L, xs) 2000 mr_law 1667 [(4, .int (nI i)), (3, .ref 225), (2, .ref 196), (1, .ref 1), (0, .ref 0)] [] H kc ks Q := by
  rcases hI with ⟨ky, B, N, P, bb, cw, cl, cp, cb, tb, l, g, rl, wss, t0, op, sm, ms, kd, pa, sz, nl, nm, ps, fa, rs, g0, hJ⟩ | ⟨ky, B, N, P, cw, cl, cp, cb, tb, l, g, rl, wss, t0, op, sm, ms, kd, pa, sz, nl, nm, ps, fa, rs, g0, hJ⟩
  · obtain ⟨j1, j2, j3, j4, j5, j6, j7, j8, j9, j10, j11, j12, j13, j14, j15, j16, j17, j18, j19, jE, e, j20⟩ := id hJ
    obtain ⟨us, ba, bo, m1, hF, hG, qV, hR⟩ := hJ.fld hk
    obtain ⟨-, -, -, -, -, q5, q6, qR, qT, q8, q9, -⟩ := j10.cells
    have hTR := j11.2.2.2.2.1
    have hT0 := jE.2.2.2.1
    by_cases hb : (∃ t, xs (i + 1) = nI t ∧ t < 201) ∧ (∃ t, xs (i + 2) = nI t ∧ t < 16385) ∧ (∃ t, xs (i + 3) = nI t ∧ t < 1001)
    · obtain ⟨⟨f, e1, hf⟩, ⟨off, e2, ho⟩, ⟨n, e3, hn⟩⟩ := hb
      have hf : f ≤ 200 := by omega
      have ho : off ≤ 16384 := by omega
      have hn : n ≤ 1000 := by omega
      by_cases hkd : kd f = 1
      · obtain ⟨S, lgs, fr, ff, wr, tp, rs9, us9, c, P1, gs, vs, tss, Lc, u1, u2, ⟨hrl, u3⟩, u4⟩ := id j9
        obtain ⟨⟨tf, pq, ms9, mt9, sq9, tu9, ⟨lg, pi, hY, hlg, hlc, -⟩, hC, -⟩, hO, -, -, -, -, hV9, hRX, -, hA⟩ := id u1
        obtain ⟨kf, kl, mo, pl, le, al, od, sp, szv, ss, ac, hVA, hVW, hvs⟩ := id hV9
        have hK7 := u2.2.2.2.2.2.2.1
        have hlg9 : ∀ j, j < lgs.length → lg j < 2 ^ 30 := fun j hj => by
          obtain ⟨b, hb9⟩ := lt_get hj
          rw [hlg j b hb9]
          have := (hO.1 b (List.mem_of_getElem? hb9)).2
          omega
        have hrec := recs_ok hlg hO hRX hK7 (by omega)
        have hkdt : t0.1 f = 1 := (j17.1 f hf).trans hkd
        obtain ⟨a1, a2, a3, a4⟩ := j17.2.1 f hf (by rw [hkd]; decide)
        obtain ⟨x, H1, c1, c2, rb, c3, c4, c5⟩ := ri_read (sc := (L, xs)) (d := 1990) j8 hT0 hf ho hn hkdt hVA hVW hvs hC hY (by omega) hlc hlg9 hA.1 hrec (fun i => pc_le hrl.1.one hK7 i)
        rw [a2] at c2 c3 c4
        have h224 : H1[224]? = some (kJ 1 e) := (c5 224 (by omega)).trans j20
        have hr0 : RefI (H1.set 224 (kJ 1 (va_up e 0 x.toInt64))) fa (B * 256) 0 cw cl tb l rs g0 P ms op sm wss kd pa sz nl nm ps := j10.far (fun a b1 b2 => (set_far (by omega)).trans (c5 a (by omega)))
        obtain ⟨z, H2, r1, r2, r3, r4⟩ := ri_mread_ok (sc := (L, xs)) (d := 1994) hr0 j11 hf ho hn hkd
        have hxz : z = x := r2.trans c2.symm
        rw [hxz] at r1
        obtain ⟨us2, ba2, bo2, m2, -⟩ := id r3
        have hlow : ∀ a, a < 195 → H2[a]? = H1[a]? := fun a ha => (r4 a (by omega)).trans (set_far (by omega))
        have h2 : H2[224]? = some (kJ 1 (va_up e 0 x.toInt64)) := (r4 224 (by omega)).trans (get_set h224)
        refine gs_ok24 (c1 := 0) (s1 := 0) (c2 := 0) (s2 := 0) (x := x) hL h j8.1 (by rw [e1, e2, e3]; exact c1) h224 ((c5 195 (by omega)).trans m1) (by rw [e1, e2, e3]; exact r1) m2 rfl h2 (kq.go0 (Or.inl (hJ.res (g' := rb) (rl' := min n (sz f - off)) (l' := l) (tb' := tb) (fa' := 0) hk (c4.far (fun a b1 _ => hlow a (by omega))) r3 (Nat.le_refl _) (by omega) (fun j hj => ?_) (fun a ha => (hlow a (by omega)).trans (c5 a (by omega))) ⟨_, h2⟩)))
        rw [c3 j hj, if_pos hj]
        exact cB_byG hrl.2.2.2 j13 hrl.1.one hK7 (by omega)
      · obtain ⟨H1, c1, c4, c5⟩ := rx_read_no (sc := (L, xs)) (d := 1990) j8 hT0 hf ho hn (by rw [j17.1 f hf]; exact hkd)
        have hr0 : RefI H1 fa (B * 256) 0 cw cl tb l rs g0 P ms op sm wss kd pa sz nl nm ps := j10.far (fun a a1 a2 => c5 a (by omega))
        obtain ⟨z, H2, r1, r2, r3, r4⟩ := ri_mread_no (sc := (L, xs)) (d := 1994) hr0 j11 hf ho hn hkd
        obtain ⟨us2, ba2, bo2, m2, -⟩ := id r3
        exact gs_x24_3 (c1 := 1) (s1 := 6) (c2 := 0) (s2 := 0) hL h j8.1 (by rw [e1, e2, e3]; exact c1) ((c5 195 (by omega)).trans m1) (by rw [e1, e2, e3]; exact r1) m2 rfl (kq.go1 (Or.inl (hJ.row (cw' := cw) (cl' := cl) (cp' := cp) (cb' := cb) (fa' := 3) (tb' := tb) (l' := l) hk (c4.far (fun a a1 _ => r4 a (by omega))) r3 jE.1 jE.2.1 j11.1 (by omega) j6 j7 (fun a ha => (r4 a (by omega)).trans (c5 a (by omega))) ⟨e, (r4 224 (by omega)).trans ((c5 224 (by omega)).trans j20)⟩)))
    · obtain ⟨H1, c1, c4, c5⟩ := rx_read_bad (sc := (L, xs)) (d := 1990) j8 hb
      have hr0 : RefI H1 fa (B * 256) 0 cw cl tb l rs g0 P ms op sm wss kd pa sz nl nm ps := j10.far (fun a a1 a2 => c5 a (by omega))
      obtain ⟨z, H2, r1, r2, r3, r4⟩ := ri_mread_bad (sc := (L, xs)) (d := 1994) hr0 j11 hb
      obtain ⟨us2, ba2, bo2, m2, -⟩ := id r3
      exact gs_x24_0 (c1 := 1) (s1 := 6) (c2 := 0) (s2 := 0) hL h j8.1 c1 ((c5 195 (by omega)).trans m1) r1 m2 rfl (kq.go1 (Or.inl (hJ.row (cw' := cw) (cl' := cl) (cp' := cp) (cb' := cb) (fa' := 1) (tb' := tb) (l' := l) hk (c4.far (fun a a1 _ => r4 a (by omega))) r3 jE.1 jE.2.1 j11.1 (by omega) j6 j7 (fun a ha => (r4 a (by omega)).trans (c5 a (by omega))) ⟨e, (r4 224 (by omega)).trans ((c5 224 (by omega)).trans j20)⟩)))
  · obtain ⟨d1, d2, d3, d4, d5, d6, d7, d8, d9, d10, d11, d12, d13, d14, d15, d16, d17, jE, e, d19⟩ := id hJ
    obtain ⟨us, ba, bo, m1, hF, hG, qV, hR⟩ := hJ.fld hk
    obtain ⟨-, -, -, -, -, q5, q6, qR, qT, q8, q9, -⟩ := d9.cells
    by_cases hb : (∃ t, xs (i + 1) = nI t ∧ t < 201) ∧ (∃ t, xs (i + 2) = nI t ∧ t < 16385) ∧ (∃ t, xs (i + 3) = nI t ∧ t < 1001)
    · obtain ⟨⟨f, e1, hf⟩, ⟨off, e2, ho⟩, ⟨n, e3, hn⟩⟩ := hb
      have hf : f ≤ 200 := by omega
      have ho : off ≤ 16384 := by omega
      have hn : n ≤ 1000 := by omega
      obtain ⟨H1, c1, c4, c5⟩ := rx_read_down (sc := (L, xs)) (d := 1990) d7 hf ho hn
      have hr0 : RefI H1 fa (B * 256) 1 cw cl tb l rs g0 P ms op sm wss kd pa sz nl nm ps := d9.far (fun a a1 a2 => c5 a (by omega))
      obtain ⟨z, H2, r1, r2, r3, r4⟩ := ri_mread_down (sc := (L, xs)) (d := 1994) hr0 d10 hf ho hn
      obtain ⟨us2, ba2, bo2, m2, -⟩ := id r3
      exact gs_x24_1 (c1 := 1) (s1 := 6) (c2 := 0) (s2 := 0) hL h d7.1 (by rw [e1, e2, e3]; exact c1) ((c5 195 (by omega)).trans m1) (by rw [e1, e2, e3]; exact r1) m2 rfl (kq.go1 (Or.inr (hJ.row (cw' := cw) (cl' := cl) (cp' := cp) (cb' := cb) (fa' := 2) (tb' := tb) (l' := l) hk (c4.far (fun a a1 _ => r4 a (by omega))) r3 jE.1 jE.2.1 d10.1 (by omega) d5 d6 (fun a ha => (r4 a (by omega)).trans (c5 a (by omega))) ⟨e, (r4 224 (by omega)).trans ((c5 224 (by omega)).trans d19)⟩)))
    · obtain ⟨H1, c1, c4, c5⟩ := rx_read_bad (sc := (L, xs)) (d := 1990) d7 hb
      have hr0 : RefI H1 fa (B * 256) 1 cw cl tb l rs g0 P ms op sm wss kd pa sz nl nm ps := d9.far (fun a a1 a2 => c5 a (by omega))
      obtain ⟨z, H2, r1, r2, r3, r4⟩ := ri_mread_bad (sc := (L, xs)) (d := 1994) hr0 d10 hb
      obtain ⟨us2, ba2, bo2, m2, -⟩ := id r3
      exact gs_x24_0 (c1 := 1) (s1 := 6) (c2 := 0) (s2 := 0) hL h d7.1 c1 ((c5 195 (by omega)).trans m1) r1 m2 rfl (kq.go1 (Or.inr (hJ.row (cw' := cw) (cl' := cl) (cp' := cp) (cb' := cb) (fa' := 1) (tb' := tb) (l' := l) hk (c4.far (fun a a1 _ => r4 a (by omega))) r3 jE.1 jE.2.1 d10.1 (by omega) d5 d6 (fun a ha => (r4 a (by omega)).trans (c5 a (by omega))) ⟨e, (r4 224 (by omega)).trans ((c5 224 (by omega)).trans d19)⟩)))
end S82
