/-! ===== mount: the case of the law, from every state of the invariant; written by wip/gen/mount3.py ===== -/
theorem ri_mmountR0 {sc : Nat × (Nat → Int32)} {d l : Nat} {H : aH} {fa dn cl rs : Int32} {li : Nat} {tb : Nat → Int8} {g0 : Nat → Int8} {p : Nat} {ms : List aMV} {op : Nat → Bool} {se : Nat → Nat} {wss : Nat → List aE} {kd pa sz nl : Nat → Nat} {nm : Nat → Int8} {ps : List aPc} (h : RefI H fa li dn 0 cl tb l rs g0 p ms op se wss kd pa sz nl nm ps) (hk : RefOk l p ms se kd pa sz nl ps) : RI sc (d + 4) mr_268 [.ref 196] H (fun z H' => z = nI p ∧ RefI H' 0 li 0 0 cl tb 0 0 g0 p (ms.filter (keepM (dnO op) se p (kmM ms))) (dnO op) se wss kd pa sz nl nm ps ∧ ∀ a, ¬ (195 ≤ a ∧ a < 224) → H'[a]? = H[a]?) := by
  have h' := h
  obtain ⟨us, ba, bo, hm, hV, h5, h6, hR, hT, hP, h196, h197⟩ := h'
  obtain ⟨k1, k2, k3, k4, k5, k6, k7, k8⟩ := hk
  obtain ⟨z, H', r1, r2, us', r3, r4, r5, r6⟩ := ri_mmount0 (sc := sc) (d := d) hm hV k3 h5 h6 k4 (by omega)
  exact ⟨z, H', r1, r2, refi_next h ⟨us', bo, ba, r3, r4⟩ r5 r6, fun a ha => r6 a (by omega) (by omega)⟩
theorem ri_mmountR1 {sc : Nat × (Nat → Int32)} {d l : Nat} {H : aH} {fa dn cl rs : Int32} {li : Nat} {tb : Nat → Int8} {g0 : Nat → Int8} {p : Nat} {ms : List aMV} {op : Nat → Bool} {se : Nat → Nat} {wss : Nat → List aE} {kd pa sz nl : Nat → Nat} {nm : Nat → Int8} {ps : List aPc} (h : RefI H fa li dn 1 cl tb l rs g0 p ms op se wss kd pa sz nl nm ps) (hk : RefOk l p ms se kd pa sz nl ps) : RI sc (d + 4) mr_268 [.ref 196] H (fun z H' => z = 0 ∧ RefI H' 1 li 1 0 cl tb 0 0 g0 p (ms.filter (keepM (dnO op) se p (kmM ms))) (dnO op) se wss kd pa sz nl nm ps ∧ ∀ a, ¬ (195 ≤ a ∧ a < 224) → H'[a]? = H[a]?) := by
  have h' := h
  obtain ⟨us, ba, bo, hm, hV, h5, h6, hR, hT, hP, h196, h197⟩ := h'
  obtain ⟨k1, k2, k3, k4, k5, k6, k7, k8⟩ := hk
  obtain ⟨z, H', r1, r2, us', r3, r4, r5, r6⟩ := ri_mmount1 (sc := sc) (d := d) hm hV k3 h5 h6 k4 (by omega)
  exact ⟨z, H', r1, r2, refi_next h ⟨us', bo, ba, r3, r4⟩ r5 r6, fun a ha => r6 a (by omega) (by omega)⟩
section S91
variable {L i k kc ks : Nat} {xs : Nat → Int32} {Q : tO × aH × Nat × Nat → Prop} {H : aH}
theorem iv_mount (hL : L < 2 ^ 30) (h : i + 6 ≤ L) (hI : InvI k H) (hk : k < 512) (kq : Hd L xs i kc ks Q (k + 1)) : RQ (L, xs) 2000 mr_law 1080 [(4, .int (nI i)), (3, .ref 225), (2, .ref 196), (1, .ref 1), (0, .ref 0)] [] H kc ks Q := by
  rcases hI with ⟨ky, B, N, P, bb, cw, cl, cp, cb, tb, l, g, rl, wss, t0, op, sm, ms, kd, pa, sz, nl, nm, ps, fa, rs, g0, hJ⟩ | ⟨ky, B, N, P, cw, cl, cp, cb, tb, l, g, rl, wss, t0, op, sm, ms, kd, pa, sz, nl, nm, ps, fa, rs, g0, hJ⟩
  · obtain ⟨j1, j2, j3, j4, j5, j6, j7, j8, j9, j10, j11, j12, j13, j14, j15, j16, j17, j18, j19, jE, e, j20⟩ := id hJ
    obtain ⟨us, ba, bo, m1, hF, hG, qV, hR⟩ := hJ.fld hk
    obtain ⟨-, -, -, -, -, q5, q6, qR, qT, q8, q9, -⟩ := j10.cells
    have hGD := fun (cw9 cl9 : Int32) (h9 : ClsA H B P 1 cw9 cl9 cp cb tb l g rl wss t0) => up_mt (sc := (L, xs)) (d := 1994) h9 j9
    have hTR := j11.2.2.2.2.1
    have hT0 := jE.2.2.2.1
    have hTW := jE.2.2.2.2.2.2.2.2
    have hRZ := jE.2.2.1.2
    have hkyl := jE.2.2.2.2.2.2.2.1
    have hnd : ndR (dnO op) sm (-1) P (ms.filter (keepM (dnO op) sm P (kmM ms))) kd nl ps ≤ B * 256 := by
      rw [nd_purge]
      exact Nat.le_trans nd_cl j14
    rcases jE.1 with rfl | rfl
    · obtain ⟨x, H1, c1, c2, t1, c3, c4, c6, c7, c5⟩ := ri_mountQ (sc := (L, xs)) (d := 1990) j8 (hGD _ _ j8) (by omega) j1 j2 j5 (by omega) (by omega) (fun t ht => by have := j15 t ht; omega) j13 hnd hTR hTW hRZ hT0
      have h224 : H1[224]? = some (kJ 1 e) := (c5 224 (by decide)).trans j20
      have hr0 : RefI (H1.set 224 (kJ 1 (va_up e 0 x.toInt64))) fa (B * 256) 0 0 cl tb l rs g0 P ms op sm wss kd pa sz nl nm ps := j10.far (fun a a1 a2 => (set_far (by omega)).trans (c5 a a1))
      obtain ⟨z, H2, r1, r2, r3, r4⟩ := ri_mmountR0 (sc := (L, xs)) (d := 1995) hr0 j11
      have hxz : z = x := r2.trans c2.symm
      rw [hxz] at r1
      obtain ⟨us2, ba2, bo2, m2, -⟩ := id r3
      have hlow : ∀ a, a < 195 → H2[a]? = H1[a]? := fun a ha => (r4 a (by omega)).trans (set_far (by omega))
      have h2 : H2[224]? = some (kJ 1 (va_up e 0 x.toInt64)) := (r4 224 (by omega)).trans (get_set h224)
      obtain ⟨f1, f0, f2, f3, f4, f5, f6, f7, f8⟩ := jE.dn (k' := k + 1) (cw' := 0) (cl' := cl) (P' := P) (by omega) (Or.inl rfl) jE.2.1
      obtain ⟨z1, z2, z3, -⟩ := c6.2.1 0 (by decide) (by rw [hTW.1]; decide)
      refine gs_ok14 (c1 := 0) (s1 := 0) (c2 := 0) (s2 := 0) (x := x) hL h j8.1 c1 h224 ((c5 195 (by decide)).trans m1) r1 m2 rfl h2 (kq.go0 (Or.inl ?_))
      exact ⟨ky, B, N, P, bb, 0, cl, cp, cb, tb, 0, g, 0, wss, t1, dnO op, sm, _, kd, pa, sz, nl, nm, ps, 0, 0, g0, j1, j2, by omega, by omega, j5, j6, j7, c4.far (fun a a1 _ => hlow a (by omega)), c3.low (by omega) (fun a ha => hlow a (by omega)), r3, ⟨Nat.zero_le _, j11.2.1, j11.2.2.1.filter, j11.2.2.2⟩, PrM.purge, j13, hnd, j15, j16, c6, rfl, fun j hj => absurd hj (Nat.not_lt_zero j), ⟨f1, f0, ⟨f2.1, ⟨z1.trans hRZ.2.1, z2.trans hRZ.2.2.1, z3.trans hRZ.2.2.2⟩, hRZ.2⟩, c7, f4, f5, f6, f7, f8⟩, _, h2⟩
    · rcases jE.2.1 with rfl | rfl
      · obtain ⟨H1, nn, hn2, c1, t1, c3, c4, cz, c7, c5⟩ := rx_mountCQ (sc := (L, xs)) (d := 1990) j8 (hGD _ _ j8) (by omega) j1 j2 j6 j7 (by omega) (by omega) (fun t ht => by have := j15 t ht; omega) j13 PrM.purge hnd hTR hTW hRZ hT0 (fun t ht => dnO_no ht)
        have hr0 : RefI H1 fa (B * 256) 0 1 0 tb l rs g0 P ms op sm wss kd pa sz nl nm ps := j10.far (fun a a1 a2 => c5 a a1)
        obtain ⟨z, H2, r1, r2, r3, r4⟩ := ri_mmountR1 (sc := (L, xs)) (d := 1995) hr0 j11
        obtain ⟨us2, ba2, bo2, m2, -⟩ := id r3
        have hlow : ∀ a, a < 195 → H2[a]? = H1[a]? := fun a ha => r4 a (by omega)
        have h2 : H2[224]? = some (kJ 1 e) := (r4 224 (by omega)).trans ((c5 224 (by decide)).trans j20)
        obtain ⟨f1, f0, f2, f3, f4, f5, f6, f7, f8⟩ := jE.dn (k' := k + 1) (cw' := 0) (cl' := 0) (P' := P) (by omega) (Or.inl rfl) (by decide)
        refine gs_x14_1 (c1 := nn) (s1 := 6 * nn) (c2 := 0) (s2 := 0) hL h j8.1 c1 ((c5 195 (by decide)).trans m1) r1 m2 rfl (kq H2 nn hn2 (Or.inr ?_))
        exact ⟨ky, B, N, P, 0, 0, cp, cb, tb, 0, g, 0, wss, t1, dnO op, sm, _, kd, pa, sz, nl, nm, ps, 1, 0, g0, j1, j2, by omega, by omega, j6, j7, c4.far (fun a a1 _ => hlow a (by omega)), c3.low (by omega) (fun a ha => hlow a (by omega)), r3, ⟨Nat.zero_le _, j11.2.1, j11.2.2.1.filter, j11.2.2.2⟩, PrM.purge, j13, hnd, j15, j16, rfl, fun j hj => absurd hj (Nat.not_lt_zero j), ⟨f1, f0, ⟨f2.1, cz⟩, c7, f4, f5, f6, f7, f8⟩, _, h2⟩
      · obtain ⟨H1, nn, hn2, c1, t1, c3, c4, cz, c7, c5⟩ := rx_mountLQ (sc := (L, xs)) (d := 1990) j8 (hGD _ _ j8) (by omega) j1 j2 j5 (by omega) (by omega) (fun t ht => by have := j15 t ht; omega) j13 PrM.purge hnd hTR hTW hRZ hT0 (fun t ht => dnO_no ht)
        have hr0 : RefI H1 fa (B * 256) 0 1 1 tb l rs g0 P ms op sm wss kd pa sz nl nm ps := j10.far (fun a a1 a2 => c5 a a1)
        obtain ⟨z, H2, r1, r2, r3, r4⟩ := ri_mmountR1 (sc := (L, xs)) (d := 1995) hr0 j11
        obtain ⟨us2, ba2, bo2, m2, -⟩ := id r3
        have hlow : ∀ a, a < 195 → H2[a]? = H1[a]? := fun a ha => r4 a (by omega)
        have h2 : H2[224]? = some (kJ 1 e) := (r4 224 (by omega)).trans ((c5 224 (by decide)).trans j20)
        obtain ⟨f1, f0, f2, f3, f4, f5, f6, f7, f8⟩ := jE.dn (k' := k + 1) (cw' := 0) (cl' := 1) (P' := P) (by omega) (Or.inl rfl) (by decide)
        refine gs_x14_1 (c1 := nn) (s1 := 6 * nn) (c2 := 0) (s2 := 0) hL h j8.1 c1 ((c5 195 (by decide)).trans m1) r1 m2 rfl (kq H2 nn hn2 (Or.inr ?_))
        exact ⟨ky, B, N, P, 0, 1, cp, cb, tb, 0, g, 0, wss, t1, dnO op, sm, _, kd, pa, sz, nl, nm, ps, 1, 0, g0, j1, j2, by omega, by omega, j6, j7, c4.far (fun a a1 _ => hlow a (by omega)), c3.low (by omega) (fun a ha => hlow a (by omega)), r3, ⟨Nat.zero_le _, j11.2.1, j11.2.2.1.filter, j11.2.2.2⟩, PrM.purge, j13, hnd, j15, j16, rfl, fun j hj => absurd hj (Nat.not_lt_zero j), ⟨f1, f0, ⟨f2.1, cz⟩, c7, f4, f5, f6, f7, f8⟩, _, h2⟩
  · obtain ⟨d1, d2, d3, d4, d5, d6, d7, d8, d9, d10, d11, d12, d13, d14, d15, d16, d17, jE, e, d19⟩ := id hJ
    obtain ⟨us, ba, bo, m1, hF, hG, qV, hR⟩ := hJ.fld hk
    obtain ⟨-, -, -, -, -, q5, q6, qR, qT, q8, q9, -⟩ := d9.cells
    have hGD := fun (cw9 cl9 : Int32) (h9 : ClsA H B 0 0 cw9 cl9 cp cb tb l g rl wss t0) => dn_mt (sc := (L, xs)) (d := 1994) h9 d8 d11
    have hTR := d10.2.2.2.2.1
    have hT0 := jE.2.2.2.1
    have hTW := jE.2.2.2.2.2.2.2.2
    have hRZ := jE.2.2.1.2
    have hkyl := jE.2.2.2.2.2.2.2.1
    have hnd : ndR (dnO op) sm (-1) P (ms.filter (keepM (dnO op) sm P (kmM ms))) kd nl ps ≤ B * 256 := by
      rw [nd_purge]
      exact Nat.le_trans nd_cl d13
    rcases jE.1 with rfl | rfl
    · obtain ⟨b9, hb9, hG9⟩ := hGD _ _ d7
      obtain ⟨x, H1, c1, c2, t1, c3, c4, c6, c7, c5⟩ := ri_mountQ (sc := (L, xs)) (d := 1990) d7 hG9 (by omega) d1 d2 hb9 (by omega) (by omega) (fun t ht => by have := d14 t ht; omega) d12 hnd hTR hTW hRZ hT0
      have h224 : H1[224]? = some (kJ 1 e) := (c5 224 (by decide)).trans d19
      have hr0 : RefI (H1.set 224 (kJ 1 (va_up e 0 x.toInt64))) fa (B * 256) 1 0 cl tb l rs g0 P ms op sm wss kd pa sz nl nm ps := d9.far (fun a a1 a2 => (set_far (by omega)).trans (c5 a a1))
      obtain ⟨z, H2, r1, r2, r3, r4⟩ := ri_mmountR0 (sc := (L, xs)) (d := 1995) hr0 d10
      have hxz : z = x := r2.trans c2.symm
      rw [hxz] at r1
      obtain ⟨us2, ba2, bo2, m2, -⟩ := id r3
      have hlow : ∀ a, a < 195 → H2[a]? = H1[a]? := fun a ha => (r4 a (by omega)).trans (set_far (by omega))
      have h2 : H2[224]? = some (kJ 1 (va_up e 0 x.toInt64)) := (r4 224 (by omega)).trans (get_set h224)
      obtain ⟨f1, f0, f2, f3, f4, f5, f6, f7, f8⟩ := jE.dn (k' := k + 1) (cw' := 0) (cl' := cl) (P' := P) (by omega) (Or.inl rfl) jE.2.1
      obtain ⟨z1, z2, z3, -⟩ := c6.2.1 0 (by decide) (by rw [hTW.1]; decide)
      refine gs_ok14 (c1 := 0) (s1 := 0) (c2 := 0) (s2 := 0) (x := x) hL h d7.1 c1 h224 ((c5 195 (by decide)).trans m1) r1 m2 rfl h2 (kq.go0 (Or.inl ?_))
      exact ⟨ky, B, N, P, b9, 0, cl, cp, cb, tb, 0, g, 0, wss, t1, dnO op, sm, _, kd, pa, sz, nl, nm, ps, 0, 0, g0, d1, d2, by omega, by omega, hb9, d5, d6, c4.far (fun a a1 _ => hlow a (by omega)), c3.low (by omega) (fun a ha => hlow a (by omega)), r3, ⟨Nat.zero_le _, d10.2.1, d10.2.2.1.filter, d10.2.2.2⟩, PrM.purge, d12, hnd, d14, d15, c6, rfl, fun j hj => absurd hj (Nat.not_lt_zero j), ⟨f1, f0, ⟨f2.1, ⟨z1.trans hRZ.2.1, z2.trans hRZ.2.2.1, z3.trans hRZ.2.2.2⟩, hRZ.2⟩, c7, f4, f5, f6, f7, f8⟩, _, h2⟩
    · rcases jE.2.1 with rfl | rfl
      · obtain ⟨b9, hb9, hG9⟩ := hGD _ _ d7
        obtain ⟨H1, nn, hn2, c1, t1, c3, c4, cz, c7, c5⟩ := rx_mountCQ (sc := (L, xs)) (d := 1990) d7 hG9 (by omega) d1 d2 d5 d6 (by omega) (by omega) (fun t ht => by have := d14 t ht; omega) d12 PrM.purge hnd hTR hTW hRZ hT0 (fun t ht => dnO_no ht)
        have hr0 : RefI H1 fa (B * 256) 1 1 0 tb l rs g0 P ms op sm wss kd pa sz nl nm ps := d9.far (fun a a1 a2 => c5 a a1)
        obtain ⟨z, H2, r1, r2, r3, r4⟩ := ri_mmountR1 (sc := (L, xs)) (d := 1995) hr0 d10
        obtain ⟨us2, ba2, bo2, m2, -⟩ := id r3
        have hlow : ∀ a, a < 195 → H2[a]? = H1[a]? := fun a ha => r4 a (by omega)
        have h2 : H2[224]? = some (kJ 1 e) := (r4 224 (by omega)).trans ((c5 224 (by decide)).trans d19)
        obtain ⟨f1, f0, f2, f3, f4, f5, f6, f7, f8⟩ := jE.dn (k' := k + 1) (cw' := 0) (cl' := 0) (P' := P) (by omega) (Or.inl rfl) (by decide)
        refine gs_x14_1 (c1 := nn) (s1 := 6 * nn) (c2 := 0) (s2 := 0) hL h d7.1 c1 ((c5 195 (by decide)).trans m1) r1 m2 rfl (kq H2 nn hn2 (Or.inr ?_))
        exact ⟨ky, B, N, P, 0, 0, cp, cb, tb, 0, g, 0, wss, t1, dnO op, sm, _, kd, pa, sz, nl, nm, ps, 1, 0, g0, d1, d2, by omega, by omega, d5, d6, c4.far (fun a a1 _ => hlow a (by omega)), c3.low (by omega) (fun a ha => hlow a (by omega)), r3, ⟨Nat.zero_le _, d10.2.1, d10.2.2.1.filter, d10.2.2.2⟩, PrM.purge, d12, hnd, d14, d15, rfl, fun j hj => absurd hj (Nat.not_lt_zero j), ⟨f1, f0, ⟨f2.1, cz⟩, c7, f4, f5, f6, f7, f8⟩, _, h2⟩
      · obtain ⟨b9, hb9, hG9⟩ := hGD _ _ d7
        obtain ⟨H1, nn, hn2, c1, t1, c3, c4, cz, c7, c5⟩ := rx_mountLQ (sc := (L, xs)) (d := 1990) d7 hG9 (by omega) d1 d2 hb9 (by omega) (by omega) (fun t ht => by have := d14 t ht; omega) d12 PrM.purge hnd hTR hTW hRZ hT0 (fun t ht => dnO_no ht)
        have hr0 : RefI H1 fa (B * 256) 1 1 1 tb l rs g0 P ms op sm wss kd pa sz nl nm ps := d9.far (fun a a1 a2 => c5 a a1)
        obtain ⟨z, H2, r1, r2, r3, r4⟩ := ri_mmountR1 (sc := (L, xs)) (d := 1995) hr0 d10
        obtain ⟨us2, ba2, bo2, m2, -⟩ := id r3
        have hlow : ∀ a, a < 195 → H2[a]? = H1[a]? := fun a ha => r4 a (by omega)
        have h2 : H2[224]? = some (kJ 1 e) := (r4 224 (by omega)).trans ((c5 224 (by decide)).trans d19)
        obtain ⟨f1, f0, f2, f3, f4, f5, f6, f7, f8⟩ := jE.dn (k' := k + 1) (cw' := 0) (cl' := 1) (P' := P) (by omega) (Or.inl rfl) (by decide)
        refine gs_x14_1 (c1 := nn) (s1 := 6 * nn) (c2 := 0) (s2 := 0) hL h d7.1 c1 ((c5 195 (by decide)).trans m1) r1 m2 rfl (kq H2 nn hn2 (Or.inr ?_))
        exact ⟨ky, B, N, P, 0, 1, cp, cb, tb, 0, g, 0, wss, t1, dnO op, sm, _, kd, pa, sz, nl, nm, ps, 1, 0, g0, d1, d2, by omega, by omega, d5, d6, c4.far (fun a a1 _ => hlow a (by omega)), c3.low (by omega) (fun a ha => hlow a (by omega)), r3, ⟨Nat.zero_le _, d10.2.1, d10.2.2.1.filter, d10.2.2.2⟩, PrM.purge, d12, hnd, d14, d15, rfl, fun j hj => absurd hj (Nat.not_lt_zero j), ⟨f1, f0, ⟨f2.1, cz⟩, c7, f4, f5, f6, f7, f8⟩, _, h2⟩
end S91
