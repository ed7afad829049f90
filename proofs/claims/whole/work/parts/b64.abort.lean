/-! ===== abort as one step; by hand ===== -/
theorem ri_mabortR {sc : Nat × (Nat → Int32)} {d l : Nat} {H : aH} {fa cw cl rs : Int32} {li : Nat} {tb : Nat → Int8} {g0 : Nat → Int8} {p : Nat} {ms : List aMV} {op : Nat → Bool} {se : Nat → Nat} {wss : Nat → List aE} {kd pa sz nl : Nat → Nat} {nm : Nat → Int8} {ps : List aPc} {t : Nat} (h : RefI H fa li 0 cw cl tb l rs g0 p ms op se wss kd pa sz nl nm ps) (hk : RefOk l p ms se kd pa sz nl ps) (ht : t < 8) (hop : op t = true) : RI sc (d + 4) mr_299 [.ref 196, .int (nI t)] H (fun z H' => z = nI (wss t).length ∧ RefI H' 0 li 0 cw cl tb l rs g0 p (ms.filter (keepM (va_up op t false) se p (kmM ms))) (va_up op t false) se wss kd pa sz nl nm ps ∧ ∀ a, ¬ (195 ≤ a ∧ a < 224) → H'[a]? = H[a]?) := by
  have h' := h
  obtain ⟨us, ba, bo, hm, hV, h5, h6, ⟨ro, fi, wk, wn, wz, wb, hR, hT⟩, hT2, hPc, -⟩ := h'
  obtain ⟨k1, k2, k3, k4, k5, k6, k7, k8⟩ := hk
  obtain ⟨z, H', r1, r2, us', r3, r4, r5, r6⟩ := ri_mabort (sc := sc) (d := d) hm hV k3 h5 h6 k4 (by omega) hR.1 ht hop
  have hro : ro t = (wss t).length := (hT t ht).1
  rw [hro] at r2
  exact ⟨z, H', r1, r2, refi_next h ⟨us', bo, ba, r3, r4⟩ r5 (fun a a1 a2 => r6 a a1 a2 (by omega)), fun a ha => r6 a (by omega) (by omega) (by omega)⟩
theorem st_abort_ok {ky : List (List Nat)} {L i k t : Nat} {xs : Nat → Int32} {kc ks : Nat} {Q : tO × aH × Nat × Nat → Prop} {H : aH} {B N P bb : Nat} {cw cl : Int32} {cp cb : Nat} {tb : Nat → Int8} {l : Nat} {g : Nat → Int8} {rl : Nat} {wss : Nat → List aE} {t0 : aTr} {op : Nat → Bool} {sm : Nat → Nat} {ms : List aMV} {kd pa sz nl : Nat → Nat} {nm : Nat → Int8} {ps : List aPc} {fa rs : Int32} {g0 : Nat → Int8} (hL : L < 2 ^ 30) (h : i + 6 ≤ L) (hJ : UpJ ky k H B N P bb cw cl cp cb tb l g rl wss t0 op sm ms kd pa sz nl nm ps fa rs g0) (hk : k < 512) (hx : xs (i + 1) = nI t) (ht : t < 8) (hop : op t = true)  (kq : ∀ H2, UpI (k + 1) H2 → RQ (L, xs) 2000 mr_law 33 [(4, .int (nI (i + 6))), (3, .ref 225), (2, .ref 196), (1, .ref 1), (0, .ref 0)] [] H2 kc ks Q) : RQ (L, xs) 2000 mr_law 768 [(4, .int (nI i)), (3, .ref 225), (2, .ref 196), (1, .ref 1), (0, .ref 0)] [] H kc ks Q := by
  obtain ⟨j1, j2, j3, j4, j5, j6, j7, j8, j9, j10, j11, j12, j13, j14, j15, j16, j17, j18, j19, jE, e, j20⟩ := hJ
  obtain ⟨S, lgs, fr, ff, wr, tp, rs9, us, c, P1, gs, vs, tss, Lc, u1, u2, u3, u4, u5, u6⟩ := id j9
  have hV : ∀ v ∈ vs, VOk ky P v := u2.2.2.2.2.2.2.1
  obtain ⟨wq, q1, q2⟩ := j8.2.2.2.2.2.2.1
  obtain ⟨D, Sx, K, E, hbA, -, v1, v2⟩ := (j8.2.2.2.2.2.2.2.1 t ht).1
  obtain ⟨x, H1, c1, c2, c6, c7, c5⟩ := ri_abort (sc := (L, xs)) (d := 1994) j8.1 u1.2.2.2.2.2.2.2.2.1 (fun t ht => by have := j15 t ht; omega) u1.2.2.2.2.2.2.1 (fun v hv => (hV v hv).1) ht hop q1 (q2 t ht) hbA.1
  rw [List.length_map] at c2
  have c4 : ClsA H1 B P 1 cw cl cp cb tb l g rl wss t0 := j8.far (fun a a1 a2 => c5 a (by omega) (by omega))
  have h224 : H1[224]? = some (kJ 1 e) := (c5 224 (by decide) (by decide)).trans j20
  have hr0 : RefI (H1.set 224 (kJ 1 (va_up e 0 x.toInt64))) fa (B * 256) 0 cw cl tb l rs g0 P ms op sm wss kd pa sz nl nm ps := j10.far (fun a a1 a2 => (set_far (by omega)).trans (c5 a (by omega) (by omega)))
  obtain ⟨z, H2, r1, r2, r3, r4⟩ := ri_mabortR (sc := (L, xs)) (d := 1995) hr0 j11 ht hop
  have hxz : z = x := r2.trans c2.symm
  rw [hxz] at r1
  obtain ⟨us1, ba1, bo1, m1, -⟩ := id j10
  obtain ⟨us2, ba2, bo2, m2, -⟩ := id r3
  have hlow : ∀ a, a < 195 → H2[a]? = H1[a]? := fun a ha => (r4 a (by omega)).trans (set_far (by omega))
  have h2 : H2[224]? = some (kJ 1 (va_up e 0 x.toInt64)) := (r4 224 (by omega)).trans (List.getElem?_set_self (get_lt h224))
  refine gs_ok9 (c1 := 0) (s1 := 0) (c2 := 0) (s2 := 0) (x := x) hL h j8.1 (by rw [hx]; exact c1) h224 ((c5 195 (by decide) (by decide)).trans m1) (by rw [hx]; exact r1) m2 rfl h2 (kq H2 ?_)
  have hQ := up_close (M' := 48 * (k + 1)) (H' := H2) u1 u2 u3 u5 u6 (fun j _ q => va_up_cl q) (c6.far2 (fun a a1 a2 => hlow a (by omega))) (c7.far (fun a a1 a2 => hlow a (by omega))) (fun a a1 a2 a3 => (hlow a a2).trans (c5 a (by omega) (by omega))) (by omega)
  refine ⟨ky, B, N, P, bb, cw, cl, cp, cb, tb, l, g, rl, wss, t0, va_up op t false, sm, _, kd, pa, sz, nl, nm, ps, 0, rs, g0, j1, j2, by omega, by omega, j5, j6, j7, c4.far (fun a a1 _ => hlow a (by omega)), hQ, r3, ⟨j11.1, j11.2.1, j11.2.2.1.filter, j11.2.2.2⟩, PrM.purge, j13, ?_, j15, j16, j17, j18, j19, jE.to (by omega) (by omega) (Nat.le_refl _) (Nat.le_refl _) (fun j _ q => va_up_cl q), _, h2⟩
  rw [nd_purge, ← nd_close ht]
  exact Nat.le_trans (nd_out ht) j14
