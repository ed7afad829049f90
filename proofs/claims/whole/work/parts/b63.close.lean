/-! ===== a transaction is closed and memory purged; commit of nothing and commit that collides as steps; by hand ===== -/
theorem up_close {ky : List (List Nat)} {M M' : Nat} {H H' : aH} {B N bb S P n : Nat} {op op' : Nat → Bool} {sm : Nat → Nat} {lgs : List Nat} {fr ff : Nat} {wr : Bool} {tp : Nat} {rs : List aR} {us : Nat → Bool} {c : Nat → Int8} {P1 : Nat} {gs : List aSg} {vs : List aV} {tss : List (List aT)} {L : List aCh} {ms : List aMV} {kd pa sz nl : Nat → Nat} {nm : Nat → Int8} {ps : List aPc} (u1 : UpS H B N bb S op sm lgs fr ff wr tp rs us c P1 gs vs) (u2 : StW ky B P P1 rs gs c vs tss L) (u3 : Xb (RlX op sm ms kd pa sz nl nm ps) c vs) (u5 : RmK B M S lgs rs 0) (u6 : vs.length ≤ n) (ho : ∀ t, t < 8 → op' t = true → op t = true) (hs : SightAt H' op' sm) (hV : VersIs H' N (vs.filter (keepS op' sm P (kmV vs)))) (hf : ∀ a, 71 ≤ a → a < 195 → ¬ (74 ≤ a ∧ a < 83) → H'[a]? = H[a]?) (hM : M ≤ M') : UpQ ky M' H' B N bb P op' sm n (Xb (RlX op' sm (ms.filter (keepM op' sm P (kmM ms))) kd pa sz nl nm ps)) := by
  obtain ⟨a1, a2, a3, a4, a5, a6, a7, a8, a9, a10⟩ := u1
  obtain ⟨s1, s2, s3, s4, s5, s6, s7, s8, s9⟩ := u2
  obtain ⟨⟨x1, x2, x3, x4⟩, x5⟩ := u3
  obtain ⟨q1, q2, q3, q4⟩ := u5
  have hP : ∀ v ∈ vs, v.2.1 ≤ P := fun v hv => (s7 v hv).1
  have hsub : ∀ v ∈ vs.filter (keepS op' sm P (kmV vs)), v ∈ vs := fun v hv => (List.mem_filter.mp hv).1
  have hval : ∀ k b, ValAt c (vs.filter (keepS op' sm P (kmV vs))) k b ↔ ValAt c vs k b := fun k b => val_purge x1.one hP k b
  have hR := rel_prune (pr := P) (x2.sight (op' := op') (sm' := sm) (fun t ht e => Or.inl ⟨ho t ht e, rfl⟩)) hP
  have hal : aloN (vs.filter (keepS op' sm P (kmV vs))) ≤ aloN vs := (List.filter_sublist.filter _).length_le
  exact ⟨S, lgs, fr, ff, wr, tp, rs, us, c, P1, gs, _, tss, L, ⟨a1.far (fun a ha => hf a (by omega) (by omega) (by omega)), a2, a3, a4, a5, a6, hV, fun v hv => a8 v (hsub v hv), hs, a10.keep (fun a b1 b2 => hf a (by omega) (by omega) (by omega))⟩, ⟨s1, s2, s3.purge x1.one hP, s4.purge hP, s5, s6, fun v hv => s7 v (hsub v hv), s8, s9⟩, ⟨⟨x1.sublist List.filter_sublist, hR, x3.val hval, x4.val hval⟩, by omega⟩, PgV.purge, ⟨q1, q2, by omega, q4⟩, Nat.le_trans (List.length_filter_le _ _) u6⟩
theorem opA_out {op : Nat → Bool} {t : Nat} {p : Nat → Bool} (ht : t < 8) (h : opA op (nI t) p 8 = true) : opA op (-1) p 8 = true := by
  have h2 : ∀ i, i < 8 → decide (nI i = -1) = false := by decide
  unfold opA at h ⊢
  rw [List.any_eq_true] at h ⊢
  obtain ⟨i, hi, e⟩ := h
  refine ⟨i, hi, ?_⟩
  rw [Bool.and_eq_true, Bool.and_eq_true] at e
  rw [h2 i (List.mem_range.mp hi), e.1.1, e.2]
  rfl
theorem wM_out {op : Nat → Bool} {se : Nat → Nat} {p t : Nat} {L : List (List Nat × Nat)} {w : aMV} (ht : t < 8) : wM op se (nI t) p L w ≤ wM op se (-1) p L w := by
  unfold wM
  have h1 := opA_out (op := op) (p := fun t => stK L w.1 w.2.1 (se t)) ht
  have h2 := opA_out (op := op) (p := fun t => decide (se t < w.2.1)) ht
  revert h1 h2
  generalize opA op (nI t) (fun t => stK L w.1 w.2.1 (se t)) 8 = a
  generalize opA op (nI t) (fun t => decide (se t < w.2.1)) 8 = b
  generalize opA op (-1) (fun t => stK L w.1 w.2.1 (se t)) 8 = a'
  generalize opA op (-1) (fun t => decide (se t < w.2.1)) 8 = b'
  generalize stK L w.1 w.2.1 p = s
  generalize w.2.2.map List.length = z
  intro h1 h2
  unfold mwg
  cases s <;> cases a <;> cases a' <;> cases b <;> cases b' <;> cases z <;> simp_all
theorem nd_out {op : Nat → Bool} {se : Nat → Nat} {p t : Nat} {ms : List aMV} {kd nl : Nat → Nat} {ps : List aPc} (ht : t < 8) : ndR op se (nI t) p ms kd nl ps ≤ ndR op se (-1) p ms kd nl ps := by
  have := sum_mono (f := wM op se (nI t) p (kmM ms)) (g := wM op se (-1) p (kmM ms)) ms (fun w _ => wM_out ht)
  unfold ndR
  omega
theorem st_commit_none {ky : List (List Nat)} {L i k t : Nat} {xs : Nat → Int32} {kc ks : Nat} {Q : tO × aH × Nat × Nat → Prop} {H : aH} {B N P bb : Nat} {cw cl : Int32} {cp cb : Nat} {tb : Nat → Int8} {l : Nat} {g : Nat → Int8} {rl : Nat} {wss : Nat → List aE} {t0 : aTr} {op : Nat → Bool} {sm : Nat → Nat} {ms : List aMV} {kd pa sz nl : Nat → Nat} {nm : Nat → Int8} {ps : List aPc} {fa rs : Int32} {g0 : Nat → Int8} (hL : L < 2 ^ 30) (h : i + 6 ≤ L) (hJ : UpJ ky k H B N P bb cw cl cp cb tb l g rl wss t0 op sm ms kd pa sz nl nm ps fa rs g0) (hk : k < 512) (hx : xs (i + 1) = nI t) (ht : t < 8) (hop : op t = true) (hw0 : wss t = []) (kq : ∀ H2, UpI (k + 1) H2 → RQ (L, xs) 2000 mr_law 33 [(4, .int (nI (i + 6))), (3, .ref 225), (2, .ref 196), (1, .ref 1), (0, .ref 0)] [] H2 kc ks Q) : RQ (L, xs) 2000 mr_law 712 [(4, .int (nI i)), (3, .ref 225), (2, .ref 196), (1, .ref 1), (0, .ref 0)] [] H kc ks Q := by
  obtain ⟨j1, j2, j3, j4, j5, j6, j7, j8, j9, j10, j11, j12, j13, j14, j15, j16, j17, j18, j19, jE, e, j20⟩ := hJ
  obtain ⟨S, lgs, fr, ff, wr, tp, rs9, us, c, P1, gs, vs, tss, Lc, u1, u2, u3, u4, u5, u6⟩ := id j9
  have hV : ∀ v ∈ vs, VOk ky P v := u2.2.2.2.2.2.2.1
  obtain ⟨x, H1, c1, c2, c4, c6, c7, c5⟩ := ri_commit0 (sc := (L, xs)) (d := 1990) j8 u1.2.2.2.2.2.2.2.2.1 j15 u1.2.2.2.2.2.2.1 (fun v hv => (hV v hv).1) ht hop hw0
  have h224 : H1[224]? = some (kJ 1 e) := (c5 224 (by decide) (by decide)).trans j20
  have hr0 : RefI (H1.set 224 (kJ 1 (va_up e 0 x.toInt64))) fa (B * 256) 0 cw cl tb l rs g0 P ms op sm wss kd pa sz nl nm ps := j10.far (fun a a1 a2 => (set_far (by omega)).trans (c5 a (by omega) (by omega)))
  obtain ⟨z, H2, r1, r2, r3, r4⟩ := ri_mcommitR0 (sc := (L, xs)) (d := 1995) hr0 j11 ht hop hw0
  have hxz : z = x := r2.trans c2.symm
  rw [hxz] at r1
  obtain ⟨us1, ba1, bo1, m1, -⟩ := id j10
  obtain ⟨us2, ba2, bo2, m2, -⟩ := id r3
  have hlow : ∀ a, a < 195 → H2[a]? = H1[a]? := fun a ha => (r4 a (by omega)).trans (set_far (by omega))
  have h2 : H2[224]? = some (kJ 1 (va_up e 0 x.toInt64)) := (r4 224 (by omega)).trans (List.getElem?_set_self (get_lt h224))
  refine gs_ok8 (c1 := 0) (s1 := 0) (c2 := 0) (s2 := 0) (x := x) hL h j8.1 (by rw [hx]; exact c1) h224 ((c5 195 (by decide) (by decide)).trans m1) (by rw [hx]; exact r1) m2 rfl h2 (kq H2 ?_)
  have hQ := up_close (M' := 48 * (k + 1)) (H' := H2) u1 u2 u3 u5 u6 (fun j _ q => va_up_cl q) (c6.far2 (fun a a1 a2 => hlow a (by omega))) (c7.far (fun a a1 a2 => hlow a (by omega))) (fun a a1 a2 a3 => (hlow a a2).trans (c5 a (by omega) (by omega))) (by omega)
  refine ⟨ky, B, N, P, bb, cw, cl, cp, cb, tb, l, g, rl, wss, t0, va_up op t false, sm, _, kd, pa, sz, nl, nm, ps, 0, rs, g0, j1, j2, by omega, by omega, j5, j6, j7, c4.far (fun a a1 _ => hlow a (by omega)), hQ, r3, ⟨j11.1, j11.2.1, j11.2.2.1.filter, j11.2.2.2⟩, PrM.purge, j13, ?_, j15, j16, j17, j18, j19, jE.to (by omega) (by omega) (Nat.le_refl _) (Nat.le_refl _) (fun j _ q => va_up_cl q), _, h2⟩
  rw [nd_purge, ← nd_close ht]
  exact Nat.le_trans (nd_out ht) j14
theorem st_commit_col {ky : List (List Nat)} {L i k t : Nat} {xs : Nat → Int32} {kc ks : Nat} {Q : tO × aH × Nat × Nat → Prop} {H : aH} {B N P bb : Nat} {cw cl : Int32} {cp cb : Nat} {tb : Nat → Int8} {l : Nat} {g : Nat → Int8} {rl : Nat} {wss : Nat → List aE} {t0 : aTr} {op : Nat → Bool} {sm : Nat → Nat} {ms : List aMV} {kd pa sz nl : Nat → Nat} {nm : Nat → Int8} {ps : List aPc} {fa rs : Int32} {g0 : Nat → Int8} (hL : L < 2 ^ 30) (h : i + 6 ≤ L) (hJ : UpJ ky k H B N P bb cw cl cp cb tb l g rl wss t0 op sm ms kd pa sz nl nm ps fa rs g0) (hk : k < 512) (hx : xs (i + 1) = nI t) (ht : t < 8) (hop : op t = true) (hw0 : ¬ wss t = []) (hcol : (wss t).any (fun e => colM ms P (sm t) e.1) = true) (kq : ∀ H2, UpI (k + 1) H2 → RQ (L, xs) 2000 mr_law 33 [(4, .int (nI (i + 6))), (3, .ref 225), (2, .ref 196), (1, .ref 1), (0, .ref 0)] [] H2 (kc + 1) (ks + 6) Q) : RQ (L, xs) 2000 mr_law 712 [(4, .int (nI i)), (3, .ref 225), (2, .ref 196), (1, .ref 1), (0, .ref 0)] [] H kc ks Q := by
  obtain ⟨j1, j2, j3, j4, j5, j6, j7, j8, j9, j10, j11, j12, j13, j14, j15, j16, j17, j18, j19, jE, e, j20⟩ := hJ
  obtain ⟨S, lgs, fr, ff, wr, tp, rs9, us, c, P1, gs, vs, tss, Lc, u1, u2, u3, u4, u5, u6⟩ := id j9
  have hV : ∀ v ∈ vs, VOk ky P v := u2.2.2.2.2.2.2.1
  have hcV : ((wss t).any (fun e => colV vs P (sm t) e.1)) = true := by
    rw [← hcol]
    congr 1
    funext e
    exact rel_col u3.1.2.1 u3.1.1.one ht hop (fun v hv => (hV v hv).1) e.1
  obtain ⟨H1, c1, c4, c6, c7, c5⟩ := rx_commit_col (sc := (L, xs)) (d := 1990) j8 u1.2.2.2.2.2.2.2.2.1 j15 u1.2.2.2.2.2.2.1 (fun v hv => (hV v hv).1) ht hop hw0 hcV
  have hr0 : RefI H1 fa (B * 256) 0 cw cl tb l rs g0 P ms op sm wss kd pa sz nl nm ps := j10.far (fun a a1 a2 => c5 a (by omega) (by omega))
  obtain ⟨z, H2, r1, r2, r3, r4⟩ := ri_mcommitR1 (sc := (L, xs)) (d := 1995) hr0 j11 ht hop hw0 hcol j9.oneM
  obtain ⟨us1, ba1, bo1, m1, -⟩ := id j10
  obtain ⟨us2, ba2, bo2, m2, -⟩ := id r3
  have hlow : ∀ a, a < 195 → H2[a]? = H1[a]? := fun a ha => r4 a (by omega)
  have h2 : H2[224]? = some (kJ 1 e) := (r4 224 (by omega)).trans ((c5 224 (by decide) (by decide)).trans j20)
  refine gs_x8_4 (c1 := 1) (s1 := 6) (c2 := 0) (s2 := 0) hL h j8.1 (by rw [hx]; exact c1) ((c5 195 (by decide) (by decide)).trans m1) (by rw [hx]; exact r1) m2 rfl (kq H2 ?_)
  have hQ := up_close (M' := 48 * (k + 1)) (H' := H2) u1 u2 u3 u5 u6 (fun j _ q => va_up_cl q) (c6.far2 (fun a a1 a2 => hlow a (by omega))) (c7.far (fun a a1 a2 => hlow a (by omega))) (fun a a1 a2 a3 => (hlow a a2).trans (c5 a (by omega) (by omega))) (by omega)
  refine ⟨ky, B, N, P, bb, cw, cl, cp, cb, tb, l, g, rl, wss, t0, va_up op t false, sm, _, kd, pa, sz, nl, nm, ps, 4, rs, g0, j1, j2, by omega, by omega, j5, j6, j7, c4.far (fun a a1 _ => hlow a (by omega)), hQ, r3, ⟨j11.1, j11.2.1, j11.2.2.1.filter, j11.2.2.2⟩, PrM.purge, j13, ?_, j15, j16, j17, j18, j19, jE.to (by omega) (by omega) (Nat.le_refl _) (Nat.le_refl _) (fun j _ q => va_up_cl q), _, h2⟩
  rw [nd_purge, ← nd_close ht]
  exact Nat.le_trans (nd_out ht) j14
