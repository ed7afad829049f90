/-! ===== commit where there is no room for it, as one step; by hand ===== -/
theorem wM_le {op : Nat → Bool} {se : Nat → Nat} {x : Int32} {pr : Nat} {L : List (List Nat × Nat)} {w : aMV} : wM op se x pr L w ≤ 24 + eLen (eMV w) := by
  by_cases h : wM op se x pr L w = 0
  · omega
  · rw [wM_val h]
    exact Nat.le_refl _
theorem sumF_le {g : Nat → Nat} {m : Nat} : ∀ (n : Nat), (∀ f, 1 ≤ f → f ≤ n → g f ≤ m) → sumF g n ≤ m * n
  | 0, _ => Nat.zero_le _
  | n + 1, q => by
    show sumF g n + g (n + 1) ≤ m * (n + 1)
    have ih := sumF_le n (fun f h1 h2 => q f h1 (by omega))
    have h3 := q (n + 1) (by omega) (by omega)
    rw [Nat.mul_succ]
    omega
theorem nd_lt {op : Nat → Bool} {se : Nat → Nat} {x : Int32} {p : Nat} {ms : List aMV} {kd pa sz nl : Nat → Nat} {ps : List aPc} (hk : MSOk ms) (hT : TreeOk kd pa sz nl) (h1 : ps.length ≤ 1300) (h2 : plen ps ≤ 40000) : ndR op se x p ms kd nl ps < 2 ^ 31 := by
  have a1 := sumF_le (g := fun f => if kd f = 0 then 0 else 62 + nl f) (m := 92) 200 (fun f _ hf => by
    have := (hT f hf).2.2.2
    show (if kd f = 0 then 0 else 62 + nl f) ≤ 92
    split <;> omega)
  have a2 := sum_mono (f := wM op se x p (kmM ms)) (g := fun w => 24 + eLen (eMV w)) ms (fun w _ => wM_le)
  rw [ms_need (f := fun w => 24 + eLen (eMV w)) ms (fun _ _ => rfl)] at a2
  have a3 := hk.1
  have a4 := hk.2.1
  unfold ndR
  omega
theorem st_commit_full {ky : List (List Nat)} {L i k t : Nat} {xs : Nat → Int32} {kc ks : Nat} {Q : tO × aH × Nat × Nat → Prop} {H : aH} {B N P bb : Nat} {cw cl : Int32} {cp cb : Nat} {tb : Nat → Int8} {l : Nat} {g : Nat → Int8} {rl : Nat} {wss : Nat → List aE} {t0 : aTr} {op : Nat → Bool} {sm : Nat → Nat} {ms : List aMV} {kd pa sz nl : Nat → Nat} {nm : Nat → Int8} {ps : List aPc} {fa rs : Int32} {g0 : Nat → Int8} (hL : L < 2 ^ 30) (h : i + 6 ≤ L) (hJ : UpJ ky k H B N P bb cw cl cp cb tb l g rl wss t0 op sm ms kd pa sz nl nm ps fa rs g0) (hk : k < 512) (hx : xs (i + 1) = nI t) (ht : t < 8) (hop : op t = true) (hw0 : ¬ wss t = []) (hcol : (wss t).any (fun e => colM ms P (sm t) e.1) = false) (hle : B * 256 < ndR op sm (nI t) (P + 1) (ms ++ addM (P + 1) (wss t)) kd nl ps) (kq : ∀ H2, UpI (k + 1) H2 → RQ (L, xs) 2000 mr_law 33 [(4, .int (nI (i + 6))), (3, .ref 225), (2, .ref 196), (1, .ref 1), (0, .ref 0)] [] H2 (kc + 1) (ks + 6) Q) : RQ (L, xs) 2000 mr_law 712 [(4, .int (nI i)), (3, .ref 225), (2, .ref 196), (1, .ref 1), (0, .ref 0)] [] H kc ks Q := by
  obtain ⟨j1, j2, j3, j4, j5, j6, j7, j8, j9, j10, j11, j12, j13, j14, j15, j16, j17, j18, j19, jE, e, j20⟩ := hJ
  obtain ⟨w1, w2, w3⟩ := j16 t ht
  obtain ⟨D, Sx, K, E, -, -, v1, v2⟩ := (j8.2.2.2.2.2.2.2.1 t ht).1
  have h40 : (wss t).length ≤ 40 := by rwa [List.length_map] at v1
  have hms := ms_nd (kd := kd) (nl := nl) (ps := ps) j12
  obtain ⟨b1, b2, b3⟩ := ms_bat (P := P) (ms := ms) (ws := wss t) (by omega) j11.2.2.1 h40 v2 w2 (by omega)
  have hlt := nd_lt (op := op) (se := sm) (x := nI t) (p := P + 1) b3 j11.2.2.2.2.1 j11.2.2.2.2.2.1 j11.2.2.2.2.2.2.1
  obtain ⟨S, lgs, fr, ff, wr, tp, rs9, us, c, P1, gs, vs, tss, Lc, u1, u2, u3, u4⟩ := id j9
  have hV : ∀ v ∈ vs, VOk ky P v := u2.2.2.2.2.2.2.1
  have hcV : ((wss t).any (fun e => colV vs P (sm t) e.1)) = false := by
    rw [← hcol]
    congr 1
    funext e
    exact rel_col u3.1.2.1 u3.1.1.one ht hop (fun v hv => (hV v hv).1) e.1
  have hnb := need_bat (x := nI t) u3.1 hV (UpQ.pl (M := 0) u1 (by omega)) j13 w1 w2 w3 h40
  obtain ⟨H1, c1, c4, -, -, c5⟩ := rx_commit_full (sc := (L, xs)) (d := 1990) j8 u1.2.2.2.2.2.2.2.2.1 j15 u1.2.2.2.2.2.2.1 (fun v hv => (hV v hv).1) ht hop hw0 hcV w1 (by omega) (by omega) (by rw [hnb]; exact hle) (by rw [hnb]; exact hlt)
  have hr0 : RefI H1 fa (B * 256) 0 cw cl tb l rs g0 P ms op sm wss kd pa sz nl nm ps := j10.far (fun a a1 a2 => c5 a)
  obtain ⟨z, H2, r1, r2, r3, r4⟩ := ri_mcommitR2 (sc := (L, xs)) (d := 1995) hr0 j11 ht hop hw0 hcol j9.oneM b1 b2 b3 hle hlt
  obtain ⟨us1, ba1, bo1, m1, -⟩ := id j10
  obtain ⟨us2, ba2, bo2, m2, -⟩ := id r3
  have hlow : ∀ a, a < 195 → H2[a]? = H[a]? := fun a ha => (r4 a (by omega)).trans (c5 a)
  have h2 : H2[224]? = some (kJ 1 e) := (r4 224 (by omega)).trans ((c5 224).trans j20)
  refine gs_x8_2 (c1 := 1) (s1 := 6) (c2 := 0) (s2 := 0) hL h j8.1 (by rw [hx]; exact c1) ((c5 195).trans m1) (by rw [hx]; exact r1) m2 rfl (kq H2 ?_)
  have j9' : UpQ ky (48 * (k + 1)) H2 B N bb P op sm (nB B) (Xb (RlX op sm ms kd pa sz nl nm ps)) := by
    obtain ⟨S, lgs, fr, ff, wr, tp, rs9, us, c, P1, gs, vs, tss, Lc, a1, a2, a3, a4, a5, a6⟩ := j9.nr hlow
    obtain ⟨q1, q2, q3, q4⟩ := a5
    exact ⟨S, lgs, fr, ff, wr, tp, rs9, us, c, P1, gs, vs, tss, Lc, a1, a2, a3, a4, ⟨q1, q2, by omega, q4⟩, a6⟩
  exact ⟨ky, B, N, P, bb, cw, cl, cp, cb, tb, l, g, rl, wss, t0, op, sm, ms, kd, pa, sz, nl, nm, ps, 5, rs, g0, j1, j2, by omega, by omega, j5, j6, j7, j8.far (fun a a1 _ => hlow a (by omega)), j9', r3, j11, j12, j13, j14, j15, j16, j17, j18, j19, jE.to (by omega) (Nat.le_refl _) (Nat.le_refl _) (Nat.le_refl _) (fun j _ q => q), _, h2⟩
