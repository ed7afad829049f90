/-! ===== the state at the loop's head while the store is down; commit's failing ends as steps; by hand ===== -/
theorem DnQ.nr {ky : List (List Nat)} {M : Nat} {H H' : aH} {B N P : Nat} {op : Nat → Bool} {sm : Nat → Nat} {ms : List aMV} {kd pa sz nl : Nat → Nat} {nm : Nat → Int8} {ps : List aPc} (h : DnQ ky M H B N P op sm ms kd pa sz nl nm ps) (hf : ∀ a, a < 195 → H'[a]? = H[a]?) : DnQ ky M H' B N P op sm ms kd pa sz nl nm ps := by
  obtain ⟨bb, S, lgs, rs, c, vs, tss, L, ms0, h1, h2, ⟨P0, fr0, ff0, gs0, jk, ⟨d1, d2, d3, d4, ⟨vv, d5⟩, d6, d7⟩, h3⟩, h4, h5, h6, h7⟩ := h
  exact ⟨bb, S, lgs, rs, c, vs, tss, L, ms0, h1, h2, ⟨P0, fr0, ff0, gs0, jk, ⟨d1.far (fun a ha => hf a (by omega)), d2, d3, d4, ⟨vv, d5.far (fun a a1 a2 => hf a (by omega))⟩, d6.far2 (fun a a1 a2 => hf a (by omega)), d7.keep (fun a a1 a2 => hf a (by omega))⟩, h3⟩, h4, h5, h6, h7.far (fun a a1 a2 => hf a (by omega))⟩
theorem wM_cl {op : Nat → Bool} {se : Nat → Nat} {x : Int32} {pr : Nat} {L : List (List Nat × Nat)} {w : aMV} : wM (dnO op) se (-1) pr L w ≤ wM op se x pr L w := by
  unfold wM
  rw [opA_closed (fun t ht => dnO_no ht), opA_closed (fun t ht => dnO_no ht), Bool.or_false]
  generalize opA op x (fun t => stK L w.1 w.2.1 (se t)) 8 = a
  generalize opA op x (fun t => decide (se t < w.2.1)) 8 = b
  generalize stK L w.1 w.2.1 pr = s
  unfold mwg
  cases s with
  | false =>
    rw [if_pos rfl]
    exact Nat.zero_le _
  | true =>
    rw [Bool.true_or, if_neg (show ¬ true = false by decide), if_neg (show ¬ true = false by decide)]
    by_cases hz : w.2.2.map List.length = none
    · rw [if_pos hz, if_pos hz, if_neg (show ¬ false = true by decide)]
      exact Nat.zero_le _
    · rw [if_neg hz, if_neg hz]
      exact Nat.le_refl _
theorem sum_mono {α : Type} {f g : α → Nat} : ∀ (l : List α), (∀ x ∈ l, f x ≤ g x) → (l.map f).sum ≤ (l.map g).sum
  | [], _ => Nat.le_refl _
  | a :: l, h => by
    have ih := sum_mono (f := f) (g := g) l (fun x hx => h x (List.mem_cons_of_mem _ hx))
    have := h a List.mem_cons_self
    rw [List.map_cons, List.map_cons, List.sum_cons, List.sum_cons]
    omega
/-- with all closed, no more is needed -/
theorem nd_cl {op : Nat → Bool} {se : Nat → Nat} {x : Int32} {p : Nat} {ms : List aMV} {kd nl : Nat → Nat} {ps : List aPc} : ndR (dnO op) se (-1) p ms kd nl ps ≤ ndR op se x p ms kd nl ps := by
  have := sum_mono (f := wM (dnO op) se (-1) p (kmM ms)) (g := wM op se x p (kmM ms)) ms (fun w _ => wM_cl)
  unfold ndR
  omega
/-- the store is down: class and reference, behind k calls -/
def DnJ (ky : List (List Nat)) (k : Nat) (H : aH) (B N P : Nat) (cw cl : Int32) (cp cb : Nat) (tb : Nat → Int8) (l : Nat) (g : Nat → Int8) (rl : Nat) (wss : Nat → List aE) (t0 : aTr) (op : Nat → Bool) (sm : Nat → Nat) (ms : List aMV) (kd pa sz nl : Nat → Nat) (nm : Nat → Int8) (ps : List aPc) (fa rs : Int32) (g0 : Nat → Int8) : Prop := (B = 64 ∨ B = 96 ∨ B = 128) ∧ N = 20 * B ∧ k ≤ 512 ∧ P ≤ k ∧ cp < 2 ^ 31 ∧ cb < 2 ^ 31 ∧ ClsA H B 0 0 cw cl cp cb tb l g rl wss t0 ∧ DnQ ky (48 * k) H B N P op sm ms kd pa sz nl nm ps ∧ RefI H fa (B * 256) 1 cw cl tb l rs g0 P ms op sm wss kd pa sz nl nm ps ∧ RefOk l P ms sm kd pa sz nl ps ∧ PrM op sm P ms ∧ OneP ps ∧ ndR op sm (-1) P ms kd nl ps ≤ B * 256 ∧ (∀ t, t < 8 → sm t < 2 ^ 30) ∧ (∀ t, t < 8 → BOk ky (wss t)) ∧ rs = nI rl ∧ (∀ j, j < rl → g j = g0 j) ∧ Etc ky k cw cl P l rl wss t0 op sm kd pa sz nl ps ∧ ∃ e, H[224]? = some (kJ 1 e)
def DnI (k : Nat) (H : aH) : Prop := ∃ ky : List (List Nat), ∃ B N P cw cl cp cb tb l g rl wss t0 op sm ms kd pa sz nl nm ps fa rs g0, DnJ ky k H B N P cw cl cp cb tb l g rl wss t0 op sm ms kd pa sz nl nm ps fa rs g0
theorem st_commit_late {ky : List (List Nat)} {L i k t : Nat} {xs : Nat → Int32} {kc ks : Nat} {Q : tO × aH × Nat × Nat → Prop} {H : aH} {B N P bb : Nat} {cp cb : Nat} {tb : Nat → Int8} {l : Nat} {g : Nat → Int8} {rl : Nat} {wss : Nat → List aE} {t0 : aTr} {op : Nat → Bool} {sm : Nat → Nat} {ms : List aMV} {kd pa sz nl : Nat → Nat} {nm : Nat → Int8} {ps : List aPc} {fa rs : Int32} {g0 : Nat → Int8} (hL : L < 2 ^ 30) (h : i + 6 ≤ L) (hJ : UpJ ky k H B N P bb 1 1 cp cb tb l g rl wss t0 op sm ms kd pa sz nl nm ps fa rs g0) (hk : k < 512) (hx : xs (i + 1) = nI t) (ht : t < 8) (hop : op t = true) (hw0 : ¬ wss t = []) (hcol : (wss t).any (fun e => colM ms P (sm t) e.1) = false) (hle : ndR op sm (nI t) (P + 1) (ms ++ addM (P + 1) (wss t)) kd nl ps ≤ B * 256) (kq : ∀ H2 n, n ≤ 2 → DnI (k + 1) H2 → RQ (L, xs) 2000 mr_law 33 [(4, .int (nI (i + 6))), (3, .ref 225), (2, .ref 196), (1, .ref 1), (0, .ref 0)] [] H2 (kc + n) (ks + 6 * n) Q) : RQ (L, xs) 2000 mr_law 712 [(4, .int (nI i)), (3, .ref 225), (2, .ref 196), (1, .ref 1), (0, .ref 0)] [] H kc ks Q := by
  obtain ⟨j1, j2, j3, j4, j5, j6, j7, j8, j9, j10, j11, j12, j13, j14, j15, j16, j17, j18, j19, jE, e, j20⟩ := hJ
  obtain ⟨w1, w2, w3⟩ := j16 t ht
  obtain ⟨D, Sx, K, E, -, -, v1, v2⟩ := (j8.2.2.2.2.2.2.2.1 t ht).1
  have h40 : (wss t).length ≤ 40 := by rwa [List.length_map] at v1
  have hN : nB B + 40 ≤ N := by unfold nB; omega
  have hms := ms_nd (kd := kd) (nl := nl) (ps := ps) j12
  obtain ⟨b1, b2, b3⟩ := ms_bat (P := P) (ms := ms) (ws := wss t) (by omega) j11.2.2.1 h40 v2 w2 (by omega)
  obtain ⟨H1, c1, c3, c4, c5⟩ := rx_commitLQ (M := 48 * (k + 1)) (sc := (L, xs)) (d := 1990) j8 j9 j12 j13 j14 j15 ht hop hw0 h40 hcol w1 (by omega) j1 j5 w2 w3 hle (by omega) (by omega) hN (by omega) (opn_bat v1 v2)
  have hr0 : RefI H1 fa (B * 256) 0 1 1 tb l rs g0 P ms op sm wss kd pa sz nl nm ps := j10.far (fun a a1 a2 => c5 a a1)
  obtain ⟨z, H2, r1, r2, r3, r4⟩ := ri_mcommitR4 (sc := (L, xs)) (d := 1995) (cw := 0) (cl := 0) hr0 j11 ht hop hw0 hcol j9.oneM b1 b2 b3 hle (by omega)
  obtain ⟨us1, ba1, bo1, m1, -⟩ := id j10
  obtain ⟨us2, ba2, bo2, m2, -⟩ := id r3
  have hlow : ∀ a, a < 195 → H2[a]? = H1[a]? := fun a ha => r4 a (by omega)
  have h2 : H2[224]? = some (kJ 1 e) := (r4 224 (by omega)).trans ((c5 224 (by decide)).trans j20)
  refine gs_x8_1 (c1 := 1) (s1 := 6) (c2 := 0) (s2 := 0) hL h j8.1 (by rw [hx]; exact c1) ((c5 195 (by decide)).trans m1) (by rw [hx]; exact r1) m2 rfl (kq H2 1 (by decide) ?_)
  refine ⟨ky, B, N, (P + 1), 0, 1, cp, cb, tb, 0, g, 0, wss, _, dnO op, sm, _, kd, pa, sz, nl, nm, ps, 2, 0, g0, j1, j2, by omega, by omega, j6, j7, c4.far (fun a a1 _ => hlow a (by omega)), c3.nr hlow, r3, ⟨Nat.zero_le _, by omega, b3.filter, j11.2.2.2⟩, PrM.purge, j13, ?_, j15, j16, rfl, fun j hj => absurd hj (Nat.not_lt_zero j), jE.dn (by omega) (Or.inl rfl) (by decide), _, h2⟩
  rw [nd_purge]
  exact Nat.le_trans nd_cl hle
theorem st_commit_cut {ky : List (List Nat)} {L i k t : Nat} {xs : Nat → Int32} {kc ks : Nat} {Q : tO × aH × Nat × Nat → Prop} {H : aH} {B N P bb : Nat} {cp cb : Nat} {tb : Nat → Int8} {l : Nat} {g : Nat → Int8} {rl : Nat} {wss : Nat → List aE} {t0 : aTr} {op : Nat → Bool} {sm : Nat → Nat} {ms : List aMV} {kd pa sz nl : Nat → Nat} {nm : Nat → Int8} {ps : List aPc} {fa rs : Int32} {g0 : Nat → Int8} (hL : L < 2 ^ 30) (h : i + 6 ≤ L) (hJ : UpJ ky k H B N P bb 1 0 cp cb tb l g rl wss t0 op sm ms kd pa sz nl nm ps fa rs g0) (hk : k < 512) (hx : xs (i + 1) = nI t) (ht : t < 8) (hop : op t = true) (hw0 : ¬ wss t = []) (hcol : (wss t).any (fun e => colM ms P (sm t) e.1) = false) (hle : ndR op sm (nI t) (P + 1) (ms ++ addM (P + 1) (wss t)) kd nl ps ≤ B * 256) (kq : ∀ H2 n, n ≤ 2 → DnI (k + 1) H2 → RQ (L, xs) 2000 mr_law 33 [(4, .int (nI (i + 6))), (3, .ref 225), (2, .ref 196), (1, .ref 1), (0, .ref 0)] [] H2 (kc + n) (ks + 6 * n) Q) : RQ (L, xs) 2000 mr_law 712 [(4, .int (nI i)), (3, .ref 225), (2, .ref 196), (1, .ref 1), (0, .ref 0)] [] H kc ks Q := by
  obtain ⟨j1, j2, j3, j4, j5, j6, j7, j8, j9, j10, j11, j12, j13, j14, j15, j16, j17, j18, j19, jE, e, j20⟩ := hJ
  obtain ⟨w1, w2, w3⟩ := j16 t ht
  obtain ⟨D, Sx, K, E, -, -, v1, v2⟩ := (j8.2.2.2.2.2.2.2.1 t ht).1
  have h40 : (wss t).length ≤ 40 := by rwa [List.length_map] at v1
  have hN : nB B + 40 ≤ N := by unfold nB; omega
  have hms := ms_nd (kd := kd) (nl := nl) (ps := ps) j12
  obtain ⟨b1, b2, b3⟩ := ms_bat (P := P) (ms := ms) (ws := wss t) (by omega) j11.2.2.1 h40 v2 w2 (by omega)
  obtain ⟨H1, c1, c3, c4, c5⟩ := rx_commitCQ (M := 48 * (k + 1)) (sc := (L, xs)) (d := 1990) j8 j9 j12 j13 j14 j15 ht hop hw0 h40 hcol w1 (by omega) j1 j7 j6 w2 w3 hle (by omega) (by omega) hN (by omega) (opn_bat v1 v2)
  have hr0 : RefI H1 fa (B * 256) 0 1 0 tb l rs g0 P ms op sm wss kd pa sz nl nm ps := j10.far (fun a a1 a2 => c5 a a1)
  obtain ⟨z, H2, r1, r2, r3, r4⟩ := ri_mcommitR5 (sc := (L, xs)) (d := 1995) (cw := 0) (cl := 0) hr0 j11 ht hop hw0 hcol j9.oneM b1 b2 b3 hle (by omega)
  obtain ⟨us1, ba1, bo1, m1, -⟩ := id j10
  obtain ⟨us2, ba2, bo2, m2, -⟩ := id r3
  have hlow : ∀ a, a < 195 → H2[a]? = H1[a]? := fun a ha => r4 a (by omega)
  have h2 : H2[224]? = some (kJ 1 e) := (r4 224 (by omega)).trans ((c5 224 (by decide)).trans j20)
  refine gs_x8_1 (c1 := 2) (s1 := 12) (c2 := 0) (s2 := 0) hL h j8.1 (by rw [hx]; exact c1) ((c5 195 (by decide)).trans m1) (by rw [hx]; exact r1) m2 rfl (kq H2 2 (by decide) ?_)
  refine ⟨ky, B, N, P, 0, 0, cp, cb, tb, 0, g, 0, wss, _, dnO op, sm, _, kd, pa, sz, nl, nm, ps, 2, 0, g0, j1, j2, by omega, by omega, j6, j7, c4.far (fun a a1 _ => hlow a (by omega)), c3.nr hlow, r3, ⟨Nat.zero_le _, by omega, j11.2.2.1.filter, j11.2.2.2⟩, PrM.purge, j13, ?_, j15, j16, rfl, fun j hj => absurd hj (Nat.not_lt_zero j), jE.dn (by omega) (Or.inl rfl) (by decide), _, h2⟩
  rw [nd_purge]
  exact Nat.le_trans nd_cl j14
