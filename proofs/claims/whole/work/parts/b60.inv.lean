/-! ===== the state at the loop's head while the store is up; commit as one step in it; by hand ===== -/
/-- a transaction's changes -/
def BOk (ky : List (List Nat)) (ws : List aE) : Prop := OneW (ws.map pfx) ∧ (∀ e ∈ ws.map pfx, EntK ky e) ∧ ∀ e ∈ ws, ∀ l, e.2 = some l → ∀ b ∈ l, b < 256
/-- the reference's tree hangs together -/
def TrW (kd pa : Nat → Nat) : Prop := kd 0 = 2 ∧ ∀ v, 1 ≤ v → v ≤ 200 → ¬ kd v = 0 → kd (pa v) = 2 ∧ ∃ m, upF pa 0 m v = 0
/-- the root's own entries, of class and reference -/
def RtZ (t : aTr) (pa sz nl : Nat → Nat) : Prop := (t.2.1 0 = 0 ∧ t.2.2.1 0 = 0 ∧ t.2.2.2.1 0 = 0) ∧ pa 0 = 0 ∧ sz 0 = 0 ∧ nl 0 = 0
/-- what else holds at the loop's head: of the cut that waits, the rows, the class's tree, the transactions, the pieces, the keys that were ever used -/
def Etc (kys : List (List Nat)) (k : Nat) (cw cl : Int32) (P l rl : Nat) (wss : Nat → List aE) (t0 : aTr) (op : Nat → Bool) (sm : Nat → Nat) (kd pa sz nl : Nat → Nat) (ps : List aPc) : Prop := (cw = 0 ∨ cw = 1) ∧ (cl = 0 ∨ cl = 1) ∧ (rl ≤ 1000 ∧ RtZ t0 pa sz nl) ∧ TreeOk t0.1 t0.2.1 t0.2.2.1 t0.2.2.2.1 ∧ (∀ t, t < 8 → (wss t).length ≤ 32 ∧ eOff (wss t) (wss t).length ≤ 4000) ∧ (∀ x ∈ ps, kd x.1 = 1 ∧ 512 * x.2.1 + x.2.2.length ≤ sz x.1) ∧ (∀ t, t < 8 → op t = true → sm t ≤ P) ∧ 512 * kys.length + l ≤ 1024 * k ∧ TrW kd pa
theorem Etc.to {kys : List (List Nat)} {k k' : Nat} {cw cl : Int32} {P P' l l' rl rl' : Nat} {wss : Nat → List aE} {t0 : aTr} {op op' : Nat → Bool} {sm : Nat → Nat} {kd pa sz nl : Nat → Nat} {ps : List aPc} (h : Etc kys k cw cl P l rl wss t0 op sm kd pa sz nl ps) (hk : k ≤ k') (hP : P ≤ P') (hl : l' ≤ l) (hrl : rl' ≤ rl) (hop : ∀ t, t < 8 → op' t = true → op t = true) : Etc kys k' cw cl P' l' rl' wss t0 op' sm kd pa sz nl ps := by
  obtain ⟨h1, h0, h2, h3, h4, h5, h6, h7, h8⟩ := h
  exact ⟨h1, h0, ⟨Nat.le_trans hrl h2.1, h2.2⟩, h3, h4, h5, fun t ht q => Nat.le_trans (h6 t ht (hop t ht q)) hP, by omega, h8⟩
theorem Etc.dn {kys : List (List Nat)} {k k' : Nat} {cw cw' cl cl' : Int32} {P P' l rl : Nat} {wss : Nat → List aE} {t0 : aTr} {op : Nat → Bool} {sm : Nat → Nat} {kd pa sz nl : Nat → Nat} {ps : List aPc} (h : Etc kys k cw cl P l rl wss t0 op sm kd pa sz nl ps) (hk : k ≤ k') (hcw : cw' = 0 ∨ cw' = 1) (hcl : cl' = 0 ∨ cl' = 1) : Etc kys k' cw' cl' P' 0 0 wss (T0 t0) (dnO op) sm kd pa sz nl ps := by
  obtain ⟨h1, h0, h2, h3, h4, h5, h6, h7, h8⟩ := h
  refine ⟨hcw, hcl, ⟨Nat.zero_le _, h2.2⟩, fun v hv => ⟨?_, (h3 v hv).2⟩, h4, h5, fun t ht q => ?_, by omega, h8⟩
  · show va_up (fun j => if j < 201 then 0 else t0.1 j) 0 2 v ≤ 2
    by_cases e : v = 0
    · rw [e, up_at]
      exact Nat.le_refl _
    · rw [up_ne e, if_pos (by omega)]
      exact Nat.zero_le _
  · unfold dnO at q
    rw [if_pos ht] at q
    exact Bool.noConfusion q
/-- the store is up: class and reference, behind k calls -/
def UpJ (ky : List (List Nat)) (k : Nat) (H : aH) (B N P bb : Nat) (cw cl : Int32) (cp cb : Nat) (tb : Nat → Int8) (l : Nat) (g : Nat → Int8) (rl : Nat) (wss : Nat → List aE) (t0 : aTr) (op : Nat → Bool) (sm : Nat → Nat) (ms : List aMV) (kd pa sz nl : Nat → Nat) (nm : Nat → Int8) (ps : List aPc) (fa rs : Int32) (g0 : Nat → Int8) : Prop := (B = 64 ∨ B = 96 ∨ B = 128) ∧ N = 20 * B ∧ k ≤ 512 ∧ P ≤ k ∧ bb < 2 ^ 31 ∧ cp < 2 ^ 31 ∧ cb < 2 ^ 31 ∧ ClsA H B P 1 cw cl cp cb tb l g rl wss t0 ∧ UpQ ky (48 * k) H B N bb P op sm (nB B) (Xb (RlX op sm ms kd pa sz nl nm ps)) ∧ RefI H fa (B * 256) 0 cw cl tb l rs g0 P ms op sm wss kd pa sz nl nm ps ∧ RefOk l P ms sm kd pa sz nl ps ∧ PrM op sm P ms ∧ OneP ps ∧ ndR op sm (-1) P ms kd nl ps ≤ B * 256 ∧ (∀ t, t < 8 → sm t < 2 ^ 30) ∧ (∀ t, t < 8 → BOk ky (wss t)) ∧ SameT t0 kd pa sz nl nm ∧ rs = nI rl ∧ (∀ j, j < rl → g j = g0 j) ∧ Etc ky k cw cl P l rl wss t0 op sm kd pa sz nl ps ∧ ∃ e, H[224]? = some (kJ 1 e)
def UpI (k : Nat) (H : aH) : Prop := ∃ ky : List (List Nat), ∃ B N P bb cw cl cp cb tb l g rl wss t0 op sm ms kd pa sz nl nm ps fa rs g0, UpJ ky k H B N P bb cw cl cp cb tb l g rl wss t0 op sm ms kd pa sz nl nm ps fa rs g0
theorem RefI.far {H H' : aH} {fa : Int32} {li : Nat} {dn cw cl : Int32} {tb : Nat → Int8} {l : Nat} {rs : Int32} {g0 : Nat → Int8} {p : Nat} {ms : List aMV} {op : Nat → Bool} {se : Nat → Nat} {wss : Nat → List aE} {kd pa sz nl : Nat → Nat} {nm : Nat → Int8} {ps : List aPc} (h : RefI H fa li dn cw cl tb l rs g0 p ms op se wss kd pa sz nl nm ps) (hf : ∀ a, 195 ≤ a → a < 224 → H'[a]? = H[a]?) : RefI H' fa li dn cw cl tb l rs g0 p ms op se wss kd pa sz nl nm ps := by
  obtain ⟨us, ba, bo, q1, q2, q3, q4, q5, q6, q7, q8, q9⟩ := h
  exact ⟨us, ba, bo, (hf 195 (by decide) (by decide)).trans q1, q2.far (fun a a1 a2 => hf a (by omega) (by omega)) (hf 223 (by decide) (by decide)), (hf 205 (by decide) (by decide)).trans q3, (hf 206 (by decide) (by decide)).trans q4, q5.far (fun a ha => hf a (by omega) (by omega)), q6.far (fun a a1 a2 => hf a (by omega) (by omega)), q7.far (fun a a1 a2 => hf a (by omega) (by omega)), (hf 196 (by decide) (by decide)).trans q8, (hf 197 (by decide) (by decide)).trans q9⟩
theorem UpQ.nr {ky : List (List Nat)} {M : Nat} {H H' : aH} {B N bb P n : Nat} {op : Nat → Bool} {sm : Nat → Nat} {X : (Nat → Int8) → List aV → Prop} (h : UpQ ky M H B N bb P op sm n X) (hf : ∀ a, a < 195 → H'[a]? = H[a]?) : UpQ ky M H' B N bb P op sm n X := by
  obtain ⟨S, lgs, fr, ff, wr, tp, rs, us, c, P1, gs, vs, tss, L, h1, h2⟩ := h
  exact ⟨S, lgs, fr, ff, wr, tp, rs, us, c, P1, gs, vs, tss, L, h1.sight (h1.2.2.2.2.2.2.2.2.1.far2 (fun a a1 a2 => hf a (by omega))) (fun a a1 a2 => hf a (by omega)), h2⟩
theorem UpQ.oneM {ky : List (List Nat)} {M : Nat} {H : aH} {B N bb P n : Nat} {op : Nat → Bool} {sm : Nat → Nat} {ms : List aMV} {kd pa sz nl : Nat → Nat} {nm : Nat → Int8} {ps : List aPc} (h : UpQ ky M H B N bb P op sm n (Xb (RlX op sm ms kd pa sz nl nm ps))) : OneM ms := by
  obtain ⟨S, lgs, fr, ff, wr, tp, rs, us, c, P1, gs, vs, tss, L, h1, h2, h3, h4⟩ := h
  exact rel_oneM h3.1.2.1 h3.1.1.one
theorem st_commit_ok {ky : List (List Nat)} {L i k t : Nat} {xs : Nat → Int32} {kc ks : Nat} {Q : tO × aH × Nat × Nat → Prop} {H : aH} {B N P bb : Nat} {cl : Int32} {cp cb : Nat} {tb : Nat → Int8} {l : Nat} {g : Nat → Int8} {rl : Nat} {wss : Nat → List aE} {t0 : aTr} {op : Nat → Bool} {sm : Nat → Nat} {ms : List aMV} {kd pa sz nl : Nat → Nat} {nm : Nat → Int8} {ps : List aPc} {fa rs : Int32} {g0 : Nat → Int8} (hL : L < 2 ^ 30) (h : i + 6 ≤ L) (hJ : UpJ ky k H B N P bb 0 cl cp cb tb l g rl wss t0 op sm ms kd pa sz nl nm ps fa rs g0) (hk : k < 512) (hx : xs (i + 1) = nI t) (ht : t < 8) (hop : op t = true) (hw0 : ¬ wss t = []) (hcol : (wss t).any (fun e => colM ms P (sm t) e.1) = false) (hle : ndR op sm (nI t) (P + 1) (ms ++ addM (P + 1) (wss t)) kd nl ps ≤ B * 256) (kq : ∀ H2, UpI (k + 1) H2 → RQ (L, xs) 2000 mr_law 33 [(4, .int (nI (i + 6))), (3, .ref 225), (2, .ref 196), (1, .ref 1), (0, .ref 0)] [] H2 kc ks Q) : RQ (L, xs) 2000 mr_law 712 [(4, .int (nI i)), (3, .ref 225), (2, .ref 196), (1, .ref 1), (0, .ref 0)] [] H kc ks Q := by
  obtain ⟨j1, j2, j3, j4, j5, j6, j7, j8, j9, j10, j11, j12, j13, j14, j15, j16, j17, j18, j19, jE, e, j20⟩ := hJ
  obtain ⟨w1, w2, w3⟩ := j16 t ht
  obtain ⟨D, Sx, K, E, -, -, v1, v2⟩ := (j8.2.2.2.2.2.2.2.1 t ht).1
  have h40 : (wss t).length ≤ 40 := by rwa [List.length_map] at v1
  have hN : nB B + 40 ≤ N := by unfold nB; omega
  have hms := ms_nd (kd := kd) (nl := nl) (ps := ps) j12
  obtain ⟨b1, b2, b3⟩ := ms_bat (P := P) (ms := ms) (ws := wss t) (by omega) j11.2.2.1 h40 v2 w2 (by omega)
  obtain ⟨x, H1, c1, c2, c3, c4, c5⟩ := ri_commitQ (M := 48 * (k + 1)) (sc := (L, xs)) (d := 1990) j8 j9 j12 j13 j14 j15 ht hop hw0 h40 hcol w1 (by omega) j1 j5 w2 w3 hle (by omega) (by omega) hN (by omega) (opn_bat v1 v2)
  have h224 : H1[224]? = some (kJ 1 e) := (c5 224 (by decide)).trans j20
  have hr0 : RefI (H1.set 224 (kJ 1 (va_up e 0 x.toInt64))) fa (B * 256) 0 0 cl tb l rs g0 P ms op sm wss kd pa sz nl nm ps := j10.far (fun a a1 a2 => (set_far (by omega)).trans (c5 a a1))
  obtain ⟨z, H2, r1, r2, r3, r4⟩ := ri_mcommitR3 (sc := (L, xs)) (d := 1995) (cw := 0) hr0 j11 ht hop hw0 hcol j9.oneM b1 b2 b3 hle (by omega)
  have hxz : z = x := r2.trans c2.symm
  rw [hxz] at r1
  obtain ⟨us1, ba1, bo1, m1, -⟩ := id j10
  obtain ⟨us2, ba2, bo2, m2, -⟩ := id r3
  have hlow : ∀ a, a < 195 → H2[a]? = H1[a]? := fun a ha => (r4 a (by omega)).trans (set_far (by omega))
  have h2 : H2[224]? = some (kJ 1 (va_up e 0 x.toInt64)) := (r4 224 (by omega)).trans (List.getElem?_set_self (get_lt h224))
  refine gs_ok8 (c1 := 0) (s1 := 0) (c2 := 0) (s2 := 0) (x := x) hL h j8.1 (by rw [hx]; exact c1) h224 ((c5 195 (by decide)).trans m1) (by rw [hx]; exact r1) m2 rfl h2 (kq H2 ?_)
  refine ⟨ky, B, N, P + 1, bb, 0, cl, cp, cb, tb, l, g, rl, wss, t0, va_up op t false, sm, _, kd, pa, sz, nl, nm, ps, 0, rs, g0, j1, j2, by omega, by omega, j5, j6, j7, c4.far (fun a a1 _ => hlow a (by omega)), c3.nr hlow, r3, ⟨j11.1, by omega, b3.filter, j11.2.2.2⟩, PrM.purge, j13, ?_, j15, j16, j17, j18, j19, jE.to (by omega) (by omega) (Nat.le_refl _) (Nat.le_refl _) (fun j _ q => va_up_cl q), _, h2⟩
  rw [nd_purge, ← nd_close ht]
  exact hle
