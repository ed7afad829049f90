/-! ===== find: the case of the law, from every state of the invariant; written by wip/gen/find2.py ===== -/
theorem same_fnF {t : aTr} {kd pa sz nl : Nat → Nat} {nm tb : Nat → Int8} {l : Nat} (h : SameT t kd pa sz nl nm) : ∀ (n v i : Nat), v ≤ 200 → fnF t.1 t.2.1 t.2.2.2.1 t.2.2.2.2.1 tb l n v i = fnF kd pa nl nm tb l n v i
  | 0, _, _, _ => rfl
  | n + 1, v, i, hv => by
    rw [fnF, fnF]
    by_cases e : l < i
    · rw [if_pos e, if_pos e]
    · rw [if_neg e, if_neg e, h.1 v hv, same_fst h]
      by_cases e2 : kd v = 2
      · rw [if_pos e2]
        cases e3 : fstF (inN kd pa nl nm v (sl tb i (spT tb l i - i))) 1 200 with
        | none => rfl
        | some c => exact same_fnF h n c _ (by have := fstF_lt e3; omega)
      · rw [if_neg e2]
theorem same_par {t : aTr} {kd pa sz nl : Nat → Nat} {nm : Nat → Int8} (h : SameT t kd pa sz nl nm) (hW : TrW kd pa) (hT : TreeOk kd pa sz nl) : ParD t.1 t.2.1 := fun w h1 h2 h3 => by
  rw [h.1 w h2] at h3
  rw [(h.2.1 w h2 h3).1, h.1 _ (hT w h2).2.1]
  exact (hW.2 w h1 h2 h3).1
section S79
variable {L i k kc ks : Nat} {xs : Nat → Int32} {Q : tO × aH × Nat × Nat → Prop} {H : aH}
theorem iv_find (hL : L < 2 ^ 30) (h : i + 6 ≤ L) (hI : InvI k H) (hk : k < 512) (kq : Hd L xs i kc ks Q (k + 1)) : RQ (L, xs) 2000 mr_law 1555 [(4, .int (nI i)), (3, .ref 225), (2, .ref 196), (1, .ref 1), (0, .ref 0)] [] H kc ks Q := by
  rcases hI with ⟨ky, B, N, P, bb, cw, cl, cp, cb, tb, l, g, rl, wss, t0, op, sm, ms, kd, pa, sz, nl, nm, ps, fa, rs, g0, hJ⟩ | ⟨ky, B, N, P, cw, cl, cp, cb, tb, l, g, rl, wss, t0, op, sm, ms, kd, pa, sz, nl, nm, ps, fa, rs, g0, hJ⟩
  · obtain ⟨j1, j2, j3, j4, j5, j6, j7, j8, j9, j10, j11, j12, j13, j14, j15, j16, j17, j18, j19, jE, e, j20⟩ := id hJ
    obtain ⟨us, ba, bo, m1, hF, hG, qV, hR⟩ := hJ.fld hk
    obtain ⟨-, -, -, -, -, q5, q6, qR, qT, q8, q9, -⟩ := j10.cells
    have hl := j11.1
    have hTR := j11.2.2.2.2.1
    have hT0 := jE.2.2.2.1
    have hpar := same_par j17 jE.2.2.2.2.2.2.2.2 hTR
    by_cases hl0 : l = 0
    · obtain ⟨x, H1, c1, c2, c4, c5⟩ := ri_find_root (sc := (L, xs)) (d := 1990) j8 hl0
      have h224 : H1[224]? = some (kJ 1 e) := (c5 224 (by omega)).trans j20
      have hr0 : RefI (H1.set 224 (kJ 1 (va_up e 0 x.toInt64))) fa (B * 256) 0 cw cl tb l rs g0 P ms op sm wss kd pa sz nl nm ps := j10.far (fun a b1 b2 => (set_far (by omega)).trans (c5 a (by omega)))
      obtain ⟨z, H2, r1, r2, r3, r4⟩ := ri_mfind_root (sc := (L, xs)) (d := 1994) hr0 j11 hl0
      have hxz : z = x := r2.trans c2.symm
      rw [hxz] at r1
      obtain ⟨us2, ba2, bo2, m2, -⟩ := id r3
      have hlow : ∀ a, a < 195 → H2[a]? = H1[a]? := fun a ha => (r4 a (by omega)).trans (set_far (by omega))
      have h2 : H2[224]? = some (kJ 1 (va_up e 0 x.toInt64)) := (r4 224 (by omega)).trans (get_set h224)
      exact gs_ok22 (c1 := 0) (s1 := 0) (c2 := 0) (s2 := 0) (x := x) hL h j8.1 c1 h224 ((c5 195 (by omega)).trans m1) r1 m2 rfl h2 (kq.go0 (Or.inl (hJ.row (cw' := cw) (cl' := cl) (cp' := cp) (cb' := cb) (fa' := 0) (tb' := tb) (l' := 0) hk (c4.far (fun a b1 _ => hlow a (by omega))) r3 jE.1 jE.2.1 (Nat.zero_le _) (Nat.zero_le _) j6 j7 (fun a ha => (hlow a (by omega)).trans (c5 a (by omega))) ⟨_, h2⟩)))
    · cases hfn : fnF kd pa nl nm tb l (l + 2) 0 0 with
      | some r =>
        have hfnt := (same_fnF (tb := tb) (l := l) j17 (l + 2) 0 0 (by decide)).trans hfn
        obtain ⟨x, H1, c1, c2, c4, c5⟩ := ri_find (sc := (L, xs)) (d := 1990) j8 hT0 hpar hl (by omega) hfnt
        have h224 : H1[224]? = some (kJ 1 e) := (c5 224 (by omega)).trans j20
        have hr0 : RefI (H1.set 224 (kJ 1 (va_up e 0 x.toInt64))) fa (B * 256) 0 cw cl tb l rs g0 P ms op sm wss kd pa sz nl nm ps := j10.far (fun a b1 b2 => (set_far (by omega)).trans (c5 a (by omega)))
        obtain ⟨z, H2, r1, r2, r3, r4⟩ := ri_mfind_ok (sc := (L, xs)) (d := 1994) hr0 j11 (by omega) hfn
        have hxz : z = x := r2.trans c2.symm
        rw [hxz] at r1
        obtain ⟨us2, ba2, bo2, m2, -⟩ := id r3
        have hlow : ∀ a, a < 195 → H2[a]? = H1[a]? := fun a ha => (r4 a (by omega)).trans (set_far (by omega))
        have h2 : H2[224]? = some (kJ 1 (va_up e 0 x.toInt64)) := (r4 224 (by omega)).trans (get_set h224)
        exact gs_ok22 (c1 := 0) (s1 := 0) (c2 := 0) (s2 := 0) (x := x) hL h j8.1 c1 h224 ((c5 195 (by omega)).trans m1) r1 m2 rfl h2 (kq.go0 (Or.inl (hJ.row (cw' := cw) (cl' := cl) (cp' := cp) (cb' := cb) (fa' := 0) (tb' := tb) (l' := 0) hk (c4.far (fun a b1 _ => hlow a (by omega))) r3 jE.1 jE.2.1 (Nat.zero_le _) (Nat.zero_le _) j6 j7 (fun a ha => (hlow a (by omega)).trans (c5 a (by omega))) ⟨_, h2⟩)))
      | none =>
        have hfnt := (same_fnF (tb := tb) (l := l) j17 (l + 2) 0 0 (by decide)).trans hfn
        obtain ⟨H1, c1, c4, c5⟩ := rx_find_no (sc := (L, xs)) (d := 1990) j8 hT0 hpar hl (by omega) hfnt
        have hr0 : RefI H1 fa (B * 256) 0 cw cl tb l rs g0 P ms op sm wss kd pa sz nl nm ps := j10.far (fun a a1 a2 => c5 a (by omega))
        obtain ⟨z, H2, r1, r2, r3, r4⟩ := ri_mfind_no (sc := (L, xs)) (d := 1994) hr0 j11 (by omega) hfn
        obtain ⟨us2, ba2, bo2, m2, -⟩ := id r3
        exact gs_x22_3 (c1 := 1) (s1 := 6) (c2 := 0) (s2 := 0) hL h j8.1 c1 ((c5 195 (by omega)).trans m1) r1 m2 rfl (kq.go1 (Or.inl (hJ.row (cw' := cw) (cl' := cl) (cp' := cp) (cb' := cb) (fa' := 2) (tb' := tb) (l' := 0) hk (c4.far (fun a a1 _ => r4 a (by omega))) r3 jE.1 jE.2.1 (Nat.zero_le _) (Nat.zero_le _) j6 j7 (fun a ha => (r4 a (by omega)).trans (c5 a (by omega))) ⟨e, (r4 224 (by omega)).trans ((c5 224 (by omega)).trans j20)⟩)))
  · obtain ⟨d1, d2, d3, d4, d5, d6, d7, d8, d9, d10, d11, d12, d13, d14, d15, d16, d17, jE, e, d19⟩ := id hJ
    obtain ⟨us, ba, bo, m1, hF, hG, qV, hR⟩ := hJ.fld hk
    obtain ⟨-, -, -, -, -, q5, q6, qR, qT, q8, q9, -⟩ := d9.cells
    obtain ⟨H1, c1, c4, c5⟩ := rx_find_down (sc := (L, xs)) (d := 1990) d7
    have hr0 : RefI H1 fa (B * 256) 1 cw cl tb l rs g0 P ms op sm wss kd pa sz nl nm ps := d9.far (fun a a1 a2 => c5 a (by omega))
    obtain ⟨z, H2, r1, r2, r3, r4⟩ := ri_mfind_down (sc := (L, xs)) (d := 1994) hr0 d10
    obtain ⟨us2, ba2, bo2, m2, -⟩ := id r3
    exact gs_x22_1 (c1 := 1) (s1 := 6) (c2 := 0) (s2 := 0) hL h d7.1 c1 ((c5 195 (by omega)).trans m1) r1 m2 rfl (kq.go1 (Or.inr (hJ.row (cw' := cw) (cl' := cl) (cp' := cp) (cb' := cb) (fa' := 1) (tb' := tb) (l' := l) hk (c4.far (fun a a1 _ => r4 a (by omega))) r3 jE.1 jE.2.1 d10.1 (by omega) d5 d6 (fun a ha => (r4 a (by omega)).trans (c5 a (by omega))) ⟨e, (r4 224 (by omega)).trans ((c5 224 (by omega)).trans d19)⟩)))
end S79
