/-! ===== seek: the case of the law, from every state of the invariant; written by wip/gen/seek5.py ===== -/
theorem SkS.uniq {p : List Nat → Prop} {k0 : List Nat} {bey : Bool} {r r' : Option (List Nat)} (h : SkS p k0 bey r) (h' : SkS p k0 bey r') : r = r' := by
  cases r with
  | none =>
    cases r' with
    | none => rfl
    | some k => exact absurd h'.2.1 (h k h'.1)
  | some k =>
    cases r' with
    | none => exact absurd h.2.1 (h' k h.1)
    | some k' =>
      have a := h.2.2 k' h'.1 h'.2.1
      have b := h'.2.2 k h.1 h.2.1
      by_cases e : k = k'
      · rw [e]
      · exact absurd (cmpL_tri b e) a
theorem cmp_cons {a b : List Nat} : cmpL (0 :: a) (0 :: b) = cmpL a b := by rw [cmpL, if_pos rfl]
theorem ge_cons {K k : List Nat} {bey : Bool} : GeK (0 :: K) bey (0 :: k) ↔ GeK K bey k := by
  unfold GeK
  rw [cmp_cons]
  constructor
  · rintro (q | ⟨q1, q2⟩)
    · exact Or.inl q
    · exact Or.inr ⟨q1, (List.cons.inj q2).2⟩
  · rintro (q | ⟨q1, q2⟩)
    · exact Or.inl q
    · exact Or.inr ⟨q1, by rw [q2]⟩
theorem head_cons {k : List Nat} (hk : k.headD 1 = 0) : ∃ t, k = 0 :: t := by
  cases k with
  | nil => exact absurd hk (by decide)
  | cons a t =>
    have : a = 0 := hk
    rw [this]
    exact ⟨t, rfl⟩
/-- among the user's keys, without what stands before them -/
theorem SkS.tail {p : List Nat → Prop} {K : List Nat} {bey : Bool} {r : Option (List Nat)} (h : SkS p (0 :: K) bey r) (hp : ∀ k, p k → k.headD 1 = 0) : SkS (fun k => p (0 :: k)) K bey (r.map List.tail) := by
  cases r with
  | none => exact fun k hk hg => h (0 :: k) hk (ge_cons.mpr hg)
  | some k =>
    obtain ⟨h1, h2, h3⟩ := h
    obtain ⟨t, rfl⟩ := head_cons (hp k h1)
    exact ⟨h1, ge_cons.mp h2, fun k' a b c => h3 (0 :: k') a (ge_cons.mpr b) (by rw [cmp_cons]; exact c)⟩
theorem vis_eq {ws : List aE} {vs : List aV} {ms : List aMV} {c : Nat → Int8} {op : Nat → Bool} {sm : Nat → Nat} {m : Nat} (h1W : OneW ws) (hr : RelU op sm c vs ms) (h1 : OneV vs) (k : List Nat) : VisU (ws.map pfx) vs m (0 :: k) ↔ getW ws (lookM ms k m) k ≠ none := by
  rw [← rel_look (c := c) hr h1]
  unfold VisU VisK getW
  cases hix : ixK ws k with
  | some i =>
    obtain ⟨⟨e0, hi0, he0⟩, -⟩ := ixK_some hix
    have hm0 : pfx e0 ∈ ws.map pfx := List.mem_map.mpr ⟨e0, List.mem_of_getElem? hi0, rfl⟩
    have hk0 : (pfx e0).1 = 0 :: k := by show 0 :: e0.1 = 0 :: k; rw [he0]
    have hg : (ws[i]?).bind (fun e => e.2) = e0.2 := by rw [hi0]; rfl
    constructor
    · rintro ⟨-, ⟨e, he, h2, h3⟩ | ⟨h2, -⟩⟩
      · obtain ⟨w, hw, rfl⟩ := List.mem_map.mp he
        have hwk : w.1 = k := (List.cons.inj h2).2
        obtain ⟨j, hj⟩ := List.getElem?_of_mem hw
        have hji := h1W j i w e0 hj hi0 (hwk.trans he0.symm)
        rw [hji, hi0] at hj
        rw [← Option.some.inj hj] at h3
        show (ws[i]?).bind (fun e => e.2) ≠ none
        rw [hg]
        exact h3
      · exact absurd hk0 (h2 _ hm0)
    · intro h2
      have h2 : (ws[i]?).bind (fun e => e.2) ≠ none := h2
      rw [hg] at h2
      exact ⟨rfl, Or.inl ⟨pfx e0, hm0, hk0, h2⟩⟩
  | none =>
    have hno := ixK_none hix
    have hno2 : ∀ e ∈ ws.map pfx, ¬ e.1 = 0 :: k := fun e he q => by
      obtain ⟨w, hw, rfl⟩ := List.mem_map.mp he
      obtain ⟨j, hj⟩ := List.getElem?_of_mem hw
      exact hno j w hj (List.cons.inj q).2
    constructor
    · rintro ⟨-, ⟨e, he, h2, h3⟩ | ⟨-, v, hv, q1, q2, q3⟩⟩
      · exact absurd h2 (hno2 e he)
      · show lookV c vs k m ≠ none
        unfold lookV
        rw [(seenV_some h1).mpr ⟨hv, q1, q2⟩]
        show valV c v ≠ none
        unfold valV
        cases e : v.2.2.2.1 with
        | none => exact absurd e q3
        | some n => exact Option.some_ne_none _
    · intro hn
      have hn : lookV c vs k m ≠ none := hn
      unfold lookV at hn
      cases e : seenV vs (0 :: k) m with
      | none => rw [e] at hn; exact absurd rfl hn
      | some v =>
        rw [e] at hn
        obtain ⟨a1, a2, a3⟩ := (seenV_some h1).mp e
        refine ⟨rfl, Or.inr ⟨hno2, v, a1, a2, a3, fun q => ?_⟩⟩
        have hn : valV c v ≠ none := hn
        unfold valV at hn
        rw [q] at hn
        exact hn rfl
section S71
variable {L i k kc ks : Nat} {xs : Nat → Int32} {Q : tO × aH × Nat × Nat → Prop} {H : aH}
theorem iv_seek (hL : L < 2 ^ 30) (h : i + 6 ≤ L) (hI : InvI k H) (hk : k < 512) (kq : Hd L xs i kc ks Q (k + 1)) : RQ (L, xs) 2000 mr_law 628 [(4, .int (nI i)), (3, .ref 225), (2, .ref 196), (1, .ref 1), (0, .ref 0)] [] H kc ks Q := by
  rcases hI with ⟨ky, B, N, P, bb, cw, cl, cp, cb, tb, l, g, rl, wss, t0, op, sm, ms, kd, pa, sz, nl, nm, ps, fa, rs, g0, hJ⟩ | ⟨ky, B, N, P, cw, cl, cp, cb, tb, l, g, rl, wss, t0, op, sm, ms, kd, pa, sz, nl, nm, ps, fa, rs, g0, hJ⟩
  · obtain ⟨j1, j2, j3, j4, j5, j6, j7, j8, j9, j10, j11, j12, j13, j14, j15, j16, j17, j18, j19, jE, e, j20⟩ := id hJ
    obtain ⟨us, ba, bo, m1, hF, hG, qV, hR⟩ := hJ.fld hk
    obtain ⟨-, -, -, -, -, q5, q6, qR, qT, q8, q9, -⟩ := j10.cells
    have hl := j11.1
    obtain ⟨S, lgs, fr, ff, wr, tp, rs9, us9, c, P1, gs, vs, tss, Lc, u1, u2, ⟨⟨r1, r2, r3, r4⟩, -⟩, -⟩ := id j9
    obtain ⟨⟨tf, pq, ms9, mt9, sq9, tu9, ⟨lg, pi, hY, hlg, hlc, -⟩, hC, -⟩, hO, -, -, -, -, hV, hRX, hs, hA⟩ := id u1
    obtain ⟨kf, kl, mo, pl, le, al, od, sp, szv, ss, ac, hVA, hVW, hvs⟩ := id hV
    have hw7 := u2.2.2.2.2.2.2.1
    have hlg9 : ∀ j, j < lgs.length → lg j < 2 ^ 30 := fun j hj => by
      obtain ⟨b, hb9⟩ := lt_get hj
      rw [hlg j b hb9]
      have := (hO.1 b (List.mem_of_getElem? hb9)).2
      omega
    have hrec := recs_ok hlg hO hRX hw7 (by omega)
    by_cases hb : (∃ t, xs (i + 1) = nI t ∧ t < 8) ∧ l ≤ 40
    · obtain ⟨⟨t, e1, ht⟩, hl2⟩ := hb
      cases hop : op t with
      | false =>
        refine step_seek_closed hL h j8.1 j8.2.1 m1 e1 ht hl2 hs q5 hop (kq.go1 (Or.inl (hJ.row (cw' := cw) (cl' := cl) (cp' := cp) (cb' := cb) (fa' := 3) (tb' := tb) (l' := 0) hk ?_ ?_ jE.1 jE.2.1 (Nat.zero_le _) (Nat.zero_le _) j6 j7 ?_ ⟨e, ?_⟩)))
        · obtain ⟨q, p, h5, h6⟩ := j8.2.2.2.2.2.1
          exact j8.small ((set_far (by decide)).trans ((set_far (by decide)).trans j8.1)) ((set_far (by decide)).trans (get_set j8.2.1)) ((set_far (by decide)).trans ((set_far (by decide)).trans j8.2.2.1)) ((set_far (by decide)).trans ((set_far (by decide)).trans j8.2.2.2.1)) ((set_far (by decide)).trans ((set_far (by decide)).trans j8.2.2.2.2.1)) ⟨q, p, (set_far (by decide)).trans ((set_far (by decide)).trans h5), (set_far (by decide)).trans ((set_far (by decide)).trans h6)⟩ (fun a a1 a2 => (set_far (by omega)).trans (set_far (by omega)))
        · exact hR _ 3 0 cw cl tb 0 rs g0 (get_set ((set_far (by decide)).trans m1)) ((set_far (by decide)).trans ((set_far (by decide)).trans q8)) ((set_far (by decide)).trans ((set_far (by decide)).trans q9)) (fun a a1 a2 => (set_far (by omega)).trans (set_far (by omega)))
        · exact fun a ha => (set_far (by omega)).trans (set_far (by omega))
        · exact (set_far (by decide)).trans ((set_far (by decide)).trans j20)
      | true =>
        obtain ⟨q, p, h5, h6⟩ := j8.2.2.2.2.2.1
        obtain ⟨wq, h10, hwq⟩ := j8.2.2.2.2.2.2.1
        obtain ⟨D, Sx, K, E, hBA, hBL, hB4, hB5⟩ := (j8.2.2.2.2.2.2.2.1 t ht).1
        obtain ⟨w1, w2, w3⟩ := j16 t ht
        have hwl : ∀ e ∈ wss t, 1 ≤ (pfx e).1.length ∧ (pfx e).1.length ≤ 41 ∧ (e.2.getD []).length ≤ 1000 := fun e he => (w2 (pfx e) (List.mem_map.mpr ⟨e, he, rfl⟩)).len
        have hws : ∀ e ∈ wss t, (e.2.getD []).length ≤ 1000 := fun e he => (hwl e he).2.2
        have hwk2 : ∀ e ∈ wss t, e.1.length ≤ 40 := fun e he => by
          have h9 : e.1.length + 1 ≤ 41 := (hwl e he).2.1
          omega
        have hw0 : ∀ e ∈ (wss t).map pfx, e.1.headD 1 = 0 := fun e he => by
          obtain ⟨w, hw, rfl⟩ := List.mem_map.mp he
          rfl
        have hwk : ∀ e ∈ (wss t).map pfx, 1 ≤ e.1.length ∧ e.1.length ≤ 41 := fun e he => ⟨(w2 e he).len.1, (w2 e he).len.2.1⟩
        have hms : ∀ w ∈ ms, (w.2.2.getD []).length ≤ 1000 := rel_len r2 (fun v hv => (hw7 v hv).2.1)
        rcases bz_01 (xs (i + 2)) with b0 | b0
        ·
          obtain ⟨x, H1, c1, rv, c2, c3, c4, c5, c6, c7, c8⟩ := ri_seek0 (sc := (L, xs)) (d := 1993) j8.1 j8.2.1 j8.2.2.1 j8.2.2.2.1 j8.2.2.2.2.1 h5 h6 hl2 hs (j15 t ht) ht hop h10 (hwq t ht) (by omega) (by omega) hVA hVW hvs hBA (hBL.ok hB4 hB5) hBL hw0 hwk
          rw [sl_prb] at c2
          have h224 : H1[224]? = some (kJ 1 e) := (c8 224 (by decide) (by decide) (by decide) (by decide) (by decide)).trans j20
          have hr0 : RefI (H1.set 224 (kJ 1 (va_up e 0 x.toInt64))) fa (B * 256) 0 cw cl tb l rs g0 P ms op sm wss kd pa sz nl nm ps := j10.far (fun a a1 a2 => (set_far (by omega)).trans (c8 a (by omega) (by omega) (by omega) (by omega) (by omega)))
          obtain ⟨us2, ba2, bo2, n1, ⟨⟨bf, ko, kn, vo, vz, vm, hMA, hML⟩, -, -, -, -, hba, -⟩, p5, p6, ⟨ro, fi, wk, wn, wz, wb, pR, pT⟩, -, p8, p9, hR2⟩ := hr0.cells
          obtain ⟨y, H2, d1, rw2, d2, d3, d4, ⟨g2, d5, d6, d7⟩, d8⟩ := ri_mseek0 (sc := (L, xs)) (d := 1996) n1 hMA hML j11.2.2.1 hba pR (pT t ht) ht p6 (j11.2.2.2.1 t ht) p8 p5 hop hl2 p9 j9.oneM w1.unp hws hms hwk2 (fun w hw => (j11.2.2.1.2.2 w hw).1)
          have hrv : rv.map List.tail = rw2 := ((c2.tail (fun k hk => hk.1)).congr (fun k => vis_eq w1.unp r2 r1.one k)).uniq d2
          rw [hrv] at c4
          have hxy : y = x := by
            rw [c3, d3, ← hrv]
            cases rv with
            | none => rfl
            | some k9 =>
              show lI (some k9.tail.length) = lI (some (k9.length - 1))
              rw [List.length_tail]
          rw [hxy] at d1
          obtain ⟨g1, f3, f4, f5, f6⟩ := c4
          have hlow : ∀ a, a < 195 → H2[a]? = H1[a]? := fun a ha => (d8 a (by omega) (by omega)).trans (set_far (by omega))
          have h2 : H2[224]? = some (kJ 1 (va_up e 0 x.toInt64)) := (d8 224 (by decide) (by decide)).trans (get_set h224)
          refine gs_ok7 (c1 := 0) (s1 := 0) (c2 := 0) (s2 := 0) (x := x) hL h j8.1 (by rw [e1, b0]; exact c1) h224 ((c8 195 (by decide) (by decide) (by decide) (by decide) (by decide)).trans m1) (by rw [e1, b0]; exact d1) d4 rfl h2 (kq.go0 (Or.inl (hJ.res (g' := g1) (rl' := (rw2.getD []).length) (g0' := g2) (l' := 0) (tb' := tb) (fa' := 0) hk ?_ ?_ (Nat.zero_le _) d7 ?_ ?_ ⟨_, h2⟩)))
          · exact j8.small ((hlow 0 (by decide)).trans ((c8 0 (by decide) (by decide) (by decide) (by decide) (by decide)).trans j8.1)) ((hlow 1 (by decide)).trans c7) ((hlow 2 (by decide)).trans ((c8 2 (by decide) (by decide) (by decide) (by decide) (by decide)).trans j8.2.2.1)) ((hlow 3 (by decide)).trans f3) ((hlow 4 (by decide)).trans f4) ⟨_, _, (hlow 5 (by decide)).trans c5, (hlow 6 (by decide)).trans c6⟩ (fun a a1 a2 => (hlow a (by omega)).trans (c8 a (by omega) (by omega) (by omega) (by omega) (by omega)))
          · exact hR2 H2 0 0 cw cl tb 0 (nI (rw2.getD []).length) g2 d4 ((d8 196 (by decide) (by decide)).trans p8) d5 (fun a a1 a2 => d8 a (by omega) (by omega))
          · intro j hj
            have h9 := sl_inj (f5.trans d6.symm) j hj
            rwa [Nat.zero_add] at h9
          · exact fun a ha => (hlow a (by omega)).trans (c8 a (by omega) (by omega) (by omega) (by omega) (by omega))
        ·
          obtain ⟨x, H1, c1, rv, c2, c3, c4, c5, c6, c7, c8⟩ := ri_seek1 (sc := (L, xs)) (d := 1993) j8.1 j8.2.1 j8.2.2.1 j8.2.2.2.1 j8.2.2.2.2.1 h5 h6 hl2 hs (j15 t ht) ht hop h10 (hwq t ht) (by omega) (by omega) hVA hVW hvs hBA (hBL.ok hB4 hB5) hBL hw0 hwk
          rw [sl_prb] at c2
          have h224 : H1[224]? = some (kJ 1 e) := (c8 224 (by decide) (by decide) (by decide) (by decide) (by decide)).trans j20
          have hr0 : RefI (H1.set 224 (kJ 1 (va_up e 0 x.toInt64))) fa (B * 256) 0 cw cl tb l rs g0 P ms op sm wss kd pa sz nl nm ps := j10.far (fun a a1 a2 => (set_far (by omega)).trans (c8 a (by omega) (by omega) (by omega) (by omega) (by omega)))
          obtain ⟨us2, ba2, bo2, n1, ⟨⟨bf, ko, kn, vo, vz, vm, hMA, hML⟩, -, -, -, -, hba, -⟩, p5, p6, ⟨ro, fi, wk, wn, wz, wb, pR, pT⟩, -, p8, p9, hR2⟩ := hr0.cells
          obtain ⟨y, H2, d1, rw2, d2, d3, d4, ⟨g2, d5, d6, d7⟩, d8⟩ := ri_mseek1 (sc := (L, xs)) (d := 1996) n1 hMA hML j11.2.2.1 hba pR (pT t ht) ht p6 (j11.2.2.2.1 t ht) p8 p5 hop hl2 p9 j9.oneM w1.unp hws hms hwk2 (fun w hw => (j11.2.2.1.2.2 w hw).1)
          have hrv : rv.map List.tail = rw2 := ((c2.tail (fun k hk => hk.1)).congr (fun k => vis_eq w1.unp r2 r1.one k)).uniq d2
          rw [hrv] at c4
          have hxy : y = x := by
            rw [c3, d3, ← hrv]
            cases rv with
            | none => rfl
            | some k9 =>
              show lI (some k9.tail.length) = lI (some (k9.length - 1))
              rw [List.length_tail]
          rw [hxy] at d1
          obtain ⟨g1, f3, f4, f5, f6⟩ := c4
          have hlow : ∀ a, a < 195 → H2[a]? = H1[a]? := fun a ha => (d8 a (by omega) (by omega)).trans (set_far (by omega))
          have h2 : H2[224]? = some (kJ 1 (va_up e 0 x.toInt64)) := (d8 224 (by decide) (by decide)).trans (get_set h224)
          refine gs_ok7 (c1 := 0) (s1 := 0) (c2 := 0) (s2 := 0) (x := x) hL h j8.1 (by rw [e1, b0]; exact c1) h224 ((c8 195 (by decide) (by decide) (by decide) (by decide) (by decide)).trans m1) (by rw [e1, b0]; exact d1) d4 rfl h2 (kq.go0 (Or.inl (hJ.res (g' := g1) (rl' := (rw2.getD []).length) (g0' := g2) (l' := 0) (tb' := tb) (fa' := 0) hk ?_ ?_ (Nat.zero_le _) d7 ?_ ?_ ⟨_, h2⟩)))
          · exact j8.small ((hlow 0 (by decide)).trans ((c8 0 (by decide) (by decide) (by decide) (by decide) (by decide)).trans j8.1)) ((hlow 1 (by decide)).trans c7) ((hlow 2 (by decide)).trans ((c8 2 (by decide) (by decide) (by decide) (by decide) (by decide)).trans j8.2.2.1)) ((hlow 3 (by decide)).trans f3) ((hlow 4 (by decide)).trans f4) ⟨_, _, (hlow 5 (by decide)).trans c5, (hlow 6 (by decide)).trans c6⟩ (fun a a1 a2 => (hlow a (by omega)).trans (c8 a (by omega) (by omega) (by omega) (by omega) (by omega)))
          · exact hR2 H2 0 0 cw cl tb 0 (nI (rw2.getD []).length) g2 d4 ((d8 196 (by decide) (by decide)).trans p8) d5 (fun a a1 a2 => d8 a (by omega) (by omega))
          · intro j hj
            have h9 := sl_inj (f5.trans d6.symm) j hj
            rwa [Nat.zero_add] at h9
          · exact fun a ha => (hlow a (by omega)).trans (c8 a (by omega) (by omega) (by omega) (by omega) (by omega))
    · exact step_seek_bad hL h j8.1 j8.2.1 m1 hl hb (kq.go1 (Or.inl (hF 1)))
  · obtain ⟨d1, d2, d3, d4, d5, d6, d7, d8, d9, d10, d11, d12, d13, d14, d15, d16, d17, jE, e, d19⟩ := id hJ
    obtain ⟨us, ba, bo, m1, hF, hG, qV, hR⟩ := hJ.fld hk
    obtain ⟨-, -, -, -, -, q5, q6, qR, qT, q8, q9, -⟩ := d9.cells
    have hl := d10.1
    by_cases hb : (∃ t, xs (i + 1) = nI t ∧ t < 8) ∧ l ≤ 40
    · obtain ⟨⟨t, e1, ht⟩, hl2⟩ := hb
      exact step_seek_down hL h d7.1 d7.2.1 m1 e1 ht hl2 (kq.go1 (Or.inr (hF 2)))
    · exact step_seek_bad hL h d7.1 d7.2.1 m1 hl hb (kq.go1 (Or.inr (hF 1)))
end S71
