/-! ===== write: the case of the law, from every state of the invariant; written by wip/gen/write2.py ===== -/
theorem ovrL_b {old bs : List Nat} {a : Nat} (h1 : ∀ b ∈ old, b < 256) (h2 : ∀ b ∈ bs, b < 256) : ∀ b ∈ ovrL old a bs, b < 256 := fun b hb => by
  unfold ovrL at hb
  rcases List.mem_append.mp hb with q | q
  · rcases List.mem_append.mp (List.mem_of_mem_take q) with z | z
    · exact h1 b z
    · rw [(List.mem_replicate.mp z).2]; decide
  · rcases List.mem_append.mp q with z | z
    · exact h2 b z
    · exact h1 b (List.mem_of_mem_drop z)
theorem pcV_b {c : Nat → Int8} {vs : List aV} {f i : Nat} : ∀ b ∈ pcV c vs f i, b < 256 := fun b hb => by
  unfold pcV at hb
  cases e : seenV vs [2, f, i] (2 ^ 30) with
  | none => rw [e] at hb; exact absurd hb List.not_mem_nil
  | some v => rw [e] at hb; exact sl_b b hb
theorem wrA_b {c : Nat → Int8} {vs : List aV} {f off l k : Nat} {tb : Nat → Int8} {e : aE} (h : e ∈ wrA c vs f off l tb k) : ∀ b8, e.2 = some b8 → ∀ b ∈ b8, b < 256 := fun b8 h8 b hb => by
  obtain ⟨j, -, he⟩ := mem_wrA.mp h
  rw [he] at h8
  rw [← Option.some.inj h8] at hb
  exact ovrL_b pcV_b sl_b b hb
theorem grS_up {ps : List aPc} {f e a : Nat} : ∀ (m : Nat), grS ps f e a m ≤ 539 * m
  | 0 => Nat.le_refl _
  | m + 1 => by
    have h1 := grS_up (ps := ps) (f := f) (e := e) (a := a) m
    have h2 : grE ps f e (a + m) ≤ 539 := by
      unfold grE
      split <;> omega
    show grS ps f e a m + grE ps f e (a + m) ≤ _
    omega
theorem wr_len0 {c : Nat → Int8} {vs : List aV} {f off l : Nat} {tb : Nat → Int8} {ws : List aE} (hl : ∀ i, (pcV c vs f i).length ≤ 512) (h1 : 1 ≤ l) (h2 : l ≤ 2000) (hws : ws = wrA c vs f off l tb ((off + l + 511) / 512 - off / 512)) : ws.length ≤ 6 ∧ 1 ≤ ws.length ∧ eOff ws ws.length ≤ 3200 := by
  have b := wrA_len (f := f) (tt := off) (n := l) (tb := tb) hl ((off + l + 511) / 512 - off / 512)
  rw [← hws] at b
  exact ⟨by omega, by omega, by omega⟩
theorem wr_len1 {c : Nat → Int8} {vs : List aV} {f off l : Nat} {tb : Nat → Int8} {ws : List aE} {x : aE} (hl : ∀ i, (pcV c vs f i).length ≤ 512) (h1 : 1 ≤ l) (h2 : l ≤ 2000) (hx : eLen x ≤ 40) (hws : ws = wrA c vs f off l tb ((off + l + 511) / 512 - off / 512) ++ [x]) : ws.length ≤ 6 ∧ 1 ≤ ws.length ∧ eOff ws ws.length ≤ 3200 := by
  have b := wrA_len (f := f) (tt := off) (n := l) (tb := tb) hl ((off + l + 511) / 512 - off / 512)
  generalize wrA c vs f off l tb ((off + l + 511) / 512 - off / 512) = g at b hws
  rw [hws, eOff_cat, eOff_one, List.length_append, List.length_singleton]
  exact ⟨by omega, by omega, by omega⟩
section S85
variable {L i k kc ks : Nat} {xs : Nat → Int32} {Q : tO × aH × Nat × Nat → Prop} {H : aH}
theorem iv_write (hL : L < 2 ^ 30) (h : i + 6 ≤ L) (hI : InvI k H) (hk : k < 512) (kq : Hd L xs i kc ks Q (k + 1)) : RQ (L, xs) 2000 mr_law 1599 [(4, .int (nI i)), (3, .ref 225), (2, .ref 196), (1, .ref 1), (0, .ref 0)] [] H kc ks Q := by
  rcases hI with ⟨ky, B, N, P, bb, cw, cl, cp, cb, tb, l, g, rl, wss, t0, op, sm, ms, kd, pa, sz, nl, nm, ps, fa, rs, g0, hJ⟩ | ⟨ky, B, N, P, cw, cl, cp, cb, tb, l, g, rl, wss, t0, op, sm, ms, kd, pa, sz, nl, nm, ps, fa, rs, g0, hJ⟩
  · obtain ⟨j1, j2, j3, j4, j5, j6, j7, j8, j9, j10, j11, j12, j13, j14, j15, j16, j17, j18, j19, jE, e, j20⟩ := id hJ
    obtain ⟨us, ba, bo, m1, hF, hG, qV, hR⟩ := hJ.fld hk
    obtain ⟨-, -, -, -, -, q5, q6, qR, qT, q8, q9, -⟩ := j10.cells
    have hTR := j11.2.2.2.2.1
    have hT0 := jE.2.2.2.1
    have hl2 := j11.1
    by_cases hb : (∃ t, xs (i + 1) = nI t ∧ t < 201) ∧ 1 ≤ l ∧ ∃ s, xs (i + 2) = nI s ∧ s + l ≤ 16384
    · obtain ⟨⟨f, e1, hf⟩, hl1, ⟨off, e2, hol⟩⟩ := hb
      have hf : f ≤ 200 := by omega
      have htt : off ≤ 16384 - l := by omega
      by_cases hkd : kd f = 1
      · have hkdt : t0.1 f = 1 := (j17.1 f hf).trans hkd
        have hkf : ¬ kd f = 0 := by rw [hkd]; decide
        have hf1 : 1 ≤ f := by
          rcases Nat.eq_zero_or_pos f with q | q
          · have h9 := jE.2.2.2.2.2.2.2.2.1
            rw [q, h9] at hkd
            exact absurd hkd (by decide)
          · exact q
        obtain ⟨a1, a2, a3, a4⟩ := j17.2.1 f hf hkf
        have hmx : max (sz f) (off + l) ≤ 16384 := by
          have := (hTR f hf).2.2.1
          omega
        by_cases hgr : sz f < off + l
        ·
          have hsub : ∀ x ∈ ky, x ∈ wrK f off l ++ ky := fun x hx => List.mem_append.mpr (Or.inr hx)
          have hQ := j9.ky hsub
          obtain ⟨S, lgs, fr, ff, wr, tp, rs9, us9, c, P1, gs, vs, tss, Lc, u1, u2, ⟨hrl, u3⟩, u4⟩ := id hQ
          have hs := u1.2.2.2.2.2.2.2.2.1
          have hV9 := u1.2.2.2.2.2.2.1
          have hK7 := u2.2.2.2.2.2.2.1
          have hmP : ∀ w ∈ ms, w.2.1 ≤ P := rel_le hrl.2.1 (fun v hv => (hK7 v hv).1)
          have hX := xc_b (xc_rel (kd := kd) (pa := pa) (sz := sz) (nl := nl) (nm := nm) (ps := ps) j12)
          have hXN : ∀ c vs, (∀ v ∈ vs, VOk (wrK f off l ++ ky) P v) → Xb (RlX op sm ms kd pa sz nl nm ps) c vs → sumN op sm (-1) P (kmV vs) vs ≤ B * 256 := fun c vs hv hx => by
            rw [rlx_need hv hx.1 j13]
            exact j14
          have h64 : nB B + 40 ≤ N := by unfold nB; omega
          have hpl := UpQ.pl (M := 0) u1 (by omega)
          obtain ⟨⟨tf, pq, ms9, mt9, sq9, tu9, ⟨lg, pi, hY, hlg, hlc, -⟩, hC, -⟩, hO, -, -, -, -, -, hRX, -, hA⟩ := id u1
          obtain ⟨kf, kl, mo, pl, le, al, od, sp, szv, ss, ac, hVA, hVW, hvs⟩ := id hV9
          have hlg9 : ∀ j, j < lgs.length → lg j < 2 ^ 30 := fun j hj => by
            obtain ⟨b, hb9⟩ := lt_get hj
            rw [hlg j b hb9]
            have := (hO.1 b (List.mem_of_getElem? hb9)).2
            omega
          have hrec := recs_ok hlg hO hRX hK7 (by omega)
          have hpc9 : ∀ i, (pcV c vs f i).length ≤ 512 := fun i => (pc_le (c := c) hrl.1.one hK7 i).2
          have hgrt : t0.2.2.1 f < off + l := by rw [a2]; exact hgr
          have hnl := node_len hrl.2.2.1 hK7 hf1 hf hkf
          have hnl2 := (hTR f hf).2.2.2
          have hnbl : (nodB kd pa (va_up sz f (max (sz f) (off + l))) nl nm f).length = 4 + nl f := by
            unfold nodB
            rw [List.length_append, List.length_append, beB_len, sl_length]
            show 2 + (2 + nl f) = _
            omega
          have hnb : [1, t0.2.1 f] ++ (beB 2 (max (t0.2.2.1 f) (off + l)) ++ sl t0.2.2.2.2.1 (f * 30) (t0.2.2.2.1 f)) = (nodB kd pa (va_up sz f (max (sz f) (off + l))) nl nm f) := by
            unfold nodB
            rw [up_at, hkd, a1, a2, a3, a4]
          obtain ⟨ws, hws⟩ : ∃ ws : List aE, ws = wrA c vs f off l tb ((off + l + 511) / 512 - off / 512) ++ [([1, f], some (nodB kd pa (va_up sz f (max (sz f) (off + l))) nl nm f))] := ⟨_, rfl⟩
          have hwst : wrA c vs f off l tb ((off + l + 511) / 512 - off / 512) ++ [([1, f], some ([1, t0.2.1 f] ++ (beB 2 (max (t0.2.2.1 f) (off + l)) ++ sl t0.2.2.2.2.1 (f * 30) (t0.2.2.2.1 f))))] = ws := by rw [hnb]; exact hws.symm
          have hlen := wr_len1 hpc9 hl1 hl2 (by show 2 + (nodB kd pa (va_up sz f (max (sz f) (off + l))) nl nm f).length ≤ 40; omega) hws
          have h1W : OneW ws := by
            rw [hws]
            exact (wrA_one _).snoc (fun e he q => by
              obtain ⟨j, -, he2⟩ := mem_wrA.mp he
              rw [he2] at q
              exact absurd (List.cons.inj q).1 (by decide))
          have hK9 : ∀ e ∈ ws, EntK (wrK f off l ++ ky) e := fun e he => by
            rw [hws] at he
            rcases List.mem_append.mp he with q | q
            · exact wrA_entK hpc9 hl1 hol hf q
            · rw [List.mem_singleton.mp q]
              obtain ⟨v9, b1, b2⟩ := node_key hrl.2.2.1 hf1 hf hkf
              refine ⟨Or.inr (Or.inl ⟨f, rfl, hf1, hf, fun m hm => ?_⟩), by rw [← b2]; exact (hK7 v9 b1).2.2.2⟩
              rw [← Option.some.inj hm, hnbl]
              omega
          have hf9 : ∀ e ∈ ws, ¬ e.1.head? = some 0 := fun e he => by
            rw [hws] at he
            rcases List.mem_append.mp he with q | q
            · obtain ⟨j, -, he2⟩ := mem_wrA.mp q
              rw [he2]
              exact fun q => absurd (Option.some.inj q) (by decide)
            · rw [List.mem_singleton.mp q]
              exact fun q => absurd (Option.some.inj q) (by decide)
          have hpa9 := (hT0 f hf).2.1
          have hb9 : ∀ e ∈ ws, ∀ b8, e.2 = some b8 → ∀ b ∈ b8, b < 256 := fun e he b8 h8 b hb => by
            rw [hws] at he
            rcases List.mem_append.mp he with q | q
            · exact wrA_b q b8 h8 b hb
            · rw [List.mem_singleton.mp q, ← hnb] at h8
              rw [← Option.some.inj h8] at hb
              rcases List.mem_append.mp hb with q | q
              · rcases List.mem_cons.mp q with q | q
                · rw [q]; decide
                · rw [List.mem_singleton.mp q]; omega
              · rcases List.mem_append.mp q with q | q
                · exact beB_lt q
                · exact sl_b b q
          have hkl : ∀ e ∈ ws, 1 ≤ e.1.length := fun e he => (hK9 e he).len.1
          have hopn := opn_5 (ws := ws) (by rw [szW_sum]; omega)
          have hlt9 : ∀ k, k < ((off + l - 1) / 512 + 1 - off / 512) → off - 512 * (off / 512 + k) < layK (off + l) (off / 512 + k) := fun k hk => lay_lt (by omega) hk
          have h1P : OneP (layN tb f off (off + l) ps ((off + l - 1) / 512 + 1 - off / 512)) := oneP_layN j13 _ hlt9
          have hnd1 : ndR op sm (-1) (P + 1) ms kd nl (layN tb f off (off + l) ps ((off + l - 1) / 512 + 1 - off / 512)) = ndR op sm (-1) P ms kd nl ps + grS ps f (off + l) (off / 512) ((off + l - 1) / 512 + 1 - off / 512) := by rw [nd_lay j13 hlt9, nd_next hmP]
          have hneed := need_fil (x := -1) (kd' := kd) (pa' := pa) (sz' := va_up sz f (max (sz f) (off + l))) (nl' := nl) (nm' := nm) (ps' := (layN tb f off (off + l) ps ((off + l - 1) / 512 + 1 - off / 512))) (ws := ws) hrl hK7 hpl h1P h1W hK9 hb9 (by omega) hf9 (fun c1 vs' hI => wr_relG hrl.2.2.1 hrl.2.2.2 hrl.1.one hK7 (by omega) hl1 hkf hws h1W j13 hI)
          rw [hnd1] at hneed
          have hT' : TreeOk kd pa (va_up sz f (max (sz f) (off + l))) nl := hTR.sz hmx
          have hpk9 : ∀ x ∈ (layN tb f off (off + l) ps ((off + l - 1) / 512 + 1 - off / 512)), PcOk x := layN_ok j11.2.2.2.2.2.2.2 hf _ (by omega)
          have hpz9 := lay_in (tb := tb) (kd := kd) (sz := sz) j13 hlt9 hkd jE.2.2.2.2.2.1
          have hgu := grS_up (ps := ps) (f := f) (e := off + l) (a := off / 512) ((off + l - 1) / 512 + 1 - off / 512)
          have hkyl : 512 * (wrK f off l ++ ky).length ≤ 1024 * (k + 1) := by
            rw [List.length_append]
            have := jE.2.2.2.2.2.2.2.1
            have := wrK_len (f := f) (off := off) hl1
            omega
          by_cases hfull : ndR op sm (-1) P ms kd nl ps + grS ps f (off + l) (off / 512) ((off + l - 1) / 512 + 1 - off / 512) ≤ B * 256
          · have hle : sumN op sm (-1) (P + 1) (kmV (inclV (P + 1) (fun _ => 0) 0 ws vs)) (inclV (P + 1) (fun _ => 0) 0 ws vs) ≤ B * 256 := by rw [hneed]; exact hfull
            have hrm : ∀ m, m ≤ ((off + l - 1) / 512 + 1 - off / 512) → (layN tb f off (off + l) ps m).length ≤ 1300 ∧ plen (layN tb f off (off + l) ps m) ≤ 40000 := fun m hm => lay_room j13 hlt9 hm (by omega) hfull
            have hnd9 : ndR op sm (-1) (P + 1) ms kd nl (layN tb f off (off + l) ps ((off + l - 1) / 512 + 1 - off / 512)) ≤ B * 256 := by rw [hnd1]; exact hfull
            rcases jE.1 with rfl | rfl
            · obtain ⟨x, H1, c1, c2, c3, c4, -, c5⟩ := ri_write1_okQ (M := 48 * (k + 1)) (sc := (L, xs)) (d := 1990) j8 hT0 hf hl1 hl2 htt hkdt hgrt hwst h1W hkl hVA hVW hvs hC hY (by omega) hlc hlg9 hA.1 hrec (fun i => pc_le hrl.1.one hK7 i) hs j15 hV9 (fun v hv => (hK7 v hv).1) (by omega) hle hX hXN hQ j1 j5 (by omega) (by omega) (by omega) (by omega) hopn hK9 (by omega)
              have h224 : H1[224]? = some (kJ 1 e) := (c5 224 (by decide)).trans j20
              have hr0 : RefI (H1.set 224 (kJ 1 (va_up e 0 x.toInt64))) fa (B * 256) 0 0 cl tb l rs g0 P ms op sm wss kd pa sz nl nm ps := j10.far (fun a a1 a2 => (set_far (by omega)).trans (c5 a a1))
              obtain ⟨z, H2, r1, r2, r3, r4⟩ := ri_mwrite_ok (sc := (L, xs)) (d := 1994) hr0 j11 hf hl1 hol hkd (by omega) (by omega) hfull hrm
              have hxz : z = x := by rw [r2, c2, a2]
              rw [hxz] at r1
              obtain ⟨us2, ba2, bo2, m2, -⟩ := id r3
              have hlow : ∀ a, a < 195 → H2[a]? = H1[a]? := fun a ha => (r4 a (by omega)).trans (set_far (by omega))
              have h2 : H2[224]? = some (kJ 1 (va_up e 0 x.toInt64)) := (r4 224 (by omega)).trans (get_set h224)
              have hQ2 : UpQ (wrK f off l ++ ky) (48 * (k + 1)) H1 B N bb (P + 1) op sm (nB B) (Xb (RlX op sm ms kd pa (va_up sz f (max (sz f) (off + l))) nl nm (layN tb f off (off + l) ps ((off + l - 1) / 512 + 1 - off / 512)))) := inc_Q c3 (by omega) (fun c c1 vs9 Q hx hs1 hI hnew hold hVk => fil_rel hx.1 hs1 hold (fun v hv => (hVk v hv).1) hf9 j12 (wr_relG hx.1.2.2.1 hx.1.2.2.2 hx.1.1.one hVk (by omega) hl1 hkf (by rw [hws, wrA_eq hrl.2.2.2 hx.1.2.2.2 j13 hrl.1.one hx.1.1.one (fun v hv => by have := (hK7 v hv).1; omega) (fun v hv => by have := (hVk v hv).1; omega) ((off + l + 511) / 512 - off / 512)]) h1W j13 hI)) (fun c vs hv hx => by
                rw [rlx_need hv hx h1P]
                exact hnd9)
              refine gs_ok23 (c1 := 0) (s1 := 0) (c2 := 0) (s2 := 0) (x := x) hL h j8.1 (by rw [e1, e2]; exact c1) h224 ((c5 195 (by decide)).trans m1) (by rw [e1, e2]; exact r1) m2 rfl h2 (kq.go0 (Or.inl ?_))
              exact hJ.fil hk hmP (c4.far (fun a a1 _ => hlow a (by omega))) (hQ2.nr hlow) r3 (Nat.zero_le _) hT' hpk9 h1P hnd9 (j17.size rfl rfl (fun f _ => rfl) rfl rfl rfl (fun g _ => by rw [a2])) (hT0.sz (by rw [a2]; exact hmx)) hpz9 jE.2.2.2.2.2.2.2.2 hsub (by omega) ⟨_, h2⟩ ⟨rfl, up_ne (by omega), rfl⟩
            · rcases jE.2.1 with rfl | rfl
              · obtain ⟨H1, nn, hn2, c1, c3, c4, c6, c5⟩ := rx_write1_cutQ (M := 48 * (k + 1)) (sc := (L, xs)) (d := 1990) j8 hT0 hf hl1 hl2 htt hkdt hgrt hwst h1W hkl hVA hVW hvs hC hY (by omega) hlc hlg9 hA.1 hrec (fun i => pc_le hrl.1.one hK7 i) hs j15 hV9 (fun v hv => (hK7 v hv).1) (by omega) hle j6 hX hXN hQ j1 j7 (by omega) (by omega) (by omega) (by omega) hopn hK9 (by omega)
                have hr0 : RefI H1 fa (B * 256) 0 1 0 tb l rs g0 P ms op sm wss kd pa sz nl nm ps := j10.far (fun a a1 a2 => c5 a a1)
                obtain ⟨z, H2, r1, r2, r3, r4⟩ := ri_mwrite_lost (sc := (L, xs)) (d := 1994) hr0 j11 hf hl1 hol hkd (by omega) (by omega) hfull
                obtain ⟨us2, ba2, bo2, m2, -⟩ := id r3
                have hlow : ∀ a, a < 195 → H2[a]? = H1[a]? := fun a ha => r4 a (by omega)
                have h2 : H2[224]? = some (kJ 1 e) := (r4 224 (by omega)).trans ((c5 224 (by decide)).trans j20)
                refine gs_x23_1 (c1 := nn) (s1 := 6 * nn) (c2 := 0) (s2 := 0) hL h j8.1 (by rw [e1, e2]; exact c1) ((c5 195 (by decide)).trans m1) (by rw [e1, e2]; exact r1) m2 rfl (kq H2 nn hn2 (Or.inr ?_))
                exact hJ.filD hk (Nat.le_refl _) (by omega) (Or.inl rfl) (c4.far (fun a a1 _ => hlow a (by omega))) ((cut_D c3 (by omega) c6).nr hlow) r3 hTR j11.2.2.2.2.2.2.2 j13 j14 jE.2.2.2.2.2.1 jE.2.2.2.2.2.2.2.2 hsub (by omega) ⟨_, h2⟩ ⟨rfl, rfl, rfl⟩
              · obtain ⟨H1, nn, hn2, c1, c3, c4, c6, c5⟩ := rx_write1_lateQ (M := 48 * (k + 1)) (sc := (L, xs)) (d := 1990) j8 hT0 hf hl1 hl2 htt hkdt hgrt hwst h1W hkl hVA hVW hvs hC hY (by omega) hlc hlg9 hA.1 hrec (fun i => pc_le hrl.1.one hK7 i) hs j15 hV9 (fun v hv => (hK7 v hv).1) (by omega) hle hX hXN hQ j1 j5 (by omega) (by omega) (by omega) (by omega) hopn hK9 (by omega) (by omega)
                have hr0 : RefI H1 fa (B * 256) 0 1 1 tb l rs g0 P ms op sm wss kd pa sz nl nm ps := j10.far (fun a a1 a2 => c5 a a1)
                obtain ⟨z, H2, r1, r2, r3, r4⟩ := ri_mwrite_late (sc := (L, xs)) (d := 1994) hr0 j11 hf hl1 hol hkd (by omega) (by omega) hfull hrm
                obtain ⟨us2, ba2, bo2, m2, -⟩ := id r3
                have hlow : ∀ a, a < 195 → H2[a]? = H1[a]? := fun a ha => r4 a (by omega)
                have h2 : H2[224]? = some (kJ 1 e) := (r4 224 (by omega)).trans ((c5 224 (by decide)).trans j20)
                have hD := lat_D (op := op) c3 h1W c6 (fun c c1 vs9 Q hx hs1 hI hnew hold hVk => fil_rel0 hx.1 (fun j hj q => by rw [dnO_no hj] at q; exact absurd q Bool.false_ne_true) hs1 hold (fun v hv => (hVk v hv).1) hf9 (wr_relG hx.1.2.2.1 hx.1.2.2.2 hx.1.1.one hVk (by omega) hl1 hkf (by rw [hws, wrA_eq hrl.2.2.2 hx.1.2.2.2 j13 hrl.1.one hx.1.1.one (fun v hv => by have := (hK7 v hv).1; omega) (fun v hv => by have := (hVk v hv).1; omega) ((off + l + 511) / 512 - off / 512)]) h1W j13 hI))
                refine gs_x23_1 (c1 := nn) (s1 := 6 * nn) (c2 := 0) (s2 := 0) hL h j8.1 (by rw [e1, e2]; exact c1) ((c5 195 (by decide)).trans m1) (by rw [e1, e2]; exact r1) m2 rfl (kq H2 nn hn2 (Or.inr ?_))
                exact hJ.filD hk (Nat.le_succ _) (Nat.le_refl _) (Or.inr rfl) (c4.far (fun a a1 _ => hlow a (by omega))) (hD.nr hlow) r3 hT' hpk9 h1P hnd9 hpz9 jE.2.2.2.2.2.2.2.2 hsub (by omega) ⟨_, h2⟩ ⟨rfl, up_ne (by omega), rfl⟩
          · obtain ⟨H1, c1, c4, c5⟩ := rx_write1_full (sc := (L, xs)) (d := 1990) j8 hT0 hf hl1 hl2 htt hkdt hgrt hwst h1W hkl hVA hVW hvs hC hY (by omega) hlc hlg9 hA.1 hrec (fun i => pc_le hrl.1.one hK7 i) hs j15 hV9 (fun v hv => (hK7 v hv).1) (by omega) (by rw [hneed]; omega) (by rw [hneed]; omega)
            have hr0 : RefI H1 fa (B * 256) 0 cw cl tb l rs g0 P ms op sm wss kd pa sz nl nm ps := j10.far (fun a a1 a2 => c5 a (by omega))
            obtain ⟨z, H2, r1, r2, r3, r4⟩ := ri_mwrite_full (sc := (L, xs)) (d := 1994) hr0 j11 hf hl1 hol hkd (by omega) (by omega) (by omega)
            obtain ⟨us2, ba2, bo2, m2, -⟩ := id r3
            exact gs_x23_2 (c1 := 1) (s1 := 6) (c2 := 0) (s2 := 0) hL h j8.1 (by rw [e1, e2]; exact c1) ((c5 195 (by omega)).trans m1) (by rw [e1, e2]; exact r1) m2 rfl (kq.go1 (Or.inl (hJ.row (cw' := cw) (cl' := cl) (cp' := cp) (cb' := cb) (fa' := 4) (tb' := tb) (l' := 0) hk (c4.far (fun a a1 _ => r4 a (by omega))) r3 jE.1 jE.2.1 (Nat.zero_le _) (Nat.zero_le _) j6 j7 (fun a ha => (r4 a (by omega)).trans (c5 a (by omega))) ⟨e, (r4 224 (by omega)).trans ((c5 224 (by omega)).trans j20)⟩)))
        ·
          have hsub : ∀ x ∈ ky, x ∈ wrK f off l ++ ky := fun x hx => List.mem_append.mpr (Or.inr hx)
          have hQ := j9.ky hsub
          obtain ⟨S, lgs, fr, ff, wr, tp, rs9, us9, c, P1, gs, vs, tss, Lc, u1, u2, ⟨hrl, u3⟩, u4⟩ := id hQ
          have hs := u1.2.2.2.2.2.2.2.2.1
          have hV9 := u1.2.2.2.2.2.2.1
          have hK7 := u2.2.2.2.2.2.2.1
          have hmP : ∀ w ∈ ms, w.2.1 ≤ P := rel_le hrl.2.1 (fun v hv => (hK7 v hv).1)
          have hX := xc_b (xc_rel (kd := kd) (pa := pa) (sz := sz) (nl := nl) (nm := nm) (ps := ps) j12)
          have hXN : ∀ c vs, (∀ v ∈ vs, VOk (wrK f off l ++ ky) P v) → Xb (RlX op sm ms kd pa sz nl nm ps) c vs → sumN op sm (-1) P (kmV vs) vs ≤ B * 256 := fun c vs hv hx => by
            rw [rlx_need hv hx.1 j13]
            exact j14
          have h64 : nB B + 40 ≤ N := by unfold nB; omega
          have hpl := UpQ.pl (M := 0) u1 (by omega)
          obtain ⟨⟨tf, pq, ms9, mt9, sq9, tu9, ⟨lg, pi, hY, hlg, hlc, -⟩, hC, -⟩, hO, -, -, -, -, -, hRX, -, hA⟩ := id u1
          obtain ⟨kf, kl, mo, pl, le, al, od, sp, szv, ss, ac, hVA, hVW, hvs⟩ := id hV9
          have hlg9 : ∀ j, j < lgs.length → lg j < 2 ^ 30 := fun j hj => by
            obtain ⟨b, hb9⟩ := lt_get hj
            rw [hlg j b hb9]
            have := (hO.1 b (List.mem_of_getElem? hb9)).2
            omega
          have hrec := recs_ok hlg hO hRX hK7 (by omega)
          have hpc9 : ∀ i, (pcV c vs f i).length ≤ 512 := fun i => (pc_le (c := c) hrl.1.one hK7 i).2
          have hgrt : ¬ t0.2.2.1 f < off + l := by rw [a2]; exact hgr
          obtain ⟨ws, hws⟩ : ∃ ws : List aE, ws = wrA c vs f off l tb ((off + l + 511) / 512 - off / 512) := ⟨_, rfl⟩
          have hwst := hws.symm
          have hlen := wr_len0 hpc9 hl1 hl2 hws
          have h1W : OneW ws := by
            rw [hws]
            exact wrA_one _
          have hK9 : ∀ e ∈ ws, EntK (wrK f off l ++ ky) e := fun e he => by
            rw [hws] at he
            exact wrA_entK hpc9 hl1 hol hf he
          have hf9 : ∀ e ∈ ws, ¬ e.1.head? = some 0 := fun e he => by
            rw [hws] at he
            obtain ⟨j, -, he2⟩ := mem_wrA.mp he
            rw [he2]
            exact fun q => absurd (Option.some.inj q) (by decide)
          have hb9 : ∀ e ∈ ws, ∀ b8, e.2 = some b8 → ∀ b ∈ b8, b < 256 := fun e he => by
            rw [hws] at he
            exact wrA_b he
          have hkl : ∀ e ∈ ws, 1 ≤ e.1.length := fun e he => (hK9 e he).len.1
          have hopn := opn_5 (ws := ws) (by rw [szW_sum]; omega)
          have hlt9 : ∀ k, k < ((off + l - 1) / 512 + 1 - off / 512) → off - 512 * (off / 512 + k) < layK (off + l) (off / 512 + k) := fun k hk => lay_lt (by omega) hk
          have h1P : OneP (layN tb f off (off + l) ps ((off + l - 1) / 512 + 1 - off / 512)) := oneP_layN j13 _ hlt9
          have hnd1 : ndR op sm (-1) (P + 1) ms kd nl (layN tb f off (off + l) ps ((off + l - 1) / 512 + 1 - off / 512)) = ndR op sm (-1) P ms kd nl ps + grS ps f (off + l) (off / 512) ((off + l - 1) / 512 + 1 - off / 512) := by rw [nd_lay j13 hlt9, nd_next hmP]
          have hneed := need_fil (x := -1) (kd' := kd) (pa' := pa) (sz' := va_up sz f (max (sz f) (off + l))) (nl' := nl) (nm' := nm) (ps' := (layN tb f off (off + l) ps ((off + l - 1) / 512 + 1 - off / 512))) (ws := ws) hrl hK7 hpl h1P h1W hK9 hb9 (by omega) hf9 (fun c1 vs' hI => wr_rel hrl.2.2.1 hrl.2.2.2 hrl.1.one hK7 (by omega) hl1 hgr hws h1W j13 hI)
          rw [hnd1] at hneed
          have hT' : TreeOk kd pa (va_up sz f (max (sz f) (off + l))) nl := hTR.sz hmx
          have hpk9 : ∀ x ∈ (layN tb f off (off + l) ps ((off + l - 1) / 512 + 1 - off / 512)), PcOk x := layN_ok j11.2.2.2.2.2.2.2 hf _ (by omega)
          have hpz9 := lay_in (tb := tb) (kd := kd) (sz := sz) j13 hlt9 hkd jE.2.2.2.2.2.1
          have hgu := grS_up (ps := ps) (f := f) (e := off + l) (a := off / 512) ((off + l - 1) / 512 + 1 - off / 512)
          have hkyl : 512 * (wrK f off l ++ ky).length ≤ 1024 * (k + 1) := by
            rw [List.length_append]
            have := jE.2.2.2.2.2.2.2.1
            have := wrK_len (f := f) (off := off) hl1
            omega
          by_cases hfull : ndR op sm (-1) P ms kd nl ps + grS ps f (off + l) (off / 512) ((off + l - 1) / 512 + 1 - off / 512) ≤ B * 256
          · have hle : sumN op sm (-1) (P + 1) (kmV (inclV (P + 1) (fun _ => 0) 0 ws vs)) (inclV (P + 1) (fun _ => 0) 0 ws vs) ≤ B * 256 := by rw [hneed]; exact hfull
            have hrm : ∀ m, m ≤ ((off + l - 1) / 512 + 1 - off / 512) → (layN tb f off (off + l) ps m).length ≤ 1300 ∧ plen (layN tb f off (off + l) ps m) ≤ 40000 := fun m hm => lay_room j13 hlt9 hm (by omega) hfull
            have hnd9 : ndR op sm (-1) (P + 1) ms kd nl (layN tb f off (off + l) ps ((off + l - 1) / 512 + 1 - off / 512)) ≤ B * 256 := by rw [hnd1]; exact hfull
            rcases jE.1 with rfl | rfl
            · obtain ⟨x, H1, c1, c2, c3, c4, -, c5⟩ := ri_write0_okQ (M := 48 * (k + 1)) (sc := (L, xs)) (d := 1990) j8 hT0 hf hl1 hl2 htt hkdt hgrt hwst h1W hkl hVA hVW hvs hC hY (by omega) hlc hlg9 hA.1 hrec (fun i => pc_le hrl.1.one hK7 i) hs j15 hV9 (fun v hv => (hK7 v hv).1) (by omega) hle hX hXN hQ j1 j5 (by omega) (by omega) (by omega) (by omega) hopn hK9 (by omega)
              have h224 : H1[224]? = some (kJ 1 e) := (c5 224 (by decide)).trans j20
              have hr0 : RefI (H1.set 224 (kJ 1 (va_up e 0 x.toInt64))) fa (B * 256) 0 0 cl tb l rs g0 P ms op sm wss kd pa sz nl nm ps := j10.far (fun a a1 a2 => (set_far (by omega)).trans (c5 a a1))
              obtain ⟨z, H2, r1, r2, r3, r4⟩ := ri_mwrite_ok (sc := (L, xs)) (d := 1994) hr0 j11 hf hl1 hol hkd (by omega) (by omega) hfull hrm
              have hxz : z = x := by rw [r2, c2, a2]
              rw [hxz] at r1
              obtain ⟨us2, ba2, bo2, m2, -⟩ := id r3
              have hlow : ∀ a, a < 195 → H2[a]? = H1[a]? := fun a ha => (r4 a (by omega)).trans (set_far (by omega))
              have h2 : H2[224]? = some (kJ 1 (va_up e 0 x.toInt64)) := (r4 224 (by omega)).trans (get_set h224)
              have hQ2 : UpQ (wrK f off l ++ ky) (48 * (k + 1)) H1 B N bb (P + 1) op sm (nB B) (Xb (RlX op sm ms kd pa (va_up sz f (max (sz f) (off + l))) nl nm (layN tb f off (off + l) ps ((off + l - 1) / 512 + 1 - off / 512)))) := inc_Q c3 (by omega) (fun c c1 vs9 Q hx hs1 hI hnew hold hVk => fil_rel hx.1 hs1 hold (fun v hv => (hVk v hv).1) hf9 j12 (wr_rel hx.1.2.2.1 hx.1.2.2.2 hx.1.1.one hVk (by omega) hl1 hgr (by rw [hws, wrA_eq hrl.2.2.2 hx.1.2.2.2 j13 hrl.1.one hx.1.1.one (fun v hv => by have := (hK7 v hv).1; omega) (fun v hv => by have := (hVk v hv).1; omega) ((off + l + 511) / 512 - off / 512)]) h1W j13 hI)) (fun c vs hv hx => by
                rw [rlx_need hv hx h1P]
                exact hnd9)
              refine gs_ok23 (c1 := 0) (s1 := 0) (c2 := 0) (s2 := 0) (x := x) hL h j8.1 (by rw [e1, e2]; exact c1) h224 ((c5 195 (by decide)).trans m1) (by rw [e1, e2]; exact r1) m2 rfl h2 (kq.go0 (Or.inl ?_))
              exact hJ.fil hk hmP (c4.far (fun a a1 _ => hlow a (by omega))) (hQ2.nr hlow) r3 (Nat.zero_le _) hT' hpk9 h1P hnd9 (j17.size rfl rfl (fun f _ => rfl) rfl rfl rfl (fun g _ => by rw [a2])) (hT0.sz (by rw [a2]; exact hmx)) hpz9 jE.2.2.2.2.2.2.2.2 hsub (by omega) ⟨_, h2⟩ ⟨rfl, up_ne (by omega), rfl⟩
            · rcases jE.2.1 with rfl | rfl
              · obtain ⟨H1, nn, hn2, c1, c3, c4, c6, c5⟩ := rx_write0_cutQ (M := 48 * (k + 1)) (sc := (L, xs)) (d := 1990) j8 hT0 hf hl1 hl2 htt hkdt hgrt hwst h1W hkl hVA hVW hvs hC hY (by omega) hlc hlg9 hA.1 hrec (fun i => pc_le hrl.1.one hK7 i) hs j15 hV9 (fun v hv => (hK7 v hv).1) (by omega) hle j6 hX hXN hQ j1 j7 (by omega) (by omega) (by omega) (by omega) hopn hK9 (by omega)
                have hr0 : RefI H1 fa (B * 256) 0 1 0 tb l rs g0 P ms op sm wss kd pa sz nl nm ps := j10.far (fun a a1 a2 => c5 a a1)
                obtain ⟨z, H2, r1, r2, r3, r4⟩ := ri_mwrite_lost (sc := (L, xs)) (d := 1994) hr0 j11 hf hl1 hol hkd (by omega) (by omega) hfull
                obtain ⟨us2, ba2, bo2, m2, -⟩ := id r3
                have hlow : ∀ a, a < 195 → H2[a]? = H1[a]? := fun a ha => r4 a (by omega)
                have h2 : H2[224]? = some (kJ 1 e) := (r4 224 (by omega)).trans ((c5 224 (by decide)).trans j20)
                refine gs_x23_1 (c1 := nn) (s1 := 6 * nn) (c2 := 0) (s2 := 0) hL h j8.1 (by rw [e1, e2]; exact c1) ((c5 195 (by decide)).trans m1) (by rw [e1, e2]; exact r1) m2 rfl (kq H2 nn hn2 (Or.inr ?_))
                exact hJ.filD hk (Nat.le_refl _) (by omega) (Or.inl rfl) (c4.far (fun a a1 _ => hlow a (by omega))) ((cut_D c3 (by omega) c6).nr hlow) r3 hTR j11.2.2.2.2.2.2.2 j13 j14 jE.2.2.2.2.2.1 jE.2.2.2.2.2.2.2.2 hsub (by omega) ⟨_, h2⟩ ⟨rfl, rfl, rfl⟩
              · obtain ⟨H1, nn, hn2, c1, c3, c4, c6, c5⟩ := rx_write0_lateQ (M := 48 * (k + 1)) (sc := (L, xs)) (d := 1990) j8 hT0 hf hl1 hl2 htt hkdt hgrt hwst h1W hkl hVA hVW hvs hC hY (by omega) hlc hlg9 hA.1 hrec (fun i => pc_le hrl.1.one hK7 i) hs j15 hV9 (fun v hv => (hK7 v hv).1) (by omega) hle hX hXN hQ j1 j5 (by omega) (by omega) (by omega) (by omega) hopn hK9 (by omega) (by omega)
                have hr0 : RefI H1 fa (B * 256) 0 1 1 tb l rs g0 P ms op sm wss kd pa sz nl nm ps := j10.far (fun a a1 a2 => c5 a a1)
                obtain ⟨z, H2, r1, r2, r3, r4⟩ := ri_mwrite_late (sc := (L, xs)) (d := 1994) hr0 j11 hf hl1 hol hkd (by omega) (by omega) hfull hrm
                obtain ⟨us2, ba2, bo2, m2, -⟩ := id r3
                have hlow : ∀ a, a < 195 → H2[a]? = H1[a]? := fun a ha => r4 a (by omega)
                have h2 : H2[224]? = some (kJ 1 e) := (r4 224 (by omega)).trans ((c5 224 (by decide)).trans j20)
                have hD := lat_D (op := op) c3 h1W c6 (fun c c1 vs9 Q hx hs1 hI hnew hold hVk => fil_rel0 hx.1 (fun j hj q => by rw [dnO_no hj] at q; exact absurd q Bool.false_ne_true) hs1 hold (fun v hv => (hVk v hv).1) hf9 (wr_rel hx.1.2.2.1 hx.1.2.2.2 hx.1.1.one hVk (by omega) hl1 hgr (by rw [hws, wrA_eq hrl.2.2.2 hx.1.2.2.2 j13 hrl.1.one hx.1.1.one (fun v hv => by have := (hK7 v hv).1; omega) (fun v hv => by have := (hVk v hv).1; omega) ((off + l + 511) / 512 - off / 512)]) h1W j13 hI))
                refine gs_x23_1 (c1 := nn) (s1 := 6 * nn) (c2 := 0) (s2 := 0) hL h j8.1 (by rw [e1, e2]; exact c1) ((c5 195 (by decide)).trans m1) (by rw [e1, e2]; exact r1) m2 rfl (kq H2 nn hn2 (Or.inr ?_))
                exact hJ.filD hk (Nat.le_succ _) (Nat.le_refl _) (Or.inr rfl) (c4.far (fun a a1 _ => hlow a (by omega))) (hD.nr hlow) r3 hT' hpk9 h1P hnd9 hpz9 jE.2.2.2.2.2.2.2.2 hsub (by omega) ⟨_, h2⟩ ⟨rfl, up_ne (by omega), rfl⟩
          · obtain ⟨H1, c1, c4, c5⟩ := rx_write0_full (sc := (L, xs)) (d := 1990) j8 hT0 hf hl1 hl2 htt hkdt hgrt hwst h1W hkl hVA hVW hvs hC hY (by omega) hlc hlg9 hA.1 hrec (fun i => pc_le hrl.1.one hK7 i) hs j15 hV9 (fun v hv => (hK7 v hv).1) (by omega) (by rw [hneed]; omega) (by rw [hneed]; omega)
            have hr0 : RefI H1 fa (B * 256) 0 cw cl tb l rs g0 P ms op sm wss kd pa sz nl nm ps := j10.far (fun a a1 a2 => c5 a (by omega))
            obtain ⟨z, H2, r1, r2, r3, r4⟩ := ri_mwrite_full (sc := (L, xs)) (d := 1994) hr0 j11 hf hl1 hol hkd (by omega) (by omega) (by omega)
            obtain ⟨us2, ba2, bo2, m2, -⟩ := id r3
            exact gs_x23_2 (c1 := 1) (s1 := 6) (c2 := 0) (s2 := 0) hL h j8.1 (by rw [e1, e2]; exact c1) ((c5 195 (by omega)).trans m1) (by rw [e1, e2]; exact r1) m2 rfl (kq.go1 (Or.inl (hJ.row (cw' := cw) (cl' := cl) (cp' := cp) (cb' := cb) (fa' := 4) (tb' := tb) (l' := 0) hk (c4.far (fun a a1 _ => r4 a (by omega))) r3 jE.1 jE.2.1 (Nat.zero_le _) (Nat.zero_le _) j6 j7 (fun a ha => (r4 a (by omega)).trans (c5 a (by omega))) ⟨e, (r4 224 (by omega)).trans ((c5 224 (by omega)).trans j20)⟩)))
      · obtain ⟨H1, c1, c4, c5⟩ := rx_write_no (sc := (L, xs)) (d := 1990) j8 hT0 hf hl1 hl2 htt (by rw [j17.1 f hf]; exact hkd)
        have hr0 : RefI H1 fa (B * 256) 0 cw cl tb l rs g0 P ms op sm wss kd pa sz nl nm ps := j10.far (fun a a1 a2 => c5 a (by omega))
        obtain ⟨z, H2, r1, r2, r3, r4⟩ := ri_mwrite_no (sc := (L, xs)) (d := 1994) hr0 j11 hf hl1 hol hkd
        obtain ⟨us2, ba2, bo2, m2, -⟩ := id r3
        exact gs_x23_3 (c1 := 1) (s1 := 6) (c2 := 0) (s2 := 0) hL h j8.1 (by rw [e1, e2]; exact c1) ((c5 195 (by omega)).trans m1) (by rw [e1, e2]; exact r1) m2 rfl (kq.go1 (Or.inl (hJ.row (cw' := cw) (cl' := cl) (cp' := cp) (cb' := cb) (fa' := 3) (tb' := tb) (l' := 0) hk (c4.far (fun a a1 _ => r4 a (by omega))) r3 jE.1 jE.2.1 (Nat.zero_le _) (Nat.zero_le _) j6 j7 (fun a ha => (r4 a (by omega)).trans (c5 a (by omega))) ⟨e, (r4 224 (by omega)).trans ((c5 224 (by omega)).trans j20)⟩)))
    · obtain ⟨H1, c1, c4, c5⟩ := rx_write_bad (sc := (L, xs)) (d := 1990) j8 hl2 hb
      have hr0 : RefI H1 fa (B * 256) 0 cw cl tb l rs g0 P ms op sm wss kd pa sz nl nm ps := j10.far (fun a a1 a2 => c5 a (by omega))
      obtain ⟨z, H2, r1, r2, r3, r4⟩ := ri_mwrite_bad (sc := (L, xs)) (d := 1994) hr0 j11 hb
      obtain ⟨us2, ba2, bo2, m2, -⟩ := id r3
      exact gs_x23_0 (c1 := 1) (s1 := 6) (c2 := 0) (s2 := 0) hL h j8.1 c1 ((c5 195 (by omega)).trans m1) r1 m2 rfl (kq.go1 (Or.inl (hJ.row (cw' := cw) (cl' := cl) (cp' := cp) (cb' := cb) (fa' := 1) (tb' := tb) (l' := l) hk (c4.far (fun a a1 _ => r4 a (by omega))) r3 jE.1 jE.2.1 j11.1 (by omega) j6 j7 (fun a ha => (r4 a (by omega)).trans (c5 a (by omega))) ⟨e, (r4 224 (by omega)).trans ((c5 224 (by omega)).trans j20)⟩)))
  · obtain ⟨d1, d2, d3, d4, d5, d6, d7, d8, d9, d10, d11, d12, d13, d14, d15, d16, d17, jE, e, d19⟩ := id hJ
    obtain ⟨us, ba, bo, m1, hF, hG, qV, hR⟩ := hJ.fld hk
    obtain ⟨-, -, -, -, -, q5, q6, qR, qT, q8, q9, -⟩ := d9.cells
    have hl2 := d10.1
    by_cases hb : (∃ t, xs (i + 1) = nI t ∧ t < 201) ∧ 1 ≤ l ∧ ∃ s, xs (i + 2) = nI s ∧ s + l ≤ 16384
    · obtain ⟨⟨f, e1, hf⟩, hl1, ⟨off, e2, hol⟩⟩ := hb
      have hf : f ≤ 200 := by omega
      have htt : off ≤ 16384 - l := by omega
      obtain ⟨H1, c1, c4, c5⟩ := rx_write_down (sc := (L, xs)) (d := 1990) d7 hf hl1 hl2 htt
      have hr0 : RefI H1 fa (B * 256) 1 cw cl tb l rs g0 P ms op sm wss kd pa sz nl nm ps := d9.far (fun a a1 a2 => c5 a (by omega))
      obtain ⟨z, H2, r1, r2, r3, r4⟩ := ri_mwrite_down (sc := (L, xs)) (d := 1994) hr0 d10 hf hl1 hol
      obtain ⟨us2, ba2, bo2, m2, -⟩ := id r3
      exact gs_x23_1 (c1 := 1) (s1 := 6) (c2 := 0) (s2 := 0) hL h d7.1 (by rw [e1, e2]; exact c1) ((c5 195 (by omega)).trans m1) (by rw [e1, e2]; exact r1) m2 rfl (kq.go1 (Or.inr (hJ.row (cw' := cw) (cl' := cl) (cp' := cp) (cb' := cb) (fa' := 2) (tb' := tb) (l' := l) hk (c4.far (fun a a1 _ => r4 a (by omega))) r3 jE.1 jE.2.1 d10.1 (by omega) d5 d6 (fun a ha => (r4 a (by omega)).trans (c5 a (by omega))) ⟨e, (r4 224 (by omega)).trans ((c5 224 (by omega)).trans d19)⟩)))
    · obtain ⟨H1, c1, c4, c5⟩ := rx_write_bad (sc := (L, xs)) (d := 1990) d7 hl2 hb
      have hr0 : RefI H1 fa (B * 256) 1 cw cl tb l rs g0 P ms op sm wss kd pa sz nl nm ps := d9.far (fun a a1 a2 => c5 a (by omega))
      obtain ⟨z, H2, r1, r2, r3, r4⟩ := ri_mwrite_bad (sc := (L, xs)) (d := 1994) hr0 d10 hb
      obtain ⟨us2, ba2, bo2, m2, -⟩ := id r3
      exact gs_x23_0 (c1 := 1) (s1 := 6) (c2 := 0) (s2 := 0) hL h d7.1 c1 ((c5 195 (by omega)).trans m1) r1 m2 rfl (kq.go1 (Or.inr (hJ.row (cw' := cw) (cl' := cl) (cp' := cp) (cb' := cb) (fa' := 1) (tb' := tb) (l' := l) hk (c4.far (fun a a1 _ => r4 a (by omega))) r3 jE.1 jE.2.1 d10.1 (by omega) d5 d6 (fun a ha => (r4 a (by omega)).trans (c5 a (by omega))) ⟨e, (r4 224 (by omega)).trans ((c5 224 (by omega)).trans d19)⟩)))
end S85
