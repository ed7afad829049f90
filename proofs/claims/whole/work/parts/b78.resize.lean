/-! ===== resize: the case of the law, from every state of the invariant; written by wip/gen/resize2.py ===== -/
theorem pcV_eq {c c0 : Nat → Int8} {vs vs0 : List aV} {ps : List aPc} {f i : Nat} (h0 : PcR c0 vs0 ps) (h : PcR c vs ps) (hp : OneP ps) (hO0 : OneV vs0) (hO : OneV vs) (hM0 : ∀ v ∈ vs0, v.2.1 ≤ 2 ^ 30) (hM : ∀ v ∈ vs, v.2.1 ≤ 2 ^ 30) : pcV c vs f i = pcV c0 vs0 f i := by
  rw [h.old hp hO hM, h0.old hp hO0 hM0]
theorem shA_eq {c c0 : Nat → Int8} {vs vs0 : List aV} {ps : List aPc} {f n i0 : Nat} (h0 : PcR c0 vs0 ps) (h : PcR c vs ps) (hp : OneP ps) (hO0 : OneV vs0) (hO : OneV vs) (hM0 : ∀ v ∈ vs0, v.2.1 ≤ 2 ^ 30) (hM : ∀ v ∈ vs, v.2.1 ≤ 2 ^ 30) : ∀ (k : Nat), shA c0 vs0 f n i0 k = shA c vs f n i0 k
  | 0 => rfl
  | k + 1 => by
    show shA c0 vs0 f n i0 k ++ shW c0 vs0 f (i0 + k) n = shA c vs f n i0 k ++ shW c vs f (i0 + k) n
    rw [shA_eq h0 h hp hO0 hO hM0 hM k]
    unfold shW
    rw [pcIn_eq h0 h hO0 hO hM0 hM, pcV_eq h0 h hp hO0 hO hM0 hM]
theorem mem_shW {c : Nat → Int8} {vs : List aV} {f i n : Nat} {e : aE} (h : e ∈ shW c vs f i n) : pcIn vs f i = true ∧ n - i * 512 < (pcV c vs f i).length ∧ e = ([2, f, i], if n - i * 512 = 0 then none else some ((pcV c vs f i).take (n - i * 512))) := by
  unfold shW at h
  by_cases q : pcIn vs f i = true ∧ n - i * 512 < (pcV c vs f i).length
  · rw [if_pos q] at h
    exact ⟨q.1, q.2, List.mem_singleton.mp h⟩
  · rw [if_neg q] at h
    exact absurd h List.not_mem_nil
theorem shA_one {c : Nat → Int8} {vs : List aV} {f n i0 : Nat} : ∀ (k : Nat), OneW (shA c vs f n i0 k)
  | 0 => fun a b e x ha => by
    have ha : ([] : List aE)[a]? = some e := ha
    rw [List.getElem?_nil] at ha
    cases ha
  | k + 1 => by
    have h := shA_one (c := c) (vs := vs) (f := f) (n := n) (i0 := i0) k
    show OneW (shA c vs f n i0 k ++ shW c vs f (i0 + k) n)
    unfold shW
    by_cases e : pcIn vs f (i0 + k) = true ∧ n - (i0 + k) * 512 < (pcV c vs f (i0 + k)).length
    · rw [if_pos e]
      refine h.snoc (fun x hx q => ?_)
      obtain ⟨j, hj, hx2⟩ := mem_shA.mp hx
      rw [(mem_shW hx2).2.2] at q
      have := (List.cons.inj (List.cons.inj (List.cons.inj q).2).2).1
      omega
    · rw [if_neg e, List.append_nil]
      exact h
theorem pc_le {ky : List (List Nat)} {c : Nat → Int8} {vs : List aV} {P f : Nat} (hO : OneV vs) (hV : ∀ v ∈ vs, VOk ky P v) (i : Nat) : (∀ v : aV, seenV vs [2, f, i] (2 ^ 30) = some v → ∀ n, v.2.2.2.1 = some n → n ≤ 512) ∧ (pcV c vs f i).length ≤ 512 := by
  have h1 : ∀ v : aV, seenV vs [2, f, i] (2 ^ 30) = some v → ∀ n, v.2.2.2.1 = some n → n ≤ 512 := fun v hv n hn => by
    obtain ⟨a1, a2, -⟩ := (seenV_some hO).mp hv
    rcases (hV v a1).2.1 with ⟨k, h1, -⟩ | ⟨g, h1, -⟩ | ⟨g, j, h1, -, -, h4⟩
    · rw [a2] at h1
      exact absurd (List.cons.inj h1).1 (by decide)
    · rw [a2] at h1
      exact absurd (List.cons.inj h1).1 (by decide)
    · exact (h4 n hn).2
  refine ⟨h1, ?_⟩
  unfold pcV
  cases e : seenV vs [2, f, i] (2 ^ 30) with
  | none => exact Nat.zero_le _
  | some v =>
    show (sl c (v.2.2.1 + 8 + v.1.length) (v.2.2.2.1.getD 0)).length ≤ 512
    rw [sl_length]
    cases e2 : v.2.2.2.1 with
    | none => exact Nat.zero_le _
    | some n => exact h1 v e n e2
theorem node_len {ky : List (List Nat)} {c : Nat → Int8} {vs : List aV} {kd pa sz nl : Nat → Nat} {nm : Nat → Int8} {f P : Nat} (h : NodR c vs kd pa sz nl nm) (hV : ∀ v ∈ vs, VOk ky P v) (h1 : 1 ≤ f) (h2 : f ≤ 200) (hk : ¬ kd f = 0) : 1 ≤ nl f := by
  obtain ⟨v, hv, e, hval⟩ := (h f h1 h2 _).mpr ⟨hk, rfl⟩
  unfold valV at hval
  cases el : v.2.2.2.1 with
  | none => rw [el] at hval; cases hval
  | some n =>
    rw [el] at hval
    have h3 := congrArg List.length (Option.some.inj hval)
    rw [sl_length] at h3
    unfold nodB at h3
    rw [List.length_append, List.length_append, beB_len, sl_length] at h3
    have h3 : n = 2 + (2 + nl f) := h3
    rcases (hV v hv.1).2.1 with ⟨k, a1, -⟩ | ⟨g, a1, -, -, a4⟩ | ⟨g, j, a1, -⟩
    · rw [e] at a1
      exact absurd (List.cons.inj a1).1 (by decide)
    · have := (a4 n el).1
      omega
    · rw [e] at a1
      exact absurd (List.cons.inj a1).1 (by decide)
theorem rz_rel {ky : List (List Nat)} {c c1 : Nat → Int8} {vs vs' : List aV} {kd pa sz nl : Nat → Nat} {nm : Nat → Int8} {ps cur : List aPc} {ws : List aE} {f n P : Nat} (hN : NodR c vs kd pa sz nl nm) (hPc : PcR c vs ps) (hO : OneV vs) (hV : ∀ v ∈ vs, VOk ky P v) (hP : P ≤ 2 ^ 30) (hkd : ¬ kd f = 0) (hws : ws = ([1, f], some (nodB kd pa (va_up sz f n) nl nm f)) :: shA c vs f n (n / 512) (32 - n / 512)) (h1 : OneW ws) (hp : OneP ps) (hk : ∀ x ∈ ps, PcOk x) (hc : cur.Perm (ps.filterMap (cutE f n))) (hI : InV c c1 vs vs' ws) : NodR c1 vs' kd pa (va_up sz f n) nl nm ∧ PcR c1 vs' cur := by
  refine ⟨hN.put hI h1 (by rw [hws]; exact List.mem_cons_self) hkd (fun g g1 g2 g3 => ⟨fun e he q => ?_, rfl, fun _ => ?_⟩), (hPc.cut hI h1 hO hP hV (fun e he => ?_) hp hk).perm hc.symm⟩
  · rw [hws] at he
    rcases List.mem_cons.mp he with z | z
    · rw [z] at q
      exact g3 (List.cons.inj (List.cons.inj q).2).1.symm
    · obtain ⟨j, -, hx2⟩ := mem_shA.mp z
      rw [(mem_shW hx2).2.2] at q
      exact absurd (List.cons.inj q).1 (by decide)
  · unfold nodB
    rw [up_ne g3]
  · rw [hws]
    constructor
    · intro z
      rcases List.mem_cons.mp z with z | z
      · rw [z] at he
        exact absurd he (by show ¬ 1 = 2; decide)
      · exact z
    · exact fun z => List.mem_cons_of_mem _ z
theorem cut_mem {ps : List aPc} {f n : Nat} {x : aPc} (h : x ∈ ps.filterMap (cutE f n)) : ∃ y ∈ ps, x.1 = y.1 ∧ x.2.1 = y.2.1 ∧ x.2.2.length ≤ y.2.2.length ∧ (x.1 = f → 512 * x.2.1 + x.2.2.length ≤ n) := by
  obtain ⟨y, hy, e⟩ := List.mem_filterMap.mp h
  unfold cutE at e
  refine ⟨y, hy, ?_⟩
  by_cases q : y.1 = f
  · rw [if_pos q] at e
    by_cases q2 : n ≤ 512 * y.2.1
    · rw [if_pos q2] at e; cases e
    · rw [if_neg q2] at e
      rw [← Option.some.inj e]
      refine ⟨rfl, rfl, ?_, fun _ => ?_⟩
      · show (y.2.2.take _).length ≤ _
        rw [List.length_take]
        omega
      · show 512 * y.2.1 + (y.2.2.take _).length ≤ n
        rw [List.length_take]
        omega
  · rw [if_neg q] at e
    rw [← Option.some.inj e]
    exact ⟨rfl, rfl, Nat.le_refl _, fun z => absurd z q⟩
theorem nd_rz {op : Nat → Bool} {sm : Nat → Nat} {x : Int32} {P f n : Nat} {ms : List aMV} {kd nl : Nat → Nat} {ps cur : List aPc} (hc : cur.Perm (ps.filterMap (cutE f n))) : ndR op sm x P ms kd nl cur ≤ ndR op sm x P ms kd nl ps := by
  have h3 := plen_perm hc
  have h4 := hc.length_eq
  have h5 := plen_cut (f := f) (n := n) ps
  have h6 := List.length_filterMap_le (cutE f n) ps
  unfold ndR
  omega
theorem TreeOk.sz {kd pa sz nl : Nat → Nat} {r n : Nat} (h : TreeOk kd pa sz nl) (hn : n ≤ 16384) : TreeOk kd pa (va_up sz r n) nl := fun x hx => by
  refine ⟨(h x hx).1, (h x hx).2.1, ?_, (h x hx).2.2.2⟩
  by_cases e : x = r
  · rw [e, up_at]; exact hn
  · rw [up_ne e]; exact (h x hx).2.2.1
theorem rz_len {c : Nat → Int8} {vs : List aV} {f n : Nat} {ws : List aE} {b : List Nat} (hl : ∀ i, (pcV c vs f i).length ≤ 512) (hb : b.length ≤ 34) (h : ws = ([1, f], some b) :: shA c vs f n (n / 512) (32 - n / 512)) : ws.length ≤ 33 ∧ 1 ≤ ws.length ∧ eOff ws ws.length ≤ 700 := by
  have h8 := shA_len (n := n) hl (32 - n / 512)
  have h9 : (if 32 - n / 512 = 0 then 0 else 512) ≤ 512 := by split <;> omega
  generalize shA c vs f n (n / 512) (32 - n / 512) = g at h h8
  subst h
  rw [List.length_cons]
  refine ⟨by omega, by omega, ?_⟩
  show eLen (([1, f], some b) : aE) + eOff g g.length ≤ 700
  have h7 : eLen (([1, f], some b) : aE) = 2 + b.length := rfl
  omega
section S78
variable {L i k kc ks : Nat} {xs : Nat → Int32} {Q : tO × aH × Nat × Nat → Prop} {H : aH}
theorem iv_resize (hL : L < 2 ^ 30) (h : i + 6 ≤ L) (hI : InvI k H) (hk : k < 512) (kq : Hd L xs i kc ks Q (k + 1)) : RQ (L, xs) 2000 mr_law 1747 [(4, .int (nI i)), (3, .ref 225), (2, .ref 196), (1, .ref 1), (0, .ref 0)] [] H kc ks Q := by
  rcases hI with ⟨ky, B, N, P, bb, cw, cl, cp, cb, tb, l, g, rl, wss, t0, op, sm, ms, kd, pa, sz, nl, nm, ps, fa, rs, g0, hJ⟩ | ⟨ky, B, N, P, cw, cl, cp, cb, tb, l, g, rl, wss, t0, op, sm, ms, kd, pa, sz, nl, nm, ps, fa, rs, g0, hJ⟩
  · obtain ⟨j1, j2, j3, j4, j5, j6, j7, j8, j9, j10, j11, j12, j13, j14, j15, j16, j17, j18, j19, jE, e, j20⟩ := id hJ
    obtain ⟨us, ba, bo, m1, hF, hG, qV, hR⟩ := hJ.fld hk
    obtain ⟨-, -, -, -, -, q5, q6, qR, qT, q8, q9, -⟩ := j10.cells
    have hTR := j11.2.2.2.2.1
    have hT0 := jE.2.2.2.1
    by_cases hb : (∃ t, xs (i + 1) = nI t ∧ t < 201) ∧ (∃ t, xs (i + 2) = nI t ∧ t < 16385)
    · obtain ⟨⟨f, e1, hf⟩, ⟨n, e2, hn⟩⟩ := hb
      have hf : f ≤ 200 := by omega
      have hn : n ≤ 16384 := by omega
      by_cases hkd : kd f = 1
      · have hkdt : t0.1 f = 1 := (j17.1 f hf).trans hkd
        have hkf : ¬ kd f = 0 := by rw [hkd]; decide
        have hf1 : 1 ≤ f := by
          rcases Nat.eq_zero_or_pos f with q | q
          · have h9 := jE.2.2.2.2.2.2.2.2.1
            rw [q, h9] at hkd
            exact absurd hkd (by decide)
          · exact q
        by_cases hsame : sz f = n
        · obtain ⟨a1, a2, a3, a4⟩ := j17.2.1 f hf hkf
          obtain ⟨x, H1, c1, c2, c4, c5⟩ := ri_resize_same (sc := (L, xs)) (d := 1990) j8 hT0 hf hn hkdt (by rw [a2]; exact hsame.symm)
          have h224 : H1[224]? = some (kJ 1 e) := (c5 224 (by omega)).trans j20
          have hr0 : RefI (H1.set 224 (kJ 1 (va_up e 0 x.toInt64))) fa (B * 256) 0 cw cl tb l rs g0 P ms op sm wss kd pa sz nl nm ps := j10.far (fun a b1 b2 => (set_far (by omega)).trans (c5 a (by omega)))
          obtain ⟨z, H2, r1, r2, r3, r4⟩ := ri_mresize_same (sc := (L, xs)) (d := 1994) hr0 j11 hf hn hkd hsame
          have hxz : z = x := by rw [r2, c2, a2, hsame]
          rw [hxz] at r1
          obtain ⟨us2, ba2, bo2, m2, -⟩ := id r3
          have hlow : ∀ a, a < 195 → H2[a]? = H1[a]? := fun a ha => (r4 a (by omega)).trans (set_far (by omega))
          have h2 : H2[224]? = some (kJ 1 (va_up e 0 x.toInt64)) := (r4 224 (by omega)).trans (get_set h224)
          exact gs_ok25 (c1 := 0) (s1 := 0) (c2 := 0) (s2 := 0) (x := x) hL h j8.1 (by rw [e1, e2]; exact c1) h224 ((c5 195 (by omega)).trans m1) (by rw [e1, e2]; exact r1) m2 rfl h2 (kq.go0 (Or.inl (hJ.row (cw' := cw) (cl' := cl) (cp' := cp) (cb' := cb) (fa' := 0) (tb' := tb) (l' := l) hk (c4.far (fun a b1 _ => hlow a (by omega))) r3 jE.1 jE.2.1 j11.1 (by omega) j6 j7 (fun a ha => (hlow a (by omega)).trans (c5 a (by omega))) ⟨_, h2⟩)))
        ·
          have hsub : ∀ x ∈ ky, x ∈ [] ++ ky := fun x hx => List.mem_append.mpr (Or.inr hx)
          have hQ := j9.ky hsub
          obtain ⟨S, lgs, fr, ff, wr, tp, rs9, us9, c, P1, gs, vs, tss, Lc, u1, u2, ⟨hrl, u3⟩, u4⟩ := id hQ
          have hs := u1.2.2.2.2.2.2.2.2.1
          have hV9 := u1.2.2.2.2.2.2.1
          have hK7 := u2.2.2.2.2.2.2.1
          have hmP : ∀ w ∈ ms, w.2.1 ≤ P := rel_le hrl.2.1 (fun v hv => (hK7 v hv).1)
          have hX := xc_b (xc_rel (kd := kd) (pa := pa) (sz := sz) (nl := nl) (nm := nm) (ps := ps) j12)
          have hXN : ∀ c vs, (∀ v ∈ vs, VOk ([] ++ ky) P v) → Xb (RlX op sm ms kd pa sz nl nm ps) c vs → sumN op sm (-1) P (kmV vs) vs ≤ B * 256 := fun c vs hv hx => by
            rw [rlx_need hv hx.1 j13]
            exact j14
          have h64 : nB B + 40 ≤ N := by unfold nB; omega
          have hpl := UpQ.pl (M := 0) u1 (by omega)
          obtain ⟨⟨tf, pq, ms9, mt9, sq9, tu9, ⟨lg, pi, hY, hlg, hlc, -⟩, hC, -⟩, hO, -, -, -, -, -, hRX, -, hA⟩ := id u1
          obtain ⟨kf, kl, mo, pl, le, al, od, sp, szv, ss, ac, hVA, hVW, hvs⟩ := id hV9
          have hlg9 : ∀ j, j < lgs.length → lg j < 2 ^ 30 := fun j hj => by
            obtain ⟨b, hb9⟩ := lt_get hj
            rw [hlg j b hb9]
            have := (hO.1 b (List.mem_of_getElem? hb9)).2
            omega
          have hrec := recs_ok hlg hO hRX hK7 (by omega)
          obtain ⟨a1, a2, a3, a4⟩ := j17.2.1 f hf hkf
          have hnst : ¬ n = t0.2.2.1 f := by rw [a2]; exact fun q => hsame q.symm
          have hnl := node_len hrl.2.2.1 hK7 hf1 hf hkf
          have hnl2 := (hTR f hf).2.2.2
          have hnbl : (nodB kd pa (va_up sz f n) nl nm f).length = 4 + nl f := by
            unfold nodB
            rw [List.length_append, List.length_append, beB_len, sl_length]
            show 2 + (2 + nl f) = _
            omega
          have hnb : [1, t0.2.1 f] ++ (beB 2 n ++ sl t0.2.2.2.2.1 (f * 30) (t0.2.2.2.1 f)) = nodB kd pa (va_up sz f n) nl nm f := by
            unfold nodB
            rw [up_at, hkd, a1, a3, a4]
          obtain ⟨ws, hws⟩ : ∃ ws : List aE, ws = ([1, f], some (nodB kd pa (va_up sz f n) nl nm f)) :: shA c vs f n (n / 512) (32 - n / 512) := ⟨_, rfl⟩
          have hwst : [([1, f], some ([1, t0.2.1 f] ++ (beB 2 n ++ sl t0.2.2.2.2.1 (f * 30) (t0.2.2.2.1 f))))] ++ shA c vs f n (n / 512) (32 - n / 512) = ws := by rw [hnb, List.singleton_append]; exact hws.symm
          have hlen := rz_len (fun i => (pc_le (c := c) hrl.1.one hK7 i).2) (by omega) hws
          have h1W : OneW ws := by
            rw [hws]
            exact OneW.cons (shA_one _) (fun e he q => by
              obtain ⟨j, -, hx2⟩ := mem_shA.mp he
              rw [(mem_shW hx2).2.2] at q
              exact absurd (List.cons.inj q).1 (by decide))
          have hK9 : ∀ e ∈ ws, EntK ([] ++ ky) e := fun e he => by
            rw [hws] at he
            rcases List.mem_cons.mp he with q | q
            · rw [q]
              obtain ⟨v9, b1, b2⟩ := node_key hrl.2.2.1 hf1 hf hkf
              refine ⟨Or.inr (Or.inl ⟨f, rfl, hf1, hf, fun m hm => ?_⟩), by rw [← b2]; exact (hK7 v9 b1).2.2.2⟩
              rw [← Option.some.inj hm, hnbl]
              omega
            · obtain ⟨j, hj, hx2⟩ := mem_shA.mp q
              obtain ⟨b1, b2, b3⟩ := mem_shW hx2
              obtain ⟨v9, d1, d2⟩ := pcIn_key hrl.1.one b1
              have hpl9 := (pc_le (c := c) (f := f) hrl.1.one hK7 (n / 512 + j)).2
              rw [b3]
              refine ⟨Or.inr (Or.inr ⟨f, n / 512 + j, rfl, hf, by omega, fun m hm => ?_⟩), by rw [← d2]; exact (hK7 v9 d1).2.2.2⟩
              by_cases z : n - (n / 512 + j) * 512 = 0
              · have hm : (if n - (n / 512 + j) * 512 = 0 then none else some ((pcV c vs f (n / 512 + j)).take (n - (n / 512 + j) * 512))).map List.length = some m := hm
                rw [if_pos z] at hm
                cases hm
              · have hm : (if n - (n / 512 + j) * 512 = 0 then none else some ((pcV c vs f (n / 512 + j)).take (n - (n / 512 + j) * 512))).map List.length = some m := hm
                rw [if_neg z] at hm
                have hm : ((pcV c vs f (n / 512 + j)).take (n - (n / 512 + j) * 512)).length = m := Option.some.inj hm
                rw [List.length_take] at hm
                omega
          have hf9 : ∀ e ∈ ws, ¬ e.1.head? = some 0 := fun e he => by
            rw [hws] at he
            rcases List.mem_cons.mp he with q | q
            · rw [q]
              exact fun q => absurd (Option.some.inj q) (by decide)
            · obtain ⟨j, hj, hx2⟩ := mem_shA.mp q
              rw [(mem_shW hx2).2.2]
              exact fun q => absurd (Option.some.inj q) (by decide)
          have hopn := opn_5 (ws := ws) (by rw [szW_sum]; omega)
          have hT' : TreeOk kd pa (va_up sz f n) nl := hTR.sz hn
          have hcut : ∀ cur : List aPc, cur.Perm (if n < sz f then ps.filterMap (cutE f n) else ps) → cur.Perm (ps.filterMap (cutE f n)) := fun cur hcur => by
            by_cases z : n < sz f
            · rw [if_pos z] at hcur
              exact hcur
            · rw [if_neg z] at hcur
              rw [cut_id j13.2 (fun x hx q => by
                have h9 := (jE.2.2.2.2.2.1 x hx).2
                rw [q] at h9
                omega)]
              exact hcur
          have hnd9 : ∀ cur : List aPc, cur.Perm (ps.filterMap (cutE f n)) → ndR op sm (-1) (P + 1) ms kd nl cur ≤ B * 256 := fun cur hcur => Nat.le_trans (nd_rz hcur) (by rw [nd_next hmP]; exact j14)
          have hpz9 : ∀ cur : List aPc, cur.Perm (ps.filterMap (cutE f n)) → (∀ x ∈ cur, PcOk x) ∧ ∀ x ∈ cur, kd x.1 = 1 ∧ 512 * x.2.1 + x.2.2.length ≤ va_up sz f n x.1 := fun cur hcur => by
            refine ⟨fun x hx => ?_, fun x hx => ?_⟩
            · obtain ⟨y, b1, b2, b3, b4, -⟩ := cut_mem (hcur.mem_iff.mp hx)
              obtain ⟨d1, d2, d3⟩ := j11.2.2.2.2.2.2.2 y b1
              exact ⟨by omega, by omega, by omega⟩
            · obtain ⟨y, b1, b2, b3, b4, b5⟩ := cut_mem (hcur.mem_iff.mp hx)
              obtain ⟨d1, d2⟩ := jE.2.2.2.2.2.1 y b1
              refine ⟨by rw [b2]; exact d1, ?_⟩
              by_cases z : x.1 = f
              · rw [z, up_at]
                exact b5 z
              · rw [up_ne z, b2, b3]
                omega
          have hkyl : 512 * ([] ++ ky).length + l ≤ 1024 * (k + 1) := by
            rw [List.nil_append]
            have := jE.2.2.2.2.2.2.2.1
            omega
          rcases jE.1 with rfl | rfl
          · obtain ⟨x, H1, c1, c2, c3, c4, -, c5⟩ := ri_resize_okQ (M := 48 * (k + 1)) (sc := (L, xs)) (d := 1990) j8 hT0 hf hn hkdt hnst hwst hVA hVW hvs hC hY (by omega) hlc hlg9 hA.1 hrec (fun i => pc_le hrl.1.one hK7 i) hX hXN hQ j1 j5 (by omega) (by omega) (by omega) j15 (by omega) (by omega) hopn hK9 h1W (by omega)
            have h224 : H1[224]? = some (kJ 1 e) := (c5 224 (by decide)).trans j20
            have hr0 : RefI (H1.set 224 (kJ 1 (va_up e 0 x.toInt64))) fa (B * 256) 0 0 cl tb l rs g0 P ms op sm wss kd pa sz nl nm ps := j10.far (fun a a1 a2 => (set_far (by omega)).trans (c5 a a1))
            obtain ⟨z, H2, r1, r2, cur, hcur0, r3, r4⟩ := ri_mresize_ok (sc := (L, xs)) (d := 1994) hr0 j11 hf hn hkd hsame
            have hcur := hcut cur hcur0
            have hxz : z = x := by rw [r2, c2, a2]
            rw [hxz] at r1
            obtain ⟨us2, ba2, bo2, m2, -⟩ := id r3
            have hlow : ∀ a, a < 195 → H2[a]? = H1[a]? := fun a ha => (r4 a (by omega)).trans (set_far (by omega))
            have h2 : H2[224]? = some (kJ 1 (va_up e 0 x.toInt64)) := (r4 224 (by omega)).trans (get_set h224)
            have h1P := j13.gone hcur
            have hQ2 : UpQ ([] ++ ky) (48 * (k + 1)) H1 B N bb (P + 1) op sm (nB B) (Xb (RlX op sm ms kd pa (va_up sz f n) nl nm cur)) := inc_Q c3 (by omega) (fun c c1 vs9 Q hx hs1 hI hnew hold hVk => fil_rel hx.1 hs1 hold (fun v hv => (hVk v hv).1) hf9 j12 (rz_rel hx.1.2.2.1 hx.1.2.2.2 hx.1.1.one hVk (by omega) hkf (by rw [hws, shA_eq hrl.2.2.2 hx.1.2.2.2 j13 hrl.1.one hx.1.1.one (fun v hv => by have := (hK7 v hv).1; omega) (fun v hv => by have := (hVk v hv).1; omega) (32 - n / 512)]) h1W j13 j11.2.2.2.2.2.2.2 hcur hI)) (fun c vs hv hx => by
              rw [rlx_need hv hx h1P]
              exact hnd9 cur hcur)
            refine gs_ok25 (c1 := 0) (s1 := 0) (c2 := 0) (s2 := 0) (x := x) hL h j8.1 (by rw [e1, e2]; exact c1) h224 ((c5 195 (by decide)).trans m1) (by rw [e1, e2]; exact r1) m2 rfl h2 (kq.go0 (Or.inl ?_))
            exact hJ.fil hk hmP (c4.far (fun a a1 _ => hlow a (by omega))) (hQ2.nr hlow) r3 (Nat.le_refl _) hT' (hpz9 cur hcur).1 h1P (hnd9 cur hcur) (j17.size rfl rfl (fun f _ => rfl) rfl rfl rfl (fun f _ => rfl)) (hT0.sz hn) (hpz9 cur hcur).2 jE.2.2.2.2.2.2.2.2 hsub (by omega) ⟨_, h2⟩ ⟨rfl, up_ne (by omega), rfl⟩
          · rcases jE.2.1 with rfl | rfl
            · obtain ⟨H1, nn, hn2, c1, c3, c4, c6, c5⟩ := rx_resize_cutQ (M := 48 * (k + 1)) (sc := (L, xs)) (d := 1990) j8 hT0 hf hn hkdt hnst hwst hVA hVW hvs hC hY (by omega) hlc hlg9 hA.1 hrec (fun i => pc_le hrl.1.one hK7 i) j6 hX hXN hQ j1 j7 (by omega) (by omega) (by omega) j15 (by omega) (by omega) hopn hK9 h1W (by omega)
              have hr0 : RefI H1 fa (B * 256) 0 1 0 tb l rs g0 P ms op sm wss kd pa sz nl nm ps := j10.far (fun a a1 a2 => c5 a a1)
              obtain ⟨z, H2, r1, r2, r3, r4⟩ := ri_mresize_lost (sc := (L, xs)) (d := 1994) hr0 j11 hf hn hkd hsame
              obtain ⟨us2, ba2, bo2, m2, -⟩ := id r3
              have hlow : ∀ a, a < 195 → H2[a]? = H1[a]? := fun a ha => r4 a (by omega)
              have h2 : H2[224]? = some (kJ 1 e) := (r4 224 (by omega)).trans ((c5 224 (by decide)).trans j20)
              refine gs_x25_1 (c1 := nn) (s1 := 6 * nn) (c2 := 0) (s2 := 0) hL h j8.1 (by rw [e1, e2]; exact c1) ((c5 195 (by decide)).trans m1) (by rw [e1, e2]; exact r1) m2 rfl (kq H2 nn hn2 (Or.inr ?_))
              exact hJ.filD hk (Nat.le_refl _) (by omega) (Or.inl rfl) (c4.far (fun a a1 _ => hlow a (by omega))) ((cut_D c3 (by omega) c6).nr hlow) r3 hTR j11.2.2.2.2.2.2.2 j13 j14 jE.2.2.2.2.2.1 jE.2.2.2.2.2.2.2.2 hsub (by omega) ⟨_, h2⟩ ⟨rfl, rfl, rfl⟩
            · obtain ⟨H1, nn, hn2, c1, c3, c4, c6, c5⟩ := rx_resize_lateQ (M := 48 * (k + 1)) (sc := (L, xs)) (d := 1990) j8 hT0 hf hn hkdt hnst hwst hVA hVW hvs hC hY (by omega) hlc hlg9 hA.1 hrec (fun i => pc_le hrl.1.one hK7 i) hX hXN hQ j1 j5 (by omega) (by omega) (by omega) j15 (by omega) (by omega) hopn hK9 h1W (by omega) (by omega)
              have hr0 : RefI H1 fa (B * 256) 0 1 1 tb l rs g0 P ms op sm wss kd pa sz nl nm ps := j10.far (fun a a1 a2 => c5 a a1)
              obtain ⟨z, H2, r1, r2, cur, hcur0, r3, r4⟩ := ri_mresize_late (sc := (L, xs)) (d := 1994) hr0 j11 hf hn hkd hsame
              have hcur := hcut cur hcur0
              obtain ⟨us2, ba2, bo2, m2, -⟩ := id r3
              have hlow : ∀ a, a < 195 → H2[a]? = H1[a]? := fun a ha => r4 a (by omega)
              have h2 : H2[224]? = some (kJ 1 e) := (r4 224 (by omega)).trans ((c5 224 (by decide)).trans j20)
              have hD := lat_D (op := op) c3 h1W c6 (fun c c1 vs9 Q hx hs1 hI hnew hold hVk => fil_rel0 hx.1 (fun j hj q => by rw [dnO_no hj] at q; exact absurd q Bool.false_ne_true) hs1 hold (fun v hv => (hVk v hv).1) hf9 (rz_rel hx.1.2.2.1 hx.1.2.2.2 hx.1.1.one hVk (by omega) hkf (by rw [hws, shA_eq hrl.2.2.2 hx.1.2.2.2 j13 hrl.1.one hx.1.1.one (fun v hv => by have := (hK7 v hv).1; omega) (fun v hv => by have := (hVk v hv).1; omega) (32 - n / 512)]) h1W j13 j11.2.2.2.2.2.2.2 hcur hI))
              refine gs_x25_1 (c1 := nn) (s1 := 6 * nn) (c2 := 0) (s2 := 0) hL h j8.1 (by rw [e1, e2]; exact c1) ((c5 195 (by decide)).trans m1) (by rw [e1, e2]; exact r1) m2 rfl (kq H2 nn hn2 (Or.inr ?_))
              exact hJ.filD hk (Nat.le_succ _) (Nat.le_refl _) (Or.inr rfl) (c4.far (fun a a1 _ => hlow a (by omega))) (hD.nr hlow) r3 hT' (hpz9 cur hcur).1 (j13.gone hcur) (hnd9 cur hcur) (hpz9 cur hcur).2 jE.2.2.2.2.2.2.2.2 hsub (by omega) ⟨_, h2⟩ ⟨rfl, up_ne (by omega), rfl⟩
      · obtain ⟨H1, c1, c4, c5⟩ := rx_resize_no (sc := (L, xs)) (d := 1990) j8 hT0 hf hn (by rw [j17.1 f hf]; exact hkd)
        have hr0 : RefI H1 fa (B * 256) 0 cw cl tb l rs g0 P ms op sm wss kd pa sz nl nm ps := j10.far (fun a a1 a2 => c5 a (by omega))
        obtain ⟨z, H2, r1, r2, r3, r4⟩ := ri_mresize_no (sc := (L, xs)) (d := 1994) hr0 j11 hf hn hkd
        obtain ⟨us2, ba2, bo2, m2, -⟩ := id r3
        exact gs_x25_3 (c1 := 1) (s1 := 6) (c2 := 0) (s2 := 0) hL h j8.1 (by rw [e1, e2]; exact c1) ((c5 195 (by omega)).trans m1) (by rw [e1, e2]; exact r1) m2 rfl (kq.go1 (Or.inl (hJ.row (cw' := cw) (cl' := cl) (cp' := cp) (cb' := cb) (fa' := 3) (tb' := tb) (l' := l) hk (c4.far (fun a a1 _ => r4 a (by omega))) r3 jE.1 jE.2.1 j11.1 (by omega) j6 j7 (fun a ha => (r4 a (by omega)).trans (c5 a (by omega))) ⟨e, (r4 224 (by omega)).trans ((c5 224 (by omega)).trans j20)⟩)))
    · obtain ⟨H1, c1, c4, c5⟩ := rx_resize_bad (sc := (L, xs)) (d := 1990) j8 hb
      have hr0 : RefI H1 fa (B * 256) 0 cw cl tb l rs g0 P ms op sm wss kd pa sz nl nm ps := j10.far (fun a a1 a2 => c5 a (by omega))
      obtain ⟨z, H2, r1, r2, r3, r4⟩ := ri_mresize_bad (sc := (L, xs)) (d := 1994) hr0 j11 hb
      obtain ⟨us2, ba2, bo2, m2, -⟩ := id r3
      exact gs_x25_0 (c1 := 1) (s1 := 6) (c2 := 0) (s2 := 0) hL h j8.1 c1 ((c5 195 (by omega)).trans m1) r1 m2 rfl (kq.go1 (Or.inl (hJ.row (cw' := cw) (cl' := cl) (cp' := cp) (cb' := cb) (fa' := 1) (tb' := tb) (l' := l) hk (c4.far (fun a a1 _ => r4 a (by omega))) r3 jE.1 jE.2.1 j11.1 (by omega) j6 j7 (fun a ha => (r4 a (by omega)).trans (c5 a (by omega))) ⟨e, (r4 224 (by omega)).trans ((c5 224 (by omega)).trans j20)⟩)))
  · obtain ⟨d1, d2, d3, d4, d5, d6, d7, d8, d9, d10, d11, d12, d13, d14, d15, d16, d17, jE, e, d19⟩ := id hJ
    obtain ⟨us, ba, bo, m1, hF, hG, qV, hR⟩ := hJ.fld hk
    obtain ⟨-, -, -, -, -, q5, q6, qR, qT, q8, q9, -⟩ := d9.cells
    by_cases hb : (∃ t, xs (i + 1) = nI t ∧ t < 201) ∧ (∃ t, xs (i + 2) = nI t ∧ t < 16385)
    · obtain ⟨⟨f, e1, hf⟩, ⟨n, e2, hn⟩⟩ := hb
      have hf : f ≤ 200 := by omega
      have hn : n ≤ 16384 := by omega
      obtain ⟨H1, c1, c4, c5⟩ := rx_resize_down (sc := (L, xs)) (d := 1990) d7 hf hn
      have hr0 : RefI H1 fa (B * 256) 1 cw cl tb l rs g0 P ms op sm wss kd pa sz nl nm ps := d9.far (fun a a1 a2 => c5 a (by omega))
      obtain ⟨z, H2, r1, r2, r3, r4⟩ := ri_mresize_down (sc := (L, xs)) (d := 1994) hr0 d10 hf hn
      obtain ⟨us2, ba2, bo2, m2, -⟩ := id r3
      exact gs_x25_1 (c1 := 1) (s1 := 6) (c2 := 0) (s2 := 0) hL h d7.1 (by rw [e1, e2]; exact c1) ((c5 195 (by omega)).trans m1) (by rw [e1, e2]; exact r1) m2 rfl (kq.go1 (Or.inr (hJ.row (cw' := cw) (cl' := cl) (cp' := cp) (cb' := cb) (fa' := 2) (tb' := tb) (l' := l) hk (c4.far (fun a a1 _ => r4 a (by omega))) r3 jE.1 jE.2.1 d10.1 (by omega) d5 d6 (fun a ha => (r4 a (by omega)).trans (c5 a (by omega))) ⟨e, (r4 224 (by omega)).trans ((c5 224 (by omega)).trans d19)⟩)))
    · obtain ⟨H1, c1, c4, c5⟩ := rx_resize_bad (sc := (L, xs)) (d := 1990) d7 hb
      have hr0 : RefI H1 fa (B * 256) 1 cw cl tb l rs g0 P ms op sm wss kd pa sz nl nm ps := d9.far (fun a a1 a2 => c5 a (by omega))
      obtain ⟨z, H2, r1, r2, r3, r4⟩ := ri_mresize_bad (sc := (L, xs)) (d := 1994) hr0 d10 hb
      obtain ⟨us2, ba2, bo2, m2, -⟩ := id r3
      exact gs_x25_0 (c1 := 1) (s1 := 6) (c2 := 0) (s2 := 0) hL h d7.1 c1 ((c5 195 (by omega)).trans m1) r1 m2 rfl (kq.go1 (Or.inr (hJ.row (cw' := cw) (cl' := cl) (cp' := cp) (cb' := cb) (fa' := 1) (tb' := tb) (l' := l) hk (c4.far (fun a a1 _ => r4 a (by omega))) r3 jE.1 jE.2.1 d10.1 (by omega) d5 d6 (fun a ha => (r4 a (by omega)).trans (c5 a (by omega))) ⟨e, (r4 224 (by omega)).trans ((c5 224 (by omega)).trans d19)⟩)))
end S78
