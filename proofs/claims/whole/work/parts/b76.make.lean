/-! ===== make: the case of the law, from every state of the invariant; written by wip/gen/fileops.py ===== -/
theorem same_fst {t : aTr} {kd pa sz nl : Nat → Nat} {nm : Nat → Int8} (h : SameT t kd pa sz nl nm) (v : Nat) (key : List Nat) : fstF (inN t.1 t.2.1 t.2.2.2.1 t.2.2.2.2.1 v key) 1 200 = fstF (inN kd pa nl nm v key) 1 200 := fstF_congr 200 1 (fun j h1 h2 => by
  unfold inN inD
  rw [h.1 j (by omega)]
  by_cases e : kd j = 0
  · rw [decide_eq_true e, Bool.not_true, Bool.false_and, Bool.false_and, Bool.false_and, Bool.false_and]
  · obtain ⟨a1, a2, a3, a4⟩ := h.2.1 j (by omega) e
    rw [a1, a3, a4])
theorem same_free {t : aTr} {kd pa sz nl : Nat → Nat} {nm : Nat → Int8} (h : SameT t kd pa sz nl nm) : fstF (fun v => decide (t.1 v = 0)) 1 200 = fstF (fun i => decide (kd i = 0)) 1 200 := fstF_congr 200 1 (fun j h1 h2 => by
  show decide (t.1 j = 0) = decide (kd j = 0)
  rw [h.1 j (by omega)])
theorem TreeOk.set {kd pa sz nl : Nat → Nat} {r K v s n : Nat} (h : TreeOk kd pa sz nl) (hK : K ≤ 2) (hv : v ≤ 200) (hs : s ≤ 16384) (hn : n ≤ 30) : TreeOk (va_up kd r K) (va_up pa r v) (va_up sz r s) (va_up nl r n) := fun x hx => by
  by_cases e : x = r
  · rw [e, up_at, up_at, up_at, up_at]
    exact ⟨hK, hv, hs, hn⟩
  · rw [up_ne e, up_ne e, up_ne e, up_ne e]
    exact h x hx
theorem up_keep {kd pa pa' : Nat → Nat} (h : TrW kd pa) (hpa : ∀ x, x ≤ 200 → pa x ≤ 200) (hs : ∀ x, 1 ≤ x → x ≤ 200 → ¬ kd x = 0 → pa' x = pa x) : ∀ (m w : Nat), w ≤ 200 → ¬ kd w = 0 → upF pa' 0 m w = upF pa 0 m w
  | 0, _, _, _ => rfl
  | m + 1, w, h1, h2 => by
    rw [upF, upF]
    by_cases e : w = 0
    · rw [if_pos (Or.inl e), if_pos (Or.inl e)]
    · have e2 : ¬ (w = 0 ∨ w = 0) := fun q => e (q.elim id id)
      rw [if_neg e2, if_neg e2, hs w (by omega) h1 h2]
      exact up_keep h hpa hs m (pa w) (hpa w h1) (by rw [(h.2 w (by omega) h1 h2).1]; decide)
theorem TrW.make {kd pa : Nat → Nat} {r K v : Nat} (h : TrW kd pa) (hpa : ∀ x, x ≤ 200 → pa x ≤ 200) (hr1 : 1 ≤ r) (hr : kd r = 0) (hv : kd v = 2) (hv2 : v ≤ 200) : TrW (va_up kd r K) (va_up pa r v) := by
  have hrv : ¬ v = r := fun e => by rw [e, hr] at hv; exact absurd hv (by decide)
  have hk := up_keep (pa' := va_up pa r v) h hpa (fun x h1 h2 h3 => up_ne (fun e => h3 (by rw [e]; exact hr)))
  refine ⟨by rw [up_ne (by omega)]; exact h.1, fun w h1 h2 h3 => ?_⟩
  by_cases e : w = r
  · rw [e, up_at, up_ne hrv]
    refine ⟨hv, ?_⟩
    have hm : ∃ m, upF pa 0 m v = 0 := by
      by_cases e2 : v = 0
      · exact ⟨0, e2⟩
      · exact (h.2 v (by omega) hv2 (by rw [hv]; decide)).2
    obtain ⟨m, hm⟩ := hm
    refine ⟨m + 1, ?_⟩
    rw [upF, if_neg (by omega), up_at, hk m v hv2 (by rw [hv]; decide)]
    exact hm
  · rw [up_ne e] at h3
    obtain ⟨a1, m, a2⟩ := h.2 w h1 h2 h3
    rw [up_ne e, up_ne (fun q => by rw [q, hr] at a1; exact absurd a1 (by decide))]
    exact ⟨a1, m, by rw [hk m w h2 h3]; exact a2⟩
theorem nd_make {op : Nat → Bool} {sm : Nat → Nat} {x : Int32} {P r K n : Nat} {ms : List aMV} {kd nl : Nat → Nat} {ps : List aPc} (hr1 : 1 ≤ r) (hr2 : r ≤ 200) (hr : kd r = 0) (hK : ¬ K = 0) : ndR op sm x P ms (va_up kd r K) (va_up nl r n) ps = ndR op sm x P ms kd nl ps + 62 + n := by
  have h1 := sumF_at (g := fun f => if va_up kd r K f = 0 then 0 else 62 + va_up nl r n f) (h := fun f => if kd f = 0 then 0 else 62 + nl f) (v := r) 200 hr1 hr2 (fun f _ _ e => by
    show (if va_up kd r K f = 0 then 0 else 62 + va_up nl r n f) = (if kd f = 0 then 0 else 62 + nl f)
    rw [up_ne e, up_ne e])
  have h2 : (if va_up kd r K r = 0 then 0 else 62 + va_up nl r n r) = 62 + n := by rw [up_at, up_at, if_neg hK]
  have h3 : (if kd r = 0 then 0 else 62 + nl r) = 0 := if_pos hr
  have h1 : sumF (fun f => if va_up kd r K f = 0 then 0 else 62 + va_up nl r n f) 200 + (if kd r = 0 then 0 else 62 + nl r) = sumF (fun f => if kd f = 0 then 0 else 62 + nl f) 200 + (if va_up kd r K r = 0 then 0 else 62 + va_up nl r n r) := h1
  rw [h2, h3] at h1
  unfold ndR
  omega
theorem mk_rel {c c1 : Nat → Int8} {vs vs' : List aV} {kd pa sz nl : Nat → Nat} {nm tb : Nat → Int8} {ps : List aPc} {r K v l : Nat} (hN : NodR c vs kd pa sz nl nm) (hP : PcR c vs ps) (hT : TreeOk kd pa sz nl) (hK : ¬ K = 0) (hl : l ≤ 30) (hI : InV c c1 vs vs' [([1, r], some ([K, v] ++ (beB 2 0 ++ sl tb 0 l)))]) : NodR c1 vs' (va_up kd r K) (va_up pa r v) (va_up sz r 0) (va_up nl r l) (cpy tb 0 nm (30 * r) l) ∧ PcR c1 vs' ps := by
  refine ⟨hN.put hI (fun i j e f hi hj _ => ?_) ?_ (by rw [up_at]; exact hK) (fun f f1 f2 f3 => ⟨fun e he q => ?_, up_ne f3, fun f4 => ?_⟩), hP.user hI (fun e he q => ?_)⟩
  · have h1 := get_lt hi
    have h2 := get_lt hj
    rw [List.length_singleton] at h1 h2
    omega
  · refine List.mem_singleton.mpr ?_
    unfold nodB
    rw [up_at, up_at, up_at, up_at, Nat.mul_comm r 30, sl_cpy]
  · rw [List.mem_singleton.mp he] at q
    exact f3 ((List.cons.inj (List.cons.inj q).2).1).symm
  · unfold nodB
    have := (hT f f2).2.2.2
    rw [up_ne f3, up_ne f3, up_ne f3, up_ne f3, sl_cpy_out (by omega)]
  · rw [List.mem_singleton.mp he] at q
    exact absurd q (by show ¬ 1 = 2; decide)
theorem one_w {e : aE} : OneW [e] := fun i j a b hi hj _ => by
  have h1 := get_lt hi
  have h2 := get_lt hj
  rw [List.length_singleton] at h1 h2
  omega
theorem SameT.mk {t : aTr} {kd pa sz nl : Nat → Nat} {nm tb : Nat → Int8} {r K v l : Nat} (h : SameT t kd pa sz nl nm) (hT : TreeOk kd pa sz nl) (hr1 : 1 ≤ r) (hr : r ≤ 200) (hK : ¬ K = 0) (hl : l ≤ 30) : SameT (setT r K v 0 l tb 0 t) (va_up kd r K) (va_up pa r v) (va_up sz r 0) (va_up nl r l) (cpy tb 0 nm (30 * r) l) := h.set hr1 hr hK hl (fun f hf => (hT f hf).2.2.2) (fun _ _ => rfl) (fun _ _ => rfl) (fun _ _ => rfl) (fun _ _ => rfl) (by rw [Nat.mul_comm r 30, sl_cpy]) (fun f f1 f2 _ => by
  have := (hT f f1).2.2.2
  exact sl_cpy_out (by omega))
section S76
variable {L i k kc ks : Nat} {xs : Nat → Int32} {Q : tO × aH × Nat × Nat → Prop} {H : aH}
theorem iv_make (hL : L < 2 ^ 30) (h : i + 6 ≤ L) (hI : InvI k H) (hk : k < 512) (kq : Hd L xs i kc ks Q (k + 1)) : RQ (L, xs) 2000 mr_law 1335 [(4, .int (nI i)), (3, .ref 225), (2, .ref 196), (1, .ref 1), (0, .ref 0)] [] H kc ks Q := by
  rcases hI with ⟨ky, B, N, P, bb, cw, cl, cp, cb, tb, l, g, rl, wss, t0, op, sm, ms, kd, pa, sz, nl, nm, ps, fa, rs, g0, hJ⟩ | ⟨ky, B, N, P, cw, cl, cp, cb, tb, l, g, rl, wss, t0, op, sm, ms, kd, pa, sz, nl, nm, ps, fa, rs, g0, hJ⟩
  · obtain ⟨j1, j2, j3, j4, j5, j6, j7, j8, j9, j10, j11, j12, j13, j14, j15, j16, j17, j18, j19, jE, e, j20⟩ := id hJ
    obtain ⟨us, ba, bo, m1, hF, hG, qV, hR⟩ := hJ.fld hk
    obtain ⟨-, -, -, -, -, q5, q6, qR, qT, q8, q9, -⟩ := j10.cells
    have hl := j11.1
    have hTR := j11.2.2.2.2.1
    have hT0 := jE.2.2.2.1
    by_cases hb : (∃ t, xs (i + 1) = nI t ∧ t < 201) ∧ 1 ≤ l ∧ l ≤ 30 ∧ noSl tb 0 l
    · obtain ⟨⟨v, e1, hv⟩, hl1, hl2, hns⟩ := hb
      have hv : v ≤ 200 := by omega
      have hnm := (nosl_iff (tb := tb) (l := l) (i := 0) (n := l) (by omega)).mp hns
      by_cases hkd : kd v = 2
      · have hkdt : t0.1 v = 2 := (j17.1 v hv).trans hkd
        cases hch : fstF (inN kd pa nl nm v (sl tb 0 l)) 1 200 with
        | some r =>
          have hcht := (same_fst j17 v (sl tb 0 l)).trans hch
          obtain ⟨H1, c1, c4, c5⟩ := rx_make_there (sc := (L, xs)) (d := 1990) (wx := bz (xs (i + 2))) j8 hT0 hv hl1 hl2 hnm hkdt hcht
          have hr0 : RefI H1 fa (B * 256) 0 cw cl tb l rs g0 P ms op sm wss kd pa sz nl nm ps := j10.far (fun a a1 a2 => c5 a (by omega))
          obtain ⟨z, H2, r1, r2, r3, r4⟩ := ri_mmake_there (sc := (L, xs)) (d := 1994) (b := bz (xs (i + 2))) hr0 j11 hv hl1 hl2 hns hkd hch
          obtain ⟨us2, ba2, bo2, m2, -⟩ := id r3
          exact gs_x19_4 (c1 := 1) (s1 := 6) (c2 := 0) (s2 := 0) hL h j8.1 (by rw [e1]; exact c1) ((c5 195 (by omega)).trans m1) (by rw [e1]; exact r1) m2 rfl (kq.go1 (Or.inl (hJ.row (cw' := cw) (cl' := cl) (cp' := cp) (cb' := cb) (fa' := 4) (tb' := tb) (l' := 0) hk (c4.far (fun a a1 _ => r4 a (by omega))) r3 jE.1 jE.2.1 (Nat.zero_le _) (Nat.zero_le _) j6 j7 (fun a ha => (r4 a (by omega)).trans (c5 a (by omega))) ⟨e, (r4 224 (by omega)).trans ((c5 224 (by omega)).trans j20)⟩)))
        | none =>
          have hcht := (same_fst j17 v (sl tb 0 l)).trans hch
          cases hlu : fstF (fun i => decide (kd i = 0)) 1 200 with
          | none =>
            have hlut := (same_free j17).trans hlu
            have hfr : frI kd = 201 := by unfold frI; rw [hlu]; rfl
            obtain ⟨H1, c1, c4, c5⟩ := rx_make_nofree (sc := (L, xs)) (d := 1990) (wx := bz (xs (i + 2))) j8 hT0 hv hl1 hl2 hnm hkdt hcht hlut
            have hr0 : RefI H1 fa (B * 256) 0 cw cl tb l rs g0 P ms op sm wss kd pa sz nl nm ps := j10.far (fun a a1 a2 => c5 a (by omega))
            obtain ⟨z, H2, r1, r2, r3, r4⟩ := ri_mmake_nofree (sc := (L, xs)) (d := 1994) (b := bz (xs (i + 2))) hr0 j11 hv hl1 hl2 hns hkd hch hfr (by decide) (by decide)
            obtain ⟨us2, ba2, bo2, m2, -⟩ := id r3
            exact gs_x19_2 (c1 := 1) (s1 := 6) (c2 := 0) (s2 := 0) hL h j8.1 (by rw [e1]; exact c1) ((c5 195 (by omega)).trans m1) (by rw [e1]; exact r1) m2 rfl (kq.go1 (Or.inl (hJ.row (cw' := cw) (cl' := cl) (cp' := cp) (cb' := cb) (fa' := 5) (tb' := tb) (l' := 0) hk (c4.far (fun a a1 _ => r4 a (by omega))) r3 jE.1 jE.2.1 (Nat.zero_le _) (Nat.zero_le _) j6 j7 (fun a ha => (r4 a (by omega)).trans (c5 a (by omega))) ⟨e, (r4 224 (by omega)).trans ((c5 224 (by omega)).trans j20)⟩)))
          | some r =>
            have hlut := (same_free j17).trans hlu
            have hfr : frI kd = r := by unfold frI; rw [hlu]; rfl
            have hrr := fstF_lt hlu
            have hr1 : 1 ≤ r := hrr.1
            have hr2 : r ≤ 200 := by omega
            have hkr : kd r = 0 := of_decide_eq_true (fstF_some hlu)
            rcases bz_01 (xs (i + 2)) with b0 | b0
            ·
              have hsub : ∀ x ∈ ky, x ∈ [[1, r]] ++ ky := fun x hx => List.mem_append.mpr (Or.inr hx)
              have hQ := j9.ky hsub
              obtain ⟨S, lgs, fr, ff, wr, tp, rs9, us9, c, P1, gs, vs, tss, Lc, u1, u2, ⟨hrl, u3⟩, u4⟩ := id hQ
              have hs := u1.2.2.2.2.2.2.2.2.1
              have hV9 := u1.2.2.2.2.2.2.1
              have hK7 := u2.2.2.2.2.2.2.1
              have hmP : ∀ w ∈ ms, w.2.1 ≤ P := rel_le hrl.2.1 (fun v hv => (hK7 v hv).1)
              have hX := xc_b (xc_rel (kd := kd) (pa := pa) (sz := sz) (nl := nl) (nm := nm) (ps := ps) j12)
              have hXN : ∀ c vs, (∀ v ∈ vs, VOk ([[1, r]] ++ ky) P v) → Xb (RlX op sm ms kd pa sz nl nm ps) c vs → sumN op sm (-1) P (kmV vs) vs ≤ B * 256 := fun c vs hv hx => by
                rw [rlx_need hv hx.1 j13]
                exact j14
              have h64 : nB B + 40 ≤ N := by unfold nB; omega
              have hpl := UpQ.pl (M := 0) u1 (by omega)
              have hK9 : ∀ e ∈ [([1, r], some ([1, v] ++ (beB 2 0 ++ sl tb 0 l)))], EntK ([[1, r]] ++ ky) e := fun e he => by
                rw [List.mem_singleton.mp he]
                refine ⟨Or.inr (Or.inl ⟨r, rfl, hr1, hr2, fun n hn => ?_⟩), List.mem_append.mpr (Or.inl List.mem_cons_self)⟩
                rw [← Option.some.inj hn, List.length_append, List.length_append, beB_len, sl_length]
                exact ⟨by show 5 ≤ 2 + (2 + l); omega, by show 2 + (2 + l) ≤ 34; omega⟩
              have hf9 : ∀ e ∈ [([1, r], some ([1, v] ++ (beB 2 0 ++ sl tb 0 l)))], ¬ e.1.head? = some 0 := fun e he => by
                rw [List.mem_singleton.mp he]
                exact fun q => absurd (Option.some.inj q) (by decide)
              have hb9 : ∀ e ∈ [([1, r], some ([1, v] ++ (beB 2 0 ++ sl tb 0 l)))], ∀ l, e.2 = some l → ∀ b ∈ l, b < 256 := fun e he l9 hl9 b hb => by
                rw [List.mem_singleton.mp he] at hl9
                rw [← Option.some.inj hl9] at hb
                rcases List.mem_append.mp hb with q | q
                · rcases List.mem_cons.mp q with q | q
                  · rw [q]; decide
                  · rw [List.mem_singleton.mp q]; omega
                · rcases List.mem_append.mp q with q | q
                  · exact beB_lt q
                  · exact sl_b b q
              have hopn := opn_5 (ws := [([1, r], some ([1, v] ++ (beB 2 0 ++ sl tb 0 l)))]) (by
                show eLen ([1, r], some ([1, v] ++ (beB 2 0 ++ sl tb 0 l))) + 9 + (9 + 0) < 6144
                have : eLen ([1, r], some ([1, v] ++ (beB 2 0 ++ sl tb 0 l))) = 2 + (2 + (2 + l)) := by
                  show 2 + ([1, v] ++ (beB 2 0 ++ sl tb 0 l)).length = _
                  rw [List.length_append, List.length_append, beB_len, sl_length]
                  rfl
                omega)
              have hnd1 : ndR op sm (-1) (P + 1) ms (va_up kd r 1) (va_up nl r l) ps = ndR op sm (-1) P ms kd nl ps + 62 + l := by rw [nd_make hr1 hr2 hkr (by decide), nd_next hmP]
              have hneed := need_fil (x := -1) (kd' := va_up kd r 1) (pa' := va_up pa r v) (sz' := va_up sz r 0) (nl' := va_up nl r l) (nm' := cpy tb 0 nm (30 * r) l) (ps' := ps) (ws := [([1, r], some ([1, v] ++ (beB 2 0 ++ sl tb 0 l)))]) hrl hK7 hpl j13 one_w hK9 hb9 (Nat.le_of_ble_eq_true rfl) hf9 (fun c1 vs' hI => mk_rel hrl.2.2.1 hrl.2.2.2 hTR (by decide) hl2 hI)
              rw [hnd1] at hneed
              have hT' : TreeOk (va_up kd r 1) (va_up pa r v) (va_up sz r 0) (va_up nl r l) := hTR.set (by decide) hv (by decide) hl2
              have hpz' : ∀ x ∈ ps, va_up kd r 1 x.1 = 1 ∧ 512 * x.2.1 + x.2.2.length ≤ va_up sz r 0 x.1 := fun x hx => by
                have h9 := jE.2.2.2.2.2.1 x hx
                have hne : ¬ x.1 = r := fun q => by rw [q, hkr] at h9; exact absurd h9.1 (by decide)
                rw [up_ne hne, up_ne hne]
                exact h9
              have hW' : TrW (va_up kd r 1) (va_up pa r v) := TrW.make jE.2.2.2.2.2.2.2.2 (fun x hx => (hTR x hx).2.1) hr1 hkr hkd hv
              have hkyl : 512 * ([[1, r]] ++ ky).length + l ≤ 1024 * (k + 1) := by
                rw [List.length_append, List.length_singleton]
                have := jE.2.2.2.2.2.2.2.1
                omega
              by_cases hfull : ndR op sm (-1) P ms kd nl ps + 62 + l ≤ B * 256
              · have hle : sumN op sm (-1) (P + 1) (kmV (inclV (P + 1) (fun _ => 0) 0 [([1, r], some ([1, v] ++ (beB 2 0 ++ sl tb 0 l)))] vs)) (inclV (P + 1) (fun _ => 0) 0 [([1, r], some ([1, v] ++ (beB 2 0 ++ sl tb 0 l)))] vs) ≤ B * 256 := by rw [hneed]; exact hfull
                rcases jE.1 with rfl | rfl
                · obtain ⟨x, H1, c1, c2, c3, c4, c5⟩ := ri_make0_okQ (M := 48 * (k + 1)) (sc := (L, xs)) (d := 1990) j8 hT0 hv hl1 hl2 hnm hkdt hcht hlut hs j15 hV9 (fun v hv => (hK7 v hv).1) (by omega) (by omega) hle hX hXN hQ j1 j5 (by omega) (by omega) (by rw [List.length_singleton]; omega) (by omega) hopn hK9 one_w (Nat.le_of_ble_eq_true rfl) hr1 hr2
                  have h224 : H1[224]? = some (kJ 1 e) := (c5 224 (by decide)).trans j20
                  have hr0 : RefI (H1.set 224 (kJ 1 (va_up e 0 x.toInt64))) fa (B * 256) 0 0 cl tb l rs g0 P ms op sm wss kd pa sz nl nm ps := j10.far (fun a a1 a2 => (set_far (by omega)).trans (c5 a a1))
                  obtain ⟨z, H2, r1, r2, r3, r4⟩ := ri_mmake0_ok (sc := (L, xs)) (d := 1994) hr0 j11 hv hl1 hl2 hns hkd hch hfr hr1 hr2 (by omega) (by omega) hfull
                  have hxz : z = x := r2.trans c2.symm
                  rw [hxz] at r1
                  obtain ⟨us2, ba2, bo2, m2, -⟩ := id r3
                  have hlow : ∀ a, a < 195 → H2[a]? = H1[a]? := fun a ha => (r4 a (by omega)).trans (set_far (by omega))
                  have h2 : H2[224]? = some (kJ 1 (va_up e 0 x.toInt64)) := (r4 224 (by omega)).trans (get_set h224)
                  have hQ2 : UpQ ([[1, r]] ++ ky) (48 * (k + 1)) H1 B N bb (P + 1) op sm (nB B) (Xb (RlX op sm ms (va_up kd r 1) (va_up pa r v) (va_up sz r 0) (va_up nl r l) (cpy tb 0 nm (30 * r) l) ps)) := inc_Q c3 (Nat.le_of_ble_eq_true rfl) (fun c c1 vs Q hx hs1 hI hnew hold hVk => fil_rel hx.1 hs1 hold (fun v hv => (hVk v hv).1) hf9 j12 (mk_rel hx.1.2.2.1 hx.1.2.2.2 hTR (by decide) hl2 hI)) (fun c vs hv hx => by
                    rw [rlx_need hv hx j13, hnd1]
                    exact hfull)
                  refine gs_ok19 (c1 := 0) (s1 := 0) (c2 := 0) (s2 := 0) (x := x) hL h j8.1 (by rw [e1, b0]; exact c1) h224 ((c5 195 (by decide)).trans m1) (by rw [e1, b0]; exact r1) m2 rfl h2 (kq.go0 (Or.inl ?_))
                  exact hJ.fil hk hmP (c4.far (fun a a1 _ => hlow a (by omega))) (hQ2.nr hlow) r3 (Nat.zero_le _) hT' j11.2.2.2.2.2.2.2 j13 (by rw [hnd1]; exact hfull) (j17.mk hTR hr1 hr2 (by decide) hl2) (hT0.set (by decide) hv (by decide) hl2) hpz' hW' hsub (by omega) ⟨_, h2⟩ ⟨up_ne (by omega), up_ne (by omega), up_ne (by omega)⟩
                · rcases jE.2.1 with rfl | rfl
                  · obtain ⟨H1, nn, hn2, c1, c3, c4, c6, c5⟩ := rx_make0_cutQ (M := 48 * (k + 1)) (sc := (L, xs)) (d := 1990) j8 hT0 hv hl1 hl2 hnm hkdt hcht hlut hs j15 hV9 (fun v hv => (hK7 v hv).1) (by omega) (by omega) hle j6 hX hXN hQ j1 j7 (by omega) (by omega) (by rw [List.length_singleton]; omega) (by omega) hopn hK9 one_w (Nat.le_of_ble_eq_true rfl)
                    have hr0 : RefI H1 fa (B * 256) 0 1 0 tb l rs g0 P ms op sm wss kd pa sz nl nm ps := j10.far (fun a a1 a2 => c5 a a1)
                    obtain ⟨z, H2, r1, r2, r3, r4⟩ := ri_mmake_lost (sc := (L, xs)) (d := 1994) (b := 0) hr0 j11 hv hl1 hl2 hns hkd hch hfr hr1 hr2 (by omega) (by omega) hfull
                    obtain ⟨us2, ba2, bo2, m2, -⟩ := id r3
                    have hlow : ∀ a, a < 195 → H2[a]? = H1[a]? := fun a ha => r4 a (by omega)
                    have h2 : H2[224]? = some (kJ 1 e) := (r4 224 (by omega)).trans ((c5 224 (by decide)).trans j20)
                    refine gs_x19_1 (c1 := nn) (s1 := 6 * nn) (c2 := 0) (s2 := 0) hL h j8.1 (by rw [e1, b0]; exact c1) ((c5 195 (by decide)).trans m1) (by rw [e1, b0]; exact r1) m2 rfl (kq H2 nn hn2 (Or.inr ?_))
                    exact hJ.filD hk (Nat.le_refl _) (by omega) (Or.inl rfl) (c4.far (fun a a1 _ => hlow a (by omega))) ((cut_D c3 (by omega) c6).nr hlow) r3 hTR j11.2.2.2.2.2.2.2 j13 j14 jE.2.2.2.2.2.1 jE.2.2.2.2.2.2.2.2 hsub (by omega) ⟨_, h2⟩ ⟨rfl, rfl, rfl⟩
                  · obtain ⟨H1, nn, hn2, c1, c3, c4, c6, c5⟩ := rx_make0_lateQ (M := 48 * (k + 1)) (sc := (L, xs)) (d := 1990) j8 hT0 hv hl1 hl2 hnm hkdt hcht hlut hs j15 hV9 (fun v hv => (hK7 v hv).1) (by omega) (by omega) hle hX hXN hQ j1 j5 (by omega) (by omega) (by rw [List.length_singleton]; omega) (by omega) hopn hK9 one_w (Nat.le_of_ble_eq_true rfl) (Nat.le_of_ble_eq_true rfl)
                    have hr0 : RefI H1 fa (B * 256) 0 1 1 tb l rs g0 P ms op sm wss kd pa sz nl nm ps := j10.far (fun a a1 a2 => c5 a a1)
                    obtain ⟨z, H2, r1, r2, r3, r4⟩ := ri_mmake0_late (sc := (L, xs)) (d := 1994) hr0 j11 hv hl1 hl2 hns hkd hch hfr hr1 hr2 (by omega) (by omega) hfull
                    obtain ⟨us2, ba2, bo2, m2, -⟩ := id r3
                    have hlow : ∀ a, a < 195 → H2[a]? = H1[a]? := fun a ha => r4 a (by omega)
                    have h2 : H2[224]? = some (kJ 1 e) := (r4 224 (by omega)).trans ((c5 224 (by decide)).trans j20)
                    have hD := lat_D (op := op) c3 one_w c6 (fun c c1 vs Q hx hs1 hI hnew hold hVk => fil_rel0 hx.1 (fun j hj q => by rw [dnO_no hj] at q; exact absurd q Bool.false_ne_true) hs1 hold (fun v hv => (hVk v hv).1) hf9 (mk_rel hx.1.2.2.1 hx.1.2.2.2 hTR (by decide) hl2 hI))
                    refine gs_x19_1 (c1 := nn) (s1 := 6 * nn) (c2 := 0) (s2 := 0) hL h j8.1 (by rw [e1, b0]; exact c1) ((c5 195 (by decide)).trans m1) (by rw [e1, b0]; exact r1) m2 rfl (kq H2 nn hn2 (Or.inr ?_))
                    exact hJ.filD hk (Nat.le_succ _) (Nat.le_refl _) (Or.inr rfl) (c4.far (fun a a1 _ => hlow a (by omega))) (hD.nr hlow) r3 hT' j11.2.2.2.2.2.2.2 j13 (by rw [hnd1]; exact hfull) hpz' hW' hsub (by omega) ⟨_, h2⟩ ⟨up_ne (by omega), up_ne (by omega), up_ne (by omega)⟩
              · obtain ⟨H1, c1, c4, c5⟩ := rx_make0_full (sc := (L, xs)) (d := 1990) j8 hT0 hv hl1 hl2 hnm hkdt hcht hlut hs j15 hV9 (fun v hv => (hK7 v hv).1) (by omega) (by omega) (by rw [hneed]; omega) (by rw [hneed]; omega)
                have hr0 : RefI H1 fa (B * 256) 0 cw cl tb l rs g0 P ms op sm wss kd pa sz nl nm ps := j10.far (fun a a1 a2 => c5 a (by omega))
                obtain ⟨z, H2, r1, r2, r3, r4⟩ := ri_mmake_full (sc := (L, xs)) (d := 1994) (b := 0) hr0 j11 hv hl1 hl2 hns hkd hch hfr hr1 hr2 (by omega) (by omega) (by omega)
                obtain ⟨us2, ba2, bo2, m2, -⟩ := id r3
                exact gs_x19_2 (c1 := 1) (s1 := 6) (c2 := 0) (s2 := 0) hL h j8.1 (by rw [e1, b0]; exact c1) ((c5 195 (by omega)).trans m1) (by rw [e1, b0]; exact r1) m2 rfl (kq.go1 (Or.inl (hJ.row (cw' := cw) (cl' := cl) (cp' := cp) (cb' := cb) (fa' := 5) (tb' := tb) (l' := 0) hk (c4.far (fun a a1 _ => r4 a (by omega))) r3 jE.1 jE.2.1 (Nat.zero_le _) (Nat.zero_le _) j6 j7 (fun a ha => (r4 a (by omega)).trans (c5 a (by omega))) ⟨e, (r4 224 (by omega)).trans ((c5 224 (by omega)).trans j20)⟩)))
            ·
              have hsub : ∀ x ∈ ky, x ∈ [[1, r]] ++ ky := fun x hx => List.mem_append.mpr (Or.inr hx)
              have hQ := j9.ky hsub
              obtain ⟨S, lgs, fr, ff, wr, tp, rs9, us9, c, P1, gs, vs, tss, Lc, u1, u2, ⟨hrl, u3⟩, u4⟩ := id hQ
              have hs := u1.2.2.2.2.2.2.2.2.1
              have hV9 := u1.2.2.2.2.2.2.1
              have hK7 := u2.2.2.2.2.2.2.1
              have hmP : ∀ w ∈ ms, w.2.1 ≤ P := rel_le hrl.2.1 (fun v hv => (hK7 v hv).1)
              have hX := xc_b (xc_rel (kd := kd) (pa := pa) (sz := sz) (nl := nl) (nm := nm) (ps := ps) j12)
              have hXN : ∀ c vs, (∀ v ∈ vs, VOk ([[1, r]] ++ ky) P v) → Xb (RlX op sm ms kd pa sz nl nm ps) c vs → sumN op sm (-1) P (kmV vs) vs ≤ B * 256 := fun c vs hv hx => by
                rw [rlx_need hv hx.1 j13]
                exact j14
              have h64 : nB B + 40 ≤ N := by unfold nB; omega
              have hpl := UpQ.pl (M := 0) u1 (by omega)
              have hK9 : ∀ e ∈ [([1, r], some ([2, v] ++ (beB 2 0 ++ sl tb 0 l)))], EntK ([[1, r]] ++ ky) e := fun e he => by
                rw [List.mem_singleton.mp he]
                refine ⟨Or.inr (Or.inl ⟨r, rfl, hr1, hr2, fun n hn => ?_⟩), List.mem_append.mpr (Or.inl List.mem_cons_self)⟩
                rw [← Option.some.inj hn, List.length_append, List.length_append, beB_len, sl_length]
                exact ⟨by show 5 ≤ 2 + (2 + l); omega, by show 2 + (2 + l) ≤ 34; omega⟩
              have hf9 : ∀ e ∈ [([1, r], some ([2, v] ++ (beB 2 0 ++ sl tb 0 l)))], ¬ e.1.head? = some 0 := fun e he => by
                rw [List.mem_singleton.mp he]
                exact fun q => absurd (Option.some.inj q) (by decide)
              have hb9 : ∀ e ∈ [([1, r], some ([2, v] ++ (beB 2 0 ++ sl tb 0 l)))], ∀ l, e.2 = some l → ∀ b ∈ l, b < 256 := fun e he l9 hl9 b hb => by
                rw [List.mem_singleton.mp he] at hl9
                rw [← Option.some.inj hl9] at hb
                rcases List.mem_append.mp hb with q | q
                · rcases List.mem_cons.mp q with q | q
                  · rw [q]; decide
                  · rw [List.mem_singleton.mp q]; omega
                · rcases List.mem_append.mp q with q | q
                  · exact beB_lt q
                  · exact sl_b b q
              have hopn := opn_5 (ws := [([1, r], some ([2, v] ++ (beB 2 0 ++ sl tb 0 l)))]) (by
                show eLen ([1, r], some ([2, v] ++ (beB 2 0 ++ sl tb 0 l))) + 9 + (9 + 0) < 6144
                have : eLen ([1, r], some ([2, v] ++ (beB 2 0 ++ sl tb 0 l))) = 2 + (2 + (2 + l)) := by
                  show 2 + ([2, v] ++ (beB 2 0 ++ sl tb 0 l)).length = _
                  rw [List.length_append, List.length_append, beB_len, sl_length]
                  rfl
                omega)
              have hnd1 : ndR op sm (-1) (P + 1) ms (va_up kd r 2) (va_up nl r l) ps = ndR op sm (-1) P ms kd nl ps + 62 + l := by rw [nd_make hr1 hr2 hkr (by decide), nd_next hmP]
              have hneed := need_fil (x := -1) (kd' := va_up kd r 2) (pa' := va_up pa r v) (sz' := va_up sz r 0) (nl' := va_up nl r l) (nm' := cpy tb 0 nm (30 * r) l) (ps' := ps) (ws := [([1, r], some ([2, v] ++ (beB 2 0 ++ sl tb 0 l)))]) hrl hK7 hpl j13 one_w hK9 hb9 (Nat.le_of_ble_eq_true rfl) hf9 (fun c1 vs' hI => mk_rel hrl.2.2.1 hrl.2.2.2 hTR (by decide) hl2 hI)
              rw [hnd1] at hneed
              have hT' : TreeOk (va_up kd r 2) (va_up pa r v) (va_up sz r 0) (va_up nl r l) := hTR.set (by decide) hv (by decide) hl2
              have hpz' : ∀ x ∈ ps, va_up kd r 2 x.1 = 1 ∧ 512 * x.2.1 + x.2.2.length ≤ va_up sz r 0 x.1 := fun x hx => by
                have h9 := jE.2.2.2.2.2.1 x hx
                have hne : ¬ x.1 = r := fun q => by rw [q, hkr] at h9; exact absurd h9.1 (by decide)
                rw [up_ne hne, up_ne hne]
                exact h9
              have hW' : TrW (va_up kd r 2) (va_up pa r v) := TrW.make jE.2.2.2.2.2.2.2.2 (fun x hx => (hTR x hx).2.1) hr1 hkr hkd hv
              have hkyl : 512 * ([[1, r]] ++ ky).length + l ≤ 1024 * (k + 1) := by
                rw [List.length_append, List.length_singleton]
                have := jE.2.2.2.2.2.2.2.1
                omega
              by_cases hfull : ndR op sm (-1) P ms kd nl ps + 62 + l ≤ B * 256
              · have hle : sumN op sm (-1) (P + 1) (kmV (inclV (P + 1) (fun _ => 0) 0 [([1, r], some ([2, v] ++ (beB 2 0 ++ sl tb 0 l)))] vs)) (inclV (P + 1) (fun _ => 0) 0 [([1, r], some ([2, v] ++ (beB 2 0 ++ sl tb 0 l)))] vs) ≤ B * 256 := by rw [hneed]; exact hfull
                rcases jE.1 with rfl | rfl
                · obtain ⟨x, H1, c1, c2, c3, c4, c5⟩ := ri_make1_okQ (M := 48 * (k + 1)) (sc := (L, xs)) (d := 1990) j8 hT0 hv hl1 hl2 hnm hkdt hcht hlut hs j15 hV9 (fun v hv => (hK7 v hv).1) (by omega) (by omega) hle hX hXN hQ j1 j5 (by omega) (by omega) (by rw [List.length_singleton]; omega) (by omega) hopn hK9 one_w (Nat.le_of_ble_eq_true rfl) hr1 hr2
                  have h224 : H1[224]? = some (kJ 1 e) := (c5 224 (by decide)).trans j20
                  have hr0 : RefI (H1.set 224 (kJ 1 (va_up e 0 x.toInt64))) fa (B * 256) 0 0 cl tb l rs g0 P ms op sm wss kd pa sz nl nm ps := j10.far (fun a a1 a2 => (set_far (by omega)).trans (c5 a a1))
                  obtain ⟨z, H2, r1, r2, r3, r4⟩ := ri_mmake1_ok (sc := (L, xs)) (d := 1994) hr0 j11 hv hl1 hl2 hns hkd hch hfr hr1 hr2 (by omega) (by omega) hfull
                  have hxz : z = x := r2.trans c2.symm
                  rw [hxz] at r1
                  obtain ⟨us2, ba2, bo2, m2, -⟩ := id r3
                  have hlow : ∀ a, a < 195 → H2[a]? = H1[a]? := fun a ha => (r4 a (by omega)).trans (set_far (by omega))
                  have h2 : H2[224]? = some (kJ 1 (va_up e 0 x.toInt64)) := (r4 224 (by omega)).trans (get_set h224)
                  have hQ2 : UpQ ([[1, r]] ++ ky) (48 * (k + 1)) H1 B N bb (P + 1) op sm (nB B) (Xb (RlX op sm ms (va_up kd r 2) (va_up pa r v) (va_up sz r 0) (va_up nl r l) (cpy tb 0 nm (30 * r) l) ps)) := inc_Q c3 (Nat.le_of_ble_eq_true rfl) (fun c c1 vs Q hx hs1 hI hnew hold hVk => fil_rel hx.1 hs1 hold (fun v hv => (hVk v hv).1) hf9 j12 (mk_rel hx.1.2.2.1 hx.1.2.2.2 hTR (by decide) hl2 hI)) (fun c vs hv hx => by
                    rw [rlx_need hv hx j13, hnd1]
                    exact hfull)
                  refine gs_ok19 (c1 := 0) (s1 := 0) (c2 := 0) (s2 := 0) (x := x) hL h j8.1 (by rw [e1, b0]; exact c1) h224 ((c5 195 (by decide)).trans m1) (by rw [e1, b0]; exact r1) m2 rfl h2 (kq.go0 (Or.inl ?_))
                  exact hJ.fil hk hmP (c4.far (fun a a1 _ => hlow a (by omega))) (hQ2.nr hlow) r3 (Nat.zero_le _) hT' j11.2.2.2.2.2.2.2 j13 (by rw [hnd1]; exact hfull) (j17.mk hTR hr1 hr2 (by decide) hl2) (hT0.set (by decide) hv (by decide) hl2) hpz' hW' hsub (by omega) ⟨_, h2⟩ ⟨up_ne (by omega), up_ne (by omega), up_ne (by omega)⟩
                · rcases jE.2.1 with rfl | rfl
                  · obtain ⟨H1, nn, hn2, c1, c3, c4, c6, c5⟩ := rx_make1_cutQ (M := 48 * (k + 1)) (sc := (L, xs)) (d := 1990) j8 hT0 hv hl1 hl2 hnm hkdt hcht hlut hs j15 hV9 (fun v hv => (hK7 v hv).1) (by omega) (by omega) hle j6 hX hXN hQ j1 j7 (by omega) (by omega) (by rw [List.length_singleton]; omega) (by omega) hopn hK9 one_w (Nat.le_of_ble_eq_true rfl)
                    have hr0 : RefI H1 fa (B * 256) 0 1 0 tb l rs g0 P ms op sm wss kd pa sz nl nm ps := j10.far (fun a a1 a2 => c5 a a1)
                    obtain ⟨z, H2, r1, r2, r3, r4⟩ := ri_mmake_lost (sc := (L, xs)) (d := 1994) (b := 1) hr0 j11 hv hl1 hl2 hns hkd hch hfr hr1 hr2 (by omega) (by omega) hfull
                    obtain ⟨us2, ba2, bo2, m2, -⟩ := id r3
                    have hlow : ∀ a, a < 195 → H2[a]? = H1[a]? := fun a ha => r4 a (by omega)
                    have h2 : H2[224]? = some (kJ 1 e) := (r4 224 (by omega)).trans ((c5 224 (by decide)).trans j20)
                    refine gs_x19_1 (c1 := nn) (s1 := 6 * nn) (c2 := 0) (s2 := 0) hL h j8.1 (by rw [e1, b0]; exact c1) ((c5 195 (by decide)).trans m1) (by rw [e1, b0]; exact r1) m2 rfl (kq H2 nn hn2 (Or.inr ?_))
                    exact hJ.filD hk (Nat.le_refl _) (by omega) (Or.inl rfl) (c4.far (fun a a1 _ => hlow a (by omega))) ((cut_D c3 (by omega) c6).nr hlow) r3 hTR j11.2.2.2.2.2.2.2 j13 j14 jE.2.2.2.2.2.1 jE.2.2.2.2.2.2.2.2 hsub (by omega) ⟨_, h2⟩ ⟨rfl, rfl, rfl⟩
                  · obtain ⟨H1, nn, hn2, c1, c3, c4, c6, c5⟩ := rx_make1_lateQ (M := 48 * (k + 1)) (sc := (L, xs)) (d := 1990) j8 hT0 hv hl1 hl2 hnm hkdt hcht hlut hs j15 hV9 (fun v hv => (hK7 v hv).1) (by omega) (by omega) hle hX hXN hQ j1 j5 (by omega) (by omega) (by rw [List.length_singleton]; omega) (by omega) hopn hK9 one_w (Nat.le_of_ble_eq_true rfl) (Nat.le_of_ble_eq_true rfl)
                    have hr0 : RefI H1 fa (B * 256) 0 1 1 tb l rs g0 P ms op sm wss kd pa sz nl nm ps := j10.far (fun a a1 a2 => c5 a a1)
                    obtain ⟨z, H2, r1, r2, r3, r4⟩ := ri_mmake1_late (sc := (L, xs)) (d := 1994) hr0 j11 hv hl1 hl2 hns hkd hch hfr hr1 hr2 (by omega) (by omega) hfull
                    obtain ⟨us2, ba2, bo2, m2, -⟩ := id r3
                    have hlow : ∀ a, a < 195 → H2[a]? = H1[a]? := fun a ha => r4 a (by omega)
                    have h2 : H2[224]? = some (kJ 1 e) := (r4 224 (by omega)).trans ((c5 224 (by decide)).trans j20)
                    have hD := lat_D (op := op) c3 one_w c6 (fun c c1 vs Q hx hs1 hI hnew hold hVk => fil_rel0 hx.1 (fun j hj q => by rw [dnO_no hj] at q; exact absurd q Bool.false_ne_true) hs1 hold (fun v hv => (hVk v hv).1) hf9 (mk_rel hx.1.2.2.1 hx.1.2.2.2 hTR (by decide) hl2 hI))
                    refine gs_x19_1 (c1 := nn) (s1 := 6 * nn) (c2 := 0) (s2 := 0) hL h j8.1 (by rw [e1, b0]; exact c1) ((c5 195 (by decide)).trans m1) (by rw [e1, b0]; exact r1) m2 rfl (kq H2 nn hn2 (Or.inr ?_))
                    exact hJ.filD hk (Nat.le_succ _) (Nat.le_refl _) (Or.inr rfl) (c4.far (fun a a1 _ => hlow a (by omega))) (hD.nr hlow) r3 hT' j11.2.2.2.2.2.2.2 j13 (by rw [hnd1]; exact hfull) hpz' hW' hsub (by omega) ⟨_, h2⟩ ⟨up_ne (by omega), up_ne (by omega), up_ne (by omega)⟩
              · obtain ⟨H1, c1, c4, c5⟩ := rx_make1_full (sc := (L, xs)) (d := 1990) j8 hT0 hv hl1 hl2 hnm hkdt hcht hlut hs j15 hV9 (fun v hv => (hK7 v hv).1) (by omega) (by omega) (by rw [hneed]; omega) (by rw [hneed]; omega)
                have hr0 : RefI H1 fa (B * 256) 0 cw cl tb l rs g0 P ms op sm wss kd pa sz nl nm ps := j10.far (fun a a1 a2 => c5 a (by omega))
                obtain ⟨z, H2, r1, r2, r3, r4⟩ := ri_mmake_full (sc := (L, xs)) (d := 1994) (b := 1) hr0 j11 hv hl1 hl2 hns hkd hch hfr hr1 hr2 (by omega) (by omega) (by omega)
                obtain ⟨us2, ba2, bo2, m2, -⟩ := id r3
                exact gs_x19_2 (c1 := 1) (s1 := 6) (c2 := 0) (s2 := 0) hL h j8.1 (by rw [e1, b0]; exact c1) ((c5 195 (by omega)).trans m1) (by rw [e1, b0]; exact r1) m2 rfl (kq.go1 (Or.inl (hJ.row (cw' := cw) (cl' := cl) (cp' := cp) (cb' := cb) (fa' := 5) (tb' := tb) (l' := 0) hk (c4.far (fun a a1 _ => r4 a (by omega))) r3 jE.1 jE.2.1 (Nat.zero_le _) (Nat.zero_le _) j6 j7 (fun a ha => (r4 a (by omega)).trans (c5 a (by omega))) ⟨e, (r4 224 (by omega)).trans ((c5 224 (by omega)).trans j20)⟩)))
      · obtain ⟨H1, c1, c4, c5⟩ := rx_make_nodir (sc := (L, xs)) (d := 1990) (wx := bz (xs (i + 2))) j8 hT0 hv hl1 hl2 hnm (by rw [j17.1 v hv]; exact hkd)
        have hr0 : RefI H1 fa (B * 256) 0 cw cl tb l rs g0 P ms op sm wss kd pa sz nl nm ps := j10.far (fun a a1 a2 => c5 a (by omega))
        obtain ⟨z, H2, r1, r2, r3, r4⟩ := ri_mmake_no (sc := (L, xs)) (d := 1994) (b := bz (xs (i + 2))) hr0 j11 hv hl1 hl2 hns hkd
        obtain ⟨us2, ba2, bo2, m2, -⟩ := id r3
        exact gs_x19_3 (c1 := 1) (s1 := 6) (c2 := 0) (s2 := 0) hL h j8.1 (by rw [e1]; exact c1) ((c5 195 (by omega)).trans m1) (by rw [e1]; exact r1) m2 rfl (kq.go1 (Or.inl (hJ.row (cw' := cw) (cl' := cl) (cp' := cp) (cb' := cb) (fa' := 3) (tb' := tb) (l' := 0) hk (c4.far (fun a a1 _ => r4 a (by omega))) r3 jE.1 jE.2.1 (Nat.zero_le _) (Nat.zero_le _) j6 j7 (fun a ha => (r4 a (by omega)).trans (c5 a (by omega))) ⟨e, (r4 224 (by omega)).trans ((c5 224 (by omega)).trans j20)⟩)))
    · obtain ⟨H1, c1, c4, c5⟩ := rx_make_bad (sc := (L, xs)) (d := 1990) (w := bz (xs (i + 2))) j8 hl hb
      have hr0 : RefI H1 fa (B * 256) 0 cw cl tb l rs g0 P ms op sm wss kd pa sz nl nm ps := j10.far (fun a a1 a2 => c5 a (by omega))
      obtain ⟨z, H2, r1, r2, r3, r4⟩ := ri_mmake_bad (sc := (L, xs)) (d := 1994) (b := bz (xs (i + 2))) hr0 j11 hb
      obtain ⟨us2, ba2, bo2, m2, -⟩ := id r3
      exact gs_x19_0 (c1 := 1) (s1 := 6) (c2 := 0) (s2 := 0) hL h j8.1 c1 ((c5 195 (by omega)).trans m1) r1 m2 rfl (kq.go1 (Or.inl (hJ.row (cw' := cw) (cl' := cl) (cp' := cp) (cb' := cb) (fa' := 1) (tb' := tb) (l' := l) hk (c4.far (fun a a1 _ => r4 a (by omega))) r3 jE.1 jE.2.1 j11.1 (by omega) j6 j7 (fun a ha => (r4 a (by omega)).trans (c5 a (by omega))) ⟨e, (r4 224 (by omega)).trans ((c5 224 (by omega)).trans j20)⟩)))
  · obtain ⟨d1, d2, d3, d4, d5, d6, d7, d8, d9, d10, d11, d12, d13, d14, d15, d16, d17, jE, e, d19⟩ := id hJ
    obtain ⟨us, ba, bo, m1, hF, hG, qV, hR⟩ := hJ.fld hk
    obtain ⟨-, -, -, -, -, q5, q6, qR, qT, q8, q9, -⟩ := d9.cells
    have hl := d10.1
    by_cases hb : (∃ t, xs (i + 1) = nI t ∧ t < 201) ∧ 1 ≤ l ∧ l ≤ 30 ∧ noSl tb 0 l
    · obtain ⟨⟨v, e1, hv⟩, hl1, hl2, hns⟩ := hb
      have hv : v ≤ 200 := by omega
      have hnm := (nosl_iff (tb := tb) (l := l) (i := 0) (n := l) (by omega)).mp hns
      obtain ⟨H1, c1, c4, c5⟩ := rx_make_down (sc := (L, xs)) (d := 1990) (wx := bz (xs (i + 2))) d7 hv hl1 hl2 hnm
      have hr0 : RefI H1 fa (B * 256) 1 cw cl tb l rs g0 P ms op sm wss kd pa sz nl nm ps := d9.far (fun a a1 a2 => c5 a (by omega))
      obtain ⟨z, H2, r1, r2, r3, r4⟩ := ri_mmake_down (sc := (L, xs)) (d := 1994) (b := bz (xs (i + 2))) hr0 d10 hv hl1 hl2 hns
      obtain ⟨us2, ba2, bo2, m2, -⟩ := id r3
      exact gs_x19_1 (c1 := 1) (s1 := 6) (c2 := 0) (s2 := 0) hL h d7.1 (by rw [e1]; exact c1) ((c5 195 (by omega)).trans m1) (by rw [e1]; exact r1) m2 rfl (kq.go1 (Or.inr (hJ.row (cw' := cw) (cl' := cl) (cp' := cp) (cb' := cb) (fa' := 2) (tb' := tb) (l' := l) hk (c4.far (fun a a1 _ => r4 a (by omega))) r3 jE.1 jE.2.1 d10.1 (by omega) d5 d6 (fun a ha => (r4 a (by omega)).trans (c5 a (by omega))) ⟨e, (r4 224 (by omega)).trans ((c5 224 (by omega)).trans d19)⟩)))
    · obtain ⟨H1, c1, c4, c5⟩ := rx_make_bad (sc := (L, xs)) (d := 1990) (w := bz (xs (i + 2))) d7 hl hb
      have hr0 : RefI H1 fa (B * 256) 1 cw cl tb l rs g0 P ms op sm wss kd pa sz nl nm ps := d9.far (fun a a1 a2 => c5 a (by omega))
      obtain ⟨z, H2, r1, r2, r3, r4⟩ := ri_mmake_bad (sc := (L, xs)) (d := 1994) (b := bz (xs (i + 2))) hr0 d10 hb
      obtain ⟨us2, ba2, bo2, m2, -⟩ := id r3
      exact gs_x19_0 (c1 := 1) (s1 := 6) (c2 := 0) (s2 := 0) hL h d7.1 c1 ((c5 195 (by omega)).trans m1) r1 m2 rfl (kq.go1 (Or.inr (hJ.row (cw' := cw) (cl' := cl) (cp' := cp) (cb' := cb) (fa' := 1) (tb' := tb) (l' := l) hk (c4.far (fun a a1 _ => r4 a (by omega))) r3 jE.1 jE.2.1 d10.1 (by omega) d5 d6 (fun a ha => (r4 a (by omega)).trans (c5 a (by omega))) ⟨e, (r4 224 (by omega)).trans ((c5 224 (by omega)).trans d19)⟩)))
end S76
