/-! ===== remove: the case of the law, from every state of the invariant; written by wip/gen/remove2.py ===== -/
theorem OneW.cons {x : aE} {ws : List aE} (h : OneW ws) (hn : ∀ e ∈ ws, ¬ e.1 = x.1) : OneW (x :: ws) := fun a b e f ha hb hk => by
  cases a with
  | zero =>
    have ea : x = e := Option.some.inj ha
    cases b with
    | zero => rfl
    | succ b => exact absurd (by rw [ea, hk]) (hn f (List.mem_of_getElem? (show ws[b]? = some f from hb)))
  | succ a =>
    have ha : ws[a]? = some e := ha
    cases b with
    | zero =>
      have eb : x = f := Option.some.inj hb
      exact absurd (by rw [eb, hk]) (hn e (List.mem_of_getElem? ha))
    | succ b =>
      have := h a b e f ha (show ws[b]? = some f from hb) hk
      omega
theorem gone_one {vs : List aV} {f : Nat} : ∀ (n : Nat), OneW (goneW vs f n)
  | 0 => fun a b e x ha => by
    have ha : ([] : List aE)[a]? = some e := ha
    rw [List.getElem?_nil] at ha
    cases ha
  | n + 1 => by
    have h := gone_one (vs := vs) (f := f) n
    show OneW (goneW vs f n ++ (if pcIn vs f n = true then [([2, f, n], none)] else []))
    by_cases e : pcIn vs f n = true
    · rw [if_pos e]
      refine h.snoc (fun x hx q => ?_)
      obtain ⟨i, hi, -, rfl⟩ := mem_gone.mp hx
      have := (List.cons.inj (List.cons.inj (List.cons.inj q).2).2).1
      omega
    · rw [if_neg e, List.append_nil]
      exact h
theorem pcIn_eq {c c0 : Nat → Int8} {vs vs0 : List aV} {ps : List aPc} {f i : Nat} (h0 : PcR c0 vs0 ps) (h : PcR c vs ps) (hO0 : OneV vs0) (hO : OneV vs) (hM0 : ∀ v ∈ vs0, v.2.1 ≤ 2 ^ 30) (hM : ∀ v ∈ vs, v.2.1 ≤ 2 ^ 30) : pcIn vs f i = pcIn vs0 f i := by
  rw [Bool.eq_iff_iff]
  constructor
  · intro q
    obtain ⟨y, hy, -⟩ := h.noth hO hM q
    exact (h0.there hO0 hM0 hy).1
  · intro q
    obtain ⟨y, hy, -⟩ := h0.noth hO0 hM0 q
    exact (h.there hO hM hy).1
theorem gone_eq {c c0 : Nat → Int8} {vs vs0 : List aV} {ps : List aPc} {f : Nat} (h0 : PcR c0 vs0 ps) (h : PcR c vs ps) (hO0 : OneV vs0) (hO : OneV vs) (hM0 : ∀ v ∈ vs0, v.2.1 ≤ 2 ^ 30) (hM : ∀ v ∈ vs, v.2.1 ≤ 2 ^ 30) : ∀ (n : Nat), goneW vs0 f n = goneW vs f n
  | 0 => rfl
  | n + 1 => by
    show goneW vs0 f n ++ (if pcIn vs0 f n = true then [([2, f, n], none)] else []) = goneW vs f n ++ (if pcIn vs f n = true then [([2, f, n], none)] else [])
    rw [gone_eq h0 h hO0 hO hM0 hM n, pcIn_eq h0 h hO0 hO hM0 hM]
theorem pcIn_key {vs : List aV} {f i : Nat} (hO : OneV vs) (h : pcIn vs f i = true) : ∃ v ∈ vs, v.1 = [2, f, i] := by
  unfold pcIn at h
  cases e : seenV vs [2, f, i] (2 ^ 30) with
  | none => rw [e] at h; cases h
  | some v =>
    obtain ⟨a1, a2, -⟩ := (seenV_some hO).mp e
    exact ⟨v, a1, a2⟩
theorem node_key {c : Nat → Int8} {vs : List aV} {kd pa sz nl : Nat → Nat} {nm : Nat → Int8} {f : Nat} (h : NodR c vs kd pa sz nl nm) (h1 : 1 ≤ f) (h2 : f ≤ 200) (hk : ¬ kd f = 0) : ∃ v ∈ vs, v.1 = [1, f] := by
  obtain ⟨v, hv, e, -⟩ := (h f h1 h2 _).mpr ⟨hk, rfl⟩
  exact ⟨v, hv.1, e⟩
theorem rm_rel {ky : List (List Nat)} {c c1 : Nat → Int8} {vs vs' : List aV} {kd pa sz nl : Nat → Nat} {nm : Nat → Int8} {ps cur : List aPc} {ws : List aE} {r P : Nat} (hN : NodR c vs kd pa sz nl nm) (hPc : PcR c vs ps) (hO : OneV vs) (hV : ∀ v ∈ vs, VOk ky P v) (hP : P ≤ 2 ^ 30) (hws : ws = ([1, r], none) :: goneW vs r 32) (h1 : OneW ws) (hc : cur.Perm (ps.filterMap (cutE r 0))) (hI : InV c c1 vs vs' ws) : NodR c1 vs' (va_up kd r 0) pa sz nl nm ∧ PcR c1 vs' cur := by
  refine ⟨hN.gone hI h1 (by rw [hws]; exact List.mem_cons_self) up_at (fun f f1 f2 f3 => ⟨fun e he q => ?_, up_ne f3⟩), hPc.gone hI h1 hO hP hV (fun e he => ?_) hc⟩
  · rw [hws] at he
    rcases List.mem_cons.mp he with z | z
    · rw [z] at q
      exact f3 (List.cons.inj (List.cons.inj q).2).1.symm
    · obtain ⟨i, -, -, rfl⟩ := mem_gone.mp z
      exact absurd (List.cons.inj q).1 (by decide)
  · rw [hws]
    constructor
    · intro z
      rcases List.mem_cons.mp z with z | z
      · rw [z] at he
        exact absurd he (by show ¬ 1 = 2; decide)
      · exact z
    · exact fun z => List.mem_cons_of_mem _ z
theorem cut0_mem {ps : List aPc} {r : Nat} {x : aPc} (h : x ∈ ps.filterMap (cutE r 0)) : x ∈ ps ∧ ¬ x.1 = r := by
  obtain ⟨y, hy, e⟩ := List.mem_filterMap.mp h
  unfold cutE at e
  by_cases q : y.1 = r
  · rw [if_pos q, if_pos (Nat.zero_le _)] at e
    cases e
  · rw [if_neg q] at e
    rw [← Option.some.inj e]
    exact ⟨hy, q⟩
theorem plen_cut {f n : Nat} : ∀ (ps : List aPc), plen (ps.filterMap (cutE f n)) ≤ plen ps
  | [] => Nat.le_refl _
  | x :: ps => by
    have h := plen_cut (f := f) (n := n) ps
    have hx : plen (x :: ps) = x.2.2.length + plen ps := by unfold plen; rw [List.map_cons, List.sum_cons]
    rw [List.filterMap_cons]
    cases e : cutE f n x with
    | none =>
      show plen (ps.filterMap (cutE f n)) ≤ _
      omega
    | some y =>
      have hy : plen (y :: ps.filterMap (cutE f n)) = y.2.2.length + plen (ps.filterMap (cutE f n)) := by unfold plen; rw [List.map_cons, List.sum_cons]
      have hl : y.2.2.length ≤ x.2.2.length := by
        unfold cutE at e
        by_cases q : x.1 = f
        · rw [if_pos q] at e
          by_cases q2 : n ≤ 512 * x.2.1
          · rw [if_pos q2] at e; cases e
          · rw [if_neg q2] at e
            rw [← Option.some.inj e]
            show (x.2.2.take _).length ≤ _
            rw [List.length_take]
            omega
        · rw [if_neg q] at e
          rw [← Option.some.inj e]
          exact Nat.le_refl _
      show plen (y :: ps.filterMap (cutE f n)) ≤ _
      omega
theorem sumF_z {f : Nat → Nat} : ∀ {n : Nat}, sumF f n = 0 → ∀ v, 1 ≤ v → v ≤ n → f v = 0
  | 0, _, v, h1, h2 => by omega
  | n + 1, h, v, h1, h2 => by
    have h : sumF f n + f (n + 1) = 0 := h
    by_cases e : v = n + 1
    · rw [e]; omega
    · exact sumF_z (n := n) (by omega) v h1 (by omega)
theorem sumF_ge {f : Nat → Nat} : ∀ {n : Nat} {v : Nat}, 1 ≤ v → v ≤ n → f v ≤ sumF f n
  | 0, v, h1, h2 => by omega
  | n + 1, v, h1, h2 => by
    show f v ≤ sumF f n + f (n + 1)
    by_cases e : v = n + 1
    · rw [e]; omega
    · have := sumF_ge (f := f) (n := n) h1 (by omega)
      omega
theorem nd_rm {op : Nat → Bool} {sm : Nat → Nat} {x : Int32} {P r : Nat} {ms : List aMV} {kd nl : Nat → Nat} {ps cur : List aPc} (hr1 : 1 ≤ r) (hr2 : r ≤ 200) (hc : cur.Perm (ps.filterMap (cutE r 0))) : ndR op sm x P ms (va_up kd r 0) nl cur ≤ ndR op sm x P ms kd nl ps := by
  have h1 := sumF_at (g := fun f => if va_up kd r 0 f = 0 then 0 else 62 + nl f) (h := fun f => if kd f = 0 then 0 else 62 + nl f) (v := r) 200 hr1 hr2 (fun f _ _ e => by
    show (if va_up kd r 0 f = 0 then 0 else 62 + nl f) = (if kd f = 0 then 0 else 62 + nl f)
    rw [up_ne e])
  have h2 : (if va_up kd r 0 r = 0 then 0 else 62 + nl r) = 0 := if_pos up_at
  have h1 : sumF (fun f => if va_up kd r 0 f = 0 then 0 else 62 + nl f) 200 + (if kd r = 0 then 0 else 62 + nl r) = sumF (fun f => if kd f = 0 then 0 else 62 + nl f) 200 + (if va_up kd r 0 r = 0 then 0 else 62 + nl r) := h1
  rw [h2] at h1
  have h3 := plen_perm hc
  have h4 := hc.length_eq
  have h5 := plen_cut (f := r) (n := 0) ps
  have h6 := List.length_filterMap_le (cutE r 0) ps
  unfold ndR
  omega
theorem TrW.gone {kd pa : Nat → Nat} {r : Nat} (h : TrW kd pa) (hr1 : 1 ≤ r) (hn : ∀ w, 1 ≤ w → w ≤ 200 → ¬ kd w = 0 → ¬ pa w = r) : TrW (va_up kd r 0) pa := by
  refine ⟨by rw [up_ne (by omega)]; exact h.1, fun w h1 h2 h3 => ?_⟩
  have e : ¬ w = r := fun q => h3 (by rw [q]; exact up_at)
  rw [up_ne e] at h3
  obtain ⟨a1, a2⟩ := h.2 w h1 h2 h3
  exact ⟨by rw [up_ne (hn w h1 h2 h3)]; exact a1, a2⟩
theorem TreeOk.kd0 {kd pa sz nl : Nat → Nat} {r : Nat} (h : TreeOk kd pa sz nl) : TreeOk (va_up kd r 0) pa sz nl := fun x hx => by
  refine ⟨?_, (h x hx).2⟩
  by_cases e : x = r
  · rw [e, up_at]; exact Nat.zero_le _
  · rw [up_ne e]; exact (h x hx).1
theorem same_cnt {t : aTr} {kd pa sz nl : Nat → Nat} {nm : Nat → Int8} (h : SameT t kd pa sz nl nm) (r : Nat) : sumF (fun w => if inD t.1 t.2.1 r w then 1 else 0) 200 = sumF (fun w => if inD kd pa r w then 1 else 0) 200 := sumF_congr 200 (fun f f1 f2 => by
  have e : inD t.1 t.2.1 r f = inD kd pa r f := by
    unfold inD
    rw [h.1 f f2]
    by_cases e : kd f = 0
    · rw [decide_eq_true e, Bool.not_true, Bool.false_and, Bool.false_and]
    · rw [(h.2.1 f f2 e).1]
  show (if inD t.1 t.2.1 r f then 1 else 0) = (if inD kd pa r f then 1 else 0)
  rw [e])
theorem no_child {kd pa : Nat → Nat} {r : Nat} (h : sumF (fun w => if inD kd pa r w then 1 else 0) 200 = 0) : ∀ w, 1 ≤ w → w ≤ 200 → ¬ kd w = 0 → ¬ pa w = r := fun w h1 h2 h3 h4 => by
  have h5 : (if inD kd pa r w then 1 else 0) = 0 := sumF_z h w h1 h2
  have h6 : inD kd pa r w = true := by
    unfold inD
    rw [decide_eq_false h3, decide_eq_true h4]
    rfl
  rw [if_pos h6] at h5
  exact absurd h5 (by decide)
theorem fl_child {kd pa : Nat → Nat} {r : Nat} (h : TrW kd pa) (hr : ¬ kd r = 2) : sumF (fun w => if inD kd pa r w then 1 else 0) 200 = 0 := by
  rw [sumF_congr (h := fun _ => 0) 200 (fun w h1 h2 => ?_), sumF_zero]
  show (if inD kd pa r w then 1 else 0) = 0
  refine if_neg (fun q => ?_)
  unfold inD at q
  rw [Bool.and_eq_true, Bool.not_eq_true', decide_eq_false_iff_not, decide_eq_true_iff] at q
  have := (h.2 w h1 h2 q.1).1
  rw [q.2] at this
  exact hr this
theorem rm_len {vs : List aV} {r : Nat} {ws : List aE} (h : ws = ([1, r], none) :: goneW vs r 32) : ws.length ≤ 33 ∧ 1 ≤ ws.length ∧ eOff ws ws.length ≤ 98 := by
  have h8 := gone_len (vs := vs) (f := r) 32
  generalize goneW vs r 32 = g at h h8
  subst h
  rw [List.length_cons]
  refine ⟨by omega, by omega, ?_⟩
  show eLen (([1, r], none) : aE) + eOff g g.length ≤ 98
  have h7 : eLen (([1, r], none) : aE) = 2 := rfl
  omega
section S77
variable {L i k kc ks : Nat} {xs : Nat → Int32} {Q : tO × aH × Nat × Nat → Prop} {H : aH}
theorem iv_remove (hL : L < 2 ^ 30) (h : i + 6 ≤ L) (hI : InvI k H) (hk : k < 512) (kq : Hd L xs i kc ks Q (k + 1)) : RQ (L, xs) 2000 mr_law 1419 [(4, .int (nI i)), (3, .ref 225), (2, .ref 196), (1, .ref 1), (0, .ref 0)] [] H kc ks Q := by
  rcases hI with ⟨ky, B, N, P, bb, cw, cl, cp, cb, tb, l, g, rl, wss, t0, op, sm, ms, kd, pa, sz, nl, nm, ps, fa, rs, g0, hJ⟩ | ⟨ky, B, N, P, cw, cl, cp, cb, tb, l, g, rl, wss, t0, op, sm, ms, kd, pa, sz, nl, nm, ps, fa, rs, g0, hJ⟩
  · obtain ⟨j1, j2, j3, j4, j5, j6, j7, j8, j9, j10, j11, j12, j13, j14, j15, j16, j17, j18, j19, jE, e, j20⟩ := id hJ
    obtain ⟨us, ba, bo, m1, hF, hG, qV, hR⟩ := hJ.fld hk
    obtain ⟨-, -, -, -, -, q5, q6, qR, qT, q8, q9, -⟩ := j10.cells
    have hl := j11.1
    have hTR := j11.2.2.2.2.1
    have hT0 := jE.2.2.2.1
    by_cases hb : (∃ t, xs (i + 1) = nI t ∧ t < 201) ∧ 1 ≤ l ∧ l ≤ 30 ∧ noSl tb 0 l
    · obtain ⟨⟨v, e1, hv⟩, hl1, hl2, hns⟩ := hb
      have hv : v ≤ 200 := by omega
      have hnm := (nosl_iff (tb := tb) (l := l) (i := 0) (n := l) (by omega)).mp hns
      by_cases hkd : kd v = 2
      · have hkdt : t0.1 v = 2 := (j17.1 v hv).trans hkd
        cases hch : fstF (inN kd pa nl nm v (sl tb 0 l)) 1 200 with
        | none =>
          have hcht := (same_fst j17 v (sl tb 0 l)).trans hch
          obtain ⟨H1, c1, c4, c5⟩ := rx_remove_none (sc := (L, xs)) (d := 1990) j8 hT0 hv hl1 hl2 hnm hkdt hcht
          have hr0 : RefI H1 fa (B * 256) 0 cw cl tb l rs g0 P ms op sm wss kd pa sz nl nm ps := j10.far (fun a a1 a2 => c5 a (by omega))
          obtain ⟨z, H2, r1, r2, r3, r4⟩ := ri_mremove_none (sc := (L, xs)) (d := 1994) hr0 j11 hv hl1 hl2 hns hkd hch
          obtain ⟨us2, ba2, bo2, m2, -⟩ := id r3
          exact gs_x20_3 (c1 := 1) (s1 := 6) (c2 := 0) (s2 := 0) hL h j8.1 (by rw [e1]; exact c1) ((c5 195 (by omega)).trans m1) (by rw [e1]; exact r1) m2 rfl (kq.go1 (Or.inl (hJ.row (cw' := cw) (cl' := cl) (cp' := cp) (cb' := cb) (fa' := 3) (tb' := tb) (l' := 0) hk (c4.far (fun a a1 _ => r4 a (by omega))) r3 jE.1 jE.2.1 (Nat.zero_le _) (Nat.zero_le _) j6 j7 (fun a ha => (r4 a (by omega)).trans (c5 a (by omega))) ⟨e, (r4 224 (by omega)).trans ((c5 224 (by omega)).trans j20)⟩)))
        | some r =>
          have hcht := (same_fst j17 v (sl tb 0 l)).trans hch
          have hrr := fstF_lt hch
          have hr1 : 1 ≤ r := hrr.1
          have hr2 : r ≤ 200 := by omega
          have hkr : ¬ kd r = 0 := fun q => by
            have h9 := fstF_some hch
            unfold inN inD at h9
            rw [decide_eq_true q, Bool.not_true, Bool.false_and, Bool.false_and] at h9
            cases h9
          by_cases hc0 : sumF (fun w => if inD kd pa r w then 1 else 0) 200 = 0
          ·
            have hsub : ∀ x ∈ ky, x ∈ [] ++ ky := fun x hx => List.mem_append.mpr (Or.inr hx)
            have hQ := j9.ky hsub
            obtain ⟨S, lgs, fr, ff, wr, tp, rs9, us9, c, P1, gs, vs, tss, Lc, u1, u2, ⟨hrl, u3⟩, u4⟩ := id hQ
            have hs := u1.2.2.2.2.2.2.2.2.1
            have hV9 := u1.2.2.2.2.2.2.1
            have hK7 := u2.2.2.2.2.2.2.1
            have hmP : ∀ w ∈ ms, w.2.1 ≤ P := rel_le hrl.2.1 (fun v hv => (hK7 v hv).1)
            have hX := xc_b (xc_rel (kd := kd) (pa := pa) (sz := sz) (nl := nl) (nm := nm) (ps := ps) j12)
            have hXN : ∀ c vs, (∀ v ∈ vs, VOk ([] ++ ky) P v) → Xb (RlX op sm ms kd pa sz nl nm ps) c vs → sumN op sm (-1) P (kmV vs) vs ≤ B * 256 := fun c vs hv hx => by
              rw [rlx_need hv hx.1 j13]
              exact j14
            have h64 : nB B + 40 ≤ N := by unfold nB; omega
            have hpl := UpQ.pl (M := 0) u1 (by omega)
            obtain ⟨ws, hws⟩ : ∃ ws : List aE, ws = ([1, r], none) :: goneW vs r 32 := ⟨_, rfl⟩
            have hlen := rm_len hws
            have h1W : OneW ws := by
              rw [hws]
              exact OneW.cons (gone_one 32) (fun e he q => by
                obtain ⟨i, -, -, rfl⟩ := mem_gone.mp he
                exact absurd (List.cons.inj q).1 (by decide))
            have hK9 : ∀ e ∈ ws, EntK ([] ++ ky) e := fun e he => by
              rw [hws] at he
              rcases List.mem_cons.mp he with q | q
              · rw [q]
                obtain ⟨v9, a1, a2⟩ := node_key hrl.2.2.1 hr1 hr2 hkr
                exact ⟨Or.inr (Or.inl ⟨r, rfl, hr1, hr2, fun n hn => by cases hn⟩), by rw [← a2]; exact (hK7 v9 a1).2.2.2⟩
              · obtain ⟨i9, b1, b2, rfl⟩ := mem_gone.mp q
                obtain ⟨v9, a1, a2⟩ := pcIn_key hrl.1.one b2
                exact ⟨Or.inr (Or.inr ⟨r, i9, rfl, hr2, b1, fun n hn => by cases hn⟩), by rw [← a2]; exact (hK7 v9 a1).2.2.2⟩
            have hf9 : ∀ e ∈ ws, ¬ e.1.head? = some 0 := fun e he => by
              rw [hws] at he
              rcases List.mem_cons.mp he with q | q
              · rw [q]
                exact fun q => absurd (Option.some.inj q) (by decide)
              · obtain ⟨i9, b1, b2, rfl⟩ := mem_gone.mp q
                exact fun q => absurd (Option.some.inj q) (by decide)
            have hopn := opn_5 (ws := ws) (by rw [szW_sum]; omega)
            have hc0t : sumF (fun w => if inD t0.1 t0.2.1 r w then 1 else 0) 200 = 0 := (same_cnt j17 r).trans hc0
            have hem : ¬ (kd r = 2 ∧ 0 < sumF (fun w => if inD kd pa r w then 1 else 0) 200) := fun q => by omega
            have hT' : TreeOk (va_up kd r 0) pa sz nl := hTR.kd0
            have hW' : TrW (va_up kd r 0) pa := TrW.gone jE.2.2.2.2.2.2.2.2 hr1 (no_child hc0)
            have hkrt : ¬ t0.1 r = 0 := by rw [j17.1 r hr2]; exact hkr
            have hcnt : 1 ≤ t0.2.2.2.2.2 := by
              rw [j17.2.2]
              refine Nat.le_trans ?_ (sumF_ge hr1 hr2)
              rw [if_neg hkr]
              exact Nat.le_refl _
            have hnd9 : ∀ cur : List aPc, cur.Perm (ps.filterMap (cutE r 0)) → ndR op sm (-1) (P + 1) ms (va_up kd r 0) nl cur ≤ B * 256 := fun cur hcur => Nat.le_trans (nd_rm hr1 hr2 hcur) (by rw [nd_next hmP]; exact j14)
            have hpz9 : ∀ cur : List aPc, cur.Perm (ps.filterMap (cutE r 0)) → (∀ x ∈ cur, PcOk x) ∧ ∀ x ∈ cur, va_up kd r 0 x.1 = 1 ∧ 512 * x.2.1 + x.2.2.length ≤ sz x.1 := fun cur hcur => by
              refine ⟨fun x hx => j11.2.2.2.2.2.2.2 x (cut0_mem (hcur.mem_iff.mp hx)).1, fun x hx => ?_⟩
              obtain ⟨a1, a2⟩ := cut0_mem (hcur.mem_iff.mp hx)
              rw [up_ne a2]
              exact jE.2.2.2.2.2.1 x a1
            have hkyl : 512 * ([] ++ ky).length + l ≤ 1024 * (k + 1) := by
              rw [List.nil_append]
              have := jE.2.2.2.2.2.2.2.1
              omega
            rcases jE.1 with rfl | rfl
            · obtain ⟨x, H1, c1, c2, c3, c4, -, c5⟩ := ri_remove_okQ (M := 48 * (k + 1)) (sc := (L, xs)) (d := 1990) j8 hT0 hv hl1 hl2 hnm hkdt hcht hc0t hV9 (by rw [List.nil_append, List.singleton_append]; exact hws.symm) hX hXN hQ j1 j5 (by omega) (by omega) (by omega) j15 (by omega) (by omega) hopn hK9 h1W (by omega) hr1 hr2 hkrt hcnt
              have h224 : H1[224]? = some (kJ 1 e) := (c5 224 (by decide)).trans j20
              have hr0 : RefI (H1.set 224 (kJ 1 (va_up e 0 x.toInt64))) fa (B * 256) 0 0 cl tb l rs g0 P ms op sm wss kd pa sz nl nm ps := j10.far (fun a a1 a2 => (set_far (by omega)).trans (c5 a a1))
              obtain ⟨z, H2, r1, r2, cur, hcur, r3, r4⟩ := ri_mremove_ok (sc := (L, xs)) (d := 1994) hr0 j11 hv hl1 hl2 hns hkd hch hem
              have hxz : z = x := r2.trans c2.symm
              rw [hxz] at r1
              obtain ⟨us2, ba2, bo2, m2, -⟩ := id r3
              have hlow : ∀ a, a < 195 → H2[a]? = H1[a]? := fun a ha => (r4 a (by omega)).trans (set_far (by omega))
              have h2 : H2[224]? = some (kJ 1 (va_up e 0 x.toInt64)) := (r4 224 (by omega)).trans (get_set h224)
              have h1P := j13.gone hcur
              have hQ2 : UpQ ([] ++ ky) (48 * (k + 1)) H1 B N bb (P + 1) op sm (nB B) (Xb (RlX op sm ms (va_up kd r 0) pa sz nl nm cur)) := inc_Q c3 (by omega) (fun c c1 vs9 Q hx hs1 hI hnew hold hVk => fil_rel hx.1 hs1 hold (fun v hv => (hVk v hv).1) hf9 j12 (rm_rel hx.1.2.2.1 hx.1.2.2.2 hx.1.1.one hVk (by omega) (by rw [hws, gone_eq hrl.2.2.2 hx.1.2.2.2 hrl.1.one hx.1.1.one (fun v hv => by have := (hK7 v hv).1; omega) (fun v hv => by have := (hVk v hv).1; omega) 32]) h1W hcur hI)) (fun c vs hv hx => by
                rw [rlx_need hv hx h1P]
                exact hnd9 cur hcur)
              refine gs_ok20 (c1 := 0) (s1 := 0) (c2 := 0) (s2 := 0) (x := x) hL h j8.1 (by rw [e1]; exact c1) h224 ((c5 195 (by decide)).trans m1) (by rw [e1]; exact r1) m2 rfl h2 (kq.go0 (Or.inl ?_))
              exact hJ.fil hk hmP (c4.far (fun a a1 _ => hlow a (by omega))) (hQ2.nr hlow) r3 (Nat.zero_le _) hT' (hpz9 cur hcur).1 h1P (hnd9 cur hcur) (j17.gone hr1 hr2 hkr (fun f _ => rfl) rfl rfl rfl rfl rfl (fun f _ => rfl)) hT0.kd0 (hpz9 cur hcur).2 hW' hsub (by omega) ⟨_, h2⟩ ⟨rfl, rfl, rfl⟩
            · rcases jE.2.1 with rfl | rfl
              · obtain ⟨H1, nn, hn2, c1, c3, c4, c6, c5⟩ := rx_remove_cutQ (M := 48 * (k + 1)) (sc := (L, xs)) (d := 1990) j8 hT0 hv hl1 hl2 hnm hkdt hcht hc0t hV9 (by rw [List.nil_append, List.singleton_append]; exact hws.symm) j6 hX hXN hQ j1 j7 (by omega) (by omega) (by omega) j15 (by omega) (by omega) hopn hK9 h1W (by omega)
                have hr0 : RefI H1 fa (B * 256) 0 1 0 tb l rs g0 P ms op sm wss kd pa sz nl nm ps := j10.far (fun a a1 a2 => c5 a a1)
                obtain ⟨z, H2, r1, r2, r3, r4⟩ := ri_mremove_lost (sc := (L, xs)) (d := 1994) hr0 j11 hv hl1 hl2 hns hkd hch hem
                obtain ⟨us2, ba2, bo2, m2, -⟩ := id r3
                have hlow : ∀ a, a < 195 → H2[a]? = H1[a]? := fun a ha => r4 a (by omega)
                have h2 : H2[224]? = some (kJ 1 e) := (r4 224 (by omega)).trans ((c5 224 (by decide)).trans j20)
                refine gs_x20_1 (c1 := nn) (s1 := 6 * nn) (c2 := 0) (s2 := 0) hL h j8.1 (by rw [e1]; exact c1) ((c5 195 (by decide)).trans m1) (by rw [e1]; exact r1) m2 rfl (kq H2 nn hn2 (Or.inr ?_))
                exact hJ.filD hk (Nat.le_refl _) (by omega) (Or.inl rfl) (c4.far (fun a a1 _ => hlow a (by omega))) ((cut_D c3 (by omega) c6).nr hlow) r3 hTR j11.2.2.2.2.2.2.2 j13 j14 jE.2.2.2.2.2.1 jE.2.2.2.2.2.2.2.2 hsub (by omega) ⟨_, h2⟩ ⟨rfl, rfl, rfl⟩
              · obtain ⟨H1, nn, hn2, c1, c3, c4, c6, c5⟩ := rx_remove_lateQ (M := 48 * (k + 1)) (sc := (L, xs)) (d := 1990) j8 hT0 hv hl1 hl2 hnm hkdt hcht hc0t hV9 (by rw [List.nil_append, List.singleton_append]; exact hws.symm) hX hXN hQ j1 j5 (by omega) (by omega) (by omega) j15 (by omega) (by omega) hopn hK9 h1W (by omega) (by omega)
                have hr0 : RefI H1 fa (B * 256) 0 1 1 tb l rs g0 P ms op sm wss kd pa sz nl nm ps := j10.far (fun a a1 a2 => c5 a a1)
                obtain ⟨z, H2, r1, r2, cur, hcur, r3, r4⟩ := ri_mremove_late (sc := (L, xs)) (d := 1994) hr0 j11 hv hl1 hl2 hns hkd hch hem
                obtain ⟨us2, ba2, bo2, m2, -⟩ := id r3
                have hlow : ∀ a, a < 195 → H2[a]? = H1[a]? := fun a ha => r4 a (by omega)
                have h2 : H2[224]? = some (kJ 1 e) := (r4 224 (by omega)).trans ((c5 224 (by decide)).trans j20)
                have hD := lat_D (op := op) c3 h1W c6 (fun c c1 vs9 Q hx hs1 hI hnew hold hVk => fil_rel0 hx.1 (fun j hj q => by rw [dnO_no hj] at q; exact absurd q Bool.false_ne_true) hs1 hold (fun v hv => (hVk v hv).1) hf9 (rm_rel hx.1.2.2.1 hx.1.2.2.2 hx.1.1.one hVk (by omega) (by rw [hws, gone_eq hrl.2.2.2 hx.1.2.2.2 hrl.1.one hx.1.1.one (fun v hv => by have := (hK7 v hv).1; omega) (fun v hv => by have := (hVk v hv).1; omega) 32]) h1W hcur hI))
                refine gs_x20_1 (c1 := nn) (s1 := 6 * nn) (c2 := 0) (s2 := 0) hL h j8.1 (by rw [e1]; exact c1) ((c5 195 (by decide)).trans m1) (by rw [e1]; exact r1) m2 rfl (kq H2 nn hn2 (Or.inr ?_))
                exact hJ.filD hk (Nat.le_succ _) (Nat.le_refl _) (Or.inr rfl) (c4.far (fun a a1 _ => hlow a (by omega))) (hD.nr hlow) r3 hT' (hpz9 cur hcur).1 (j13.gone hcur) (hnd9 cur hcur) (hpz9 cur hcur).2 hW' hsub (by omega) ⟨_, h2⟩ ⟨rfl, rfl, rfl⟩
          · have hk2 : kd r = 2 := Classical.not_not.mp (fun q => hc0 (fl_child jE.2.2.2.2.2.2.2.2 q))
            obtain ⟨H1, c1, c4, c5⟩ := rx_remove_full (sc := (L, xs)) (d := 1990) j8 hT0 hv hl1 hl2 hnm hkdt hcht (by rw [same_cnt j17 r]; exact hc0)
            have hr0 : RefI H1 fa (B * 256) 0 cw cl tb l rs g0 P ms op sm wss kd pa sz nl nm ps := j10.far (fun a a1 a2 => c5 a (by omega))
            obtain ⟨z, H2, r1, r2, r3, r4⟩ := ri_mremove_full (sc := (L, xs)) (d := 1994) hr0 j11 hv hl1 hl2 hns hkd hch hk2 (by omega)
            obtain ⟨us2, ba2, bo2, m2, -⟩ := id r3
            exact gs_x20_4 (c1 := 1) (s1 := 6) (c2 := 0) (s2 := 0) hL h j8.1 (by rw [e1]; exact c1) ((c5 195 (by omega)).trans m1) (by rw [e1]; exact r1) m2 rfl (kq.go1 (Or.inl (hJ.row (cw' := cw) (cl' := cl) (cp' := cp) (cb' := cb) (fa' := 4) (tb' := tb) (l' := 0) hk (c4.far (fun a a1 _ => r4 a (by omega))) r3 jE.1 jE.2.1 (Nat.zero_le _) (Nat.zero_le _) j6 j7 (fun a ha => (r4 a (by omega)).trans (c5 a (by omega))) ⟨e, (r4 224 (by omega)).trans ((c5 224 (by omega)).trans j20)⟩)))
      · obtain ⟨H1, c1, c4, c5⟩ := rx_remove_nodir (sc := (L, xs)) (d := 1990) j8 hT0 hv hl1 hl2 hnm (by rw [j17.1 v hv]; exact hkd)
        have hr0 : RefI H1 fa (B * 256) 0 cw cl tb l rs g0 P ms op sm wss kd pa sz nl nm ps := j10.far (fun a a1 a2 => c5 a (by omega))
        obtain ⟨z, H2, r1, r2, r3, r4⟩ := ri_mremove_no (sc := (L, xs)) (d := 1994) hr0 j11 hv hl1 hl2 hns hkd
        obtain ⟨us2, ba2, bo2, m2, -⟩ := id r3
        exact gs_x20_3 (c1 := 1) (s1 := 6) (c2 := 0) (s2 := 0) hL h j8.1 (by rw [e1]; exact c1) ((c5 195 (by omega)).trans m1) (by rw [e1]; exact r1) m2 rfl (kq.go1 (Or.inl (hJ.row (cw' := cw) (cl' := cl) (cp' := cp) (cb' := cb) (fa' := 3) (tb' := tb) (l' := 0) hk (c4.far (fun a a1 _ => r4 a (by omega))) r3 jE.1 jE.2.1 (Nat.zero_le _) (Nat.zero_le _) j6 j7 (fun a ha => (r4 a (by omega)).trans (c5 a (by omega))) ⟨e, (r4 224 (by omega)).trans ((c5 224 (by omega)).trans j20)⟩)))
    · obtain ⟨H1, c1, c4, c5⟩ := rx_remove_bad (sc := (L, xs)) (d := 1990) j8 hl hb
      have hr0 : RefI H1 fa (B * 256) 0 cw cl tb l rs g0 P ms op sm wss kd pa sz nl nm ps := j10.far (fun a a1 a2 => c5 a (by omega))
      obtain ⟨z, H2, r1, r2, r3, r4⟩ := ri_mremove_bad (sc := (L, xs)) (d := 1994) hr0 j11 hb
      obtain ⟨us2, ba2, bo2, m2, -⟩ := id r3
      exact gs_x20_0 (c1 := 1) (s1 := 6) (c2 := 0) (s2 := 0) hL h j8.1 c1 ((c5 195 (by omega)).trans m1) r1 m2 rfl (kq.go1 (Or.inl (hJ.row (cw' := cw) (cl' := cl) (cp' := cp) (cb' := cb) (fa' := 1) (tb' := tb) (l' := l) hk (c4.far (fun a a1 _ => r4 a (by omega))) r3 jE.1 jE.2.1 j11.1 (by omega) j6 j7 (fun a ha => (r4 a (by omega)).trans (c5 a (by omega))) ⟨e, (r4 224 (by omega)).trans ((c5 224 (by omega)).trans j20)⟩)))
  · obtain ⟨d1, d2, d3, d4, d5, d6, d7, d8, d9, d10, d11, d12, d13, d14, d15, d16, d17, jE, e, d19⟩ := id hJ
    obtain ⟨us, ba, bo, m1, hF, hG, qV, hR⟩ := hJ.fld hk
    obtain ⟨-, -, -, -, -, q5, q6, qR, qT, q8, q9, -⟩ := d9.cells
    have hl := d10.1
    by_cases hb : (∃ t, xs (i + 1) = nI t ∧ t < 201) ∧ 1 ≤ l ∧ l ≤ 30 ∧ noSl tb 0 l
    · obtain ⟨⟨v, e1, hv⟩, hl1, hl2, hns⟩ := hb
      have hv : v ≤ 200 := by omega
      have hnm := (nosl_iff (tb := tb) (l := l) (i := 0) (n := l) (by omega)).mp hns
      obtain ⟨H1, c1, c4, c5⟩ := rx_remove_down (sc := (L, xs)) (d := 1990) d7 hv hl1 hl2 hnm
      have hr0 : RefI H1 fa (B * 256) 1 cw cl tb l rs g0 P ms op sm wss kd pa sz nl nm ps := d9.far (fun a a1 a2 => c5 a (by omega))
      obtain ⟨z, H2, r1, r2, r3, r4⟩ := ri_mremove_down (sc := (L, xs)) (d := 1994) hr0 d10 hv hl1 hl2 hns
      obtain ⟨us2, ba2, bo2, m2, -⟩ := id r3
      exact gs_x20_1 (c1 := 1) (s1 := 6) (c2 := 0) (s2 := 0) hL h d7.1 (by rw [e1]; exact c1) ((c5 195 (by omega)).trans m1) (by rw [e1]; exact r1) m2 rfl (kq.go1 (Or.inr (hJ.row (cw' := cw) (cl' := cl) (cp' := cp) (cb' := cb) (fa' := 2) (tb' := tb) (l' := l) hk (c4.far (fun a a1 _ => r4 a (by omega))) r3 jE.1 jE.2.1 d10.1 (by omega) d5 d6 (fun a ha => (r4 a (by omega)).trans (c5 a (by omega))) ⟨e, (r4 224 (by omega)).trans ((c5 224 (by omega)).trans d19)⟩)))
    · obtain ⟨H1, c1, c4, c5⟩ := rx_remove_bad (sc := (L, xs)) (d := 1990) d7 hl hb
      have hr0 : RefI H1 fa (B * 256) 1 cw cl tb l rs g0 P ms op sm wss kd pa sz nl nm ps := d9.far (fun a a1 a2 => c5 a (by omega))
      obtain ⟨z, H2, r1, r2, r3, r4⟩ := ri_mremove_bad (sc := (L, xs)) (d := 1994) hr0 d10 hb
      obtain ⟨us2, ba2, bo2, m2, -⟩ := id r3
      exact gs_x20_0 (c1 := 1) (s1 := 6) (c2 := 0) (s2 := 0) hL h d7.1 c1 ((c5 195 (by omega)).trans m1) r1 m2 rfl (kq.go1 (Or.inr (hJ.row (cw' := cw) (cl' := cl) (cp' := cp) (cb' := cb) (fa' := 1) (tb' := tb) (l' := l) hk (c4.far (fun a a1 _ => r4 a (by omega))) r3 jE.1 jE.2.1 d10.1 (by omega) d5 d6 (fun a ha => (r4 a (by omega)).trans (c5 a (by omega))) ⟨e, (r4 224 (by omega)).trans ((c5 224 (by omega)).trans d19)⟩)))
end S77
