/-! ===== check: the case of the law, from every state of the invariant; written by wip/gen/check2.py ===== -/
theorem sum_ones {α : Type} : ∀ (l : List α), (l.map (fun _ => 1)).sum = l.length
  | [] => rfl
  | a :: l => by
    rw [List.map_cons, List.sum_cons, sum_ones l, List.length_cons]
    omega
theorem cnt_range {kd : Nat → Nat} (n : Nat) : ((List.range n).filter (fun j => !(decide (kd (j + 1) = 0)))).length = sumF (fun f => if kd f = 0 then 0 else 1) n := by
  rw [sumF_range, ← sum_ones]
  have := sum_if (p := fun j => !(decide (kd (j + 1) = 0))) (w := fun _ => 1) (List.range n)
  refine this.symm.trans ?_
  congr 1
  refine List.map_congr_left (fun j _ => ?_)
  by_cases e : kd (j + 1) = 0
  · rw [decide_eq_true e, if_pos e]; rfl
  · rw [decide_eq_false e, if_neg e]; rfl
theorem sumF_le1 {kd : Nat → Nat} : ∀ (n : Nat), sumF (fun f => if kd f = 0 then 0 else 1) n ≤ n
  | 0 => Nat.le_refl _
  | n + 1 => by
    have h := sumF_le1 (kd := kd) n
    show sumF (fun f => if kd f = 0 then 0 else 1) n + (if kd (n + 1) = 0 then 0 else 1) ≤ n + 1
    split <;> omega
theorem nod_cnt {ky : List (List Nat)} {op : Nat → Bool} {sm : Nat → Nat} {P : Nat} {c : Nat → Int8} {vs : List aV} {kd pa sz nl : Nat → Nat} {nm : Nat → Int8} (hs : SrtV vs) (hV : ∀ v ∈ vs, VOk ky P v) (hG : PgV op sm P vs) (hN : NodR c vs kd pa sz nl nm) : ndN vs = sumF (fun f => if kd f = 0 then 0 else 1) 200 := by
  have hM : ∀ v ∈ vs, v.2.1 ≤ P := fun v hv => (hV v hv).1
  have hm : ∀ v, v ∈ vs.filter (fun v => decide (v.1.headD 0 = 1 ∧ v.2.2.2.1 ≠ none)) ↔ NwV vs v ∧ v.1.headD 0 = 1 ∧ v.2.2.2.1 ≠ none := fun v => by
    rw [List.mem_filter, decide_eq_true_iff]
    constructor
    · rintro ⟨h1, h2, h3⟩
      have hu : usV v = false := by
        unfold usV
        refine decide_eq_false (fun e => ?_)
        cases hk : v.1 with
        | nil =>
          rw [hk] at h2
          exact absurd h2 (by decide)
        | cons a t =>
          rw [hk] at h2 e
          have h2 : a = 1 := h2
          have e := Option.some.inj e
          omega
      have ho : ouV v = false := decide_eq_false h3
      have hk := hG v h1
      unfold keepS at hk
      rw [Bool.or_eq_true] at hk
      rcases hk with q | q
      · exact ⟨((need_file hM h1 hu).mp q).1, h2, h3⟩
      · rw [ho, Bool.and_false] at q
        cases q
    · rintro ⟨h1, h2, h3⟩
      exact ⟨h1.1, h2, h3⟩
  have hperm : ((vs.filter (fun v => decide (v.1.headD 0 = 1 ∧ v.2.2.2.1 ≠ none))).map (fun v => v.1)).Perm (((List.range 200).filter (fun j => !(decide (kd (j + 1) = 0)))).map (fun j => [1, j + 1])) := by
    refine perm_nd ?_ ?_ (fun z => ?_)
    · refine List.pairwise_map.mpr (List.Pairwise.imp_of_mem ?_ (List.Pairwise.sublist List.filter_sublist hs))
      intro u v hu hv q e
      have e1 : u.1 = v.1 := e
      have hu := (hm u).mp hu
      have hv := (hm v).mp hv
      rcases q with q | q
      · rw [e1, cmpL_self] at q; exact absurd q (by decide)
      · have := hv.1.2 u hu.1.1 e1
        omega
    · refine List.pairwise_map.mpr (List.Pairwise.imp ?_ (List.Pairwise.sublist List.filter_sublist List.nodup_range))
      intro a b hab e
      injection e with _ e
      injection e with e _
      exact hab (by omega)
    · constructor
      · intro hz
        obtain ⟨v, hv, ez⟩ := List.mem_map.mp hz
        obtain ⟨v1, v2, v3⟩ := (hm v).mp hv
        rw [← ez]
        rcases (hV v v1.1).2.1 with ⟨k, q1, -⟩ | ⟨f, q1, q2, q3, q4⟩ | ⟨f, i, q1, q2, q3, q4⟩
        · rw [q1] at v2
          exact absurd v2 (by show ¬ 0 = 1; decide)
        · obtain ⟨k1, k2⟩ := (hN f q2 q3 _).mp ⟨v, v1, q1, valV_of v3⟩
          refine List.mem_map.mpr ⟨f - 1, List.mem_filter.mpr ⟨List.mem_range.mpr (by omega), ?_⟩, ?_⟩
          · rw [show f - 1 + 1 = f by omega, decide_eq_false k1]; rfl
          · rw [show f - 1 + 1 = f by omega]
            exact q1.symm
        · rw [q1] at v2
          exact absurd v2 (by show ¬ 2 = 1; decide)
      · intro hz
        obtain ⟨j, j1, j2⟩ := List.mem_map.mp hz
        obtain ⟨j3, j4⟩ := List.mem_filter.mp j1
        have j3 := List.mem_range.mp j3
        have hk : kd (j + 1) ≠ 0 := fun e => by
          rw [decide_eq_true e] at j4
          exact Bool.noConfusion j4
        obtain ⟨v, v1, v2, v3⟩ := (hN (j + 1) (by omega) (by omega) _).mpr ⟨hk, rfl⟩
        obtain ⟨s1, s2⟩ := valV_some v3
        exact List.mem_map.mpr ⟨v, (hm v).mpr ⟨v1, by rw [v2]; rfl, s1⟩, by rw [v2]; exact j2⟩
  have h2 := hperm.length_eq
  rw [List.length_map, List.length_map, cnt_range] at h2
  exact h2
theorem same_hup {t : aTr} {kd pa sz nl : Nat → Nat} {nm : Nat → Int8} (h : SameT t kd pa sz nl nm) (hW : TrW kd pa) (hT : TreeOk kd pa sz nl) : ∀ v, 1 ≤ v → v ≤ 200 → ¬ t.1 v = 0 → t.1 (t.2.1 v) = 2 ∧ upF t.2.1 0 201 v = 0 := fun v h1 h2 h3 => by
  refine ⟨same_par h hW hT v h1 h2 h3, ?_⟩
  rw [h.1 v h2] at h3
  rw [same_up h hW (fun x hx => (hT x hx).2.1) 201 v h2 h3]
  obtain ⟨m, hm⟩ := (hW.2 v h1 h2 h3).2
  exact (up_201 (fun x hx => (hT x hx).2.1) h2 hm).2
section S89
variable {L i k kc ks : Nat} {xs : Nat → Int32} {Q : tO × aH × Nat × Nat → Prop} {H : aH}
theorem iv_check (hL : L < 2 ^ 30) (h : i + 6 ≤ L) (hI : InvI k H) (hk : k < 512) (kq : Hd L xs i kc ks Q (k + 1)) : RQ (L, xs) 2000 mr_law 1291 [(4, .int (nI i)), (3, .ref 225), (2, .ref 196), (1, .ref 1), (0, .ref 0)] [] H kc ks Q := by
  rcases hI with ⟨ky, B, N, P, bb, cw, cl, cp, cb, tb, l, g, rl, wss, t0, op, sm, ms, kd, pa, sz, nl, nm, ps, fa, rs, g0, hJ⟩ | ⟨ky, B, N, P, cw, cl, cp, cb, tb, l, g, rl, wss, t0, op, sm, ms, kd, pa, sz, nl, nm, ps, fa, rs, g0, hJ⟩
  · obtain ⟨j1, j2, j3, j4, j5, j6, j7, j8, j9, j10, j11, j12, j13, j14, j15, j16, j17, j18, j19, jE, e, j20⟩ := id hJ
    obtain ⟨us, ba, bo, m1, hF, hG, qV, hR⟩ := hJ.fld hk
    obtain ⟨-, -, -, -, -, q5, q6, qR, qT, q8, q9, -⟩ := j10.cells
    have hTR := j11.2.2.2.2.1
    have hT0 := jE.2.2.2.1
    have hTW := jE.2.2.2.2.2.2.2.2
    obtain ⟨S, lgs, fr, ff, wr, tp, rs9, us9, c, P1, gs, vs, tss, Lc, u1, u2, u3, u4, u5, u6⟩ := id j9
    have hK7 := u2.2.2.2.2.2.2.1
    have hcnt := nod_cnt u3.1.1 hK7 u4 u3.1.2.2.1
    obtain ⟨x, H1, c1, c2, c4, c6, c5⟩ := ri_check (sc := (L, xs)) (d := 1990) j8 hT0 u1 u2 (same_hup j17 hTW hTR) (hcnt.trans j17.2.2.symm) (by rw [j17.2.2]; exact sumF_le1 200) (by omega) (by omega)
    have hQ1 : UpQ ky (48 * k) H1 B N bb P op sm (nB B) (Xb (RlX op sm ms kd pa sz nl nm ps)) := ⟨S, lgs, fr, ff, wr, tp, rs9, us9, c, P1, gs, vs, tss, Lc, c6, u2, u3, u4, u5, u6⟩
    have h224 : H1[224]? = some (kJ 1 e) := (c5 224 (by omega)).trans j20
    have hr0 : RefI (H1.set 224 (kJ 1 (va_up e 0 x.toInt64))) fa (B * 256) 0 cw cl tb l rs g0 P ms op sm wss kd pa sz nl nm ps := j10.far (fun a b1 b2 => (set_far (by omega)).trans (c5 a (by omega)))
    obtain ⟨z, H2, r1, r2, r3, r4⟩ := ri_mcheck_ok (sc := (L, xs)) (d := 1994) hr0 j11
    have hxz : z = x := by rw [r2, c2, j17.2.2, rel_keys u3.1.2.1]
    rw [hxz] at r1
    obtain ⟨us2, ba2, bo2, m2, -⟩ := id r3
    have hlow : ∀ a, a < 195 → H2[a]? = H1[a]? := fun a ha => (r4 a (by omega)).trans (set_far (by omega))
    have h2 : H2[224]? = some (kJ 1 (va_up e 0 x.toInt64)) := (r4 224 (by omega)).trans (get_set h224)
    exact gs_ok18 (c1 := 0) (s1 := 0) (c2 := 0) (s2 := 0) (x := x) hL h j8.1 c1 h224 ((c5 195 (by omega)).trans m1) r1 m2 rfl h2 (kq.go0 (Or.inl ⟨ky, B, N, P, bb, cw, cl, cp, cb, tb, l, g, rl, wss, t0, op, sm, ms, kd, pa, sz, nl, nm, ps, 0, rs, g0, j1, j2, by omega, by omega, j5, j6, j7, c4.far (fun a b1 _ => hlow a (by omega)), hQ1.low (by omega) (fun a ha => hlow a (by omega)), r3, j11, j12, j13, j14, j15, j16, j17, j18, j19, jE.to (by omega) (Nat.le_refl _) (Nat.le_refl _) (Nat.le_refl _) (fun _ _ q => q), _, h2⟩))
  · obtain ⟨d1, d2, d3, d4, d5, d6, d7, d8, d9, d10, d11, d12, d13, d14, d15, d16, d17, jE, e, d19⟩ := id hJ
    obtain ⟨us, ba, bo, m1, hF, hG, qV, hR⟩ := hJ.fld hk
    obtain ⟨-, -, -, -, -, q5, q6, qR, qT, q8, q9, -⟩ := d9.cells
    obtain ⟨H1, c1, c4, c5⟩ := rx_check_down (sc := (L, xs)) (d := 1990) d7
    have hr0 : RefI H1 fa (B * 256) 1 cw cl tb l rs g0 P ms op sm wss kd pa sz nl nm ps := d9.far (fun a a1 a2 => c5 a (by omega))
    obtain ⟨z, H2, r1, r2, r3, r4⟩ := ri_mcheck_down (sc := (L, xs)) (d := 1994) hr0 d10
    obtain ⟨us2, ba2, bo2, m2, -⟩ := id r3
    exact gs_x18_1 (c1 := 1) (s1 := 6) (c2 := 0) (s2 := 0) hL h d7.1 c1 ((c5 195 (by omega)).trans m1) r1 m2 rfl (kq.go1 (Or.inr (hJ.row (cw' := cw) (cl' := cl) (cp' := cp) (cb' := cb) (fa' := 1) (tb' := tb) (l' := l) hk (c4.far (fun a a1 _ => r4 a (by omega))) r3 jE.1 jE.2.1 d10.1 (by omega) d5 d6 (fun a ha => (r4 a (by omega)).trans (c5 a (by omega))) ⟨e, (r4 224 (by omega)).trans ((c5 224 (by omega)).trans d19)⟩)))
end S89
