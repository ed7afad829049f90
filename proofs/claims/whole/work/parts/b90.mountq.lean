/-! ===== a mount against the reference: class; by hand ===== -/
theorem xc_pg {op : Nat → Bool} {sm : Nat → Nat} {P : Nat} {X : (Nat → Int8) → List aV → Prop} (h : XC op sm P X) : XC op sm P (fun c vs => X c vs ∧ PgV op sm P vs) := ⟨fun c c' vs hv hx => ⟨h.1 c c' vs hv hx.1, hx.2⟩, fun c vs hs hp hx => ⟨h.2.1 c vs hs hp hx.1, PgV.purge⟩, fun c c' vs blk Q hs hp hv hx => ⟨h.2.2 c c' vs blk Q hs hp hv hx.1, PgV.purge⟩⟩
theorem rlx_chip {op : Nat → Bool} {sm : Nat → Nat} {ms : List aMV} {kd pa sz nl : Nat → Nat} {nm : Nat → Int8} {ps : List aPc} {c c' : Nat → Int8} {vs : List aV} (h : RlX op sm ms kd pa sz nl nm ps c vs) (hv : ∀ v ∈ vs, v.2.2.2.1 ≠ none → valB c' v = valB c v) : RlX op sm ms kd pa sz nl nm ps c' vs := by
  obtain ⟨h1, h2, h3, h4⟩ := h
  exact ⟨h1, h2.same h1.one (same_chip hv), h3.val (val_chip hv), h4.val (val_chip hv)⟩
theorem pg_ss {op : Nat → Bool} {sm : Nat → Nat} {P : Nat} {vs : List aV} (ho : ∀ t, t < 8 → op t = false) (hs : SrtV vs) (hP : ∀ v ∈ vs, v.2.1 ≤ P) (hG : PgV op sm P vs) : SS vs := by
  refine List.Pairwise.imp_of_mem ?_ hs
  intro u v hu hv q
  rcases q with q | ⟨q1, q2⟩
  · exact q
  · have := ((stk_nw hP hv).mp (keep_closed ho (hG v hv)).1).2 u hu q1
    omega
theorem T0_ok {t : aTr} (h : TreeOk t.1 t.2.1 t.2.2.1 t.2.2.2.1) : TreeOk (T0 t).1 (T0 t).2.1 (T0 t).2.2.1 (T0 t).2.2.2.1 := fun v hv => by
  refine ⟨?_, (h v hv).2⟩
  show va_up (fun j => if j < 201 then 0 else t.1 j) 0 2 v ≤ 2
  by_cases e : v = 0
  · rw [e, up_at]
    exact Nat.le_refl _
  · rw [up_ne e, if_pos (by omega)]
    exact Nat.zero_le _
theorem ld_ok {c : Nat → Int8} {kd pa sz nl : Nat → Nat} {nm : Nat → Int8} (hk : TreeOk kd pa sz nl) : ∀ (vs : List aV) (t : aTr), TreeOk t.1 t.2.1 t.2.2.1 t.2.2.2.1 → (∀ v ∈ vs, v.1.headD 0 = 1 → v.2.2.2.1 ≠ none → v.1.getD 1 0 ≤ 200 ∧ valB c v = nodB kd pa sz nl nm (v.1.getD 1 0)) → TreeOk (vs.foldl (ldT c) t).1 (vs.foldl (ldT c) t).2.1 (vs.foldl (ldT c) t).2.2.1 (vs.foldl (ldT c) t).2.2.2.1
  | [], t, h, _ => h
  | v :: vs, t, h, hv => by
    rw [List.foldl_cons]
    refine ld_ok hk vs _ ?_ (fun u hu => hv u (List.mem_cons_of_mem _ hu))
    by_cases e : v.1.headD 0 = 1 ∧ v.2.2.2.1 ≠ none
    · obtain ⟨q2, q4⟩ := hv v List.mem_cons_self e.1 e.2
      have hkf := hk _ q2
      generalize hf : v.1.getD 1 0 = f at *
      have hval : sl c (v.2.2.1 + 8 + v.1.length) (v.2.2.2.1.getD 0) = nodB kd pa sz nl nm f := by
        rw [← q4]
        unfold valB
        rfl
      unfold nodB at hval
      obtain ⟨r1, r2, r3, r4, r5⟩ := nod_read hval (sl_length nm (nl f) (f * 30)) (by omega)
      have e9 : ldT c t v = setT f (kd f) (pa f) (sz f) (nl f + 4 - 4) c (v.2.2.1 + 8 + v.1.length + 4) t := by
        unfold ldT
        rw [if_pos e, hf, r2, r3, r4, r1]
      rw [e9]
      exact h.set hkf.1 hkf.2.1 hkf.2.2.1 (by omega)
    · rw [show ldT c t v = t from if_neg e]
      exact h
/-- the store has gone down for a mount: what the chip holds is what the reference kept -/
def MtQ (ky : List (List Nat)) (M : Nat) (H : aH) (B N bb P : Nat) (op : Nat → Bool) (sm : Nat → Nat) (ms : List aMV) (kd pa sz nl : Nat → Nat) (nm : Nat → Int8) (ps : List aPc) : Prop := ∃ S c P0 fr0 ff0 lgs0 rs0 gs0 tss L jk vg ms0, DnA H B N bb S op sm c P0 fr0 ff0 lgs0 rs0 gs0 ∧ (∀ t, t < 8 → op t = false) ∧ RsOk c B rs0 tss ∧ (∀ t ∈ tss, SortE t) ∧ WTab vg tss.flatten ∧ WLog vg tss.flatten L ∧ gs0.flatMap flG = L.flatMap chX ++ jk ∧ JkS ky jk ∧ L.foldl (fun _ x => x.1) P0 = P ∧ (∀ v ∈ vg, VOk ky P v) ∧ (∀ e ∈ tss.flatten, EP ky P e) ∧ (∀ x ∈ L, LgP ky P x) ∧ OneV vg ∧ (∀ v ∈ vg, RecW c lgs0 v) ∧ RlX op sm ms0 kd pa sz nl nm ps c vg ∧ ms = ms0.filter (keepM op sm P (kmM ms0)) ∧ RmK B M S lgs0 rs0 0
/-- what a chip holds that lost its power within a mount -/
def CX (op : Nat → Bool) (sm : Nat → Nat) (P : Nat) (ms : List aMV) (kd pa sz nl : Nat → Nat) (nm : Nat → Int8) (ps : List aPc) : (Nat → Int8) → List aV → Prop := fun c vs => ∃ ms0, RlX op sm ms0 kd pa sz nl nm ps c vs ∧ ms = ms0.filter (keepM op sm P (kmM ms0))
theorem dnO_self {op : Nat → Bool} (h : ∀ t, t < 8 → op t = false) : dnO op = op := by
  funext j
  unfold dnO
  by_cases e : j < 8
  · rw [if_pos e, h j e]
  · rw [if_neg e]
section MT
variable {ky : List (List Nat)} {M : Nat} {sc : Nat × (Nat → Int32)} {d : Nat} {H : aH} {B P bb : Nat} {cw cl : Int32} {cp cb : Nat} {tb : Nat → Int8} {g : Nat → Int8} {wss : Nat → List aE} {t0 : aTr} {N : Nat} {op : Nat → Bool} {sm : Nat → Nat} {ms : List aMV} {kd pa sz nl : Nat → Nat} {nm : Nat → Int8} {ps : List aPc}
theorem MtQ.arm {n k : Nat} (h : MtQ ky M H B N bb P op sm ms kd pa sz nl nm ps) (hk : k ≤ n) (hk2 : k < 2 ^ 31) (hcb : cb < 2 ^ 31) : MtQ ky M (H.set 71 (kO 1 [.ref 73, .ref 74, .int (lI (some k)), .int (nI cb), .int (nI 0)])) B N (cb + 2 ^ 32 * (n + 2)) P op sm ms kd pa sz nl nm ps := by
  obtain ⟨S, c, P0, fr0, ff0, lgs0, rs0, gs0, tss, L, jk, vg, ms0, m1, mr⟩ := h
  exact ⟨S, c, P0, fr0, ff0, lgs0, rs0, gs0, tss, L, jk, vg, ms0, dn_arm m1 hk hk2 hcb, mr⟩
theorem MtQ.chip (h : MtQ ky M H B N bb P op sm ms kd pa sz nl nm ps) : ∃ cf tf pq bb1, ChipAt H B cf tf pq bb1 0 := by
  obtain ⟨S, c, P0, fr0, ff0, lgs0, rs0, gs0, tss, L, jk, vg, ms0, m1, mr⟩ := h
  obtain ⟨⟨tf, pq, ms9, sq, e1, -⟩, -⟩ := m1
  exact ⟨_, _, _, _, e1⟩
/-- the store was up -/
theorem up_mt {n : Nat} {up : Int32} {l rl : Nat} (hA : ClsA H B P up cw cl cp cb tb l g rl wss t0) (hU : UpQ ky M H B N bb P op sm n (Xb (RlX op sm ms kd pa sz nl nm ps))) : RN sc (d + 3) mr_155 [.ref 1] H (fun H' => ClsA H' B 0 0 cw cl cp cb tb 0 g 0 wss (T0 t0) ∧ MtQ ky M H' B N bb P (dnO op) sm (ms.filter (keepM (dnO op) sm P (kmM ms))) kd pa sz nl nm ps ∧ ∀ a, 195 ≤ a → H'[a]? = H[a]?) := by
  obtain ⟨S, lgs, fr, ff, wr, tp, rs, us, c, P1, gs, vs, tss, L, u1, ⟨w1, w2, w3, w4, w5, w6, w7, w8, w9⟩, u3, u4, u5, u6⟩ := hU
  obtain ⟨H', k1, k2, k3, k4⟩ := rn_goDownU (sc := sc) (d := d) hA u1
  exact ⟨H', k1, k2, ⟨S, c, P1, fr, ff, lgs, rs, gs, tss, L, [], vs, ms, k3, fun t ht => dnO_no ht, w1, w2, w3, w4, by rw [List.append_nil]; exact w5, JkS.nil, w6, w7, w8, w9, u3.1.1.one, fun v hv => (u1.2.2.2.2.2.2.2.1 v hv).1, u3.1.cl (fun t ht => dnO_no ht), rfl, u5⟩, k4⟩
/-- the store was down -/
theorem dn_mt {Pc : Nat} {up : Int32} {l rl : Nat} (hA : ClsA H B Pc up cw cl cp cb tb l g rl wss t0) (hU : DnQ ky M H B N P op sm ms kd pa sz nl nm ps) (hM : PrM op sm P ms) : ∃ b, b < 2 ^ 31 ∧ RN sc (d + 3) mr_155 [.ref 1] H (fun H' => ClsA H' B 0 0 cw cl cp cb tb 0 g 0 wss (T0 t0) ∧ MtQ ky M H' B N b P (dnO op) sm (ms.filter (keepM (dnO op) sm P (kmM ms))) kd pa sz nl nm ps ∧ ∀ a, 195 ≤ a → H'[a]? = H[a]?) := by
  obtain ⟨b, S, lgs, rs, c, vs, tss, L, ms0, h1, h2, ⟨P0, fr0, ff0, gs0, jk, f1, f2, f3, f4, f5, f6, f7, f8, f9, f10, f11, f12, f13⟩, h4, h5, h6, h7⟩ := hU
  obtain ⟨H', k1, k2, k3, k4⟩ := rn_goDownD (sc := sc) (d := d) hA f1
  refine ⟨b % 2 ^ 32, h1, H', k1, k2, ?_, k4⟩
  rw [dnO_self h2, List.filter_eq_self.mpr (fun m hm => hM m hm)]
  have e : (fun j => if j < 8 then false else op j) = op := dnO_self h2
  rw [e] at k3
  exact ⟨S, c, P0, fr0, ff0, lgs, rs, gs0, tss, L, jk, vs, ms0, k3, h2, f2, f3, f4, f5, f6, f7, f8, f9, f10, f11, f12, f13, h4, h5, h6⟩
set_option maxRecDepth 20000 in
/-- mending, whole -/
theorem mend_Q (hA : ClsA H B 0 0 cw cl cp cb tb 0 g 0 wss (T0 t0)) (h : MtQ ky M H B N bb P op sm ms kd pa sz nl nm ps) (hky : ky.length ≤ 1024) (hB : B = 64 ∨ B = 96 ∨ B = 128) (hN : N = 20 * B) (hbb : bb % 2 ^ 32 < 2 ^ 31) (hM : M + 2 < 2 ^ 30) (hP : P < 2 ^ 30) (hsm : ∀ t, t < 8 → sm t < 2 ^ 31) (hp : OneP ps) (hnd : ndR op sm (-1) P ms kd nl ps ≤ B * 256) (hT : TreeOk kd pa sz nl) (hW : TrW kd pa) (hz : RtZ t0 pa sz nl) (hT0 : TreeOk t0.1 t0.2.1 t0.2.2.1 t0.2.2.2.1) : RB sc (d + 7) mr_179 [.ref 1] H (fun H' => ∃ t1, UpQ ky (M + 2) H' B N bb P op sm (nB B) (Xb (RlX op sm ms kd pa sz nl nm ps)) ∧ ClsA H' B P 0 cw cl cp cb tb 0 g 0 wss t1 ∧ SameT t1 kd pa sz nl nm ∧ TreeOk t1.1 t1.2.1 t1.2.2.1 t1.2.2.2.1 ∧ ∀ a, 195 ≤ a → H'[a]? = H[a]?) (fun H' => CutP ky (M + 2) H' B N bb P op sm (CX op sm P ms kd pa sz nl nm ps) ∧ ClsA H' B P 0 cw cl cp cb tb 0 g 0 wss (T0 t0) ∧ ∀ a, 195 ≤ a → H'[a]? = H[a]?) := by
  obtain ⟨S, c, P0, fr0, ff0, lgs0, rs0, gs0, tss, L, jk, vg, ms0, m1, m2, m3, m4, m5, m6, m7, m8, m9, m10, m11, m12, m13, m14, m15, m16, k1, k2, k3, k4⟩ := h
  have hX0 : RlX op sm ms kd pa sz nl nm ps c (mtV op sm P tss.flatten L) := by
    rw [m16]
    exact rlx_mount m2 m2 m5 m6 (fun v hv => (m10 v hv).1) m15
  have hmK : ∀ v ∈ mtV op sm P tss.flatten L, VOk ky P v := fun v hv => by
    obtain ⟨a, ha⟩ := mt_nw m2 m5 m6 m13 hv
    obtain ⟨b1, b2, b3⟩ := m10 _ ha.1
    exact ⟨b1, b2.same rfl rfl, b3⟩
  have hpg : PgV op sm P (mtV op sm P tss.flatten L) := PgV.purge
  have hlen : (mtV op sm P tss.flatten L).length ≤ 1024 := by
    have h9 := len_sub ((mtV op sm P tss.flatten L).map (fun v => v.1)) ky mt_ss.keys (fun x hx => by
      obtain ⟨v, hv, rfl⟩ := List.mem_map.mp hx
      exact (hmK v hv).2.2.2)
    rw [List.length_map] at h9
    omega
  have hsum : sumN op sm (-1) P (kmV (mtV op sm P tss.flatten L)) (mtV op sm P tss.flatten L) ≤ B * 256 := by
    rw [rlx_need hmK hX0 hp]
    exact hnd
  have hKW : ∀ v ∈ mtV op sm P tss.flatten L, KeyW v := fun v hv => (hmK v hv).2.1.w
  have hld : ∀ b, ldN (mtV op sm P tss.flatten L) b < 2 ^ 31 := fun b => by
    have h1 := ld_logs (lgs := [b]) (List.pairwise_singleton _ _) (mtV op sm P tss.flatten L)
    have h2 := val_need hpg
    rw [List.map_cons, List.map_nil, List.sum_cons, List.sum_nil] at h1
    omega
  have hal := alB_le (vs := mtV op sm P tss.flatten L) (fun v hv => (hKW v hv).2.1)
  obtain ⟨r1, r2, r3⟩ := ren_room (tp := 0) hsum (by omega) (by omega) hpg hKW
  have hO := m1.2.1
  have htb := tbK_le hO
  have hfl := frL_len hO
  have hes := encR_sum rs0
  have hP0 : P0 < 2 ^ 31 := by
    obtain ⟨⟨tf, pq, ms9, sq, e1, e2, e3, -⟩, -⟩ := id m1
    exact e3.2
  have hpr : PrM op sm P ms := by
    rw [m16]
    exact PrM.purge
  refine (rb_mendW (d := d) (T := B / 8) (X := fun c vs => RlX op sm ms kd pa sz nl nm ps c vs ∧ PgV op sm P vs) hA.1 hA.2.2.2.2.2.2.2.2.2 m1 m2 hsm m3 m4 m5 m6 m7 m8 m9 m10 m11 m12 m13 m14 (by omega) (by omega) (by omega) (by omega) hbb (by omega) hP0 hP k2 hld (by omega) (by omega) (fun k hk => by omega) (by omega) k1 (by omega) r3 (by omega) r1 (by omega) (xc_pg (xc_rel hpr)) ⟨hX0, hpg⟩ k4).mono ?_ ?_
  · rintro H' ⟨⟨S', lgs, fr, ff, wr, tp, rs, us, c', gs, vs, tss', q0, y4, y5, ⟨q1, qg⟩, q2, q3, q4, ql, qT⟩, hh0, hf⟩
    have hV : ∀ v ∈ vs, VOk ky P v := y5.2.2.2.2.2.2.1
    have hna : ∀ v ∈ vs, v.2.2.2.2 = false := fun v hv => by
      cases e : v.2.2.2.2 with
      | false => rfl
      | true =>
        have h9 := y5.2.2.2.1.2.2.2.2 v hv e
        exact absurd (show v ∈ ([] : List aV) from h9) List.not_mem_nil
    have hal0 : aloN vs = 0 := aloN_told hna
    have hN' : sumN op sm (-1) P (kmV vs) vs ≤ B * 256 := by
      rw [rlx_need hV q1 hp]
      exact hnd
    have hss : SS vs := pg_ss m2 q1.1 (fun v hv => (hV v hv).1) qg
    have hS9 : SameT (vs.foldl (ldT c') (T0 (T0 t0))) kd pa sz nl nm := ld_same hT q1.2.2.1 hss hV hW.1 ⟨hz.1.1.trans hz.2.1.symm, hz.1.2.1.trans hz.2.2.1.symm, hz.1.2.2.trans hz.2.2.2.symm, by rw [hz.2.2.2]; rfl⟩
    have hA1 : ClsA (H.set 0 (kO 11 (fvs (nI B) (nI P) 0 cw cl (nI cp) (nI cb)))) B P 0 cw cl cp cb tb 0 g 0 wss (T0 t0) := hA.next (get_set hA.1) (fun a a1 a2 _ => set_far a1)
    refine ⟨_, ⟨S', lgs, fr, ff, wr, tp, rs, us, c', P, gs, vs, tss', [], y4, y5, ⟨q1, by omega⟩, qg, ⟨by omega, by omega, by omega, ql⟩, len_nB qg (fun v hv => (hV v hv).2.1.w) hN' (by omega)⟩, hA1.tree qT (fun a ha => ?_), hS9, ?_, fun a ha => hf a (by omega) (by omega)⟩
    · by_cases e : a = 0
      · rw [e, get_set hA.1]
        exact hh0
      · rw [set_far e]
        exact hf a e (by omega)
    · refine ld_ok (nm := nm) hT vs _ (T0_ok (T0_ok hT0)) (fun v hv hh hn => ?_)
      rcases (hV v hv).2.1 with ⟨k, b1, -⟩ | ⟨f, b1, b2, b3, b4⟩ | ⟨f, i, b1, -⟩
      · rw [b1] at hh; exact absurd (show (0 : Nat) = 1 from hh) (by decide)
      · have hva : ValAt c' vs [1, f] (valB c' v) := ⟨v, ss_nw hss hv, b1, valV_of hn⟩
        obtain ⟨e1, e2⟩ := (q1.2.2.1 f b2 b3 _).mp hva
        rw [b1]
        exact ⟨b3, e2⟩
      · rw [b1] at hh; exact absurd (show (2 : Nat) = 1 from hh) (by decide)
  · rintro H' ⟨hb, hh0, hf⟩
    have hA1 : ClsA H' B P 0 cw cl cp cb tb 0 g 0 wss (T0 t0) := hA.next hh0 (fun a a1 a2 _ => hf a a1 (Or.inl a2))
    refine ⟨?_, hA1, fun a ha => hf a (by omega) (Or.inr ha)⟩
    rcases hb with ⟨c', y1, y2⟩ | ⟨S', c', lgs, rs, vs, tss', L', q0, y1, ⟨q1, qg⟩, q2, q3, q4, ql⟩
    · exact ⟨S, lgs0, rs0, c', vg, tss, L, y1, m15.1, ⟨ms0, rlx_chip m15 (fun v hv => (recs_used hO (m14 v hv) y2).2), m16⟩, k1, k2, by omega, k4⟩
    · refine ⟨S', lgs, rs, c', vs, tss', L', y1, q1.1, ⟨ms, q1, (List.filter_eq_self.mpr (fun m hm => hpr m hm)).symm⟩, by omega, q3, by omega, ql⟩
theorem cx_D {b : Nat} (h : CutP ky M H B N b P (dnO op) sm (CX op sm P ms kd pa sz nl nm ps)) (ho : ∀ t, t < 8 → op t = false) (hb : b % 2 ^ 32 < 2 ^ 31) (hV : VersIs H N []) : DnQ ky M H B N P op sm ms kd pa sz nl nm ps := by
  obtain ⟨S, lgs, rs, c, vs, tss, L, h1, h2, ⟨ms0, h3, h5⟩, h4⟩ := h
  rw [dnO_self ho] at h1
  exact ⟨b, S, lgs, rs, c, vs, tss, L, ms0, hb, ho, h1, h3, h5, h4, hV⟩
/-- a mount that comes through -/
theorem ri_mountQ {Pc : Nat} {up : Int32} {l rl : Nat} (hA : ClsA H B Pc up 0 cl cp cb tb l g rl wss t0) (hGD : RN sc (d + 7) mr_155 [.ref 1] H (fun H' => ClsA H' B 0 0 0 cl cp cb tb 0 g 0 wss (T0 t0) ∧ MtQ ky M H' B N bb P op sm ms kd pa sz nl nm ps ∧ ∀ a, 195 ≤ a → H'[a]? = H[a]?)) (hky : ky.length ≤ 1024) (hB : B = 64 ∨ B = 96 ∨ B = 128) (hN : N = 20 * B) (hbb : bb < 2 ^ 31) (hM : M + 2 < 2 ^ 30) (hP : P < 2 ^ 30) (hsm : ∀ t, t < 8 → sm t < 2 ^ 31) (hp : OneP ps) (hnd : ndR op sm (-1) P ms kd nl ps ≤ B * 256) (hT : TreeOk kd pa sz nl) (hW : TrW kd pa) (hz : RtZ t0 pa sz nl) (hT0 : TreeOk t0.1 t0.2.1 t0.2.2.1 t0.2.2.2.1) : RI sc (d + 8) mr_178 [.ref 1] H (fun x H' => x = nI P ∧ ∃ t1, UpQ ky (M + 2) H' B N bb P op sm (nB B) (Xb (RlX op sm ms kd pa sz nl nm ps)) ∧ ClsA H' B P 1 0 cl cp cb tb 0 g 0 wss t1 ∧ SameT t1 kd pa sz nl nm ∧ TreeOk t1.1 t1.2.1 t1.2.2.1 t1.2.2.2.1 ∧ ∀ a, 195 ≤ a → H'[a]? = H[a]?) := by
  obtain ⟨x, H', r1, r2, H3, ⟨t1, y1, y2, y3, y4, y5⟩, rfl⟩ := ri_mount_ok (P := P) (ok0 := fun H' => ClsA H' B 0 0 0 cl cp cb tb 0 g 0 wss (T0 t0) ∧ MtQ ky M H' B N bb P op sm ms kd pa sz nl nm ps ∧ ∀ a, 195 ≤ a → H'[a]? = H[a]?) (ok1 := fun H' => ∃ t1, UpQ ky (M + 2) H' B N bb P op sm (nB B) (Xb (RlX op sm ms kd pa sz nl nm ps)) ∧ ClsA H' B P 0 0 cl cp cb tb 0 g 0 wss t1 ∧ SameT t1 kd pa sz nl nm ∧ TreeOk t1.1 t1.2.1 t1.2.2.1 t1.2.2.2.1 ∧ ∀ a, 195 ≤ a → H'[a]? = H[a]?) (ok2 := fun H' => ∃ t1, UpQ ky (M + 2) H' B N bb P op sm (nB B) (Xb (RlX op sm ms kd pa sz nl nm ps)) ∧ ClsA H' B P 0 0 cl cp cb tb 0 g 0 wss t1 ∧ SameT t1 kd pa sz nl nm ∧ TreeOk t1.1 t1.2.1 t1.2.2.1 t1.2.2.2.1 ∧ ∀ a, 195 ≤ a → H'[a]? = H[a]?) hA.1 hGD (fun H' q => q.1.1) (fun H' q => by
    obtain ⟨t1, y1, y2, -⟩ := q
    exact y2.1) (fun H' q => (mend_Q q.1 q.2.1 hky hB hN (by omega) hM hP hsm hp hnd hT hW hz hT0).mono (fun H2 z => by
    obtain ⟨t1, y1, y2, y3, y4, y5⟩ := z
    exact ⟨t1, y1, y2, y3, y4, fun a ha => (y5 a ha).trans (q.2.2 a ha)⟩) (fun H2 z => z.1.no hbb)) (fun H' q => by
    obtain ⟨t1, ⟨S, lgs, fr, ff, wr, tp, rs, us, c, P1, gs, vs, tss, L, u1, u2⟩, y2, y3, y4, y5⟩ := q
    obtain ⟨H2, k1, k2, k3, k4⟩ := rn_settleU (sc := sc) (d := d + 6) y2 u1 (by omega)
    exact ⟨H2, k1, t1, ⟨S, lgs, fr, ff, wr, tp, rs, us, c, P1, gs, vs, tss, L, k3, u2⟩, k2, y3, y4, fun a ha => (k4 a (by omega) (by omega)).trans (y5 a ha)⟩) (fun H' q => by
    obtain ⟨t1, y1, y2, -⟩ := q
    exact y2.1)
  exact ⟨x, _, r1, r2, t1, y1.to (fun a ha => set_far (by omega)), y2.next (get_set y2.1) (fun a a1 a2 _ => set_far a1), y3, y4, fun a ha => (set_far (by omega)).trans (y5 a ha)⟩
/-- a mount whose power fails behind it -/
theorem rx_mountLQ {Pc : Nat} {up : Int32} {l rl : Nat} (hA : ClsA H B Pc up 1 1 cp cb tb l g rl wss t0) (hGD : RN sc (d + 7) mr_155 [.ref 1] H (fun H' => ClsA H' B 0 0 1 1 cp cb tb 0 g 0 wss (T0 t0) ∧ MtQ ky M H' B N bb P op sm ms kd pa sz nl nm ps ∧ ∀ a, 195 ≤ a → H'[a]? = H[a]?)) (hky : ky.length ≤ 1024) (hB : B = 64 ∨ B = 96 ∨ B = 128) (hN : N = 20 * B) (hbb : bb < 2 ^ 31) (hM : M + 2 < 2 ^ 30) (hP : P < 2 ^ 30) (hsm : ∀ t, t < 8 → sm t < 2 ^ 31) (hp : OneP ps) (hpm : PrM op sm P ms) (hnd : ndR op sm (-1) P ms kd nl ps ≤ B * 256) (hT : TreeOk kd pa sz nl) (hW : TrW kd pa) (hz : RtZ t0 pa sz nl) (hT0 : TreeOk t0.1 t0.2.1 t0.2.2.1 t0.2.2.2.1) (ho : ∀ t, t < 8 → op t = false) : RXc sc (d + 8) mr_178 [.ref 1] H 1 (fun H' => ∃ t1, DnQ ky (M + 2) H' B N P op sm ms kd pa sz nl nm ps ∧ ClsA H' B 0 0 0 1 cp cb tb 0 g 0 wss t1 ∧ RtZ t1 pa sz nl ∧ TreeOk t1.1 t1.2.1 t1.2.2.1 t1.2.2.2.1 ∧ ∀ a, 195 ≤ a → H'[a]? = H[a]?) := by
  refine rx_mount_late (P := P) (ok0 := fun H' => ClsA H' B 0 0 1 1 cp cb tb 0 g 0 wss (T0 t0) ∧ MtQ ky M H' B N bb P op sm ms kd pa sz nl nm ps ∧ ∀ a, 195 ≤ a → H'[a]? = H[a]?) (ok1 := fun H' => ∃ t1, UpQ ky (M + 2) H' B N bb P op sm (nB B) (Xb (RlX op sm ms kd pa sz nl nm ps)) ∧ ClsA H' B P 0 1 1 cp cb tb 0 g 0 wss t1 ∧ SameT t1 kd pa sz nl nm ∧ TreeOk t1.1 t1.2.1 t1.2.2.1 t1.2.2.2.1 ∧ ∀ a, 195 ≤ a → H'[a]? = H[a]?) hA.1 hGD (fun H' q => q.1.1) (fun H' q => by
    obtain ⟨t1, y1, y2, -⟩ := q
    exact y2.1) (fun H' q => (mend_Q q.1 q.2.1 hky hB hN (by omega) hM hP hsm hp hnd hT hW hz hT0).mono (fun H2 z => by
    obtain ⟨t1, y1, y2, y3, y4, y5⟩ := z
    exact ⟨t1, y1, y2, y3, y4, fun a ha => (y5 a ha).trans (q.2.2 a ha)⟩) (fun H2 z => z.1.no hbb)) (fun H' q => ?_)
  obtain ⟨t1, y1, y2, y3, y4, y5⟩ := q
  obtain ⟨H2, k1, ⟨b2, k2, k3⟩, k4, k5, k6⟩ := rx_upP (sc := sc) (d := d + 3) (x := 1) y1 y2 (Or.inl (by decide)) (by omega)
  have hD := cut_D k3 k2 k5
  rw [dnO_self ho, List.filter_eq_self.mpr (fun m hm => hpm m hm)] at hD
  obtain ⟨z1, z2, z3, -⟩ := y3.2.1 0 (by decide) (by rw [hW.1]; decide)
  exact ⟨H2, k1, T0 t1, hD, k4, ⟨⟨z1.trans hz.2.1, z2.trans hz.2.2.1, z3.trans hz.2.2.2⟩, hz.2⟩, T0_ok y4, fun a ha => (k6 a ha).trans (y5 a ha)⟩
/-- a mount whose power fails within it -/
theorem rx_mountCQ {Pc : Nat} {up : Int32} {l rl : Nat} (hA : ClsA H B Pc up 1 0 cp cb tb l g rl wss t0) (hGD : RN sc (d + 7) mr_155 [.ref 1] H (fun H' => ClsA H' B 0 0 1 0 cp cb tb 0 g 0 wss (T0 t0) ∧ MtQ ky M H' B N bb P op sm ms kd pa sz nl nm ps ∧ ∀ a, 195 ≤ a → H'[a]? = H[a]?)) (hky : ky.length ≤ 1024) (hB : B = 64 ∨ B = 96 ∨ B = 128) (hN : N = 20 * B) (hcp : cp < 2 ^ 31) (hcb : cb < 2 ^ 31) (hM : M + 2 < 2 ^ 30) (hP : P < 2 ^ 30) (hsm : ∀ t, t < 8 → sm t < 2 ^ 31) (hp : OneP ps) (hpm : PrM op sm P ms) (hnd : ndR op sm (-1) P ms kd nl ps ≤ B * 256) (hT : TreeOk kd pa sz nl) (hW : TrW kd pa) (hz : RtZ t0 pa sz nl) (hT0 : TreeOk t0.1 t0.2.1 t0.2.2.1 t0.2.2.2.1) (ho : ∀ t, t < 8 → op t = false) : RXc sc (d + 8) mr_178 [.ref 1] H 1 (fun H' => ∃ t1, DnQ ky (M + 2) H' B N P op sm ms kd pa sz nl nm ps ∧ ClsA H' B 0 0 0 0 cp cb tb 0 g 0 wss t1 ∧ RtZ t1 pa sz nl ∧ TreeOk t1.1 t1.2.1 t1.2.2.1 t1.2.2.2.1 ∧ ∀ a, 195 ≤ a → H'[a]? = H[a]?) := by
  refine rx_mount_cut (P := P) (ok0 := fun H' => ClsA H' B 0 0 1 0 cp cb tb 0 g 0 wss (T0 t0) ∧ MtQ ky M H' B N bb P op sm ms kd pa sz nl nm ps ∧ ∀ a, 195 ≤ a → H'[a]? = H[a]?) (ok1 := fun H' => ∃ t1, UpQ ky (M + 2) H' B N (cb + 2 ^ 32 * (cp + 2)) P op sm (nB B) (Xb (RlX op sm ms kd pa sz nl nm ps)) ∧ ClsA H' B P 0 1 0 cp cb tb 0 g 0 wss t1 ∧ SameT t1 kd pa sz nl nm ∧ TreeOk t1.1 t1.2.1 t1.2.2.1 t1.2.2.2.1 ∧ ∀ a, 195 ≤ a → H'[a]? = H[a]?) (bad := fun H' => CutP ky (M + 2) H' B N (cb + 2 ^ 32 * (cp + 2)) P op sm (CX op sm P ms kd pa sz nl nm ps) ∧ ClsA H' B P 0 1 0 cp cb tb 0 g 0 wss (T0 t0) ∧ ∀ a, 195 ≤ a → H'[a]? = H[a]?) hA.1 hGD (fun H' q => q.1.1) (fun H' q => by
    obtain ⟨t1, y1, y2, -⟩ := q
    exact y2.1) (fun H' q => q.2.1.chip) (fun H' q => (mend_Q (q.1.far (fun a a1 _ => set_far (by omega))) (q.2.1.arm (Nat.le_refl cp) hcp hcb) hky hB hN (by omega) hM hP hsm hp hnd hT hW hz hT0).mono (fun H2 z => by
    obtain ⟨t1, y1, y2, y3, y4, y5⟩ := z
    exact ⟨t1, y1, y2, y3, y4, fun a ha => (y5 a ha).trans ((set_far (by omega)).trans (q.2.2 a ha))⟩) (fun H2 z => ⟨z.1, z.2.1, fun a ha => (z.2.2 a ha).trans ((set_far (by omega)).trans (q.2.2 a ha))⟩)) (fun H' q => ?_) (fun H' q => ?_) (fun H' q => ⟨_, q.2.1.1⟩)
  · obtain ⟨t1, y1, y2, y3, y4, y5⟩ := q
    obtain ⟨H2, k1, ⟨b2, k2, k3⟩, k4, k5, k6⟩ := rx_upP (sc := sc) (d := d + 3) (x := 1) y1 y2 (Or.inl (by decide)) (by omega)
    have hD := cut_D k3 k2 k5
    rw [dnO_self ho, List.filter_eq_self.mpr (fun m hm => hpm m hm)] at hD
    obtain ⟨z1, z2, z3, -⟩ := y3.2.1 0 (by decide) (by rw [hW.1]; decide)
    exact ⟨H2, k1, T0 t1, hD, k4, ⟨⟨z1.trans hz.2.1, z2.trans hz.2.2.1, z3.trans hz.2.2.2⟩, hz.2⟩, T0_ok y4, fun a ha => (k6 a ha).trans (y5 a ha)⟩
  · obtain ⟨H2, k1, k3, k4, k5, k6⟩ := rx_cutP (sc := sc) (d := d + 3) (x := 0) q.1 q.2.1 (Or.inl (by decide))
    exact ⟨H2, k1, T0 (T0 t0), cx_D k3 ho (by omega) k5, k4, hz, T0_ok (T0_ok hT0), fun a ha => (k6 a ha).trans (q.2.2 a ha)⟩
end MT
