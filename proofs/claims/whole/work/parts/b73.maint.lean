/-! ===== flush and compact: the ends in UpQ and DnQ, the reference's upkeep, the cases of the law; written by wip/gen/maint3.py ===== -/
theorem CutP.no {ky : List (List Nat)} {M : Nat} {H : aH} {B N bb P : Nat} {op : Nat → Bool} {sm : Nat → Nat} {X : (Nat → Int8) → List aV → Prop} (h : CutP ky M H B N bb P op sm X) (hbb : bb < 2 ^ 31) : False := by
  obtain ⟨S, lgs, rs, c, vs, tss, L, hF, -⟩ := h
  have := hF.armed
  omega
theorem UpQ.len {ky : List (List Nat)} {M n n' : Nat} {H : aH} {B N bb P : Nat} {op : Nat → Bool} {sm : Nat → Nat} {X : (Nat → Int8) → List aV → Prop} (h : UpQ ky M H B N bb P op sm n X) (hn : n ≤ n') : UpQ ky M H B N bb P op sm n' X := by
  obtain ⟨S, lgs, fr, ff, wr, tp, rs, us, c, P1, gs, vs, tss, L, u1, u2, u3, u4, u5, u6⟩ := h
  exact ⟨S, lgs, fr, ff, wr, tp, rs, us, c, P1, gs, vs, tss, L, u1, u2, u3, u4, u5, by omega⟩
/-- a store that is up goes down: the cut comes behind all that was done -/
theorem rx_upP {ky : List (List Nat)} {M n : Nat} {sc : Nat × (Nat → Int32)} {d N P : Nat} {x : Int32} {H : aH} {B bb P' : Nat} {up cw cl : Int32} {cp cb : Nat} {tb : Nat → Int8} {l : Nat} {g : Nat → Int8} {rl : Nat} {wss : Nat → List aE} {t0 : aTr} {op : Nat → Bool} {sm : Nat → Nat} {X : (Nat → Int8) → List aV → Prop} (h : UpQ ky M H B N bb P op sm n X) (hA : ClsA H B P' up cw cl cp cb tb l g rl wss t0) (hf : ¬ cw = 0 ∨ x = 0) (hbb : bb % 2 ^ 32 < 2 ^ 31) : RX sc (d + 4) mr_153 [.ref 1, .int x] H 1 (fun H' => (∃ bb', bb' % 2 ^ 32 < 2 ^ 31 ∧ CutP ky M H' B N bb' P (dnO op) sm X) ∧ ClsA H' B 0 0 0 cl cp cb tb 0 g 0 wss (T0 t0) ∧ VersIs H' N [] ∧ ∀ a, 195 ≤ a → H'[a]? = H[a]?) := by
  obtain ⟨S, lgs, fr, ff, wr, tp, rs, us, c, P1, gs, vs, tss, L, u1, u2, u3, u4, u5, u6⟩ := h
  have hsrt := u1.2.2.2.2.2.2.1.srtV
  refine (rx_settleU (sc := sc) (d := d) hA u1 hf).to (fun H' q => ?_)
  obtain ⟨q1, q2, q3, q4⟩ := q
  exact ⟨⟨bb % 2 ^ 32 + 2 ^ 32, by omega, S, lgs, rs, c, vs, tss, L, fa_up u1 u2 hsrt.one (fun v hv => u1.2.2.2.2.2.2.2.1 v hv) q2, hsrt, u3, u5⟩, q1, q3, q4⟩
theorem ri_mmaintR0 {sc : Nat × (Nat → Int32)} {d l : Nat} {H : aH} {fa cl rs : Int32} {li : Nat} {tb : Nat → Int8} {g0 : Nat → Int8} {p : Nat} {ms : List aMV} {op : Nat → Bool} {se : Nat → Nat} {wss : Nat → List aE} {kd pa sz nl : Nat → Nat} {nm : Nat → Int8} {ps : List aPc} (h : RefI H fa li 0 0 cl tb l rs g0 p ms op se wss kd pa sz nl nm ps) (hk : RefOk l p ms se kd pa sz nl ps) : RI sc (d + 4) mr_276 [.ref 196] H (fun z H' => z = nI (ndR op se (-1) p ms kd nl ps) ∧ RefI H' 0 li 0 0 cl tb l rs g0 p ms op se wss kd pa sz nl nm ps ∧ ∀ a, ¬ (195 ≤ a ∧ a < 224) → H'[a]? = H[a]?) := by
  have h' := h
  obtain ⟨us, ba, bo, hm, hV, h5, h6, hR, hT, hP, h196, h197⟩ := h'
  obtain ⟨k1, k2, k3, k4, k5, k6, k7, k8⟩ := hk
  obtain ⟨us2, ba2, bo2, -, -, -, -, -, -, -, -, -⟩ := h.cells
  obtain ⟨pf, px, pz, pat, hd, hA2, hE, -⟩ := id hP
  have hc := rc_mmaint0 (sc := sc) (d := d) hm hV k3 h5 h6 k4 (by omega) hT k5 hA2.2.2.1 k6
  rw [sum0_plen (fun j y hy => (hE j y hy).2.2.1) ps.length (Nat.le_refl _), List.take_of_length_le (Nat.le_refl _)] at hc
  exact ⟨_, _, hc, rfl, ⟨us, ba, bo, get_set hm, hV.far (fun a a1 a2 => set_far (by omega)) (set_far (by decide)), (set_far (by decide)).trans h5, (set_far (by decide)).trans h6, hR.far (fun a ha => set_far (by omega)), hT.far (fun a a1 a2 => set_far (by omega)), hP.far (fun a a1 a2 => set_far (by omega)), (set_far (by decide)).trans h196, (set_far (by decide)).trans h197⟩, fun a ha => set_far (by omega)⟩
theorem ri_mmaintR1 {sc : Nat × (Nat → Int32)} {d l : Nat} {H : aH} {fa cl rs : Int32} {li : Nat} {tb : Nat → Int8} {g0 : Nat → Int8} {p : Nat} {ms : List aMV} {op : Nat → Bool} {se : Nat → Nat} {wss : Nat → List aE} {kd pa sz nl : Nat → Nat} {nm : Nat → Int8} {ps : List aPc} (h : RefI H fa li 0 1 cl tb l rs g0 p ms op se wss kd pa sz nl nm ps) (hk : RefOk l p ms se kd pa sz nl ps) : RI sc (d + 4) mr_276 [.ref 196] H (fun z H' => z = 0 ∧ RefI H' 1 li 1 0 cl tb 0 0 g0 p (ms.filter (keepM (dnO op) se p (kmM ms))) (dnO op) se wss kd pa sz nl nm ps ∧ ∀ a, ¬ (195 ≤ a ∧ a < 224) → H'[a]? = H[a]?) := by
  have h' := h
  obtain ⟨us, ba, bo, hm, hV, h5, h6, hR, hT, hP, h196, h197⟩ := h'
  obtain ⟨k1, k2, k3, k4, k5, k6, k7, k8⟩ := hk
  obtain ⟨z, H', r1, r2, us', r3, r4, r5, r6⟩ := ri_mmaint1 (sc := sc) (d := d) hm hV k3 h5 h6 k4 (by omega)
  exact ⟨z, H', r1, r2, refi_next h ⟨us', bo, ba, r3, r4⟩ r5 r6, fun a ha => r6 a (by omega) (by omega)⟩
section MQ
variable {ky : List (List Nat)} {M0 M : Nat} {sc : Nat × (Nat → Int32)} {d : Nat} {H : aH} {B P bb : Nat} {cp cb : Nat} {tb : Nat → Int8} {l : Nat} {g : Nat → Int8} {rl : Nat} {wss : Nat → List aE} {t0 : aTr} {N n : Nat} {op : Nat → Bool} {sm : Nat → Nat} {ms : List aMV} {kd pa sz nl : Nat → Nat} {nm : Nat → Int8} {ps : List aPc} {X : (Nat → Int8) → List aV → Prop}
theorem flush_Q {up cw cl cp cb : Int32} (hX : XC op sm P X) (hXN : ∀ c vs, (∀ v ∈ vs, VOk ky P v) → X c vs → sumN op sm (-1) P (kmV vs) vs ≤ B * 256) (h0 : H[0]? = some (kO 11 (fvs (nI B) (nI P) up cw cl cp cb))) (h : UpQ ky M0 H B N bb P op sm n X) (hB : B = 64 ∨ B = 96 ∨ B = 128) (hbb : bb % 2 ^ 32 < 2 ^ 31) (hM0 : M0 + 40 ≤ M) (hM : M < 2 ^ 30) (hP : P < 2 ^ 30) (hsm : ∀ t, t < 8 → sm t < 2 ^ 31) (hn : n < 65536) : RB sc (d + 7) mr_167 [.ref 1] H (fun H' => UpQ ky M H' B N bb P op sm n X ∧ FrU H H') (fun H' => CutP ky M H' B N bb P op sm X ∧ FrU H H') := by
  obtain ⟨S, lgs, fr, ff, wr, tp, rs, us, c, P1, gs, vs, tss, L, u1, u2, u3, u4, ⟨k1, k2, k3, k4⟩, u6⟩ := h
  exact (rb_flushW (sc := sc) (d := d) hX hXN h0 u1 u2 u3 u4 ⟨k1, k2, by omega, k4⟩ hB hbb (by omega) hM hP hsm (by omega)).mono (fun H' q => ⟨q.1.len u6, q.2⟩) (fun H' q => q)
theorem ri_flush_okQ {cl : Int32} (h : ClsA H B P 1 0 cl cp cb tb l g rl wss t0) (hU : UpQ ky M0 H B N bb P op sm n (Xb (RlX op sm ms kd pa sz nl nm ps))) (hM : PrM op sm P ms) (hp : OneP ps) (hnd : ndR op sm (-1) P ms kd nl ps ≤ B * 256) (hsm : ∀ t, t < 8 → sm t < 2 ^ 30) (hP : P < 2 ^ 30) (hB : B = 64 ∨ B = 96 ∨ B = 128) (hM0 : M0 + 40 ≤ M) (hM1 : M < 2 ^ 30) (hn : n < 65536) (hbb : bb < 2 ^ 31) : RI sc (d + 8) mr_166 [.ref 1] H (fun x H' => x = nI (ndR op sm (-1) P ms kd nl ps) ∧ UpQ ky M H' B N bb P op sm n (Xb (RlX op sm ms kd pa sz nl nm ps)) ∧ ClsA H' B P 1 0 cl cp cb tb l g rl wss t0 ∧ ∀ a, 195 ≤ a → H'[a]? = H[a]?) := by
  have hX := xc_b (xc_rel (kd := kd) (pa := pa) (sz := sz) (nl := nl) (nm := nm) (ps := ps) hM)
  have hXN : ∀ c vs, (∀ v ∈ vs, VOk ky P v) → Xb (RlX op sm ms kd pa sz nl nm ps) c vs → sumN op sm (-1) P (kmV vs) vs ≤ B * 256 := fun c vs hv hx => by
    rw [rlx_need hv hx.1 hp]
    exact hnd
  have hsm2 : ∀ t, t < 8 → sm t < 2 ^ 31 := fun t ht => by have := hsm t ht; omega
  refine ri_flush_ok (nn := ndR op sm (-1) P ms kd nl ps) (ok1 := fun H' => UpQ ky M H' B N bb P op sm n (Xb (RlX op sm ms kd pa sz nl nm ps)) ∧ FrU H H') (ok2 := fun H' => UpQ ky M H' B N bb P op sm n (Xb (RlX op sm ms kd pa sz nl nm ps)) ∧ ClsA H' B P 1 0 cl cp cb tb l g rl wss t0 ∧ ∀ a, 195 ≤ a → H'[a]? = H[a]?) h ((flush_Q hX hXN h.1 hU hB (by omega) hM0 hM1 hP hsm2 hn).mono (fun _ q => q) (fun _ q => q.1.no hbb)) (fun H' q => ?_) (fun H' q => ?_) (fun H' q => (q.2 0 (by decide)).trans h.1) (fun H' q => q.2.1.1) (fun H' q => ?_)
  · obtain ⟨S, lgs, fr, ff, wr, tp, rs, us, c, P1, gs, vs, tss, L, u1, u2⟩ := q.1
    obtain ⟨H2, k1, k2, k3, k4⟩ := rn_settleU (sc := sc) (d := d + 6) (h.frU q.2) u1 (by omega)
    exact ⟨H2, k1, ⟨S, lgs, fr, ff, wr, tp, rs, us, c, P1, gs, vs, tss, L, k3, u2⟩, k2, fun a ha => (k4 a (by omega) (by omega)).trans (q.2 a (Or.inr ha))⟩
  · obtain ⟨S, lgs, fr, ff, wr, tp, rs, us, c, P1, gs, vs, tss, L, u1, u2, u3, -⟩ := q.1
    have hc := rc_neededL (sc := sc) (d := d + 5) (x := -1) u1.2.2.2.2.2.2.2.2.1 hsm2 u1.2.2.2.2.2.2.1 (fun v hv => (u2.2.2.2.2.2.2.1 v hv).1)
    rw [rlx_need u2.2.2.2.2.2.2.1 u3.1 hp] at hc
    exact hc
  · obtain ⟨S, lgs, fr, ff, wr, tp, rs, us, c, P1, gs, vs, tss, L, u1, -⟩ := q.1
    exact vers_obj u1.2.2.2.2.2.2.1
theorem rx_flush_lateQ (h : ClsA H B P 1 1 1 cp cb tb l g rl wss t0) (hU : UpQ ky M0 H B N bb P op sm n (Xb (RlX op sm ms kd pa sz nl nm ps))) (hM : PrM op sm P ms) (hp : OneP ps) (hnd : ndR op sm (-1) P ms kd nl ps ≤ B * 256) (hsm : ∀ t, t < 8 → sm t < 2 ^ 30) (hP : P < 2 ^ 30) (hB : B = 64 ∨ B = 96 ∨ B = 128) (hM0 : M0 + 40 ≤ M) (hM1 : M < 2 ^ 30) (hn : n < 65536) (hbb : bb < 2 ^ 31) : RXc sc (d + 8) mr_166 [.ref 1] H 1 (fun H' => DnQ ky M H' B N P (dnO op) sm (ms.filter (keepM (dnO op) sm P (kmM ms))) kd pa sz nl nm ps ∧ ClsA H' B 0 0 0 1 cp cb tb 0 g 0 wss (T0 t0) ∧ ∀ a, 195 ≤ a → H'[a]? = H[a]?) := by
  have hX := xc_b (xc_rel (kd := kd) (pa := pa) (sz := sz) (nl := nl) (nm := nm) (ps := ps) hM)
  have hXN : ∀ c vs, (∀ v ∈ vs, VOk ky P v) → Xb (RlX op sm ms kd pa sz nl nm ps) c vs → sumN op sm (-1) P (kmV vs) vs ≤ B * 256 := fun c vs hv hx => by
    rw [rlx_need hv hx.1 hp]
    exact hnd
  have hsm2 : ∀ t, t < 8 → sm t < 2 ^ 31 := fun t ht => by have := hsm t ht; omega
  refine rx_flush_late (ok1 := fun H' => UpQ ky M H' B N bb P op sm n (Xb (RlX op sm ms kd pa sz nl nm ps)) ∧ FrU H H') h ((flush_Q hX hXN h.1 hU hB (by omega) hM0 hM1 hP hsm2 hn).mono (fun _ q => q) (fun _ q => q.1.no hbb)) (fun H' q => ?_) (fun H' q => (q.2 0 (by decide)).trans h.1)
  obtain ⟨H2, k1, ⟨b2, k2, k3⟩, k4, k5, k6⟩ := rx_upP (sc := sc) (d := d + 3) (x := 1) q.1 (h.frU q.2) (Or.inl (by decide)) (by omega)
  exact ⟨H2, k1, cut_D k3 k2 k5, k4, fun a ha => (k6 a ha).trans (q.2 a (Or.inr ha))⟩
theorem rx_flush_cutQ (h : ClsA H B P 1 1 0 cp cb tb l g rl wss t0) (hU : UpQ ky M0 H B N bb P op sm n (Xb (RlX op sm ms kd pa sz nl nm ps))) (hM : PrM op sm P ms) (hp : OneP ps) (hnd : ndR op sm (-1) P ms kd nl ps ≤ B * 256) (hsm : ∀ t, t < 8 → sm t < 2 ^ 30) (hP : P < 2 ^ 30) (hB : B = 64 ∨ B = 96 ∨ B = 128) (hM0 : M0 + 40 ≤ M) (hM1 : M < 2 ^ 30) (hn : n < 65536) (hcp : cp < 2 ^ 31) (hcb : cb < 2 ^ 31) : RXc sc (d + 8) mr_166 [.ref 1] H 1 (fun H' => DnQ ky M H' B N P (dnO op) sm (ms.filter (keepM (dnO op) sm P (kmM ms))) kd pa sz nl nm ps ∧ ClsA H' B 0 0 0 0 cp cb tb 0 g 0 wss (T0 t0) ∧ ∀ a, 195 ≤ a → H'[a]? = H[a]?) := by
  have hX := xc_b (xc_rel (kd := kd) (pa := pa) (sz := sz) (nl := nl) (nm := nm) (ps := ps) hM)
  have hXN : ∀ c vs, (∀ v ∈ vs, VOk ky P v) → Xb (RlX op sm ms kd pa sz nl nm ps) c vs → sumN op sm (-1) P (kmV vs) vs ≤ B * 256 := fun c vs hv hx => by
    rw [rlx_need hv hx.1 hp]
    exact hnd
  have hsm2 : ∀ t, t < 8 → sm t < 2 ^ 31 := fun t ht => by have := hsm t ht; omega
  have hfr : ∀ H2, FrU (H.set 71 (kO 1 [.ref 73, .ref 74, .int (lI (some cp)), .int (nI cb), .int (nI 0)])) H2 → FrU H H2 := fun H2 k3 a ha => (k3 a ha).trans (set_far (by omega))
  obtain ⟨cf, tf, pq, bb1, hch⟩ : ∃ cf tf pq bb1, ChipAt H B cf tf pq bb1 0 := by
    obtain ⟨S, lgs, fr, ff, wr, tp, rs, us, c, P1, gs, vs, tss, L, u1, -⟩ := id hU
    obtain ⟨tf, pq, ms9, mt, sq, tu, -, hch, -⟩ := u1.1
    exact ⟨c, tf, pq, bb, hch⟩
  refine rx_flush_cut (ok1 := fun H' => UpQ ky M H' B N (cb + 2 ^ 32 * (cp + 2)) P op sm n (Xb (RlX op sm ms kd pa sz nl nm ps)) ∧ FrU H H') (bad := fun H' => CutP ky M H' B N (cb + 2 ^ 32 * (cp + 2)) P op sm (Xb (RlX op sm ms kd pa sz nl nm ps)) ∧ FrU H H') h hch ((flush_Q hX hXN ((set_far (by decide)).trans h.1) (hU.arm (Nat.le_refl cp) hcp hcb) hB (by omega) hM0 hM1 hP hsm2 hn).mono (fun H' q => ⟨q.1, hfr H' q.2⟩) (fun H' q => ⟨q.1, hfr H' q.2⟩)) (fun H' q => ?_) (fun H' q => ?_) (fun H' q => (q.2 0 (by decide)).trans h.1) (fun H' q => (q.2 0 (by decide)).trans h.1)
  · obtain ⟨H2, k1, ⟨b2, k2, k3⟩, k4, k5, k6⟩ := rx_upP (sc := sc) (d := d + 3) (x := 1) q.1 (h.frU q.2) (Or.inl (by decide)) (by omega)
    exact ⟨H2, k1, cut_D k3 k2 k5, k4, fun a ha => (k6 a ha).trans (q.2 a (Or.inr ha))⟩
  · obtain ⟨H2, k1, k3, k4, k5, k6⟩ := rx_cutP (sc := sc) (d := d + 3) (x := 0) q.1 (h.frU q.2) (Or.inl (by decide))
    exact ⟨H2, k1, cut_D k3 (by omega) k5, k4, fun a ha => (k6 a ha).trans (q.2 a (Or.inr ha))⟩
theorem compact0_Q {up cw cl cp cb : Int32} (hX : XC op sm P X) (hXN : ∀ c vs, (∀ v ∈ vs, VOk ky P v) → X c vs → sumN op sm (-1) P (kmV vs) vs ≤ B * 256) (h0 : H[0]? = some (kO 11 (fvs (nI B) (nI P) up cw cl cp cb))) (h : UpQ ky M0 H B N bb P op sm n X) (hB : B = 64 ∨ B = 96 ∨ B = 128) (hbb : bb % 2 ^ 32 < 2 ^ 31) (hM0 : M0 + 40 ≤ M) (hM : M < 2 ^ 30) (hP : P < 2 ^ 30) (hsm : ∀ t, t < 8 → sm t < 2 ^ 31) (hn : n < 65536) : RB sc (d + 7) mr_170 [.ref 1, .int 0] H (fun H' => UpQ ky M H' B N bb P op sm n X ∧ FrU H H') (fun H' => CutP ky M H' B N bb P op sm X ∧ FrU H H') := by
  obtain ⟨S, lgs, fr, ff, wr, tp, rs, us, c, P1, gs, vs, tss, L, u1, u2, u3, u4, ⟨k1, k2, k3, k4⟩, u6⟩ := h
  exact (rb_compW0 (sc := sc) (d := d) hX hXN h0 u1 u2 u3 u4 ⟨k1, k2, by omega, k4⟩ hB hbb (by omega) hM hP hsm (by omega)).mono (fun H' q => ⟨q.1.len u6, q.2⟩) (fun H' q => q)
theorem ri_compact0_okQ {cl : Int32} (h : ClsA H B P 1 0 cl cp cb tb l g rl wss t0) (hU : UpQ ky M0 H B N bb P op sm n (Xb (RlX op sm ms kd pa sz nl nm ps))) (hM : PrM op sm P ms) (hp : OneP ps) (hnd : ndR op sm (-1) P ms kd nl ps ≤ B * 256) (hsm : ∀ t, t < 8 → sm t < 2 ^ 30) (hP : P < 2 ^ 30) (hB : B = 64 ∨ B = 96 ∨ B = 128) (hM0 : M0 + 40 ≤ M) (hM1 : M < 2 ^ 30) (hn : n < 65536) (hbb : bb < 2 ^ 31) : RI sc (d + 8) mr_169 [.ref 1, .int 0] H (fun x H' => x = nI (ndR op sm (-1) P ms kd nl ps) ∧ UpQ ky M H' B N bb P op sm n (Xb (RlX op sm ms kd pa sz nl nm ps)) ∧ ClsA H' B P 1 0 cl cp cb tb l g rl wss t0 ∧ ∀ a, 195 ≤ a → H'[a]? = H[a]?) := by
  have hX := xc_b (xc_rel (kd := kd) (pa := pa) (sz := sz) (nl := nl) (nm := nm) (ps := ps) hM)
  have hXN : ∀ c vs, (∀ v ∈ vs, VOk ky P v) → Xb (RlX op sm ms kd pa sz nl nm ps) c vs → sumN op sm (-1) P (kmV vs) vs ≤ B * 256 := fun c vs hv hx => by
    rw [rlx_need hv hx.1 hp]
    exact hnd
  have hsm2 : ∀ t, t < 8 → sm t < 2 ^ 31 := fun t ht => by have := hsm t ht; omega
  refine ri_compact0_ok (nn := ndR op sm (-1) P ms kd nl ps) (ok1 := fun H' => UpQ ky M H' B N bb P op sm n (Xb (RlX op sm ms kd pa sz nl nm ps)) ∧ FrU H H') (ok2 := fun H' => UpQ ky M H' B N bb P op sm n (Xb (RlX op sm ms kd pa sz nl nm ps)) ∧ ClsA H' B P 1 0 cl cp cb tb l g rl wss t0 ∧ ∀ a, 195 ≤ a → H'[a]? = H[a]?) h ((compact0_Q hX hXN h.1 hU hB (by omega) hM0 hM1 hP hsm2 hn).mono (fun _ q => q) (fun _ q => q.1.no hbb)) (fun H' q => ?_) (fun H' q => ?_) (fun H' q => (q.2 0 (by decide)).trans h.1) (fun H' q => q.2.1.1) (fun H' q => ?_)
  · obtain ⟨S, lgs, fr, ff, wr, tp, rs, us, c, P1, gs, vs, tss, L, u1, u2⟩ := q.1
    obtain ⟨H2, k1, k2, k3, k4⟩ := rn_settleU (sc := sc) (d := d + 6) (h.frU q.2) u1 (by omega)
    exact ⟨H2, k1, ⟨S, lgs, fr, ff, wr, tp, rs, us, c, P1, gs, vs, tss, L, k3, u2⟩, k2, fun a ha => (k4 a (by omega) (by omega)).trans (q.2 a (Or.inr ha))⟩
  · obtain ⟨S, lgs, fr, ff, wr, tp, rs, us, c, P1, gs, vs, tss, L, u1, u2, u3, -⟩ := q.1
    have hc := rc_neededL (sc := sc) (d := d + 5) (x := -1) u1.2.2.2.2.2.2.2.2.1 hsm2 u1.2.2.2.2.2.2.1 (fun v hv => (u2.2.2.2.2.2.2.1 v hv).1)
    rw [rlx_need u2.2.2.2.2.2.2.1 u3.1 hp] at hc
    exact hc
  · obtain ⟨S, lgs, fr, ff, wr, tp, rs, us, c, P1, gs, vs, tss, L, u1, -⟩ := q.1
    exact vers_obj u1.2.2.2.2.2.2.1
theorem rx_compact0_lateQ (h : ClsA H B P 1 1 1 cp cb tb l g rl wss t0) (hU : UpQ ky M0 H B N bb P op sm n (Xb (RlX op sm ms kd pa sz nl nm ps))) (hM : PrM op sm P ms) (hp : OneP ps) (hnd : ndR op sm (-1) P ms kd nl ps ≤ B * 256) (hsm : ∀ t, t < 8 → sm t < 2 ^ 30) (hP : P < 2 ^ 30) (hB : B = 64 ∨ B = 96 ∨ B = 128) (hM0 : M0 + 40 ≤ M) (hM1 : M < 2 ^ 30) (hn : n < 65536) (hbb : bb < 2 ^ 31) : RXc sc (d + 8) mr_169 [.ref 1, .int 0] H 1 (fun H' => DnQ ky M H' B N P (dnO op) sm (ms.filter (keepM (dnO op) sm P (kmM ms))) kd pa sz nl nm ps ∧ ClsA H' B 0 0 0 1 cp cb tb 0 g 0 wss (T0 t0) ∧ ∀ a, 195 ≤ a → H'[a]? = H[a]?) := by
  have hX := xc_b (xc_rel (kd := kd) (pa := pa) (sz := sz) (nl := nl) (nm := nm) (ps := ps) hM)
  have hXN : ∀ c vs, (∀ v ∈ vs, VOk ky P v) → Xb (RlX op sm ms kd pa sz nl nm ps) c vs → sumN op sm (-1) P (kmV vs) vs ≤ B * 256 := fun c vs hv hx => by
    rw [rlx_need hv hx.1 hp]
    exact hnd
  have hsm2 : ∀ t, t < 8 → sm t < 2 ^ 31 := fun t ht => by have := hsm t ht; omega
  refine rx_compact0_late (ok1 := fun H' => UpQ ky M H' B N bb P op sm n (Xb (RlX op sm ms kd pa sz nl nm ps)) ∧ FrU H H') h ((compact0_Q hX hXN h.1 hU hB (by omega) hM0 hM1 hP hsm2 hn).mono (fun _ q => q) (fun _ q => q.1.no hbb)) (fun H' q => ?_) (fun H' q => (q.2 0 (by decide)).trans h.1)
  obtain ⟨H2, k1, ⟨b2, k2, k3⟩, k4, k5, k6⟩ := rx_upP (sc := sc) (d := d + 3) (x := 1) q.1 (h.frU q.2) (Or.inl (by decide)) (by omega)
  exact ⟨H2, k1, cut_D k3 k2 k5, k4, fun a ha => (k6 a ha).trans (q.2 a (Or.inr ha))⟩
theorem rx_compact0_cutQ (h : ClsA H B P 1 1 0 cp cb tb l g rl wss t0) (hU : UpQ ky M0 H B N bb P op sm n (Xb (RlX op sm ms kd pa sz nl nm ps))) (hM : PrM op sm P ms) (hp : OneP ps) (hnd : ndR op sm (-1) P ms kd nl ps ≤ B * 256) (hsm : ∀ t, t < 8 → sm t < 2 ^ 30) (hP : P < 2 ^ 30) (hB : B = 64 ∨ B = 96 ∨ B = 128) (hM0 : M0 + 40 ≤ M) (hM1 : M < 2 ^ 30) (hn : n < 65536) (hcp : cp < 2 ^ 31) (hcb : cb < 2 ^ 31) : RXc sc (d + 8) mr_169 [.ref 1, .int 0] H 1 (fun H' => DnQ ky M H' B N P (dnO op) sm (ms.filter (keepM (dnO op) sm P (kmM ms))) kd pa sz nl nm ps ∧ ClsA H' B 0 0 0 0 cp cb tb 0 g 0 wss (T0 t0) ∧ ∀ a, 195 ≤ a → H'[a]? = H[a]?) := by
  have hX := xc_b (xc_rel (kd := kd) (pa := pa) (sz := sz) (nl := nl) (nm := nm) (ps := ps) hM)
  have hXN : ∀ c vs, (∀ v ∈ vs, VOk ky P v) → Xb (RlX op sm ms kd pa sz nl nm ps) c vs → sumN op sm (-1) P (kmV vs) vs ≤ B * 256 := fun c vs hv hx => by
    rw [rlx_need hv hx.1 hp]
    exact hnd
  have hsm2 : ∀ t, t < 8 → sm t < 2 ^ 31 := fun t ht => by have := hsm t ht; omega
  have hfr : ∀ H2, FrU (H.set 71 (kO 1 [.ref 73, .ref 74, .int (lI (some cp)), .int (nI cb), .int (nI 0)])) H2 → FrU H H2 := fun H2 k3 a ha => (k3 a ha).trans (set_far (by omega))
  obtain ⟨cf, tf, pq, bb1, hch⟩ : ∃ cf tf pq bb1, ChipAt H B cf tf pq bb1 0 := by
    obtain ⟨S, lgs, fr, ff, wr, tp, rs, us, c, P1, gs, vs, tss, L, u1, -⟩ := id hU
    obtain ⟨tf, pq, ms9, mt, sq, tu, -, hch, -⟩ := u1.1
    exact ⟨c, tf, pq, bb, hch⟩
  refine rx_compact0_cut (ok1 := fun H' => UpQ ky M H' B N (cb + 2 ^ 32 * (cp + 2)) P op sm n (Xb (RlX op sm ms kd pa sz nl nm ps)) ∧ FrU H H') (bad := fun H' => CutP ky M H' B N (cb + 2 ^ 32 * (cp + 2)) P op sm (Xb (RlX op sm ms kd pa sz nl nm ps)) ∧ FrU H H') h hch ((compact0_Q hX hXN ((set_far (by decide)).trans h.1) (hU.arm (Nat.le_refl cp) hcp hcb) hB (by omega) hM0 hM1 hP hsm2 hn).mono (fun H' q => ⟨q.1, hfr H' q.2⟩) (fun H' q => ⟨q.1, hfr H' q.2⟩)) (fun H' q => ?_) (fun H' q => ?_) (fun H' q => (q.2 0 (by decide)).trans h.1) (fun H' q => (q.2 0 (by decide)).trans h.1)
  · obtain ⟨H2, k1, ⟨b2, k2, k3⟩, k4, k5, k6⟩ := rx_upP (sc := sc) (d := d + 3) (x := 1) q.1 (h.frU q.2) (Or.inl (by decide)) (by omega)
    exact ⟨H2, k1, cut_D k3 k2 k5, k4, fun a ha => (k6 a ha).trans (q.2 a (Or.inr ha))⟩
  · obtain ⟨H2, k1, k3, k4, k5, k6⟩ := rx_cutP (sc := sc) (d := d + 3) (x := 0) q.1 (h.frU q.2) (Or.inl (by decide))
    exact ⟨H2, k1, cut_D k3 (by omega) k5, k4, fun a ha => (k6 a ha).trans (q.2 a (Or.inr ha))⟩
theorem compact1_Q {up cw cl cp cb : Int32} (hX : XC op sm P X) (hXN : ∀ c vs, (∀ v ∈ vs, VOk ky P v) → X c vs → sumN op sm (-1) P (kmV vs) vs ≤ B * 256) (h0 : H[0]? = some (kO 11 (fvs (nI B) (nI P) up cw cl cp cb))) (h : UpQ ky M0 H B N bb P op sm n X) (hB : B = 64 ∨ B = 96 ∨ B = 128) (hbb : bb % 2 ^ 32 < 2 ^ 31) (hM0 : M0 + 40 ≤ M) (hM : M < 2 ^ 30) (hP : P < 2 ^ 30) (hsm : ∀ t, t < 8 → sm t < 2 ^ 31) (hn : n < 65536) : RB sc (d + 7) mr_170 [.ref 1, .int 1] H (fun H' => UpQ ky M H' B N bb P op sm n X ∧ FrU H H') (fun H' => CutP ky M H' B N bb P op sm X ∧ FrU H H') := by
  obtain ⟨S, lgs, fr, ff, wr, tp, rs, us, c, P1, gs, vs, tss, L, u1, u2, u3, u4, ⟨k1, k2, k3, k4⟩, u6⟩ := h
  exact (rb_compW1 (sc := sc) (d := d) hX hXN h0 u1 u2 u3 u4 ⟨k1, k2, by omega, k4⟩ hB hbb (by omega) hM hP hsm (by omega)).mono (fun H' q => ⟨q.1.len u6, q.2⟩) (fun H' q => q)
theorem ri_compact1_okQ {cl : Int32} (h : ClsA H B P 1 0 cl cp cb tb l g rl wss t0) (hU : UpQ ky M0 H B N bb P op sm n (Xb (RlX op sm ms kd pa sz nl nm ps))) (hM : PrM op sm P ms) (hp : OneP ps) (hnd : ndR op sm (-1) P ms kd nl ps ≤ B * 256) (hsm : ∀ t, t < 8 → sm t < 2 ^ 30) (hP : P < 2 ^ 30) (hB : B = 64 ∨ B = 96 ∨ B = 128) (hM0 : M0 + 40 ≤ M) (hM1 : M < 2 ^ 30) (hn : n < 65536) (hbb : bb < 2 ^ 31) : RI sc (d + 8) mr_169 [.ref 1, .int 1] H (fun x H' => x = nI (ndR op sm (-1) P ms kd nl ps) ∧ UpQ ky M H' B N bb P op sm n (Xb (RlX op sm ms kd pa sz nl nm ps)) ∧ ClsA H' B P 1 0 cl cp cb tb l g rl wss t0 ∧ ∀ a, 195 ≤ a → H'[a]? = H[a]?) := by
  have hX := xc_b (xc_rel (kd := kd) (pa := pa) (sz := sz) (nl := nl) (nm := nm) (ps := ps) hM)
  have hXN : ∀ c vs, (∀ v ∈ vs, VOk ky P v) → Xb (RlX op sm ms kd pa sz nl nm ps) c vs → sumN op sm (-1) P (kmV vs) vs ≤ B * 256 := fun c vs hv hx => by
    rw [rlx_need hv hx.1 hp]
    exact hnd
  have hsm2 : ∀ t, t < 8 → sm t < 2 ^ 31 := fun t ht => by have := hsm t ht; omega
  refine ri_compact1_ok (nn := ndR op sm (-1) P ms kd nl ps) (ok1 := fun H' => UpQ ky M H' B N bb P op sm n (Xb (RlX op sm ms kd pa sz nl nm ps)) ∧ FrU H H') (ok2 := fun H' => UpQ ky M H' B N bb P op sm n (Xb (RlX op sm ms kd pa sz nl nm ps)) ∧ ClsA H' B P 1 0 cl cp cb tb l g rl wss t0 ∧ ∀ a, 195 ≤ a → H'[a]? = H[a]?) h ((compact1_Q hX hXN h.1 hU hB (by omega) hM0 hM1 hP hsm2 hn).mono (fun _ q => q) (fun _ q => q.1.no hbb)) (fun H' q => ?_) (fun H' q => ?_) (fun H' q => (q.2 0 (by decide)).trans h.1) (fun H' q => q.2.1.1) (fun H' q => ?_)
  · obtain ⟨S, lgs, fr, ff, wr, tp, rs, us, c, P1, gs, vs, tss, L, u1, u2⟩ := q.1
    obtain ⟨H2, k1, k2, k3, k4⟩ := rn_settleU (sc := sc) (d := d + 6) (h.frU q.2) u1 (by omega)
    exact ⟨H2, k1, ⟨S, lgs, fr, ff, wr, tp, rs, us, c, P1, gs, vs, tss, L, k3, u2⟩, k2, fun a ha => (k4 a (by omega) (by omega)).trans (q.2 a (Or.inr ha))⟩
  · obtain ⟨S, lgs, fr, ff, wr, tp, rs, us, c, P1, gs, vs, tss, L, u1, u2, u3, -⟩ := q.1
    have hc := rc_neededL (sc := sc) (d := d + 5) (x := -1) u1.2.2.2.2.2.2.2.2.1 hsm2 u1.2.2.2.2.2.2.1 (fun v hv => (u2.2.2.2.2.2.2.1 v hv).1)
    rw [rlx_need u2.2.2.2.2.2.2.1 u3.1 hp] at hc
    exact hc
  · obtain ⟨S, lgs, fr, ff, wr, tp, rs, us, c, P1, gs, vs, tss, L, u1, -⟩ := q.1
    exact vers_obj u1.2.2.2.2.2.2.1
theorem rx_compact1_lateQ (h : ClsA H B P 1 1 1 cp cb tb l g rl wss t0) (hU : UpQ ky M0 H B N bb P op sm n (Xb (RlX op sm ms kd pa sz nl nm ps))) (hM : PrM op sm P ms) (hp : OneP ps) (hnd : ndR op sm (-1) P ms kd nl ps ≤ B * 256) (hsm : ∀ t, t < 8 → sm t < 2 ^ 30) (hP : P < 2 ^ 30) (hB : B = 64 ∨ B = 96 ∨ B = 128) (hM0 : M0 + 40 ≤ M) (hM1 : M < 2 ^ 30) (hn : n < 65536) (hbb : bb < 2 ^ 31) : RXc sc (d + 8) mr_169 [.ref 1, .int 1] H 1 (fun H' => DnQ ky M H' B N P (dnO op) sm (ms.filter (keepM (dnO op) sm P (kmM ms))) kd pa sz nl nm ps ∧ ClsA H' B 0 0 0 1 cp cb tb 0 g 0 wss (T0 t0) ∧ ∀ a, 195 ≤ a → H'[a]? = H[a]?) := by
  have hX := xc_b (xc_rel (kd := kd) (pa := pa) (sz := sz) (nl := nl) (nm := nm) (ps := ps) hM)
  have hXN : ∀ c vs, (∀ v ∈ vs, VOk ky P v) → Xb (RlX op sm ms kd pa sz nl nm ps) c vs → sumN op sm (-1) P (kmV vs) vs ≤ B * 256 := fun c vs hv hx => by
    rw [rlx_need hv hx.1 hp]
    exact hnd
  have hsm2 : ∀ t, t < 8 → sm t < 2 ^ 31 := fun t ht => by have := hsm t ht; omega
  refine rx_compact1_late (ok1 := fun H' => UpQ ky M H' B N bb P op sm n (Xb (RlX op sm ms kd pa sz nl nm ps)) ∧ FrU H H') h ((compact1_Q hX hXN h.1 hU hB (by omega) hM0 hM1 hP hsm2 hn).mono (fun _ q => q) (fun _ q => q.1.no hbb)) (fun H' q => ?_) (fun H' q => (q.2 0 (by decide)).trans h.1)
  obtain ⟨H2, k1, ⟨b2, k2, k3⟩, k4, k5, k6⟩ := rx_upP (sc := sc) (d := d + 3) (x := 1) q.1 (h.frU q.2) (Or.inl (by decide)) (by omega)
  exact ⟨H2, k1, cut_D k3 k2 k5, k4, fun a ha => (k6 a ha).trans (q.2 a (Or.inr ha))⟩
theorem rx_compact1_cutQ (h : ClsA H B P 1 1 0 cp cb tb l g rl wss t0) (hU : UpQ ky M0 H B N bb P op sm n (Xb (RlX op sm ms kd pa sz nl nm ps))) (hM : PrM op sm P ms) (hp : OneP ps) (hnd : ndR op sm (-1) P ms kd nl ps ≤ B * 256) (hsm : ∀ t, t < 8 → sm t < 2 ^ 30) (hP : P < 2 ^ 30) (hB : B = 64 ∨ B = 96 ∨ B = 128) (hM0 : M0 + 40 ≤ M) (hM1 : M < 2 ^ 30) (hn : n < 65536) (hcp : cp < 2 ^ 31) (hcb : cb < 2 ^ 31) : RXc sc (d + 8) mr_169 [.ref 1, .int 1] H 1 (fun H' => DnQ ky M H' B N P (dnO op) sm (ms.filter (keepM (dnO op) sm P (kmM ms))) kd pa sz nl nm ps ∧ ClsA H' B 0 0 0 0 cp cb tb 0 g 0 wss (T0 t0) ∧ ∀ a, 195 ≤ a → H'[a]? = H[a]?) := by
  have hX := xc_b (xc_rel (kd := kd) (pa := pa) (sz := sz) (nl := nl) (nm := nm) (ps := ps) hM)
  have hXN : ∀ c vs, (∀ v ∈ vs, VOk ky P v) → Xb (RlX op sm ms kd pa sz nl nm ps) c vs → sumN op sm (-1) P (kmV vs) vs ≤ B * 256 := fun c vs hv hx => by
    rw [rlx_need hv hx.1 hp]
    exact hnd
  have hsm2 : ∀ t, t < 8 → sm t < 2 ^ 31 := fun t ht => by have := hsm t ht; omega
  have hfr : ∀ H2, FrU (H.set 71 (kO 1 [.ref 73, .ref 74, .int (lI (some cp)), .int (nI cb), .int (nI 0)])) H2 → FrU H H2 := fun H2 k3 a ha => (k3 a ha).trans (set_far (by omega))
  obtain ⟨cf, tf, pq, bb1, hch⟩ : ∃ cf tf pq bb1, ChipAt H B cf tf pq bb1 0 := by
    obtain ⟨S, lgs, fr, ff, wr, tp, rs, us, c, P1, gs, vs, tss, L, u1, -⟩ := id hU
    obtain ⟨tf, pq, ms9, mt, sq, tu, -, hch, -⟩ := u1.1
    exact ⟨c, tf, pq, bb, hch⟩
  refine rx_compact1_cut (ok1 := fun H' => UpQ ky M H' B N (cb + 2 ^ 32 * (cp + 2)) P op sm n (Xb (RlX op sm ms kd pa sz nl nm ps)) ∧ FrU H H') (bad := fun H' => CutP ky M H' B N (cb + 2 ^ 32 * (cp + 2)) P op sm (Xb (RlX op sm ms kd pa sz nl nm ps)) ∧ FrU H H') h hch ((compact1_Q hX hXN ((set_far (by decide)).trans h.1) (hU.arm (Nat.le_refl cp) hcp hcb) hB (by omega) hM0 hM1 hP hsm2 hn).mono (fun H' q => ⟨q.1, hfr H' q.2⟩) (fun H' q => ⟨q.1, hfr H' q.2⟩)) (fun H' q => ?_) (fun H' q => ?_) (fun H' q => (q.2 0 (by decide)).trans h.1) (fun H' q => (q.2 0 (by decide)).trans h.1)
  · obtain ⟨H2, k1, ⟨b2, k2, k3⟩, k4, k5, k6⟩ := rx_upP (sc := sc) (d := d + 3) (x := 1) q.1 (h.frU q.2) (Or.inl (by decide)) (by omega)
    exact ⟨H2, k1, cut_D k3 k2 k5, k4, fun a ha => (k6 a ha).trans (q.2 a (Or.inr ha))⟩
  · obtain ⟨H2, k1, k3, k4, k5, k6⟩ := rx_cutP (sc := sc) (d := d + 3) (x := 0) q.1 (h.frU q.2) (Or.inl (by decide))
    exact ⟨H2, k1, cut_D k3 (by omega) k5, k4, fun a ha => (k6 a ha).trans (q.2 a (Or.inr ha))⟩
end MQ
section S73
variable {L i k kc ks : Nat} {xs : Nat → Int32} {Q : tO × aH × Nat × Nat → Prop} {H : aH}
theorem iv_flush (hL : L < 2 ^ 30) (h : i + 6 ≤ L) (hI : InvI k H) (hk : k < 512) (kq : Hd L xs i kc ks Q (k + 1)) : RQ (L, xs) 2000 mr_law 824 [(4, .int (nI i)), (3, .ref 225), (2, .ref 196), (1, .ref 1), (0, .ref 0)] [] H kc ks Q := by
  rcases hI with ⟨ky, B, N, P, bb, cw, cl, cp, cb, tb, l, g, rl, wss, t0, op, sm, ms, kd, pa, sz, nl, nm, ps, fa, rs, g0, hJ⟩ | ⟨ky, B, N, P, cw, cl, cp, cb, tb, l, g, rl, wss, t0, op, sm, ms, kd, pa, sz, nl, nm, ps, fa, rs, g0, hJ⟩
  · obtain ⟨j1, j2, j3, j4, j5, j6, j7, j8, j9, j10, j11, j12, j13, j14, j15, j16, j17, j18, j19, jE, e, j20⟩ := id hJ
    obtain ⟨us, ba, bo, m1, hF, hG, qV, hR⟩ := hJ.fld hk
    obtain ⟨-, -, -, -, -, q5, q6, qR, qT, q8, q9, -⟩ := j10.cells
    rcases jE.1 with rfl | rfl
    · obtain ⟨x, H1, c1, c2, c3, c4, c5⟩ := ri_flush_okQ (M := 48 * (k + 1)) (sc := (L, xs)) (d := 1990) j8 j9 j12 j13 j14 j15 (by omega) j1 (by omega) (by omega) (by unfold nB; omega) j5
      have h224 : H1[224]? = some (kJ 1 e) := (c5 224 (by decide)).trans j20
      have hr0 : RefI (H1.set 224 (kJ 1 (va_up e 0 x.toInt64))) fa (B * 256) 0 0 cl tb l rs g0 P ms op sm wss kd pa sz nl nm ps := j10.far (fun a a1 a2 => (set_far (by omega)).trans (c5 a a1))
      obtain ⟨us0, ba0, bo0, n1, -⟩ := hr0.cells
      obtain ⟨z, H2, r1, r2, r3, r4⟩ := ri_mmaintR0 (sc := (L, xs)) (d := 1994) hr0 j11
      have hxz : z = x := r2.trans c2.symm
      rw [hxz] at r1
      obtain ⟨us2, ba2, bo2, m2, -⟩ := id r3
      have hlow : ∀ a, a < 195 → H2[a]? = H1[a]? := fun a ha => (r4 a (by omega)).trans (set_far (by omega))
      have h2 : H2[224]? = some (kJ 1 (va_up e 0 x.toInt64)) := (r4 224 (by omega)).trans (get_set h224)
      refine gs_ok10 (c1 := 0) (s1 := 0) (c2 := 0) (s2 := 0) (x := x) hL h j8.1 c1 h224 ((c5 195 (by decide)).trans m1) (rc_mflush n1 r1) m2 rfl h2 (kq.go0 (Or.inl ?_))
      exact ⟨ky, B, N, P, bb, 0, cl, cp, cb, tb, l, g, rl, wss, t0, op, sm, ms, kd, pa, sz, nl, nm, ps, 0, rs, g0, j1, j2, by omega, by omega, j5, j6, j7, c4.far (fun a a1 _ => hlow a (by omega)), c3.nr hlow, r3, j11, j12, j13, j14, j15, j16, j17, j18, j19, jE.to (by omega) (Nat.le_refl _) (Nat.le_refl _) (Nat.le_refl _) (fun j _ q => q), _, h2⟩
    · rcases jE.2.1 with rfl | rfl
      · obtain ⟨H1, nn, hn2, c1, c3, c4, c5⟩ := rx_flush_cutQ (M := 48 * (k + 1)) (sc := (L, xs)) (d := 1990) j8 j9 j12 j13 j14 j15 (by omega) j1 (by omega) (by omega) (by unfold nB; omega) j6 j7
        have hr0 : RefI H1 fa (B * 256) 0 1 0 tb l rs g0 P ms op sm wss kd pa sz nl nm ps := j10.far (fun a a1 a2 => c5 a a1)
        obtain ⟨us0, ba0, bo0, n1, -⟩ := hr0.cells
        obtain ⟨z, H2, r1, r2, r3, r4⟩ := ri_mmaintR1 (sc := (L, xs)) (d := 1994) hr0 j11
        obtain ⟨us2, ba2, bo2, m2, -⟩ := id r3
        have hlow : ∀ a, a < 195 → H2[a]? = H1[a]? := fun a ha => r4 a (by omega)
        have h2 : H2[224]? = some (kJ 1 e) := (r4 224 (by omega)).trans ((c5 224 (by decide)).trans j20)
        refine gs_x10_1 (c1 := nn) (s1 := 6 * nn) (c2 := 0) (s2 := 0) hL h j8.1 c1 ((c5 195 (by decide)).trans m1) (rc_mflush n1 r1) m2 rfl (kq H2 nn hn2 (Or.inr ?_))
        refine ⟨ky, B, N, P, 0, 0, cp, cb, tb, 0, g, 0, wss, _, dnO op, sm, _, kd, pa, sz, nl, nm, ps, 1, 0, g0, j1, j2, by omega, by omega, j6, j7, c4.far (fun a a1 _ => hlow a (by omega)), c3.nr hlow, r3, ⟨Nat.zero_le _, j11.2.1, j11.2.2.1.filter, j11.2.2.2⟩, PrM.purge, j13, ?_, j15, j16, rfl, fun j hj => absurd hj (Nat.not_lt_zero j), jE.dn (by omega) (Or.inl rfl) (by decide), _, h2⟩
        rw [nd_purge]
        exact Nat.le_trans nd_cl j14
      · obtain ⟨H1, nn, hn2, c1, c3, c4, c5⟩ := rx_flush_lateQ (M := 48 * (k + 1)) (sc := (L, xs)) (d := 1990) j8 j9 j12 j13 j14 j15 (by omega) j1 (by omega) (by omega) (by unfold nB; omega) j5
        have hr0 : RefI H1 fa (B * 256) 0 1 1 tb l rs g0 P ms op sm wss kd pa sz nl nm ps := j10.far (fun a a1 a2 => c5 a a1)
        obtain ⟨us0, ba0, bo0, n1, -⟩ := hr0.cells
        obtain ⟨z, H2, r1, r2, r3, r4⟩ := ri_mmaintR1 (sc := (L, xs)) (d := 1994) hr0 j11
        obtain ⟨us2, ba2, bo2, m2, -⟩ := id r3
        have hlow : ∀ a, a < 195 → H2[a]? = H1[a]? := fun a ha => r4 a (by omega)
        have h2 : H2[224]? = some (kJ 1 e) := (r4 224 (by omega)).trans ((c5 224 (by decide)).trans j20)
        refine gs_x10_1 (c1 := nn) (s1 := 6 * nn) (c2 := 0) (s2 := 0) hL h j8.1 c1 ((c5 195 (by decide)).trans m1) (rc_mflush n1 r1) m2 rfl (kq H2 nn hn2 (Or.inr ?_))
        refine ⟨ky, B, N, P, 0, 1, cp, cb, tb, 0, g, 0, wss, _, dnO op, sm, _, kd, pa, sz, nl, nm, ps, 1, 0, g0, j1, j2, by omega, by omega, j6, j7, c4.far (fun a a1 _ => hlow a (by omega)), c3.nr hlow, r3, ⟨Nat.zero_le _, j11.2.1, j11.2.2.1.filter, j11.2.2.2⟩, PrM.purge, j13, ?_, j15, j16, rfl, fun j hj => absurd hj (Nat.not_lt_zero j), jE.dn (by omega) (Or.inl rfl) (by decide), _, h2⟩
        rw [nd_purge]
        exact Nat.le_trans nd_cl j14
  · obtain ⟨d1, d2, d3, d4, d5, d6, d7, d8, d9, d10, d11, d12, d13, d14, d15, d16, d17, jE, e, d19⟩ := id hJ
    obtain ⟨us, ba, bo, m1, hF, hG, qV, hR⟩ := hJ.fld hk
    obtain ⟨-, -, -, -, -, q5, q6, qR, qT, q8, q9, -⟩ := d9.cells
    obtain ⟨H1, c1, c4, c5⟩ := rx_flush_down (sc := (L, xs)) (d := 1990) d7
    have hr := rc_mmaint_down (sc := (L, xs)) (d := 1997) ((c5 195 (by omega)).trans m1)
    refine gs_x10_1 (c1 := 1) (s1 := 6) (c2 := 0) (s2 := 0) hL h d7.1 c1 ((c5 195 (by omega)).trans m1) (rc_mflush ((c5 195 (by omega)).trans m1) hr) (get_set ((c5 195 (by omega)).trans m1)) rfl (kq.go1 (Or.inr ?_))
    exact hJ.row (cw' := cw) (cl' := cl) (cp' := cp) (cb' := cb) (fa' := 1) (tb' := tb) (l' := l) hk (c4.far (fun a a1 _ => set_far (by omega))) (hR _ 1 1 cw cl tb l rs g0 (get_set ((c5 195 (by omega)).trans m1)) ((set_far (by decide)).trans ((c5 196 (by omega)).trans q8)) ((set_far (by decide)).trans ((c5 197 (by omega)).trans q9)) (fun a a1 a2 => (set_far (by omega)).trans (c5 a (by omega)))) jE.1 jE.2.1 d10.1 (by omega) d5 d6 (fun a ha => (set_far (by omega)).trans (c5 a (by omega))) ⟨e, (set_far (by decide)).trans ((c5 224 (by omega)).trans d19)⟩
theorem iv_compact (hL : L < 2 ^ 30) (h : i + 6 ≤ L) (hI : InvI k H) (hk : k < 512) (kq : Hd L xs i kc ks Q (k + 1)) : RQ (L, xs) 2000 mr_law 868 [(4, .int (nI i)), (3, .ref 225), (2, .ref 196), (1, .ref 1), (0, .ref 0)] [] H kc ks Q := by
  rcases hI with ⟨ky, B, N, P, bb, cw, cl, cp, cb, tb, l, g, rl, wss, t0, op, sm, ms, kd, pa, sz, nl, nm, ps, fa, rs, g0, hJ⟩ | ⟨ky, B, N, P, cw, cl, cp, cb, tb, l, g, rl, wss, t0, op, sm, ms, kd, pa, sz, nl, nm, ps, fa, rs, g0, hJ⟩
  · obtain ⟨j1, j2, j3, j4, j5, j6, j7, j8, j9, j10, j11, j12, j13, j14, j15, j16, j17, j18, j19, jE, e, j20⟩ := id hJ
    obtain ⟨us, ba, bo, m1, hF, hG, qV, hR⟩ := hJ.fld hk
    obtain ⟨-, -, -, -, -, q5, q6, qR, qT, q8, q9, -⟩ := j10.cells
    rcases bz_01 (xs (i + 1)) with b0 | b0
    ·
      rcases jE.1 with rfl | rfl
      · obtain ⟨x, H1, c1, c2, c3, c4, c5⟩ := ri_compact0_okQ (M := 48 * (k + 1)) (sc := (L, xs)) (d := 1990) j8 j9 j12 j13 j14 j15 (by omega) j1 (by omega) (by omega) (by unfold nB; omega) j5
        have h224 : H1[224]? = some (kJ 1 e) := (c5 224 (by decide)).trans j20
        have hr0 : RefI (H1.set 224 (kJ 1 (va_up e 0 x.toInt64))) fa (B * 256) 0 0 cl tb l rs g0 P ms op sm wss kd pa sz nl nm ps := j10.far (fun a a1 a2 => (set_far (by omega)).trans (c5 a a1))
        obtain ⟨us0, ba0, bo0, n1, -⟩ := hr0.cells
        obtain ⟨z, H2, r1, r2, r3, r4⟩ := ri_mmaintR0 (sc := (L, xs)) (d := 1994) hr0 j11
        have hxz : z = x := r2.trans c2.symm
        rw [hxz] at r1
        obtain ⟨us2, ba2, bo2, m2, -⟩ := id r3
        have hlow : ∀ a, a < 195 → H2[a]? = H1[a]? := fun a ha => (r4 a (by omega)).trans (set_far (by omega))
        have h2 : H2[224]? = some (kJ 1 (va_up e 0 x.toInt64)) := (r4 224 (by omega)).trans (get_set h224)
        refine gs_ok11 (c1 := 0) (s1 := 0) (c2 := 0) (s2 := 0) (x := x) hL h j8.1 (by rw [b0]; exact c1) h224 ((c5 195 (by decide)).trans m1) (by rw [b0]; exact (rc_mcompact n1 r1)) m2 rfl h2 (kq.go0 (Or.inl ?_))
        exact ⟨ky, B, N, P, bb, 0, cl, cp, cb, tb, l, g, rl, wss, t0, op, sm, ms, kd, pa, sz, nl, nm, ps, 0, rs, g0, j1, j2, by omega, by omega, j5, j6, j7, c4.far (fun a a1 _ => hlow a (by omega)), c3.nr hlow, r3, j11, j12, j13, j14, j15, j16, j17, j18, j19, jE.to (by omega) (Nat.le_refl _) (Nat.le_refl _) (Nat.le_refl _) (fun j _ q => q), _, h2⟩
      · rcases jE.2.1 with rfl | rfl
        · obtain ⟨H1, nn, hn2, c1, c3, c4, c5⟩ := rx_compact0_cutQ (M := 48 * (k + 1)) (sc := (L, xs)) (d := 1990) j8 j9 j12 j13 j14 j15 (by omega) j1 (by omega) (by omega) (by unfold nB; omega) j6 j7
          have hr0 : RefI H1 fa (B * 256) 0 1 0 tb l rs g0 P ms op sm wss kd pa sz nl nm ps := j10.far (fun a a1 a2 => c5 a a1)
          obtain ⟨us0, ba0, bo0, n1, -⟩ := hr0.cells
          obtain ⟨z, H2, r1, r2, r3, r4⟩ := ri_mmaintR1 (sc := (L, xs)) (d := 1994) hr0 j11
          obtain ⟨us2, ba2, bo2, m2, -⟩ := id r3
          have hlow : ∀ a, a < 195 → H2[a]? = H1[a]? := fun a ha => r4 a (by omega)
          have h2 : H2[224]? = some (kJ 1 e) := (r4 224 (by omega)).trans ((c5 224 (by decide)).trans j20)
          refine gs_x11_1 (c1 := nn) (s1 := 6 * nn) (c2 := 0) (s2 := 0) hL h j8.1 (by rw [b0]; exact c1) ((c5 195 (by decide)).trans m1) (by rw [b0]; exact (rc_mcompact n1 r1)) m2 rfl (kq H2 nn hn2 (Or.inr ?_))
          refine ⟨ky, B, N, P, 0, 0, cp, cb, tb, 0, g, 0, wss, _, dnO op, sm, _, kd, pa, sz, nl, nm, ps, 1, 0, g0, j1, j2, by omega, by omega, j6, j7, c4.far (fun a a1 _ => hlow a (by omega)), c3.nr hlow, r3, ⟨Nat.zero_le _, j11.2.1, j11.2.2.1.filter, j11.2.2.2⟩, PrM.purge, j13, ?_, j15, j16, rfl, fun j hj => absurd hj (Nat.not_lt_zero j), jE.dn (by omega) (Or.inl rfl) (by decide), _, h2⟩
          rw [nd_purge]
          exact Nat.le_trans nd_cl j14
        · obtain ⟨H1, nn, hn2, c1, c3, c4, c5⟩ := rx_compact0_lateQ (M := 48 * (k + 1)) (sc := (L, xs)) (d := 1990) j8 j9 j12 j13 j14 j15 (by omega) j1 (by omega) (by omega) (by unfold nB; omega) j5
          have hr0 : RefI H1 fa (B * 256) 0 1 1 tb l rs g0 P ms op sm wss kd pa sz nl nm ps := j10.far (fun a a1 a2 => c5 a a1)
          obtain ⟨us0, ba0, bo0, n1, -⟩ := hr0.cells
          obtain ⟨z, H2, r1, r2, r3, r4⟩ := ri_mmaintR1 (sc := (L, xs)) (d := 1994) hr0 j11
          obtain ⟨us2, ba2, bo2, m2, -⟩ := id r3
          have hlow : ∀ a, a < 195 → H2[a]? = H1[a]? := fun a ha => r4 a (by omega)
          have h2 : H2[224]? = some (kJ 1 e) := (r4 224 (by omega)).trans ((c5 224 (by decide)).trans j20)
          refine gs_x11_1 (c1 := nn) (s1 := 6 * nn) (c2 := 0) (s2 := 0) hL h j8.1 (by rw [b0]; exact c1) ((c5 195 (by decide)).trans m1) (by rw [b0]; exact (rc_mcompact n1 r1)) m2 rfl (kq H2 nn hn2 (Or.inr ?_))
          refine ⟨ky, B, N, P, 0, 1, cp, cb, tb, 0, g, 0, wss, _, dnO op, sm, _, kd, pa, sz, nl, nm, ps, 1, 0, g0, j1, j2, by omega, by omega, j6, j7, c4.far (fun a a1 _ => hlow a (by omega)), c3.nr hlow, r3, ⟨Nat.zero_le _, j11.2.1, j11.2.2.1.filter, j11.2.2.2⟩, PrM.purge, j13, ?_, j15, j16, rfl, fun j hj => absurd hj (Nat.not_lt_zero j), jE.dn (by omega) (Or.inl rfl) (by decide), _, h2⟩
          rw [nd_purge]
          exact Nat.le_trans nd_cl j14
    ·
      rcases jE.1 with rfl | rfl
      · obtain ⟨x, H1, c1, c2, c3, c4, c5⟩ := ri_compact1_okQ (M := 48 * (k + 1)) (sc := (L, xs)) (d := 1990) j8 j9 j12 j13 j14 j15 (by omega) j1 (by omega) (by omega) (by unfold nB; omega) j5
        have h224 : H1[224]? = some (kJ 1 e) := (c5 224 (by decide)).trans j20
        have hr0 : RefI (H1.set 224 (kJ 1 (va_up e 0 x.toInt64))) fa (B * 256) 0 0 cl tb l rs g0 P ms op sm wss kd pa sz nl nm ps := j10.far (fun a a1 a2 => (set_far (by omega)).trans (c5 a a1))
        obtain ⟨us0, ba0, bo0, n1, -⟩ := hr0.cells
        obtain ⟨z, H2, r1, r2, r3, r4⟩ := ri_mmaintR0 (sc := (L, xs)) (d := 1994) hr0 j11
        have hxz : z = x := r2.trans c2.symm
        rw [hxz] at r1
        obtain ⟨us2, ba2, bo2, m2, -⟩ := id r3
        have hlow : ∀ a, a < 195 → H2[a]? = H1[a]? := fun a ha => (r4 a (by omega)).trans (set_far (by omega))
        have h2 : H2[224]? = some (kJ 1 (va_up e 0 x.toInt64)) := (r4 224 (by omega)).trans (get_set h224)
        refine gs_ok11 (c1 := 0) (s1 := 0) (c2 := 0) (s2 := 0) (x := x) hL h j8.1 (by rw [b0]; exact c1) h224 ((c5 195 (by decide)).trans m1) (by rw [b0]; exact (rc_mcompact n1 r1)) m2 rfl h2 (kq.go0 (Or.inl ?_))
        exact ⟨ky, B, N, P, bb, 0, cl, cp, cb, tb, l, g, rl, wss, t0, op, sm, ms, kd, pa, sz, nl, nm, ps, 0, rs, g0, j1, j2, by omega, by omega, j5, j6, j7, c4.far (fun a a1 _ => hlow a (by omega)), c3.nr hlow, r3, j11, j12, j13, j14, j15, j16, j17, j18, j19, jE.to (by omega) (Nat.le_refl _) (Nat.le_refl _) (Nat.le_refl _) (fun j _ q => q), _, h2⟩
      · rcases jE.2.1 with rfl | rfl
        · obtain ⟨H1, nn, hn2, c1, c3, c4, c5⟩ := rx_compact1_cutQ (M := 48 * (k + 1)) (sc := (L, xs)) (d := 1990) j8 j9 j12 j13 j14 j15 (by omega) j1 (by omega) (by omega) (by unfold nB; omega) j6 j7
          have hr0 : RefI H1 fa (B * 256) 0 1 0 tb l rs g0 P ms op sm wss kd pa sz nl nm ps := j10.far (fun a a1 a2 => c5 a a1)
          obtain ⟨us0, ba0, bo0, n1, -⟩ := hr0.cells
          obtain ⟨z, H2, r1, r2, r3, r4⟩ := ri_mmaintR1 (sc := (L, xs)) (d := 1994) hr0 j11
          obtain ⟨us2, ba2, bo2, m2, -⟩ := id r3
          have hlow : ∀ a, a < 195 → H2[a]? = H1[a]? := fun a ha => r4 a (by omega)
          have h2 : H2[224]? = some (kJ 1 e) := (r4 224 (by omega)).trans ((c5 224 (by decide)).trans j20)
          refine gs_x11_1 (c1 := nn) (s1 := 6 * nn) (c2 := 0) (s2 := 0) hL h j8.1 (by rw [b0]; exact c1) ((c5 195 (by decide)).trans m1) (by rw [b0]; exact (rc_mcompact n1 r1)) m2 rfl (kq H2 nn hn2 (Or.inr ?_))
          refine ⟨ky, B, N, P, 0, 0, cp, cb, tb, 0, g, 0, wss, _, dnO op, sm, _, kd, pa, sz, nl, nm, ps, 1, 0, g0, j1, j2, by omega, by omega, j6, j7, c4.far (fun a a1 _ => hlow a (by omega)), c3.nr hlow, r3, ⟨Nat.zero_le _, j11.2.1, j11.2.2.1.filter, j11.2.2.2⟩, PrM.purge, j13, ?_, j15, j16, rfl, fun j hj => absurd hj (Nat.not_lt_zero j), jE.dn (by omega) (Or.inl rfl) (by decide), _, h2⟩
          rw [nd_purge]
          exact Nat.le_trans nd_cl j14
        · obtain ⟨H1, nn, hn2, c1, c3, c4, c5⟩ := rx_compact1_lateQ (M := 48 * (k + 1)) (sc := (L, xs)) (d := 1990) j8 j9 j12 j13 j14 j15 (by omega) j1 (by omega) (by omega) (by unfold nB; omega) j5
          have hr0 : RefI H1 fa (B * 256) 0 1 1 tb l rs g0 P ms op sm wss kd pa sz nl nm ps := j10.far (fun a a1 a2 => c5 a a1)
          obtain ⟨us0, ba0, bo0, n1, -⟩ := hr0.cells
          obtain ⟨z, H2, r1, r2, r3, r4⟩ := ri_mmaintR1 (sc := (L, xs)) (d := 1994) hr0 j11
          obtain ⟨us2, ba2, bo2, m2, -⟩ := id r3
          have hlow : ∀ a, a < 195 → H2[a]? = H1[a]? := fun a ha => r4 a (by omega)
          have h2 : H2[224]? = some (kJ 1 e) := (r4 224 (by omega)).trans ((c5 224 (by decide)).trans j20)
          refine gs_x11_1 (c1 := nn) (s1 := 6 * nn) (c2 := 0) (s2 := 0) hL h j8.1 (by rw [b0]; exact c1) ((c5 195 (by decide)).trans m1) (by rw [b0]; exact (rc_mcompact n1 r1)) m2 rfl (kq H2 nn hn2 (Or.inr ?_))
          refine ⟨ky, B, N, P, 0, 1, cp, cb, tb, 0, g, 0, wss, _, dnO op, sm, _, kd, pa, sz, nl, nm, ps, 1, 0, g0, j1, j2, by omega, by omega, j6, j7, c4.far (fun a a1 _ => hlow a (by omega)), c3.nr hlow, r3, ⟨Nat.zero_le _, j11.2.1, j11.2.2.1.filter, j11.2.2.2⟩, PrM.purge, j13, ?_, j15, j16, rfl, fun j hj => absurd hj (Nat.not_lt_zero j), jE.dn (by omega) (Or.inl rfl) (by decide), _, h2⟩
          rw [nd_purge]
          exact Nat.le_trans nd_cl j14
  · obtain ⟨d1, d2, d3, d4, d5, d6, d7, d8, d9, d10, d11, d12, d13, d14, d15, d16, d17, jE, e, d19⟩ := id hJ
    obtain ⟨us, ba, bo, m1, hF, hG, qV, hR⟩ := hJ.fld hk
    obtain ⟨-, -, -, -, -, q5, q6, qR, qT, q8, q9, -⟩ := d9.cells
    rcases bz_01 (xs (i + 1)) with b0 | b0
    ·
      obtain ⟨H1, c1, c4, c5⟩ := rx_compact0_down (sc := (L, xs)) (d := 1990) d7
      have hr := rc_mmaint_down (sc := (L, xs)) (d := 1997) ((c5 195 (by omega)).trans m1)
      refine gs_x11_1 (c1 := 1) (s1 := 6) (c2 := 0) (s2 := 0) hL h d7.1 (by rw [b0]; exact c1) ((c5 195 (by omega)).trans m1) (by rw [b0]; exact (rc_mcompact ((c5 195 (by omega)).trans m1) hr)) (get_set ((c5 195 (by omega)).trans m1)) rfl (kq.go1 (Or.inr ?_))
      exact hJ.row (cw' := cw) (cl' := cl) (cp' := cp) (cb' := cb) (fa' := 1) (tb' := tb) (l' := l) hk (c4.far (fun a a1 _ => set_far (by omega))) (hR _ 1 1 cw cl tb l rs g0 (get_set ((c5 195 (by omega)).trans m1)) ((set_far (by decide)).trans ((c5 196 (by omega)).trans q8)) ((set_far (by decide)).trans ((c5 197 (by omega)).trans q9)) (fun a a1 a2 => (set_far (by omega)).trans (c5 a (by omega)))) jE.1 jE.2.1 d10.1 (by omega) d5 d6 (fun a ha => (set_far (by omega)).trans (c5 a (by omega))) ⟨e, (set_far (by decide)).trans ((c5 224 (by omega)).trans d19)⟩
    ·
      obtain ⟨H1, c1, c4, c5⟩ := rx_compact1_down (sc := (L, xs)) (d := 1990) d7
      have hr := rc_mmaint_down (sc := (L, xs)) (d := 1997) ((c5 195 (by omega)).trans m1)
      refine gs_x11_1 (c1 := 1) (s1 := 6) (c2 := 0) (s2 := 0) hL h d7.1 (by rw [b0]; exact c1) ((c5 195 (by omega)).trans m1) (by rw [b0]; exact (rc_mcompact ((c5 195 (by omega)).trans m1) hr)) (get_set ((c5 195 (by omega)).trans m1)) rfl (kq.go1 (Or.inr ?_))
      exact hJ.row (cw' := cw) (cl' := cl) (cp' := cp) (cb' := cb) (fa' := 1) (tb' := tb) (l' := l) hk (c4.far (fun a a1 _ => set_far (by omega))) (hR _ 1 1 cw cl tb l rs g0 (get_set ((c5 195 (by omega)).trans m1)) ((set_far (by decide)).trans ((c5 196 (by omega)).trans q8)) ((set_far (by decide)).trans ((c5 197 (by omega)).trans q9)) (fun a a1 a2 => (set_far (by omega)).trans (c5 a (by omega)))) jE.1 jE.2.1 d10.1 (by omega) d5 d6 (fun a ha => (set_far (by omega)).trans (c5 a (by omega))) ⟨e, (set_far (by decide)).trans ((c5 224 (by omega)).trans d19)⟩
end S73
