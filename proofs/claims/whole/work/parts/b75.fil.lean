/-! ===== changes of files: what is needed, the relation and the state behind them; by hand ===== -/
theorem stK_next {L : List (List Nat × Nat)} {k : List Nat} {a P : Nat} (hL : ∀ x ∈ L, x.2 ≤ P) (ha : a ≤ P) : stK L k a (P + 1) = stK L k a P := by
  unfold stK
  rw [decide_eq_true (show a ≤ P + 1 by omega), decide_eq_true ha, Bool.true_and, Bool.true_and, Bool.eq_iff_iff, List.all_eq_true, List.all_eq_true]
  constructor
  · intro h x hx
    have h1 := h x hx
    have h2 := hL x hx
    rw [decide_eq_true (show x.2 ≤ P + 1 by omega)] at h1
    rw [decide_eq_true h2]
    exact h1
  · intro h x hx
    have h1 := h x hx
    have h2 := hL x hx
    rw [decide_eq_true h2] at h1
    rw [decide_eq_true (show x.2 ≤ P + 1 by omega)]
    exact h1
theorem wM_next {op : Nat → Bool} {sm : Nat → Nat} {x : Int32} {P : Nat} {L : List (List Nat × Nat)} {w : aMV} (hL : ∀ y ∈ L, y.2 ≤ P) (hw : w.2.1 ≤ P) : wM op sm x (P + 1) L w = wM op sm x P L w := by
  unfold wM
  rw [stK_next hL hw]
theorem km_le {ms : List aMV} {P : Nat} (h : ∀ w ∈ ms, w.2.1 ≤ P) : ∀ y ∈ kmM ms, y.2 ≤ P := fun y hy => by
  obtain ⟨w, hw, rfl⟩ := List.mem_map.mp hy
  exact h w hw
theorem PrM.next {op : Nat → Bool} {sm : Nat → Nat} {P : Nat} {ms : List aMV} (h : PrM op sm P ms) (hm : ∀ w ∈ ms, w.2.1 ≤ P) : PrM op sm (P + 1) ms := fun w hw => by
  have := h w hw
  unfold keepM at this ⊢
  rw [wM_next (km_le hm) (hm w hw)]
  exact this
theorem nd_next {op : Nat → Bool} {sm : Nat → Nat} {x : Int32} {P : Nat} {ms : List aMV} {kd nl : Nat → Nat} {ps : List aPc} (hm : ∀ w ∈ ms, w.2.1 ≤ P) : ndR op sm x (P + 1) ms kd nl ps = ndR op sm x P ms kd nl ps := by
  unfold ndR
  rw [List.map_congr_left (fun w hw => wM_next (km_le hm) (hm w hw))]
theorem incl_le {P : Nat} {Q : Nat → Nat} {ws : List aE} {vs : List aV} (hP : ∀ v ∈ vs, v.2.1 ≤ P) : ∀ v ∈ inclV (P + 1) Q 0 ws vs, v.2.1 ≤ P + 1 := fun v hv => by
  rcases mem_incl.mp hv with r | r
  · have := hP v r
    omega
  · rw [(verB_alone r).2]
    exact Nat.le_refl _
theorem fil_rel {op : Nat → Bool} {sm : Nat → Nat} {P : Nat} {Q : Nat → Nat} {c c1 : Nat → Int8} {vs : List aV} {ms : List aMV} {kd pa sz nl kd' pa' sz' nl' : Nat → Nat} {nm nm' : Nat → Int8} {ps ps' : List aPc} {ws : List aE} (h : RlX op sm ms kd pa sz nl nm ps c vs) (hs1 : SrtV ((inclV (P + 1) Q 0 ws vs).filter (keepS op sm (P + 1) (kmV (inclV (P + 1) Q 0 ws vs))))) (hold : ∀ v ∈ vs, v.2.2.2.1 ≠ none → valB c1 v = valB c v) (hP : ∀ v ∈ vs, v.2.1 ≤ P) (hf : ∀ e ∈ ws, ¬ e.1.head? = some 0) (hPr : PrM op sm P ms) (hN : NodR c1 ((inclV (P + 1) Q 0 ws vs).filter (keepS op sm (P + 1) (kmV (inclV (P + 1) Q 0 ws vs)))) kd' pa' sz' nl' nm' ∧ PcR c1 ((inclV (P + 1) Q 0 ws vs).filter (keepS op sm (P + 1) (kmV (inclV (P + 1) Q 0 ws vs)))) ps') : RlX op sm ms kd' pa' sz' nl' nm' ps' c1 ((inclV (P + 1) Q 0 ws vs).filter (keepS op sm (P + 1) (kmV (inclV (P + 1) Q 0 ws vs)))) := by
  obtain ⟨r1, r2, r3, r4⟩ := h
  have hlt : ∀ v ∈ vs, v.2.1 < P + 1 := fun v hv => by have := hP v hv; omega
  have e2 := r2.files (c' := c1) (Q := Q) (m := P + 1) (ws := ws) r1.one hlt hold hf
  have e3 := rel_prune (pr := P + 1) e2 (incl_le hP)
  rw [List.filter_eq_self.mpr (hPr.next (rel_le r2 hP))] at e3
  exact ⟨hs1, e3, hN.1, hN.2⟩
theorem fil_rel0 {op op' : Nat → Bool} {sm : Nat → Nat} {P : Nat} {Q : Nat → Nat} {c c1 : Nat → Int8} {vs : List aV} {ms : List aMV} {kd pa sz nl kd' pa' sz' nl' : Nat → Nat} {nm nm' : Nat → Int8} {ps ps' : List aPc} {ws : List aE} (h : RlX op sm ms kd pa sz nl nm ps c vs) (ho : ∀ t, t < 8 → op' t = true → op t = true) (hs1 : SrtV (inclV (P + 1) Q 0 ws vs)) (hold : ∀ v ∈ vs, v.2.2.2.1 ≠ none → valB c1 v = valB c v) (hP : ∀ v ∈ vs, v.2.1 ≤ P) (hf : ∀ e ∈ ws, ¬ e.1.head? = some 0) (hN : NodR c1 (inclV (P + 1) Q 0 ws vs) kd' pa' sz' nl' nm' ∧ PcR c1 (inclV (P + 1) Q 0 ws vs) ps') : RlX op' sm ms kd' pa' sz' nl' nm' ps' c1 (inclV (P + 1) Q 0 ws vs) := by
  obtain ⟨r1, r2, r3, r4⟩ := h
  have hlt : ∀ v ∈ vs, v.2.1 < P + 1 := fun v hv => by have := hP v hv; omega
  have e2 := r2.files (c' := c1) (Q := Q) (m := P + 1) (ws := ws) r1.one hlt hold hf
  exact ⟨hs1, e2.sight (fun t ht q => Or.inl ⟨ho t ht q, rfl⟩), hN.1, hN.2⟩
/-- what the class would need with such a change, and what the reference needs behind it -/
theorem need_fil {ky : List (List Nat)} {op : Nat → Bool} {sm : Nat → Nat} {x : Int32} {P : Nat} {c : Nat → Int8} {vs : List aV} {ms : List aMV} {kd pa sz nl kd' pa' sz' nl' : Nat → Nat} {nm nm' : Nat → Int8} {ps ps' : List aPc} {ws : List aE} (h : RlX op sm ms kd pa sz nl nm ps c vs) (hV : ∀ v ∈ vs, VOk ky P v) (hpl : ∀ v ∈ vs, v.2.2.2.1 ≠ none → v.2.2.1 < 4194304) (hp : OneP ps') (h1 : OneW ws) (hK : ∀ e ∈ ws, EntK ky e) (hb : ∀ e ∈ ws, ∀ l, e.2 = some l → ∀ b ∈ l, b < 256) (hn : ws.length ≤ 40) (hf : ∀ e ∈ ws, ¬ e.1.head? = some 0) (hrel : ∀ c1 vs', InV c c1 vs vs' ws → NodR c1 vs' kd' pa' sz' nl' nm' ∧ PcR c1 vs' ps') : sumN op sm x (P + 1) (kmV (inclV (P + 1) (fun _ => 0) 0 ws vs)) (inclV (P + 1) (fun _ => 0) 0 ws vs) = ndR op sm x (P + 1) ms kd' nl' ps' := by
  obtain ⟨r1, r2, r3, r4⟩ := h
  have e := incl_stp (m := P + 1) (Q := fun _ => 0) (Q' := bQ) ws 0 (vs := vs) (vs' := vs) rfl
  rw [km_stp e, sum_stp e]
  have hlt : ∀ v ∈ vs, v.2.1 < P + 1 := fun v hv => by have := (hV v hv).1; omega
  have hold : ∀ v ∈ vs, v.2.2.2.1 ≠ none → valB (bC c ws) v = valB c v := fun v hv hn => bC_old (hpl v hv hn) (KeyV.w (hV v hv).2.1).2.1 (by have := KeyV.len (hV v hv).2.1; omega)
  have hnew : ∀ i e l, ws[i]? = some e → e.2 = some l → valB (bC c ws) (e.1, P + 1, bQ i, e.2.map List.length, true) = l := fun i e l hi hl => by
    have hm := List.mem_of_getElem? hi
    have hk := (hK e hm).len
    refine bC_new hi hl (fun b hbl => hb e hm l hl b hbl) hk.2.1 ?_
    have := hk.2.2
    rw [hl] at this
    have h3 : l.length ≤ 1000 := this
    omega
  have hI : InV c (bC c ws) vs (inclV (P + 1) bQ 0 ws vs) ws := fun k b => val_incl h1 hlt hold hnew k b
  have hV2 : ∀ v ∈ inclV (P + 1) bQ 0 ws vs, VOk ky (P + 1) v := fun v hv => by
    rcases mem_incl.mp hv with r | r
    · obtain ⟨a1, a2, a3⟩ := hV v r
      exact ⟨by omega, a2, a3⟩
    · obtain ⟨i, e, hi, ev⟩ := mem_verB.mp r
      have hil : i < ws.length := (List.getElem?_eq_some_iff.mp hi).1
      rw [ev]
      refine ⟨Nat.le_refl _, KeyV.same (hK e (List.mem_of_getElem? hi)).1 rfl rfl, ?_, (hK e (List.mem_of_getElem? hi)).2⟩
      show bQ (0 + i) < 2 ^ 24
      unfold bQ
      omega
  have hr := hrel _ _ hI
  exact need_same (SrtV.incl _ 0 r1 h1 (fun w hw _ _ _ => hlt w hw)) hV2 (fun v hv => (hV2 v hv).1) (r2.files r1.one hlt hold hf) hr.1 hr.2 hp
theorem opn_5 {ws : List aE} (h : (szW ws).sum < 6144) : ∀ w t, opnN w t (szW ws) ≤ 5 := fun w t => by
  have := opn_any (w := w) (tp := t) (ns := szW ws)
  omega
/-- behind a change of files that came through -/
theorem UpJ.fil {ky ky' : List (List Nat)} {k : Nat} {H H' : aH} {B N P bb : Nat} {cl : Int32} {cp cb : Nat} {tb : Nat → Int8} {l : Nat} {g : Nat → Int8} {rl : Nat} {wss : Nat → List aE} {t0 t1 : aTr} {op : Nat → Bool} {sm : Nat → Nat} {ms : List aMV} {kd pa sz nl kd' pa' sz' nl' : Nat → Nat} {nm nm' : Nat → Int8} {ps ps' : List aPc} {fa rs : Int32} {g0 : Nat → Int8} {l' : Nat} (hJ : UpJ ky k H B N P bb 0 cl cp cb tb l g rl wss t0 op sm ms kd pa sz nl nm ps fa rs g0) (hk : k < 512) (hm : ∀ w ∈ ms, w.2.1 ≤ P) (hC : ClsA H' B (P + 1) 1 0 cl cp cb tb l' g rl wss t1) (hQ : UpQ ky' (48 * (k + 1)) H' B N bb (P + 1) op sm (nB B) (Xb (RlX op sm ms kd' pa' sz' nl' nm' ps'))) (hR : RefI H' 0 (B * 256) 0 0 cl tb l' rs g0 (P + 1) ms op sm wss kd' pa' sz' nl' nm' ps') (hl : l' ≤ l) (hT : TreeOk kd' pa' sz' nl') (hpk : ∀ x ∈ ps', PcOk x) (h1P : OneP ps') (hnd : ndR op sm (-1) (P + 1) ms kd' nl' ps' ≤ B * 256) (hS : SameT t1 kd' pa' sz' nl' nm') (hT1 : TreeOk t1.1 t1.2.1 t1.2.2.1 t1.2.2.2.1) (hpz : ∀ x ∈ ps', kd' x.1 = 1 ∧ 512 * x.2.1 + x.2.2.length ≤ sz' x.1) (hW : TrW kd' pa') (hsub : ∀ x ∈ ky, x ∈ ky') (hky : 512 * ky'.length + l' ≤ 1024 * (k + 1)) (he : ∃ e, H'[224]? = some (kJ 1 e)) (hz : pa' 0 = pa 0 ∧ sz' 0 = sz 0 ∧ nl' 0 = nl 0) : UpI (k + 1) H' := by
  obtain ⟨j1, j2, j3, j4, j5, j6, j7, j8, j9, j10, j11, j12, j13, j14, j15, j16, j17, j18, j19, ⟨e1, e0, e2, e3, e4, e5, e6, e7, e8⟩, j20⟩ := hJ
  have h11 := j11.1
  have y1 := hz.1.trans e2.2.2.1
  have y2 := hz.2.1.trans e2.2.2.2.1
  have y3 := hz.2.2.trans e2.2.2.2.2
  obtain ⟨z1, z2, z3, -⟩ := hS.2.1 0 (by decide) (by rw [hW.1]; decide)
  have hpl : 27 * ps'.length + plen ps' ≤ B * 256 := by
    unfold ndR at hnd
    omega
  exact ⟨ky', B, N, P + 1, bb, 0, cl, cp, cb, tb, l', g, rl, wss, t1, op, sm, ms, kd', pa', sz', nl', nm', ps', 0, rs, g0, j1, j2, by omega, by omega, j5, j6, j7, hC, hQ, hR, ⟨by omega, by omega, j11.2.2.1, j11.2.2.2.1, hT, by omega, by omega, hpk⟩, j12.next hm, h1P, hnd, j15, fun t ht => (j16 t ht).ky hsub, hS, j18, j19, ⟨e1, e0, ⟨e2.1, ⟨z1.trans y1, z2.trans y2, z3.trans y3⟩, y1, y2, y3⟩, hT1, e4, hpz, fun t ht q => Nat.le_succ_of_le (e6 t ht q), hky, hW⟩, he⟩
/-- the chip has such a change, memory is gone -/
theorem UpJ.filD {ky ky' : List (List Nat)} {k : Nat} {H H' : aH} {B N P P' bb : Nat} {cw cl cl' : Int32} {cp cb : Nat} {tb : Nat → Int8} {l : Nat} {g : Nat → Int8} {rl : Nat} {wss : Nat → List aE} {t0 : aTr} {op : Nat → Bool} {sm : Nat → Nat} {ms : List aMV} {kd pa sz nl kd' pa' sz' nl' : Nat → Nat} {nm nm' : Nat → Int8} {ps ps' : List aPc} {fa rs fa' : Int32} {g0 : Nat → Int8} (hJ : UpJ ky k H B N P bb cw cl cp cb tb l g rl wss t0 op sm ms kd pa sz nl nm ps fa rs g0) (hk : k < 512) (hP' : P ≤ P') (hP2 : P' ≤ P + 1) (hcl : cl' = 0 ∨ cl' = 1) (hC : ClsA H' B 0 0 0 cl' cp cb tb 0 g 0 wss (T0 t0)) (hQ : DnQ ky' (48 * (k + 1)) H' B N P' (dnO op) sm (ms.filter (keepM (dnO op) sm P' (kmM ms))) kd' pa' sz' nl' nm' ps') (hR : RefI H' fa' (B * 256) 1 0 cl' tb 0 0 g0 P' (ms.filter (keepM (dnO op) sm P' (kmM ms))) (dnO op) sm wss kd' pa' sz' nl' nm' ps') (hT : TreeOk kd' pa' sz' nl') (hpk : ∀ x ∈ ps', PcOk x) (h1P : OneP ps') (hnd : ndR op sm (-1) P' ms kd' nl' ps' ≤ B * 256) (hpz : ∀ x ∈ ps', kd' x.1 = 1 ∧ 512 * x.2.1 + x.2.2.length ≤ sz' x.1) (hW : TrW kd' pa') (hsub : ∀ x ∈ ky, x ∈ ky') (hky : 512 * ky'.length ≤ 1024 * (k + 1)) (he : ∃ e, H'[224]? = some (kJ 1 e)) (hz : pa' 0 = pa 0 ∧ sz' 0 = sz 0 ∧ nl' 0 = nl 0) : DnI (k + 1) H' := by
  obtain ⟨j1, j2, j3, j4, j5, j6, j7, j8, j9, j10, j11, j12, j13, j14, j15, j16, j17, j18, j19, jE, j20⟩ := hJ
  have hpl : 27 * ps'.length + plen ps' ≤ B * 256 := by
    unfold ndR at hnd
    omega
  obtain ⟨f1, f0, f2, f3, f4, f5, f6, f7, f8⟩ := jE.dn (k' := k + 1) (cw' := 0) (cl' := cl') (P' := P') (by omega) (Or.inl rfl) hcl
  refine ⟨ky', B, N, P', 0, cl', cp, cb, tb, 0, g, 0, wss, _, dnO op, sm, _, kd', pa', sz', nl', nm', ps', fa', 0, g0, j1, j2, by omega, by omega, j6, j7, hC, hQ, hR, ⟨Nat.zero_le _, by omega, j11.2.2.1.filter, j11.2.2.2.1, hT, by omega, by omega, hpk⟩, PrM.purge, h1P, ?_, j15, fun t ht => (j16 t ht).ky hsub, rfl, fun j hj => absurd hj (Nat.not_lt_zero j), ⟨f1, f0, ⟨f2.1, f2.2.1, hz.1.trans f2.2.2.1, hz.2.1.trans f2.2.2.2.1, hz.2.2.trans f2.2.2.2.2⟩, f3, f4, hpz, f6, hky, hW⟩, he⟩
  rw [nd_purge]
  exact Nat.le_trans nd_cl hnd
theorem beB_lt : ∀ {n x b : Nat}, b ∈ beB n x → b < 256
  | 0, _, _, h => absurd h List.not_mem_nil
  | n + 1, x, b, h => by
    rcases List.mem_cons.mp h with q | q
    · rw [q]
      exact Nat.mod_lt _ (by decide)
    · exact beB_lt q
