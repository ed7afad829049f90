/-! ===== collect: the log in which the least is needed holds little enough; its ends, and the case of the law; written by wip/gen/coll.py ===== -/
theorem LsOk.nol {B : Nat} {l : List Nat} {rs : List aR} (h : LsOk B l rs) : LsOk B [] rs := ⟨fun b hb => absurd hb List.not_mem_nil, h.2.1, by rw [List.nil_append]; exact (List.nodup_append.mp h.2.2).2.1⟩
theorem LsOk.tl {B : Nat} {x : aR} {rs : List aR} (h : LsOk B [] (x :: rs)) : LsOk B [] rs := by
  refine ⟨h.1, fun y hy => h.2.1 y (List.mem_cons_of_mem _ hy), ?_⟩
  have h2 := h.2.2
  rw [List.nil_append, List.flatMap_cons] at h2
  rw [List.nil_append]
  exact (List.nodup_append.mp h2).2.1
theorem frL_tab {B : Nat} (hB : 2 ≤ B) : ∀ (rs : List aR), LsOk B [] rs → frL B [] rs + tbK rs + 2 = B
  | [], _ => by
    have h1 := frL_nil hB
    show frL B [] [] + 0 + 2 = B
    omega
  | x :: rs, h => by
    have h1 := frL_tab hB rs h.tl
    have h2 := frL_run h
    have h3 : tbK (x :: rs) = x.2.2.2.length + tbK rs := by unfold tbK; rw [List.map_cons, List.sum_cons]
    omega
theorem frL_all {B : Nat} {l : List Nat} {rs : List aR} (h : LsOk B l rs) (hB : 2 ≤ B) : frL B l rs + l.length + tbK rs + 2 = B := by
  have h1 := frL_logs h
  have h2 := frL_tab hB rs h.nol
  omega
theorem sum_zr {α : Type} {f : α → Nat} : ∀ {l : List α}, (∀ x ∈ l, f x = 0) → (l.map f).sum = 0
  | [], _ => rfl
  | x :: l, h => by
    rw [List.map_cons, List.sum_cons, h x List.mem_cons_self, sum_zr (fun y hy => h y (List.mem_cons_of_mem _ hy))]
theorem sum_ad {α : Type} {f g : α → Nat} : ∀ (l : List α), (l.map (fun x => f x + g x)).sum = (l.map f).sum + (l.map g).sum
  | [] => rfl
  | x :: l => by
    rw [List.map_cons, List.sum_cons, List.map_cons, List.sum_cons, List.map_cons, List.sum_cons, sum_ad l]
    omega
theorem sum_hot {b w : Nat} {q : Prop} [Decidable q] : ∀ {l : List Nat}, l.Nodup → (l.map (fun x => if q ∧ b = x then w else 0)).sum ≤ if q then w else 0
  | [], _ => Nat.zero_le _
  | x :: l, h => by
    rw [List.map_cons, List.sum_cons]
    by_cases e : b = x
    · have h0 : (l.map (fun x => if q ∧ b = x then w else 0)).sum = 0 := sum_zr (fun y hy => if_neg (fun z => (List.nodup_cons.mp h).1 (by rw [← e, z.2]; exact hy)))
      rw [h0]
      by_cases e2 : q
      · rw [if_pos ⟨e2, e⟩, if_pos e2]; omega
      · rw [if_neg (fun z => e2 z.1), if_neg e2]; omega
    · rw [if_neg (fun z => e z.2)]
      have := sum_hot (b := b) (w := w) (q := q) (List.nodup_cons.mp h).2
      omega
theorem ld_logs {lgs : List Nat} (hn : lgs.Nodup) : ∀ (vs : List aV), (lgs.map (fun x => ldN vs x)).sum ≤ (vs.map (fun v => if v.2.2.2.1 ≠ none then wgV v else 0)).sum
  | [] => by
    have h0 : (lgs.map (fun x => ldN [] x)).sum = 0 := sum_zr (fun x _ => rfl)
    rw [h0]
    exact Nat.zero_le _
  | v :: vs => by
    have h1 := ld_logs hn vs
    have h2 := sum_hot (b := v.2.2.1 / 2048) (w := wgV v) (q := v.2.2.2.1 ≠ none) hn
    have h3 : (lgs.map (fun x => ldN (v :: vs) x)).sum = (lgs.map (fun x => if v.2.2.2.1 ≠ none ∧ v.2.2.1 / 2048 = x then wgV v else 0)).sum + (lgs.map (fun x => ldN vs x)).sum := by
      rw [← sum_ad]
      rfl
    rw [h3, List.map_cons, List.sum_cons]
    omega
theorem min_avg {f : Nat → Nat} {m : Nat} : ∀ (l : List Nat), (∀ x ∈ l, m ≤ f x) → l.length * m ≤ (l.map f).sum
  | [], _ => by rw [List.length_nil, Nat.zero_mul]; exact Nat.zero_le _
  | x :: l, h => by
    have h1 := min_avg l (fun y hy => h y (List.mem_cons_of_mem _ hy))
    have h2 := h x List.mem_cons_self
    rw [List.length_cons, List.map_cons, List.sum_cons, Nat.succ_mul]
    omega
theorem val_need {op : Nat → Bool} {sm : Nat → Nat} {P : Nat} {vs : List aV} (h : PgV op sm P vs) : (vs.map (fun v => if v.2.2.2.1 ≠ none then wgV v else 0)).sum ≤ sumN op sm (-1) P (kmV vs) vs := by
  unfold sumN
  refine sum_mono vs (fun v hv => ?_)
  by_cases e : v.2.2.2.1 = none
  · rw [if_neg (fun q => q e)]
    exact Nat.zero_le _
  · rw [if_pos e, if_pos (h.val v hv e)]
    exact Nat.le_refl _
theorem wg_in {v : aV} {n : Nat} (h : KeyV v) (hn : v.2.2.2.1 = some n) : 4 * szV v + 2 * (v.1.length + 10) ≤ 5 * wgV v := by
  unfold szV wgV wgt
  rw [hn]
  rcases h with ⟨k, h1, h2, h3, h4⟩ | ⟨f, h1, h2, h3, h4⟩ | ⟨f, i, h1, h2, h3, h4⟩
  · rw [h1]
    show 4 * (9 + (k.length + 1) + n) + 2 * (k.length + 1 + 10) ≤ 5 * (24 + (k.length + 1) - 1 + n)
    omega
  · have := h4 n hn
    rw [h1]
    show 4 * (9 + 2 + n) + 2 * (2 + 10) ≤ 5 * (62 + n - 4)
    omega
  · rw [h1]
    show 4 * (9 + 3 + n) + 2 * (3 + 10) ≤ 5 * (27 + n)
    omega
theorem mv_load {blk : Nat} : ∀ (vs : List aV), (∀ v ∈ vs, KeyV v) → 4 * (mvS (some blk) vs).sum + 2 * mvB (some blk) vs ≤ 5 * ldN vs blk
  | [], _ => Nat.zero_le _
  | v :: vs, h => by
    have h1 := mv_load (blk := blk) vs (fun y hy => h y (List.mem_cons_of_mem _ hy))
    have hl : ldN (v :: vs) blk = (if v.2.2.2.1 ≠ none ∧ v.2.2.1 / 2048 = blk then wgV v else 0) + ldN vs blk := rfl
    by_cases e : v.2.2.2.1 ≠ none ∧ v.2.2.1 / 2048 = blk
    · have hi : inB (some blk) v = true := decide_eq_true ⟨e.1, Or.inr (by rw [e.2])⟩
      have hs : (mvS (some blk) (v :: vs)).sum = szV v + (mvS (some blk) vs).sum := by
        unfold mvS
        rw [List.filter_cons, if_pos hi, List.map_cons, List.sum_cons]
      have hb : mvB (some blk) (v :: vs) = (v.1.length + 10) + mvB (some blk) vs := by
        unfold mvB
        rw [List.filter_cons, if_pos hi, List.map_cons, List.sum_cons]
      obtain ⟨n, hn⟩ := Option.ne_none_iff_exists'.mp e.1
      have := wg_in (h v List.mem_cons_self) hn
      rw [hl, if_pos e, hs, hb]
      omega
    · have hi : ¬ inB (some blk) v = true := fun q => by
        have q2 := of_decide_eq_true q
        rcases q2.2 with r | r
        · cases r
        · exact e ⟨q2.1, (Option.some.inj r).symm⟩
      have hs : mvS (some blk) (v :: vs) = mvS (some blk) vs := by
        unfold mvS
        rw [List.filter_cons, if_neg hi]
      have hb : mvB (some blk) (v :: vs) = mvB (some blk) vs := by
        unfold mvB
        rw [List.filter_cons, if_neg hi]
      rw [hl, if_neg e, hs, hb]
      omega
/-- so the clearing of the lightest log leaves the reserve -/
theorem coll_room {q n0 W s e f tb : Nat} (hq : 8 ≤ q) (hq2 : q ≤ 16) (hn : 1 ≤ n0) (hW : n0 * W ≤ 2048 * q) (hse : 4 * s + 2 * e ≤ 5 * W) (hf : q * 3 + tb + 6 ≤ f) (hall : f + n0 + tb + 2 = 8 * q) : q * 3 + (2 * (s / 2048) + 1 + (e + 2047) / 2048) ≤ f + 1 := by
  have hK : 4096 * (2 * (s / 2048) + 1 + (e + 2047) / 2048) ≤ 5 * W + 8190 := by omega
  by_cases h1 : n0 = 1
  · rw [h1, Nat.one_mul] at hW
    omega
  · by_cases h2 : n0 ≤ q
    · have h3 : 2 * W ≤ n0 * W := Nat.mul_le_mul_right W (by omega)
      omega
    · have h3 : (q + 1) * W ≤ n0 * W := Nat.mul_le_mul_right W (by omega)
      have h4 : W < 2048 := by
        rcases Nat.lt_or_ge W 2048 with z | z
        · exact z
        · have h5 : (q + 1) * 2048 ≤ (q + 1) * W := Nat.mul_le_mul_left (q + 1) z
          omega
      omega
theorem opn_any {w : Bool} {tp : Nat} {ns : List Nat} : opnN w tp ns ≤ 2 * (ns.sum / 2048) + 1 := by
  cases w with
  | true =>
    have h := (opn_pair ns tp).2
    omega
  | false =>
    have h := opn_false (M := ns.sum / 2048 + 1) (tp := tp) (ns := ns) (by omega) (by omega)
    omega
theorem frL_era {B i : Nat} {l : List Nat} {rs : List aR} (h : LsOk B (l.eraseIdx i) rs) (hB : 2 ≤ B) (hi : i < l.length) : frL B (l.eraseIdx i) rs + l.length + tbK rs + 1 = B := by
  have h1 := frL_all h hB
  rw [List.length_eraseIdx, if_pos hi] at h1
  omega
/-- before the clearing, behind the spill: nothing is in memory alone -/
def ClQ (ky : List (List Nat)) (H0 : aH) (B N bb M P : Nat) (op : Nat → Bool) (sm : Nat → Nat) (n : Nat) (X : (Nat → Int8) → List aV → Prop) (H : aH) : Prop := ∃ S lgs fr ff wr tp rs us c P1 gs vs tss, UpS H B N bb S op sm lgs fr ff wr tp rs us c P1 gs vs ∧ StW ky B P P1 rs gs c vs tss [] ∧ (∀ v ∈ vs, v.2.2.2.2 = false) ∧ X c vs ∧ PgV op sm P vs ∧ B / 8 * 3 + tbK rs + 6 ≤ frL B lgs rs ∧ rs.length ≤ 22 ∧ vs.length ≤ n ∧ Lv3 rs ∧ S + 1 ≤ M ∧ FrU H0 H
section CQ
variable {ky : List (List Nat)} {M0 M : Nat} {sc : Nat × (Nat → Int32)} {d : Nat} {H0 H : aH} {B P bb : Nat} {cp cb : Nat} {tb : Nat → Int8} {l : Nat} {g : Nat → Int8} {rl : Nat} {wss : Nat → List aE} {t0 : aTr} {N n : Nat} {op : Nat → Bool} {sm : Nat → Nat} {ms : List aMV} {kd pa sz nl : Nat → Nat} {nm : Nat → Int8} {ps : List aPc} {X : (Nat → Int8) → List aV → Prop}
theorem rq_clear (hX : XC op sm P X) (hXN : ∀ c vs, (∀ v ∈ vs, VOk ky P v) → X c vs → sumN op sm (-1) P (kmV vs) vs ≤ B * 256) (h : ClQ ky H0 B N bb M P op sm n X H) (hB : B = 64 ∨ B = 96 ∨ B = 128) (hbb : bb % 2 ^ 32 < 2 ^ 31) (hM : M < 2 ^ 30) (hP : P < 2 ^ 30) (hsm : ∀ t, t < 8 → sm t < 2 ^ 31) (hn : n < 65536) : RQ sc (d + 6) mr_140 19 [(0, .ref 191), (1, .int (nI P))] [] H 0 0 (EQ (fun H' => UpQ ky M H' B N bb P op sm n X ∧ FrU H0 H') (fun H' => CutP ky M H' B N bb P op sm X ∧ FrU H0 H')) := by
  obtain ⟨S, lgs, fr, ff, wr, tp, rs, us, c, P1, gs, vs, tss, h1, h2, h3, h4, h5, h6, h7, h8, h9, h10, h11⟩ := h
  have hO := h1.2.1
  have hV := h1.2.2.2.2.2.2.1
  have hK7 := h2.2.2.2.2.2.2.1
  have hN := hXN c vs hK7 h4
  have hvn := val_need h5
  have hlg := ld_logs hO.logs vs
  have hall := frL_all hO (by omega)
  have hes := encR_sum rs
  have hld1 : ∀ b, ldN vs b ≤ sumN op sm (-1) P (kmV vs) vs := fun b => by
    refine Nat.le_trans (sum_mono vs (fun v hv => ?_)) hvn
    by_cases e : v.2.2.2.1 ≠ none ∧ v.2.2.1 / 2048 = b
    · rw [if_pos e, if_pos e.1]
      exact Nat.le_refl _
    · rw [if_neg e]
      exact Nat.zero_le _
  -- the choice
  have hch : ∃ K T, (∀ i blk, ltF (fun i => ldN vs (lgs.getD i 0)) (fun _ => true) lgs.length = some i → lgs[i]? = some blk → (∀ w, opnN w tp (mvS (some blk) vs) ≤ K) ∧ mvB (some blk) vs ≤ 2048 * T) ∧ (lgs ≠ [] → B / 8 * 3 + (K + T) ≤ frL B lgs rs + 1) ∧ K + T ≤ frL B lgs rs ∧ T ≤ 64 := by
    cases hlt : ltF (fun i => ldN vs (lgs.getD i 0)) (fun _ => true) lgs.length with
    | none =>
      refine ⟨0, 0, fun i blk e => ?_, fun e => ?_, Nat.zero_le _, by decide⟩
      · cases e
      · exact absurd rfl (ltF_none hlt 0 (List.length_pos_iff.mpr e))
    | some i0 =>
      obtain ⟨b1, b2, b3⟩ := ltF_lt hlt
      obtain ⟨blk, hblk⟩ := lt_get b1
      have hgd : lgs.getD i0 0 = blk := by rw [List.getD_eq_getElem?_getD, hblk]; rfl
      have hmin : ∀ x ∈ lgs, ldN vs blk ≤ ldN vs x := fun x hx => by
        obtain ⟨j, hj⟩ := List.getElem?_of_mem hx
        have := b3 j (get_lt hj) rfl
        rw [hgd, show lgs.getD j 0 = x by rw [List.getD_eq_getElem?_getD, hj]; rfl] at this
        exact this
      have hav := min_avg (f := fun x => ldN vs x) lgs hmin
      have hmv := mv_load (blk := blk) vs (fun v hv => (hK7 v hv).2.1)
      have hcr := coll_room (q := B / 8) (n0 := lgs.length) (W := ldN vs blk) (s := (mvS (some blk) vs).sum) (e := mvB (some blk) vs) (f := frL B lgs rs) (tb := tbK rs) (by omega) (by omega) (by omega) (by omega) hmv (by omega) (by omega)
      refine ⟨2 * ((mvS (some blk) vs).sum / 2048) + 1, (mvB (some blk) vs + 2047) / 2048, fun i b e hb => ?_, fun _ => by omega, by omega, by have := hld1 blk; omega⟩
      have ei : i0 = i := Option.some.inj e
      rw [← ei, hblk] at hb
      rw [← Option.some.inj hb]
      exact ⟨fun w => opn_any, by omega⟩
  obtain ⟨K, T, hc1, hc2, hc3, hT64⟩ := hch
  refine (cl_W (sc := sc) (d := d) (K := K) (T := T) h1 h2 h3 hsm (by omega) (by omega) hbb hP (by omega) (fun b => by have := hld1 b; omega) (by omega) hc1 hc3 hT64 (by omega) (by omega) (by omega)).mono ?_
  rintro r (⟨H', e, hy, hfu⟩ | ⟨H', e, ⟨c', hy, hz⟩, hfu⟩)
  · refine Or.inl ⟨H', e, ?_, h11.trans hfu⟩
    rcases hy with ⟨y1, y2⟩ | ⟨i, blk, Q, lgs1, l1, wr1, tp1, x, c', us', gs', z1, z2, z3, z4, z5, z6, z7, z8, z9, z10, z11⟩
    · exact ⟨S, lgs, fr, ff, wr, tp, rs, us, c, P1, gs, vs, tss, [], y2, h2, h4, h5, ⟨by omega, by omega, by omega, h9⟩, h8⟩
    · have hi := get_lt z2
      have hne : lgs ≠ [] := fun q => by rw [q] at hi; exact absurd hi (Nat.not_lt_zero _)
      have hcc := hc2 hne
      have hT := (hc1 i blk z1 z2).2
      have hl1 : lgs1.length = lgs.length + l1.length := by rw [z3, List.length_append]
      have hO2 := z8.2.1
      have her := frL_era hO2 (by omega) (by omega)
      have hot := opt_tbK (x := x) (rs := rs)
      have hol := opt_len (x := x) (rs := rs)
      refine ⟨S + 1, lgs1.eraseIdx i, _, _, wr1, tp1, _, us', c', P, gs', _, _, [], z8, z9, hX.2.2 c c' vs (some blk) Q hV.srtV (fun v hv => (hK7 v hv).1) z11 h4, PgV.purge, ⟨by omega, by omega, by omega, h9.opt (by omega)⟩, ?_⟩
      refine Nat.le_trans (List.length_filter_le _ _) ?_
      rw [List.length_map, mvL_len]
      exact h8
  · refine Or.inr ⟨H', e, ⟨S, lgs, rs, c', vs, tss, [], hy, hV.srtV, hX.1 c c' vs (fun v hv hv2 => (recs_tl hO (ups_rec h1 v hv) hz (fun x hx => hx)).2 hv2) h4, by omega, by omega, by omega, h9⟩, h11.trans hfu⟩
theorem collect_Q {up cw cl cp cb : Int32} (hX : XC op sm P X) (hXN : ∀ c vs, (∀ v ∈ vs, VOk ky P v) → X c vs → sumN op sm (-1) P (kmV vs) vs ≤ B * 256) (h0 : H[0]? = some (kO 11 (fvs (nI B) (nI P) up cw cl cp cb))) (h : UpQ ky M0 H B N bb P op sm n X) (hB : B = 64 ∨ B = 96 ∨ B = 128) (hbb : bb % 2 ^ 32 < 2 ^ 31) (hM0 : M0 + 40 ≤ M) (hM : M < 2 ^ 30) (hP : P < 2 ^ 30) (hsm : ∀ t, t < 8 → sm t < 2 ^ 31) (hn : n < 65536) : RB sc (d + 7) mr_174 [.ref 1] H (fun H' => UpQ ky M H' B N bb P op sm n X ∧ FrU H H') (fun H' => CutP ky M H' B N bb P op sm X ∧ FrU H H') := by
  obtain ⟨S, lgs, fr, ff, wr, tp, rs, us, c, P1, gs, vs, tss, L, u1, u2, u3, u4, ⟨k1, k2, k3, k4⟩, u6⟩ := h
  refine rb_cleared (d := d + 1) (ok1 := RsQ ky H B N bb (S + 1) P op sm vs.length X) (ok2 := fun H' => ∃ C F T lgs fr ff wr tp gs vs L m, KpI ky H B N bb C F T 21 P op sm lgs fr ff wr tp gs vs L X m H' ∧ B / 8 * 3 + (alBk vs + alBk vs + T + 6) ≤ F ∧ T ≤ 64 ∧ C + 3 ≤ M ∧ vs.length ≤ n ∧ SrtV vs ∧ PgV op sm P vs) h0 u1.2.2.2.2.2.2.2.2.2.1 (rr_Q (d := d) hX hXN h0 u1 u2 u3 u4 ⟨k1, k2, by omega, k4⟩ hB hbb (by omega) hM hP hsm (by omega)) (fun H' h' => h'.ob h0) (fun H' h' => ?_) (fun H' h' => ?_) (fun H' h' => ?_)
  · obtain ⟨S', lgs, fr, ff, wr, tp, rs, us, c, P1, gs, vs', tss, L, q0, h1, h2, h3, h4, h5, h6, h7, hl3, h8⟩ := h'
    have hff := ups_fr h1
    have hfb := frL_len h1.2.1
    have hts := tbK_sum h1.2.1
    refine (re_keepW (d := d + 1) (C := S' + 21) (F := frL B lgs rs) (T := tbK rs) (R := 21) (fun c c' => hX.1 c c' vs') h0 ⟨S', us, c, P1, tss, by omega, h1, h2, h3, Nat.le_refl _, Nat.le_refl _, h6, hl3, h8⟩ (by omega) (by omega) hbb (by omega) hP (by omega) (by omega) (by omega) (by omega)).mono ?_ ?_
    · rintro H2 ⟨m, hm, -⟩
      exact ⟨S' + 21, frL B lgs rs, tbK rs, lgs, fr, ff, wr, tp, gs, vs', L, m, hm, h5, by omega, by omega, by omega, h1.2.2.2.2.2.2.1.srtV, h4⟩
    · rintro H2 ⟨S2, c2, m, tss2, y1, y2, y3, y4, y5, yl, y6⟩
      exact ⟨⟨S2, lgs, m, c2, vs', tss2, L, y2, h1.2.2.2.2.2.2.1.srtV, y3, by omega, by omega, by omega, yl⟩, y6⟩
  · obtain ⟨C, F, T, lgs, fr, ff, wr, tp, gs, vs', L, m, ⟨S', us, c, P1, tss, -, h1, -, -, -, -, -, -, hu⟩, -⟩ := h'
    exact ⟨(hu 0 (by decide)).trans h0, _, h1.2.2.2.2.2.2.2.2.2.1⟩
  · obtain ⟨C, F, T, lgs, fr, ff, wr, tp, gs, vs', L, m, ⟨S', us, c, P1, tss, y0, h1, h2, h3, h4, h5, h6, hl3, h8⟩, z1, z2, z3, z4, z5, z6⟩ := h'
    have hO := h1.2.1
    have hV := h1.2.2.2.2.2.2.1
    have hfb := frL_len hO
    have htB := tbK_le hO
    have hes := encR_sum m
    have hab := alone_bytes vs'
    have hak := alBk_le (vs := vs')
    have hff := ups_fr h1
    obtain ⟨-, ⟨lm, bf, -, A3⟩, -⟩ := h1.2.2.2.2.2.2.2.2.2
    refine re_clear (d := d) (ok1 := ClQ ky H B N bb M P op sm n X) h1.2.2.2.2.2.2.2.2.2.1 ⟨_, A3⟩ hV (fun _ => ?_) (fun H2 q => rq_clear hX hXN q hB hbb hM hP hsm hn) (fun hal => ?_)
    · refine (re_spillW (d := d + 1) h1 h2 hsm (by omega) (by omega) hbb (by omega) hP (by omega) (by omega) (by omega) (by omega) (fun k hk => by omega)).mono ?_ ?_
      · rintro H2 ⟨x, c', us', gs', y1, y2, y3, y4, y5, y6, y7⟩
        rw [hab] at y2
        have hxl : x.2.2.2.length ≤ alBk vs' := ids_le y2
        have hf1 := frL_opt (x := x) (rs := m) y4.2.1
        have hl := opt_len (x := x) (rs := m)
        have ht := opt_tbK (x := x) (rs := m)
        refine ⟨S' + 1, lgs, _, _, wr, tp, _, us', c', P, gs', _, _, y4, y5, told_f, hX.sp hV.srtV (fun v hv => (h2.2.2.2.2.2.2.1 v hv).1) (fun v hv => (recs_used hO (ups_rec h1 v hv).1 y6).2) h3, PgV.purge, by omega, by omega, ?_, hl3.opt (by omega), by omega, h8.trans y7⟩
        refine Nat.le_trans (List.length_filter_le _ _) ?_
        rw [List.length_map]
        exact z4
      · rintro H2 ⟨c', y1, y2, y3⟩
        exact ⟨⟨S', lgs, m, c', vs', tss, L, y1, hV.srtV, hX.1 c c' vs' (fun v hv => (recs_used hO (ups_rec h1 v hv).1 y2).2) h3, by omega, by omega, by omega, hl3⟩, h8.trans y3⟩
    · have hna : ∀ v ∈ vs', v.2.2.2.2 = false := aloN_0 hal
      have hL := h2.noL hna
      rw [hL] at h2
      exact rq_clear hX hXN ⟨S', lgs, fr, ff, wr, tp, m, us, c, P1, gs, vs', tss, h1, h2, hna, h3, z6, by omega, by omega, z4, hl3, by omega, h8⟩ hB hbb hM hP hsm hn
theorem ri_collect_okQ {cl : Int32} (h : ClsA H B P 1 0 cl cp cb tb l g rl wss t0) (hU : UpQ ky M0 H B N bb P op sm n (Xb (RlX op sm ms kd pa sz nl nm ps))) (hM : PrM op sm P ms) (hp : OneP ps) (hnd : ndR op sm (-1) P ms kd nl ps ≤ B * 256) (hsm : ∀ t, t < 8 → sm t < 2 ^ 30) (hP : P < 2 ^ 30) (hB : B = 64 ∨ B = 96 ∨ B = 128) (hM0 : M0 + 40 ≤ M) (hM1 : M < 2 ^ 30) (hn : n < 65536) (hbb : bb < 2 ^ 31) : RI sc (d + 8) mr_173 [.ref 1] H (fun x H' => x = nI (ndR op sm (-1) P ms kd nl ps) ∧ UpQ ky M H' B N bb P op sm n (Xb (RlX op sm ms kd pa sz nl nm ps)) ∧ ClsA H' B P 1 0 cl cp cb tb l g rl wss t0 ∧ ∀ a, 195 ≤ a → H'[a]? = H[a]?) := by
  have hX := xc_b (xc_rel (kd := kd) (pa := pa) (sz := sz) (nl := nl) (nm := nm) (ps := ps) hM)
  have hXN : ∀ c vs, (∀ v ∈ vs, VOk ky P v) → Xb (RlX op sm ms kd pa sz nl nm ps) c vs → sumN op sm (-1) P (kmV vs) vs ≤ B * 256 := fun c vs hv hx => by
    rw [rlx_need hv hx.1 hp]
    exact hnd
  have hsm2 : ∀ t, t < 8 → sm t < 2 ^ 31 := fun t ht => by have := hsm t ht; omega
  refine ri_collect_ok (nn := ndR op sm (-1) P ms kd nl ps) (ok1 := fun H' => UpQ ky M H' B N bb P op sm n (Xb (RlX op sm ms kd pa sz nl nm ps)) ∧ FrU H H') (ok2 := fun H' => UpQ ky M H' B N bb P op sm n (Xb (RlX op sm ms kd pa sz nl nm ps)) ∧ ClsA H' B P 1 0 cl cp cb tb l g rl wss t0 ∧ ∀ a, 195 ≤ a → H'[a]? = H[a]?) h ((collect_Q hX hXN h.1 hU hB (by omega) hM0 hM1 hP hsm2 hn).mono (fun _ q => q) (fun _ q => q.1.no hbb)) (fun H' q => ?_) (fun H' q => ?_) (fun H' q => (q.2 0 (by decide)).trans h.1) (fun H' q => q.2.1.1) (fun H' q => ?_)
  · obtain ⟨S, lgs, fr, ff, wr, tp, rs, us, c, P1, gs, vs, tss, L, u1, u2⟩ := q.1
    obtain ⟨H2, k1, k2, k3, k4⟩ := rn_settleU (sc := sc) (d := d + 6) (h.frU q.2) u1 (by omega)
    exact ⟨H2, k1, ⟨S, lgs, fr, ff, wr, tp, rs, us, c, P1, gs, vs, tss, L, k3, u2⟩, k2, fun a ha => (k4 a (by omega) (by omega)).trans (q.2 a (Or.inr ha))⟩
  · obtain ⟨S, lgs, fr, ff, wr, tp, rs, us, c, P1, gs, vs, tss, L, u1, u2, u3, -⟩ := q.1
    have hc := rc_neededL (sc := sc) (d := d + 5) (x := -1) u1.2.2.2.2.2.2.2.2.1 hsm2 u1.2.2.2.2.2.2.1 (fun v hv => (u2.2.2.2.2.2.2.1 v hv).1)
    rw [rlx_need u2.2.2.2.2.2.2.1 u3.1 hp] at hc
    exact hc
  · obtain ⟨S, lgs, fr, ff, wr, tp, rs, us, c, P1, gs, vs, tss, L, u1, -⟩ := q.1
    exact vers_obj u1.2.2.2.2.2.2.1
theorem rx_collect_lateQ (h : ClsA H B P 1 1 1 cp cb tb l g rl wss t0) (hU : UpQ ky M0 H B N bb P op sm n (Xb (RlX op sm ms kd pa sz nl nm ps))) (hM : PrM op sm P ms) (hp : OneP ps) (hnd : ndR op sm (-1) P ms kd nl ps ≤ B * 256) (hsm : ∀ t, t < 8 → sm t < 2 ^ 30) (hP : P < 2 ^ 30) (hB : B = 64 ∨ B = 96 ∨ B = 128) (hM0 : M0 + 40 ≤ M) (hM1 : M < 2 ^ 30) (hn : n < 65536) (hbb : bb < 2 ^ 31) : RXc sc (d + 8) mr_173 [.ref 1] H 1 (fun H' => DnQ ky M H' B N P (dnO op) sm (ms.filter (keepM (dnO op) sm P (kmM ms))) kd pa sz nl nm ps ∧ ClsA H' B 0 0 0 1 cp cb tb 0 g 0 wss (T0 t0) ∧ ∀ a, 195 ≤ a → H'[a]? = H[a]?) := by
  have hX := xc_b (xc_rel (kd := kd) (pa := pa) (sz := sz) (nl := nl) (nm := nm) (ps := ps) hM)
  have hXN : ∀ c vs, (∀ v ∈ vs, VOk ky P v) → Xb (RlX op sm ms kd pa sz nl nm ps) c vs → sumN op sm (-1) P (kmV vs) vs ≤ B * 256 := fun c vs hv hx => by
    rw [rlx_need hv hx.1 hp]
    exact hnd
  have hsm2 : ∀ t, t < 8 → sm t < 2 ^ 31 := fun t ht => by have := hsm t ht; omega
  refine rx_collect_late (ok1 := fun H' => UpQ ky M H' B N bb P op sm n (Xb (RlX op sm ms kd pa sz nl nm ps)) ∧ FrU H H') h ((collect_Q hX hXN h.1 hU hB (by omega) hM0 hM1 hP hsm2 hn).mono (fun _ q => q) (fun _ q => q.1.no hbb)) (fun H' q => ?_) (fun H' q => (q.2 0 (by decide)).trans h.1)
  obtain ⟨H2, k1, ⟨b2, k2, k3⟩, k4, k5, k6⟩ := rx_upP (sc := sc) (d := d + 3) (x := 1) q.1 (h.frU q.2) (Or.inl (by decide)) (by omega)
  exact ⟨H2, k1, cut_D k3 k2 k5, k4, fun a ha => (k6 a ha).trans (q.2 a (Or.inr ha))⟩
theorem rx_collect_cutQ (h : ClsA H B P 1 1 0 cp cb tb l g rl wss t0) (hU : UpQ ky M0 H B N bb P op sm n (Xb (RlX op sm ms kd pa sz nl nm ps))) (hM : PrM op sm P ms) (hp : OneP ps) (hnd : ndR op sm (-1) P ms kd nl ps ≤ B * 256) (hsm : ∀ t, t < 8 → sm t < 2 ^ 30) (hP : P < 2 ^ 30) (hB : B = 64 ∨ B = 96 ∨ B = 128) (hM0 : M0 + 40 ≤ M) (hM1 : M < 2 ^ 30) (hn : n < 65536) (hcp : cp < 2 ^ 31) (hcb : cb < 2 ^ 31) : RXc sc (d + 8) mr_173 [.ref 1] H 1 (fun H' => DnQ ky M H' B N P (dnO op) sm (ms.filter (keepM (dnO op) sm P (kmM ms))) kd pa sz nl nm ps ∧ ClsA H' B 0 0 0 0 cp cb tb 0 g 0 wss (T0 t0) ∧ ∀ a, 195 ≤ a → H'[a]? = H[a]?) := by
  have hX := xc_b (xc_rel (kd := kd) (pa := pa) (sz := sz) (nl := nl) (nm := nm) (ps := ps) hM)
  have hXN : ∀ c vs, (∀ v ∈ vs, VOk ky P v) → Xb (RlX op sm ms kd pa sz nl nm ps) c vs → sumN op sm (-1) P (kmV vs) vs ≤ B * 256 := fun c vs hv hx => by
    rw [rlx_need hv hx.1 hp]
    exact hnd
  have hsm2 : ∀ t, t < 8 → sm t < 2 ^ 31 := fun t ht => by have := hsm t ht; omega
  have hfr : ∀ H2, FrU (H.set 71 (kO 1 [.ref 73, .ref 74, .int (lI (some cp)), .int (nI cb), .int (nI 0)])) H2 → FrU H H2 := fun H2 k3 a ha => (k3 a ha).trans (set_far (by omega))
  obtain ⟨cf, tf, pq, bb1, hch⟩ : ∃ cf tf pq bb1, ChipAt H B cf tf pq bb1 0 := by
    obtain ⟨S, lgs, fr, ff, wr, tp, rs, us, c, P1, gs, vs, tss, L, u1, -⟩ := id hU
    obtain ⟨tf, pq, ms9, mt, sq, tu, -, hch, -⟩ := u1.1
    exact ⟨c, tf, pq, bb, hch⟩
  refine rx_collect_cut (ok1 := fun H' => UpQ ky M H' B N (cb + 2 ^ 32 * (cp + 2)) P op sm n (Xb (RlX op sm ms kd pa sz nl nm ps)) ∧ FrU H H') (bad := fun H' => CutP ky M H' B N (cb + 2 ^ 32 * (cp + 2)) P op sm (Xb (RlX op sm ms kd pa sz nl nm ps)) ∧ FrU H H') h hch ((collect_Q hX hXN ((set_far (by decide)).trans h.1) (hU.arm (Nat.le_refl cp) hcp hcb) hB (by omega) hM0 hM1 hP hsm2 hn).mono (fun H' q => ⟨q.1, hfr H' q.2⟩) (fun H' q => ⟨q.1, hfr H' q.2⟩)) (fun H' q => ?_) (fun H' q => ?_) (fun H' q => (q.2 0 (by decide)).trans h.1) (fun H' q => (q.2 0 (by decide)).trans h.1)
  · obtain ⟨H2, k1, ⟨b2, k2, k3⟩, k4, k5, k6⟩ := rx_upP (sc := sc) (d := d + 3) (x := 1) q.1 (h.frU q.2) (Or.inl (by decide)) (by omega)
    exact ⟨H2, k1, cut_D k3 k2 k5, k4, fun a ha => (k6 a ha).trans (q.2 a (Or.inr ha))⟩
  · obtain ⟨H2, k1, k3, k4, k5, k6⟩ := rx_cutP (sc := sc) (d := d + 3) (x := 0) q.1 (h.frU q.2) (Or.inl (by decide))
    exact ⟨H2, k1, cut_D k3 (by omega) k5, k4, fun a ha => (k6 a ha).trans (q.2 a (Or.inr ha))⟩
end CQ
section S74
variable {L i k kc ks : Nat} {xs : Nat → Int32} {Q : tO × aH × Nat × Nat → Prop} {H : aH}
theorem iv_collect (hL : L < 2 ^ 30) (h : i + 6 ≤ L) (hI : InvI k H) (hk : k < 512) (kq : Hd L xs i kc ks Q (k + 1)) : RQ (L, xs) 2000 mr_law 940 [(4, .int (nI i)), (3, .ref 225), (2, .ref 196), (1, .ref 1), (0, .ref 0)] [] H kc ks Q := by
  rcases hI with ⟨ky, B, N, P, bb, cw, cl, cp, cb, tb, l, g, rl, wss, t0, op, sm, ms, kd, pa, sz, nl, nm, ps, fa, rs, g0, hJ⟩ | ⟨ky, B, N, P, cw, cl, cp, cb, tb, l, g, rl, wss, t0, op, sm, ms, kd, pa, sz, nl, nm, ps, fa, rs, g0, hJ⟩
  · obtain ⟨j1, j2, j3, j4, j5, j6, j7, j8, j9, j10, j11, j12, j13, j14, j15, j16, j17, j18, j19, jE, e, j20⟩ := id hJ
    obtain ⟨us, ba, bo, m1, hF, hG, qV, hR⟩ := hJ.fld hk
    obtain ⟨-, -, -, -, -, q5, q6, qR, qT, q8, q9, -⟩ := j10.cells
    rcases jE.1 with rfl | rfl
    · obtain ⟨x, H1, c1, c2, c3, c4, c5⟩ := ri_collect_okQ (M := 48 * (k + 1)) (sc := (L, xs)) (d := 1990) j8 j9 j12 j13 j14 j15 (by omega) j1 (by omega) (by omega) (by unfold nB; omega) j5
      have h224 : H1[224]? = some (kJ 1 e) := (c5 224 (by decide)).trans j20
      have hr0 : RefI (H1.set 224 (kJ 1 (va_up e 0 x.toInt64))) fa (B * 256) 0 0 cl tb l rs g0 P ms op sm wss kd pa sz nl nm ps := j10.far (fun a a1 a2 => (set_far (by omega)).trans (c5 a a1))
      obtain ⟨us0, ba0, bo0, n1, -⟩ := hr0.cells
      obtain ⟨z, H2, r1, r2, r3, r4⟩ := ri_mmaintR0 (sc := (L, xs)) (d := 1994) hr0 j11
      have hxz : z = x := r2.trans c2.symm
      rw [hxz] at r1
      obtain ⟨us2, ba2, bo2, m2, -⟩ := id r3
      have hlow : ∀ a, a < 195 → H2[a]? = H1[a]? := fun a ha => (r4 a (by omega)).trans (set_far (by omega))
      have h2 : H2[224]? = some (kJ 1 (va_up e 0 x.toInt64)) := (r4 224 (by omega)).trans (get_set h224)
      refine gs_ok12 (c1 := 0) (s1 := 0) (c2 := 0) (s2 := 0) (x := x) hL h j8.1 c1 h224 ((c5 195 (by decide)).trans m1) (rc_mcollect n1 r1) m2 rfl h2 (kq.go0 (Or.inl ?_))
      exact ⟨ky, B, N, P, bb, 0, cl, cp, cb, tb, l, g, rl, wss, t0, op, sm, ms, kd, pa, sz, nl, nm, ps, 0, rs, g0, j1, j2, by omega, by omega, j5, j6, j7, c4.far (fun a a1 _ => hlow a (by omega)), c3.nr hlow, r3, j11, j12, j13, j14, j15, j16, j17, j18, j19, jE.to (by omega) (Nat.le_refl _) (Nat.le_refl _) (Nat.le_refl _) (fun j _ q => q), _, h2⟩
    · rcases jE.2.1 with rfl | rfl
      · obtain ⟨H1, nn, hn2, c1, c3, c4, c5⟩ := rx_collect_cutQ (M := 48 * (k + 1)) (sc := (L, xs)) (d := 1990) j8 j9 j12 j13 j14 j15 (by omega) j1 (by omega) (by omega) (by unfold nB; omega) j6 j7
        have hr0 : RefI H1 fa (B * 256) 0 1 0 tb l rs g0 P ms op sm wss kd pa sz nl nm ps := j10.far (fun a a1 a2 => c5 a a1)
        obtain ⟨us0, ba0, bo0, n1, -⟩ := hr0.cells
        obtain ⟨z, H2, r1, r2, r3, r4⟩ := ri_mmaintR1 (sc := (L, xs)) (d := 1994) hr0 j11
        obtain ⟨us2, ba2, bo2, m2, -⟩ := id r3
        have hlow : ∀ a, a < 195 → H2[a]? = H1[a]? := fun a ha => r4 a (by omega)
        have h2 : H2[224]? = some (kJ 1 e) := (r4 224 (by omega)).trans ((c5 224 (by decide)).trans j20)
        refine gs_x12_1 (c1 := nn) (s1 := 6 * nn) (c2 := 0) (s2 := 0) hL h j8.1 c1 ((c5 195 (by decide)).trans m1) (rc_mcollect n1 r1) m2 rfl (kq H2 nn hn2 (Or.inr ?_))
        refine ⟨ky, B, N, P, 0, 0, cp, cb, tb, 0, g, 0, wss, _, dnO op, sm, _, kd, pa, sz, nl, nm, ps, 1, 0, g0, j1, j2, by omega, by omega, j6, j7, c4.far (fun a a1 _ => hlow a (by omega)), c3.nr hlow, r3, ⟨Nat.zero_le _, j11.2.1, j11.2.2.1.filter, j11.2.2.2⟩, PrM.purge, j13, ?_, j15, j16, rfl, fun j hj => absurd hj (Nat.not_lt_zero j), jE.dn (by omega) (Or.inl rfl) (by decide), _, h2⟩
        rw [nd_purge]
        exact Nat.le_trans nd_cl j14
      · obtain ⟨H1, nn, hn2, c1, c3, c4, c5⟩ := rx_collect_lateQ (M := 48 * (k + 1)) (sc := (L, xs)) (d := 1990) j8 j9 j12 j13 j14 j15 (by omega) j1 (by omega) (by omega) (by unfold nB; omega) j5
        have hr0 : RefI H1 fa (B * 256) 0 1 1 tb l rs g0 P ms op sm wss kd pa sz nl nm ps := j10.far (fun a a1 a2 => c5 a a1)
        obtain ⟨us0, ba0, bo0, n1, -⟩ := hr0.cells
        obtain ⟨z, H2, r1, r2, r3, r4⟩ := ri_mmaintR1 (sc := (L, xs)) (d := 1994) hr0 j11
        obtain ⟨us2, ba2, bo2, m2, -⟩ := id r3
        have hlow : ∀ a, a < 195 → H2[a]? = H1[a]? := fun a ha => r4 a (by omega)
        have h2 : H2[224]? = some (kJ 1 e) := (r4 224 (by omega)).trans ((c5 224 (by decide)).trans j20)
        refine gs_x12_1 (c1 := nn) (s1 := 6 * nn) (c2 := 0) (s2 := 0) hL h j8.1 c1 ((c5 195 (by decide)).trans m1) (rc_mcollect n1 r1) m2 rfl (kq H2 nn hn2 (Or.inr ?_))
        refine ⟨ky, B, N, P, 0, 1, cp, cb, tb, 0, g, 0, wss, _, dnO op, sm, _, kd, pa, sz, nl, nm, ps, 1, 0, g0, j1, j2, by omega, by omega, j6, j7, c4.far (fun a a1 _ => hlow a (by omega)), c3.nr hlow, r3, ⟨Nat.zero_le _, j11.2.1, j11.2.2.1.filter, j11.2.2.2⟩, PrM.purge, j13, ?_, j15, j16, rfl, fun j hj => absurd hj (Nat.not_lt_zero j), jE.dn (by omega) (Or.inl rfl) (by decide), _, h2⟩
        rw [nd_purge]
        exact Nat.le_trans nd_cl j14
  · obtain ⟨d1, d2, d3, d4, d5, d6, d7, d8, d9, d10, d11, d12, d13, d14, d15, d16, d17, jE, e, d19⟩ := id hJ
    obtain ⟨us, ba, bo, m1, hF, hG, qV, hR⟩ := hJ.fld hk
    obtain ⟨-, -, -, -, -, q5, q6, qR, qT, q8, q9, -⟩ := d9.cells
    obtain ⟨H1, c1, c4, c5⟩ := rx_collect_down (sc := (L, xs)) (d := 1990) d7
    have hr := rc_mmaint_down (sc := (L, xs)) (d := 1997) ((c5 195 (by omega)).trans m1)
    refine gs_x12_1 (c1 := 1) (s1 := 6) (c2 := 0) (s2 := 0) hL h d7.1 c1 ((c5 195 (by omega)).trans m1) (rc_mcollect ((c5 195 (by omega)).trans m1) hr) (get_set ((c5 195 (by omega)).trans m1)) rfl (kq.go1 (Or.inr ?_))
    exact hJ.row (cw' := cw) (cl' := cl) (cp' := cp) (cb' := cb) (fa' := 1) (tb' := tb) (l' := l) hk (c4.far (fun a a1 _ => set_far (by omega))) (hR _ 1 1 cw cl tb l rs g0 (get_set ((c5 195 (by omega)).trans m1)) ((set_far (by decide)).trans ((c5 196 (by omega)).trans q8)) ((set_far (by decide)).trans ((c5 197 (by omega)).trans q9)) (fun a a1 a2 => (set_far (by omega)).trans (c5 a (by omega)))) jE.1 jE.2.1 d10.1 (by omega) d5 d6 (fun a ha => (set_far (by omega)).trans (c5 a (by omega))) ⟨e, (set_far (by decide)).trans ((c5 224 (by omega)).trans d19)⟩
end S74
