/-! ===== room is made before a change, whole; class; by hand ===== -/
/-- room for the merging of tables -/
def KpQ (ky : List (List Nat)) (H0 : aH) (B N bb M P : Nat) (op : Nat → Bool) (sm : Nat → Nat) (n : Nat) (X : (Nat → Int8) → List aV → Prop) (H : aH) : Prop := ∃ C F T lgs fr ff wr tp gs vs L rs, KpI ky H0 B N bb C F T 22 P op sm lgs fr ff wr tp gs vs L X rs H ∧ T + B / 8 * 3 + 6 ≤ F ∧ T ≤ 64 ∧ fr < 256 ∧ C + 8 ≤ M ∧ vs.length ≤ n ∧ SrtV vs ∧ PgV op sm P vs
theorem opt_len {x : aR} {rs : List aR} : ((if 0 < x.2.1 then [x] else []) ++ rs).length ≤ rs.length + 1 := by
  rw [List.length_append]
  split
  · show 1 + rs.length ≤ _; omega
  · show 0 + rs.length ≤ _; omega
theorem opt_tbK {x : aR} {rs : List aR} : tbK ((if 0 < x.2.1 then [x] else []) ++ rs) ≤ tbK rs + x.2.2.2.length := by
  rw [tbK_app]
  split
  · show x.2.2.2.length + 0 + tbK rs ≤ _; omega
  · show 0 + tbK rs ≤ _; omega
theorem tbK_sum {B : Nat} {l : List Nat} {rs : List aR} (h : LsOk B l rs) : frL B l rs + tbK rs ≤ B := by
  have h1 := tbK_free h
  have h2 : frL B l [] ≤ B := cntB_le _ _
  omega
theorem ups_fr {H : aH} {B N bb S : Nat} {op : Nat → Bool} {sm : Nat → Nat} {lgs : List Nat} {fr ff : Nat} {wr : Bool} {tp : Nat} {rs : List aR} {us : Nat → Bool} {c : Nat → Int8} {P1 : Nat} {gs : List aSg} {vs : List aV} (h : UpS H B N bb S op sm lgs fr ff wr tp rs us c P1 gs vs) : fr ≤ lgs.length := h.2.2.2.1.1.2.1
/-- what is in memory alone goes to a table, where there is room for it and for a merge -/
theorem re_spillQ {ky : List (List Nat)} {sc : Nat × (Nat → Int32)} {d : Nat} {H0 H : aH} {B N bb S P n M : Nat} {op : Nat → Bool} {sm : Nat → Nat} {X : (Nat → Int8) → List aV → Prop} (hX : XC op sm P X) (h : RsQ ky H0 B N bb S P op sm n X H) (hB : B = 64 ∨ B = 96 ∨ B = 128) (hbb : bb % 2 ^ 32 < 2 ^ 31) (hSM : S + 32 ≤ M) (hM : M < 2 ^ 30) (hP : P < 2 ^ 30) (hsm : ∀ t, t < 8 → sm t < 2 ^ 31) (hn : n < 65536) : RE sc (d + 4) mr_97 [.ref 137, .int 0, .int (nI P)] H (KpQ ky H0 B N bb M P op sm n (Xa X)) (fun H' => CutP ky M H' B N bb P op sm X ∧ FrU H0 H') := by
  obtain ⟨S', lgs, fr, ff, wr, tp, rs, us, c, P1, gs, vs, tss, L, q0, h1, h2, h3, h4, h5, h6, h7, hl3, h8⟩ := h
  have hO := h1.2.1
  have hV := h1.2.2.2.2.2.2.1
  have hB1 : B ≤ 128 ∧ 64 ≤ B := by omega
  have hfb := frL_len hO
  have htB := tbK_le hO
  have hes := encR_sum rs
  have hab := alone_bytes vs
  have hak := alBk_le (vs := vs)
  have hff := ups_fr h1
  refine (re_spillW (d := d) h1 h2 hsm hB1.1 (by omega) hbb (by omega) hP (by omega) (by omega) (by omega) (by omega) (fun k hk => by omega)).mono ?_ ?_
  · rintro H' ⟨x, c', us', gs', y1, y2, y3, y4, y5, y6, y7⟩
    rw [hab] at y2
    have hxl : x.2.2.2.length ≤ alBk vs := ids_le y2
    have hf1 := frL_opt (x := x) (rs := rs) y4.2.1
    have hl := opt_len (x := x) (rs := rs)
    have ht := opt_tbK (x := x) (rs := rs)
    have hfr2 := ups_fr y4
    have hts := tbK_sum y4.2.1
    refine ⟨S' + 1 + 22, frL B lgs ((if 0 < x.2.1 then [x] else []) ++ rs), tbK ((if 0 < x.2.1 then [x] else []) ++ rs), lgs, _, _, wr, tp, gs', _, [], _, ⟨S' + 1, us', c', P, _, by omega, y4, y5, ⟨hX.sp hV.srtV (fun v hv => (h2.2.2.2.2.2.2.1 v hv).1) (fun v hv => (recs_used hO (ups_rec h1 v hv).1 y6).2) h3, by rw [aloN_told told_f]; exact Nat.zero_le _⟩, Nat.le_refl _, Nat.le_refl _, by omega, hl3.opt (by omega), h8.trans y7⟩, by omega, by omega, by omega, by omega, ?_, hV.srtV.told, PgV.purge⟩
    refine Nat.le_trans (List.length_filter_le _ _) ?_
    rw [List.length_map]
    exact h7
  · rintro H' ⟨c', y1, y2, y3⟩
    exact ⟨⟨S', lgs, rs, c', vs, tss, L, y1, hV.srtV, hX.1 c c' vs (fun v hv => (recs_used hO (ups_rec h1 v hv).1 y2).2) h3, by omega, by omega, by omega, hl3⟩, h8.trans y3⟩
theorem RsQ.kp {ky : List (List Nat)} {H0 H : aH} {B N bb S P n M : Nat} {op : Nat → Bool} {sm : Nat → Nat} {X : (Nat → Int8) → List aV → Prop} (h : RsQ ky H0 B N bb S P op sm n X H) (hB : B = 64 ∨ B = 96 ∨ B = 128) (hSM : S + 32 ≤ M) : KpQ ky H0 B N bb M P op sm n X H := by
  obtain ⟨S', lgs, fr, ff, wr, tp, rs, us, c, P1, gs, vs, tss, L, q0, h1, h2, h3, h4, h5, h6, h7, hl3, h8⟩ := h
  have hfb := frL_len h1.2.1
  have hff := ups_fr h1
  have hts := tbK_sum h1.2.1
  exact ⟨S' + 22, frL B lgs rs, tbK rs, lgs, fr, ff, wr, tp, gs, vs, L, rs, ⟨S', us, c, P1, tss, by omega, h1, h2, h3, Nat.le_refl _, Nat.le_refl _, by omega, hl3, h8⟩, by omega, by omega, by omega, by omega, h7, h1.2.2.2.2.2.2.1.srtV, h4⟩
theorem re_keepQ {ky : List (List Nat)} {sc : Nat × (Nat → Int32)} {d : Nat} {H0 H : aH} {B N bb M P n : Nat} {up cw cl cp cb : Int32} {op : Nat → Bool} {sm : Nat → Nat} {X : (Nat → Int8) → List aV → Prop} (hX : ∀ c c' vs, (∀ v ∈ vs, v.2.2.2.1 ≠ none → valB c' v = valB c v) → X c vs → X c' vs) (h0 : H0[0]? = some (kO 11 (fvs (nI B) (nI P) up cw cl cp cb))) (h : KpQ ky H0 B N bb M P op sm n X H) (hB : B = 64 ∨ B = 96 ∨ B = 128) (hbb : bb % 2 ^ 32 < 2 ^ 31) (hM : M < 2 ^ 30) (hP : P < 2 ^ 30) : RE sc (d + 5) mr_118 [.ref 1] H (fun H' => ∃ C F T lgs fr ff wr tp gs vs L rs, KpI ky H0 B N bb C F T 22 P op sm lgs fr ff wr tp gs vs L X rs H' ∧ T + B / 8 * 3 + 6 ≤ F ∧ T ≤ 64 ∧ fr < 256 ∧ C + 8 ≤ M ∧ vs.length ≤ n ∧ SrtV vs ∧ PgV op sm P vs ∧ (rs.length ≤ 1 ∨ (rs.map (fun x => x.2.2.1)).sum ≤ B * 14)) (fun H' => CutP ky M H' B N bb P op sm X ∧ FrU H0 H') := by
  obtain ⟨C, F, T, lgs, fr, ff, wr, tp, gs, vs, L, rs, hK, k1, k2, k3, k4, k5, k6, k7⟩ := h
  refine (re_keepW (d := d) (fun c c' hv => hX c c' vs hv) h0 hK (by omega) (by omega) hbb (by omega) hP k3 (by omega) k2 (by omega)).mono ?_ ?_
  · rintro H' ⟨m, y1, y2⟩
    exact ⟨C, F, T, lgs, fr, ff, wr, tp, gs, vs, L, m, y1, k1, k2, k3, k4, k5, k6, k7, y2⟩
  · rintro H' ⟨S, c, m, tss, y1, y2, y3, y4, y5, yl, y6⟩
    exact ⟨⟨S, lgs, m, c, vs, tss, L, y2, k6, y3, by omega, by omega, by omega, yl⟩, y6⟩
theorem Xa.chip {op : Nat → Bool} {sm : Nat → Nat} {P : Nat} {X : (Nat → Int8) → List aV → Prop} (hX : XC op sm P X) : ∀ c c' vs, (∀ v ∈ vs, v.2.2.2.1 ≠ none → valB c' v = valB c v) → Xa X c vs → Xa X c' vs := fun c c' vs hv h => ⟨hX.1 c c' vs hv h.1, h.2⟩
theorem CutP.to {ky : List (List Nat)} {M : Nat} {H : aH} {B N bb P : Nat} {op : Nat → Bool} {sm : Nat → Nat} {X X' : (Nat → Int8) → List aV → Prop} (h : CutP ky M H B N bb P op sm X) (hx : ∀ c vs, X c vs → X' c vs) : CutP ky M H B N bb P op sm X' := by
  obtain ⟨S, lgs, rs, c, vs, tss, L, h1, h2, h3, h4⟩ := h
  exact ⟨S, lgs, rs, c, vs, tss, L, h1, h2, hx c vs h3, h4⟩
set_option maxRecDepth 20000 in
theorem rb_roomW {ky : List (List Nat)} {sc : Nat × (Nat → Int32)} {d : Nat} {H : aH} {B N bb S P M : Nat} {up cw cl cp cb : Int32} {op : Nat → Bool} {sm : Nat → Nat} {lgs : List Nat} {fr ff : Nat} {wr : Bool} {tp : Nat} {rs : List aR} {us : Nat → Bool} {c : Nat → Int8} {P1 : Nat} {gs : List aSg} {vs : List aV} {tss : List (List aT)} {L : List aCh} {ws : List aE} {X : (Nat → Int8) → List aV → Prop} (hX : XC op sm P X) (hXN : ∀ c vs, (∀ v ∈ vs, VOk ky P v) → X c vs → sumN op sm (-1) P (kmV vs) vs ≤ B * 256) (h0 : H[0]? = some (kO 11 (fvs (nI B) (nI P) up cw cl cp cb))) (h : UpS H B N bb S op sm lgs fr ff wr tp rs us c P1 gs vs) (hW : StW ky B P P1 rs gs c vs tss L) (hx : X c vs) (hpg : PgV op sm P vs) (hres : B / 8 * 3 ≤ frL B lgs rs) (hrl : rs.length ≤ 23) (hl3 : Lv3 rs) (hB : B = 64 ∨ B = 96 ∨ B = 128) (hbb : bb % 2 ^ 32 < 2 ^ 31) (hSM : S + 40 ≤ M) (hM : M < 2 ^ 30) (hP : P < 2 ^ 30) (hsm : ∀ t, t < 8 → sm t < 2 ^ 31) (hvN : vs.length + ws.length ≤ N) (hN : N < 65536) (hws : ∀ w t, opnN w t (szW ws) ≤ 5) : RB sc (d + 7) mr_96 [.ref 1] H (fun H' => Rdy ky M H' B N bb P op sm ws (Xa X) ∧ FrU H H') (fun H' => CutP ky M H' B N bb P op sm X ∧ FrU H H') := by
  obtain ⟨hD, hO, hus, hF, htp, hff, hV, hRX, g, hA⟩ := id h
  refine rb_roomMade (d := d + 1) (ok1 := RsQ ky H B N bb (S + 1) P op sm vs.length X) (ok2 := KpQ ky H B N bb M P op sm vs.length (Xa X)) h0 hA.1 ((rr_W (d := d) hX hXN h0 h hW hx hpg hres hrl hl3 hB hbb (by omega) hP hsm (by omega)).mono (fun _ q => q) ?_) (fun H' h' => ?_) (fun H' h' => ?_) (fun H' h' => ?_)
  · rintro H' ⟨c', y1, y2, y3⟩
    exact ⟨⟨S, lgs, rs, c', vs, tss, L, y1, hV.srtV, y2, by omega, hrl, by omega, hl3⟩, y3⟩
  · have h'' := h'
    obtain ⟨S', lgs', fr', ff', wr', tp', rs', us', c', P1', gs', vs', tss', L', q0, h1, h2, h3, h4, h5, h6, h7, hl4, h8⟩ := h''
    obtain ⟨-, ⟨lm, bf, -, A3⟩, -⟩ := h1.2.2.2.2.2.2.2.2.2
    exact ⟨(h8 0 (by decide)).trans h0, ⟨_, A3⟩, N, vs', h1.2.2.2.2.2.2.1, fun _ => re_spillQ (d := d + 2) hX h' hB hbb (by omega) hM hP hsm (by omega), fun hal => RsQ.kp (X := Xa X) ⟨S', lgs', fr', ff', wr', tp', rs', us', c', P1', gs', vs', tss', L', q0, h1, h2, ⟨h3, by omega⟩, h4, h5, h6, h7, hl4, h8⟩ hB (by omega)⟩
  · obtain ⟨C, F, T, lgs', fr', ff', wr', tp', gs', vs', L', rs', ⟨S', us', c', P1', tss', -, -, -, -, -, -, -, -, hu⟩, -⟩ := h'
    exact ⟨_, (hu 0 (by decide)).trans h0⟩
  · refine (re_keepQ (d := d + 1) (Xa.chip hX) h0 h' hB hbb hM hP).mono ?_ (fun _ q => ⟨q.1.to (fun _ _ e => e.1), q.2⟩)
    rintro H2 ⟨C, F, T, lgs', fr', ff', wr', tp', gs', vs', L', rs', ⟨S', us', c', P1', tss', s1, s2, s3, s4, s5, s6, s7, sl, s8⟩, k1, k2, k3, k4, k5, k6, -, -⟩
    have hw := hws wr' tp'
    have hfb := frL_len s2.2.1
    have htB := tbK_le s2.2.1
    have hes := encR_sum rs'
    have hfr := ups_fr s2
    exact ⟨⟨S', lgs', fr', ff', wr', tp', rs', us', c', P1', gs', vs', tss', L', s2, s3, by omega, by omega, by omega, by omega, by omega, by omega, s4, by omega, by omega, by omega, sl⟩, s8⟩
