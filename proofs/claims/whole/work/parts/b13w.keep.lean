/-! ===== tables are merged and kept few, and all agrees; class; by hand ===== -/
/-- the state while tables are merged: m are the tables, C bounds the number of states saved, F the free blocks, T the tables' blocks -/
def KpI (ky : List (List Nat)) (H0 : aH) (B N bb C F T R P : Nat) (op : Nat → Bool) (sm : Nat → Nat) (lgs : List Nat) (fr ff : Nat) (wr : Bool) (tp : Nat) (gs : List aSg) (vs : List aV) (L : List aCh) (X : (Nat → Int8) → List aV → Prop) (m : List aR) (H : aH) : Prop := ∃ S us c P1 tss, S + m.length ≤ C ∧ UpS H B N bb S op sm lgs fr ff wr tp m us c P1 gs vs ∧ StW ky B P P1 m gs c vs tss L ∧ X c vs ∧ F ≤ frL B lgs m ∧ tbK m ≤ T ∧ m.length ≤ R ∧ Lv3 m ∧ FrU H0 H
/-- the power failed meanwhile -/
def KpB (ky : List (List Nat)) (H0 : aH) (B N bb C F R P : Nat) (op : Nat → Bool) (sm : Nat → Nat) (lgs : List Nat) (vs : List aV) (L : List aCh) (X : (Nat → Int8) → List aV → Prop) (H : aH) : Prop := ∃ S c m tss, S ≤ C ∧ FaS ky H B N bb S op sm P c lgs m vs tss L ∧ X c vs ∧ F ≤ frL B lgs m ∧ m.length ≤ R ∧ Lv3 m ∧ FrU H0 H
theorem tbK_take {rs : List aR} {f n : Nat} : tbK ((rs.drop f).take n) ≤ tbK rs := by
  have h1 := tbK_app (rs.take f) (rs.drop f)
  rw [List.take_append_drop] at h1
  have h2 := tbK_app ((rs.drop f).take n) ((rs.drop f).drop n)
  rw [List.take_append_drop] at h2
  omega
set_option maxRecDepth 20000 in
theorem re_mergeK {ky : List (List Nat)} {sc : Nat × (Nat → Int32)} {d f en lev : Nat} {H0 H : aH} {B N bb C F T R P : Nat} {op : Nat → Bool} {sm : Nat → Nat} {lgs : List Nat} {fr ff : Nat} {wr : Bool} {tp : Nat} {gs : List aSg} {vs : List aV} {L : List aCh} {X : (Nat → Int8) → List aV → Prop} {m : List aR} (hX1 : ∀ c c', (∀ v ∈ vs, v.2.2.2.1 ≠ none → valB c' v = valB c v) → X c vs → X c' vs) (h : KpI ky H0 B N bb C F T R P op sm lgs fr ff wr tp gs vs L X m H) (hB : B ≤ 128) (hB1 : 3 ≤ B) (hbb : bb % 2 ^ 32 < 2 ^ 31) (hC : C + 1 < 2 ^ 31) (hP : P < 2 ^ 30) (hfr : fr < 256) (hTF : T ≤ F) (hT64 : T ≤ 64) (hR : R ≤ 23) (hfe : f ≤ en) (her : en ≤ m.length) (hlv : lev ≤ 3) : RE sc (d + 4) mr_120 [.ref 137, .int (nI f), .int (nI en), .int (nI lev), .int (nI P)] H (fun H' => ∃ x S us c P1 tss, x.1 = lev ∧ S + m.length ≤ C + 1 ∧ UpS H' B N bb S op sm lgs fr ff wr tp (mgRs m f en x) us c P1 gs vs ∧ StW ky B P P1 (mgRs m f en x) gs c vs tss L ∧ X c vs ∧ F ≤ frL B lgs (mgRs m f en x) ∧ tbK (mgRs m f en x) ≤ T ∧ Lv3 (mgRs m f en x) ∧ FrU H0 H') (fun H' => KpB ky H0 B N bb C F R P op sm lgs vs L X H') := by
  obtain ⟨S, us, c, P1, tss, s1, h1, h2, h3, h4, h5, h6, hl3, h7⟩ := h
  obtain ⟨hD, hO, hus, hF, htp, hff, hV, hRX, g, hA⟩ := id h1
  obtain ⟨w1, w2, w3, w4, w5, w6, w7, w8, w9⟩ := id h2
  have hlt : f + (en - f) ≤ tss.length := by have := w1.1; omega
  have hMe := remL_list (tss := tss) (f := f) (n := en - f) hlt
  have hsb := (rs_bytes (w1.seg f (en - f))).1
  have hst := tbK_take (rs := m) (f := f) (n := en - f)
  have hE := (rs_bytes w1).2
  have htB := tbK_le hO
  have hes := encR_sum m
  have hlf := frL_len hO
  refine (re_mergeW (d := d) (lev := lev) (G := (((tss.drop f).take (en - f)).flatten.flatMap encE).length) h1 h2 hB hB1 hbb (by omega) hP hfr hfe her (by omega) (by omega) (fun lm i _ => ?_) (by omega) (by omega) (by omega) (fun k hk => by omega)).mono ?_ ?_
  · rw [mgRun_out, List.nil_append]
    refine Nat.le_trans (sub_bytes (fil_sub _ _ _)) ?_
    rw [← hMe]
    exact (ord_len i _).1
  · rintro H' ⟨x, c', us', out, y1, y2, y3, y4, y5, y6, y7, y8, y9, y10⟩
    have hx2 := mg_tbK (rs := m) (x := x) hfe y2 (by omega)
    have e1 := tbK_free hO
    have e2 := tbK_free y7.2.1
    exact ⟨x, S + 1, us', c', P, _, y1, by omega, y7, y8, hX1 c c' (fun v hv => (recs_used hO (hRX v hv).1 y9).2) h3, by omega, by omega, hl3.mg (by omega), h7.trans y10⟩
  · rintro H' ⟨c', y1, y2, y3⟩
    exact ⟨S, c', m, tss, by omega, y1, hX1 c c' (fun v hv => (recs_used hO (hRX v hv).1 y2).2) h3, h4, h6, hl3, h7.trans y3⟩
theorem ent_sum {B : Nat} {lgs : List Nat} : ∀ {m : List aR}, (∀ x ∈ m, x.2.2.1 < 65536) → (m.map (fun x => x.2.2.1)).sum ≤ 65536 * m.length
  | [], _ => Nat.le_refl _
  | x :: m, h => by
    have ih := ent_sum (B := B) (lgs := lgs) (m := m) (fun y hy => h y (List.mem_cons_of_mem _ hy))
    have := h x List.mem_cons_self
    rw [List.map_cons, List.sum_cons, List.length_cons]
    omega
set_option maxRecDepth 20000 in
theorem re_keepW {ky : List (List Nat)} {sc : Nat × (Nat → Int32)} {d : Nat} {H0 H : aH} {B N bb C F T R P : Nat} {up cw cl cp cb : Int32} {op : Nat → Bool} {sm : Nat → Nat} {lgs : List Nat} {fr ff : Nat} {wr : Bool} {tp : Nat} {gs : List aSg} {vs : List aV} {L : List aCh} {X : (Nat → Int8) → List aV → Prop} {rs : List aR} (hX1 : ∀ c c', (∀ v ∈ vs, v.2.2.2.1 ≠ none → valB c' v = valB c v) → X c vs → X c' vs) (h0 : H0[0]? = some (kO 11 (fvs (nI B) (nI P) up cw cl cp cb))) (h : KpI ky H0 B N bb C F T R P op sm lgs fr ff wr tp gs vs L X rs H) (hB : B ≤ 128) (hB1 : 3 ≤ B) (hbb : bb % 2 ^ 32 < 2 ^ 31) (hC : C + 1 < 2 ^ 31) (hP : P < 2 ^ 30) (hfr : fr < 256) (hTF : T ≤ F) (hT64 : T ≤ 64) (hR : R ≤ 23) : RE sc (d + 5) mr_118 [.ref 1] H (fun H' => ∃ m, KpI ky H0 B N bb C F T R P op sm lgs fr ff wr tp gs vs L X m H' ∧ (m.length ≤ 1 ∨ (m.map (fun x => x.2.2.1)).sum ≤ B * 14)) (fun H' => KpB ky H0 B N bb C F R P op sm lgs vs L X H') := by
  refine (re_keepTables (I := KpI ky H0 B N bb C F T R P op sm lgs fr ff wr tp gs vs L X) (up := up) (cw := cw) (cl := cl) (cp := cp) (cb := cb) (P := P) ?_ hB ?_ h).mono ?_ (fun H' h' => h')
  · rintro m H ⟨S, us, c, P1, tss, s1, h1, h2, h3, h4, h5, h6, hl3, h7⟩
    obtain ⟨hD, hO, hus, hF, htp, hff, hV, hRX, g, hA⟩ := id h1
    obtain ⟨tf, pq, ms, mt, sq, tu, hL, -⟩ := id hD
    obtain ⟨A1, ⟨lm, bf, A2, A3⟩, -⟩ := id hA
    have htB : tbK m ≤ B := tbK_le hO
    have hes := ent_sum (B := B) (lgs := lgs) (m := m) (fun x hx => (hO.2.1 x hx).2.2.1)
    exact ⟨⟨lgs, fr, ff, wr, tp, ms, mt, sq, tu, us, hL⟩, fun x hx => by have := (hO.2.1 x hx).1; omega, (h7 0 (by decide)).trans h0, ⟨lm, bf, 0, A3⟩, show tbK m < 2 ^ 31 by omega, by omega⟩
  · intro m H f en lev hI hfe her hlv
    have hR' := hI
    obtain ⟨-, -, -, -, -, -, -, -, -, -, -, hmR, -, -⟩ := hR'
    refine (re_mergeK (d := d) hX1 hI hB hB1 hbb hC hP hfr hTF hT64 hR (by omega) her hlv).mono ?_ (fun H' h' => h')
    rintro H' ⟨x, S, us, c, P1, tss, y1, y2, y3, y4, y5, y6, y7, yl, y8⟩
    have hl := mg_len (x := x) hfe her
    exact ⟨mgRs m f en x, ⟨x, y1, rfl⟩, S, us, c, P1, tss, by omega, y3, y4, y5, y6, y7, by omega, yl, y8⟩
  · rintro H' ⟨m, rs', -, hd, hI⟩
    refine ⟨rs', hI, ?_⟩
    rcases hd with ⟨-, x, -, e⟩ | ⟨hn, e⟩
    · left
      rw [e, List.take_zero, List.nil_append, List.drop_length, List.append_nil]
      split
      · exact Nat.le_refl _
      · exact Nat.zero_le _
    · rw [e]
      by_cases h1 : m.length ≤ 1
      · exact Or.inl h1
      · right
        by_cases h2 : (m.map (fun x => x.2.2.1)).sum ≤ B * 14
        · exact h2
        · exact absurd ⟨by omega, Or.inr (by omega)⟩ hn
