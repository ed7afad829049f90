/-! ===== flush and compact, whole: the class's part; by hand ===== -/
/-- the store behind a call -/
def UpQ (ky : List (List Nat)) (M : Nat) (H : aH) (B N bb P : Nat) (op : Nat → Bool) (sm : Nat → Nat) (n : Nat) (X : (Nat → Int8) → List aV → Prop) : Prop := ∃ S lgs fr ff wr tp rs us c P1 gs vs tss L, UpS H B N bb S op sm lgs fr ff wr tp rs us c P1 gs vs ∧ StW ky B P P1 rs gs c vs tss L ∧ X c vs ∧ PgV op sm P vs ∧ RmK B M S lgs rs 0 ∧ vs.length ≤ n
theorem mg_len1 {rs : List aR} {f en : Nat} {x : aR} (hfe : f ≤ en) : (mgRs rs f en x).length ≤ rs.length + 1 := by
  unfold mgRs
  rw [List.length_append, List.length_append, List.length_take, List.length_drop]
  have : (if 0 < x.2.1 then [x] else ([] : List aR)).length ≤ 1 := by
    split
    · exact Nat.le_refl _
    · exact Nat.zero_le _
  omega
theorem tab_KpI {ky : List (List Nat)} {H0 : aH} {B N bb C F T R P : Nat} {up cw cl cp cb : Int32} {op : Nat → Bool} {sm : Nat → Nat} {lgs : List Nat} {fr ff : Nat} {wr : Bool} {tp : Nat} {gs : List aSg} {vs : List aV} {L : List aCh} {X : (Nat → Int8) → List aV → Prop} (h0 : H0[0]? = some (kO 11 (fvs (nI B) (nI P) up cw cl cp cb))) (hB : B ≤ 128) (hR : R ≤ 23) : TabI (KpI ky H0 B N bb C F T R P op sm lgs fr ff wr tp gs vs L X) B P up cw cl cp cb := by
  rintro m H ⟨S, us, c, P1, tss, s1, h1, h2, h3, h4, h5, h6, hl3, h7⟩
  obtain ⟨hD, hO, hus, hF, htp, hff, hV, hRX, g, hA⟩ := id h1
  obtain ⟨tf, pq, ms, mt, sq, tu, hL, -⟩ := id hD
  obtain ⟨A1, ⟨lm, bf, A2, A3⟩, -⟩ := id hA
  have htB : tbK m ≤ B := tbK_le hO
  have hes := ent_sum (B := B) (lgs := lgs) (m := m) (fun x hx => (hO.2.1 x hx).2.2.1)
  exact ⟨⟨lgs, fr, ff, wr, tp, ms, mt, sq, tu, us, hL⟩, fun x hx => by have := (hO.2.1 x hx).1; omega, (h7 0 (by decide)).trans h0, ⟨lm, bf, 0, A3⟩, show tbK m < 2 ^ 31 by omega, by omega⟩
theorem UpQ.kp {ky : List (List Nat)} {M : Nat} {H0 H : aH} {B N bb C F T R P n : Nat} {op : Nat → Bool} {sm : Nat → Nat} {lgs : List Nat} {fr ff : Nat} {wr : Bool} {tp : Nat} {gs : List aSg} {vs : List aV} {L : List aCh} {X : (Nat → Int8) → List aV → Prop} {m : List aR} (h : KpI ky H0 B N bb C F T R P op sm lgs fr ff wr tp gs vs L X m H) (hF : B / 8 * 3 ≤ F) (hR : R ≤ 23) (hC : C ≤ M) (hn : vs.length ≤ n) (hp : PgV op sm P vs) : UpQ ky M H B N bb P op sm n X ∧ FrU H0 H := by
  obtain ⟨S, us, c, P1, tss, s1, h1, h2, h3, h4, h5, h6, hl3, h7⟩ := h
  exact ⟨⟨S, lgs, fr, ff, wr, tp, m, us, c, P1, gs, vs, tss, L, h1, h2, h3, hp, ⟨by omega, by omega, by omega, hl3⟩, hn⟩, h7⟩
theorem UpQ.mono {ky : List (List Nat)} {M : Nat} {H : aH} {B N bb P n : Nat} {op : Nat → Bool} {sm : Nat → Nat} {X X' : (Nat → Int8) → List aV → Prop} (h : UpQ ky M H B N bb P op sm n X) (hx : ∀ c vs, X c vs → X' c vs) : UpQ ky M H B N bb P op sm n X' := by
  obtain ⟨S, lgs, fr, ff, wr, tp, rs, us, c, P1, gs, vs, tss, L, h1, h2, h3, h4⟩ := h
  exact ⟨S, lgs, fr, ff, wr, tp, rs, us, c, P1, gs, vs, tss, L, h1, h2, hx c vs h3, h4⟩
theorem RsQ.ob {ky : List (List Nat)} {H0 H : aH} {B N bb S P n : Nat} {bl up cw cl cp cb : Int32} {op : Nat → Bool} {sm : Nat → Nat} {X : (Nat → Int8) → List aV → Prop} (h : RsQ ky H0 B N bb S P op sm n X H) (h0 : H0[0]? = some (kO 11 (fvs bl (nI P) up cw cl cp cb))) : H[0]? = some (kO 11 (fvs bl (nI P) up cw cl cp cb)) ∧ ∃ tfs, H[136]? = some (kO 8 tfs) := by
  obtain ⟨S', lgs', fr', ff', wr', tp', rs', us', c', P1', gs', vs', tss', L', q0, h1, h2, h3, h4, h5, h6, h7, -, h8⟩ := h
  obtain ⟨-, ⟨lm, bf, -, A3⟩, -⟩ := h1.2.2.2.2.2.2.2.2.2
  exact ⟨(h8 0 (by decide)).trans h0, ⟨_, A3⟩⟩
section MN
variable {sc : Nat × (Nat → Int32)} {d : Nat} {H : aH} {B N bb S P M : Nat} {up cw cl cp cb : Int32} {op : Nat → Bool} {sm : Nat → Nat} {lgs : List Nat} {fr ff : Nat} {wr : Bool} {tp : Nat} {rs : List aR} {us : Nat → Bool} {c : Nat → Int8} {P1 : Nat} {gs : List aSg} {vs : List aV} {tss : List (List aT)} {L : List aCh} {X : (Nat → Int8) → List aV → Prop}
/-- the look at the reserve, with its bad end as a state of the chip -/
theorem rr_Q {ky : List (List Nat)} (hX : XC op sm P X) (hXN : ∀ c vs, (∀ v ∈ vs, VOk ky P v) → X c vs → sumN op sm (-1) P (kmV vs) vs ≤ B * 256) (h0 : H[0]? = some (kO 11 (fvs (nI B) (nI P) up cw cl cp cb))) (h : UpS H B N bb S op sm lgs fr ff wr tp rs us c P1 gs vs) (hW : StW ky B P P1 rs gs c vs tss L) (hx : X c vs) (hpg : PgV op sm P vs) (hRk : RmK B S S lgs rs 0) (hB : B = 64 ∨ B = 96 ∨ B = 128) (hbb : bb % 2 ^ 32 < 2 ^ 31) (hSM : S + 40 ≤ M) (hM : M < 2 ^ 30) (hP : P < 2 ^ 30) (hsm : ∀ t, t < 8 → sm t < 2 ^ 31) (hvl : vs.length < 65536) : RR sc (d + 6) P H (RsQ ky H B N bb (S + 1) P op sm vs.length X) (fun H' => CutP ky M H' B N bb P op sm X ∧ FrU H H') := by
  refine (rr_W (d := d) hX hXN h0 h hW hx hpg (by have := hRk.1; omega) hRk.2.1 hRk.2.2.2 hB hbb (by omega) hP hsm hvl).mono (fun _ q => q) ?_
  rintro H' ⟨c', y1, y2, y3⟩
  exact ⟨⟨S, lgs, rs, c', vs, tss, L, y1, h.2.2.2.2.2.2.1.srtV, y2, by have := hRk.1; omega, hRk.2.1, by omega, hRk.2.2.2⟩, y3⟩
theorem rb_flushW {ky : List (List Nat)} (hX : XC op sm P X) (hXN : ∀ c vs, (∀ v ∈ vs, VOk ky P v) → X c vs → sumN op sm (-1) P (kmV vs) vs ≤ B * 256) (h0 : H[0]? = some (kO 11 (fvs (nI B) (nI P) up cw cl cp cb))) (h : UpS H B N bb S op sm lgs fr ff wr tp rs us c P1 gs vs) (hW : StW ky B P P1 rs gs c vs tss L) (hx : X c vs) (hpg : PgV op sm P vs) (hRk : RmK B S S lgs rs 0) (hB : B = 64 ∨ B = 96 ∨ B = 128) (hbb : bb % 2 ^ 32 < 2 ^ 31) (hSM : S + 40 ≤ M) (hM : M < 2 ^ 30) (hP : P < 2 ^ 30) (hsm : ∀ t, t < 8 → sm t < 2 ^ 31) (hvl : vs.length < 65536) : RB sc (d + 7) mr_167 [.ref 1] H (fun H' => UpQ ky M H' B N bb P op sm vs.length X ∧ FrU H H') (fun H' => CutP ky M H' B N bb P op sm X ∧ FrU H H') := by
  refine rb_flushed (d := d + 1) (ok1 := RsQ ky H B N bb (S + 1) P op sm vs.length X) (ok2 := KpQ ky H B N bb M P op sm vs.length (Xa X)) h0 h.2.2.2.2.2.2.2.2.2.1 (rr_Q (d := d) hX hXN h0 h hW hx hpg hRk hB hbb hSM hM hP hsm hvl) (fun H' h' => h'.ob h0) (fun H' h' => re_spillQ (d := d + 2) hX h' hB hbb (by omega) hM hP hsm hvl) (fun H' h' => ?_) (fun H' h' => ?_)
  · obtain ⟨C, F, T, lgs', fr', ff', wr', tp', gs', vs', L', rs', ⟨S', us', c', P1', tss', -, -, -, -, -, -, -, -, hu⟩, -⟩ := h'
    exact ⟨_, (hu 0 (by decide)).trans h0⟩
  · refine (re_keepQ (d := d + 1) (Xa.chip hX) h0 h' hB hbb hM hP).mono ?_ (fun _ q => ⟨q.1.to (fun _ _ e => e.1), q.2⟩)
    rintro H2 ⟨C, F, T, lgs', fr', ff', wr', tp', gs', vs', L', rs', hK, k1, k2, k3, k4, k5, k6, k7, -⟩
    have hu := UpQ.kp (M := M) hK (by omega) (by omega) (by omega) k5 k7
    exact ⟨hu.1.mono (fun _ _ e => e.1), hu.2⟩
theorem rb_compW1 {ky : List (List Nat)} (hX : XC op sm P X) (hXN : ∀ c vs, (∀ v ∈ vs, VOk ky P v) → X c vs → sumN op sm (-1) P (kmV vs) vs ≤ B * 256) (h0 : H[0]? = some (kO 11 (fvs (nI B) (nI P) up cw cl cp cb))) (h : UpS H B N bb S op sm lgs fr ff wr tp rs us c P1 gs vs) (hW : StW ky B P P1 rs gs c vs tss L) (hx : X c vs) (hpg : PgV op sm P vs) (hRk : RmK B S S lgs rs 0) (hB : B = 64 ∨ B = 96 ∨ B = 128) (hbb : bb % 2 ^ 32 < 2 ^ 31) (hSM : S + 40 ≤ M) (hM : M < 2 ^ 30) (hP : P < 2 ^ 30) (hsm : ∀ t, t < 8 → sm t < 2 ^ 31) (hvl : vs.length < 65536) : RB sc (d + 7) mr_170 [.ref 1, .int 1] H (fun H' => UpQ ky M H' B N bb P op sm vs.length X ∧ FrU H H') (fun H' => CutP ky M H' B N bb P op sm X ∧ FrU H H') := by
  refine rb_merged1 (d := d + 1) (ok1 := RsQ ky H B N bb (S + 1) P op sm vs.length X) h0 h.2.2.2.2.2.2.2.2.2.1 (rr_Q (d := d) hX hXN h0 h hW hx hpg hRk hB hbb hSM hM hP hsm hvl) (fun H' h' => h'.ob h0) (fun H' h' => ?_)
  obtain ⟨S', lgs', fr', ff', wr', tp', rs', us', c', P1', gs', vs', tss', L', q0, h1, h2, h3, h4, h5, h6, h7, hl3, h8⟩ := h'
  obtain ⟨tf, pq, ms, mt, sq, tu, hL, -⟩ := id h1.1
  have hfb := frL_len h1.2.1
  have hff := ups_fr h1
  have hts := tbK_sum h1.2.1
  have hK : KpI ky H B N bb (S' + 22) (frL B lgs' rs') (tbK rs') 22 P op sm lgs' fr' ff' wr' tp' gs' vs' L' X rs' H' := ⟨S', us', c', P1', tss', by omega, h1, h2, h3, Nat.le_refl _, Nat.le_refl _, by omega, hl3, h8⟩
  refine ⟨B, lgs', fr', ff', wr', tp', rs', ms, mt, sq, tu, us', hL, (re_mergeK (d := d + 2) (fun c c' hv => hX.1 c c' vs' hv) hK (by omega) (by omega) hbb (by omega) hP (by omega) (by omega) (by omega) (by omega) (Nat.zero_le _) (Nat.le_refl _) (Nat.le_refl _)).mono ?_ ?_⟩
  · rintro H2 ⟨x, S2, us2, c2, P2, tss2, y1, y2, y3, y4, y5, y6, y7, yl, y8⟩
    have hl := mg_len1 (rs := rs') (x := x) (Nat.zero_le rs'.length)
    exact ⟨⟨S2, lgs', fr', ff', wr', tp', _, us2, c2, P2, gs', vs', tss2, L', y3, y4, y5, h4, ⟨by omega, by omega, by omega, yl⟩, h7⟩, y8⟩
  · rintro H2 ⟨S2, c2, m, tss2, y1, y2, y3, y4, y5, yl, y6⟩
    exact ⟨⟨S2, lgs', m, c2, vs', tss2, L', y2, h1.2.2.2.2.2.2.1.srtV, y3, by omega, by omega, by omega, yl⟩, y6⟩
theorem rb_compW0 {ky : List (List Nat)} (hX : XC op sm P X) (hXN : ∀ c vs, (∀ v ∈ vs, VOk ky P v) → X c vs → sumN op sm (-1) P (kmV vs) vs ≤ B * 256) (h0 : H[0]? = some (kO 11 (fvs (nI B) (nI P) up cw cl cp cb))) (h : UpS H B N bb S op sm lgs fr ff wr tp rs us c P1 gs vs) (hW : StW ky B P P1 rs gs c vs tss L) (hx : X c vs) (hpg : PgV op sm P vs) (hRk : RmK B S S lgs rs 0) (hB : B = 64 ∨ B = 96 ∨ B = 128) (hbb : bb % 2 ^ 32 < 2 ^ 31) (hSM : S + 40 ≤ M) (hM : M < 2 ^ 30) (hP : P < 2 ^ 30) (hsm : ∀ t, t < 8 → sm t < 2 ^ 31) (hvl : vs.length < 65536) : RB sc (d + 7) mr_170 [.ref 1, .int 0] H (fun H' => UpQ ky M H' B N bb P op sm vs.length X ∧ FrU H H') (fun H' => CutP ky M H' B N bb P op sm X ∧ FrU H H') := by
  refine rb_merged0 (d := d + 1) (ok1 := RsQ ky H B N bb (S + 1) P op sm vs.length X) h0 h.2.2.2.2.2.2.2.2.2.1 (rr_Q (d := d) hX hXN h0 h hW hx hpg hRk hB hbb hSM hM hP hsm hvl) (fun H' h' => h'.ob h0) (fun H' h' => ?_)
  obtain ⟨C, F, T, lgs', fr', ff', wr', tp', gs', vs', L', rs', hK, k1, k2, k3, k4, k5, k6, k7⟩ := h'.kp (M := M) hB (by omega)
  have hl3 : Lv3 rs' := by
    obtain ⟨-, -, -, -, -, -, -, -, -, -, -, -, hl, -⟩ := id hK
    exact hl
  have hend : ∀ m H2, KpI ky H B N bb C F T 22 P op sm lgs' fr' ff' wr' tp' gs' vs' L' X m H2 → UpQ ky M H2 B N bb P op sm vs.length X ∧ FrU H H2 := fun m H2 hm => UpQ.kp hm (by omega) (by omega) (by omega) k5 k7
  refine (re_mergeStep (d := d + 1) (I := KpI ky H B N bb C F T 22 P op sm lgs' fr' ff' wr' tp' gs' vs' L' X) (tab_KpI h0 (by omega) (by omega)) (by omega) ?_ hl3 hK).mono ?_ (fun _ q => q)
  · intro m H2 f en lev hI hfe her hlv
    obtain ⟨-, -, -, -, -, -, -, -, -, -, -, hmR, -, -⟩ := id hI
    refine (re_mergeK (d := d + 1) (fun c c' hv => hX.1 c c' vs' hv) hI (by omega) (by omega) hbb (by omega) hP k3 (by omega) k2 (by omega) (by omega) her hlv).mono ?_ ?_
    · rintro H3 ⟨x, S2, us2, c2, P2, tss2, y1, y2, y3, y4, y5, y6, y7, yl, y8⟩
      have hl := mg_len (x := x) hfe her
      exact ⟨mgRs m f en x, ⟨x, y1, rfl⟩, S2, us2, c2, P2, tss2, by omega, y3, y4, y5, y6, y7, by omega, yl, y8⟩
    · rintro H3 ⟨S2, c2, m2, tss2, y1, y2, y3, y4, y5, yl, y6⟩
      exact ⟨⟨S2, lgs', m2, c2, vs', tss2, L', y2, k6, y3, by omega, by omega, by omega, yl⟩, y6⟩
  · rintro H2 (⟨l, f, en, lev, rs2, -, -, -, -, hI⟩ | ⟨-, ⟨y, rs2, -, -, hI⟩ | ⟨-, e⟩⟩)
    · exact hend _ _ hI
    · exact hend _ _ hI
    · rw [e]
      exact hend _ _ hK
end MN
