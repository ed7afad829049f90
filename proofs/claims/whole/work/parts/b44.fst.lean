/-! ===== a change of files: store, settle, include in the states of b39; class; by hand ===== -/
/-- the class's cells, the change of files, and the reference as it was -/
def FsC (H0 H : aH) (B P : Nat) (cw cl : Int32) (cp cb : Nat) (tb : Nat → Int8) (l : Nat) (g : Nat → Int8) (rl : Nat) (wss : Nat → List aE) (t : aTr) (ws : List aE) : Prop := ClsA H B P 1 cw cl cp cb tb l g rl wss t ∧ BatchIs H 59 ws ∧ ∀ a, 195 ≤ a → H[a]? = H0[a]?
theorem fs_sto {sc : Nat × (Nat → Int32)} {d N P : Nat} {H0 H : aH} {B bb : Nat} {cw cl : Int32} {cp cb : Nat} {tb : Nat → Int8} {l : Nat} {g : Nat → Int8} {rl : Nat} {wss : Nat → List aE} {t : aTr} {op : Nat → Bool} {sm : Nat → Nat} {ws : List aE} {X : (Nat → Int8) → List aV → Prop} (h : Rdy H B N bb P op sm ws X) (hA : FsC H0 H B P cw cl cp cb tb l g rl wss t ws) (hK : ∀ e ∈ ws, EntK e) (hB : B ≤ 128) (hB1 : 3 ≤ B) (hbb : bb < 2 ^ 31) (hP : P + 1 < 2 ^ 30) : RB sc (d + 6) mr_150 [.ref 1, .ref 60] H (fun H' => StoP H' B N bb P 59 op sm ws X ∧ FsC H0 H' B P cw cl cp cb tb l g rl wss t ws) (fun _ => False) := by
  obtain ⟨a1, a2, a3⟩ := hA
  rcases rb_stoP (sc := sc) (d := d) (b := 59) h a1.1 a2 a1.2.2.2.2.2.2.2.2.1.2 (by decide) (by decide) hK hB hB1 hbb hP with ⟨H2, k1, k2, k3⟩ | ⟨H2, -, k⟩
  · refine Or.inl ⟨H2, k1, k2, a1.sto (Or.inr rfl) (fun a b1 _ b3 => k3 a (by omega) b3) ?_, a2.keep (fun a b1 b2 => k3 a (by omega) (by omega)), fun a ha => (k3 a (by omega) (by omega)).trans (a3 a ha)⟩
    obtain ⟨S, lgs, fr, ff, tp, rs, us, c, c1, P1, P2, gs, gs1, vs, tss, L, Q, a, s0, s1, s2, s3, s4, s5, s6, s7, s8⟩ := k2
    exact ⟨Q, s7⟩
  · exact k.elim
theorem fs_set {sc : Nat × (Nat → Int32)} {d N P : Nat} {H0 H : aH} {B bb : Nat} {cl : Int32} {cp cb : Nat} {tb : Nat → Int8} {l : Nat} {g : Nat → Int8} {rl : Nat} {wss : Nat → List aE} {t : aTr} {op : Nat → Bool} {sm : Nat → Nat} {ws : List aE} {X : (Nat → Int8) → List aV → Prop} (h : StoP H B N bb P 59 op sm ws X) (hA : FsC H0 H B P 0 cl cp cb tb l g rl wss t ws) (hbb : bb < 2 ^ 31) : RN sc (d + 1) mr_153 [.ref 1, .int 1] H (fun H' => StoP H' B N bb P 59 op sm ws X ∧ FsC H0 H' B P 0 cl cp cb tb l g rl wss t ws) := by
  obtain ⟨a1, a2, a3⟩ := hA
  obtain ⟨S, lgs, fr, ff, tp, rs, us, c, c1, P1, P2, gs, gs1, vs, tss, L, Q, a, s0, s1, s2, s3, s4, s5, s6, s7, s8⟩ := h
  obtain ⟨H2, k1, k2, k3, k4⟩ := rn_settleU (sc := sc) (d := d) a1 s0 (by omega)
  exact ⟨H2, k1, ⟨S, lgs, fr, ff, tp, rs, us, c, c1, P1, P2, gs, gs1, vs, tss, L, Q, a, k3, s1, s2, s3, s4, s5, s6, (k4 _ (by omega) (by omega)).trans s7, s8⟩, k2, a2.keep (fun a b1 b2 => k4 a (by omega) (by omega)), fun a ha => (k4 a (by omega) (by omega)).trans (a3 a ha)⟩
theorem fs_inc {sc : Nat × (Nat → Int32)} {d N P : Nat} {H0 H : aH} {B bb : Nat} {cw cl : Int32} {cp cb : Nat} {tb : Nat → Int8} {l : Nat} {g : Nat → Int8} {rl : Nat} {wss : Nat → List aE} {t : aTr} {op : Nat → Bool} {sm : Nat → Nat} {ws : List aE} {X : (Nat → Int8) → List aV → Prop} (h : StoP H B N bb P 59 op sm ws X) (hA : FsC H0 H B P cw cl cp cb tb l g rl wss t ws) (hsm : ∀ t, t < 8 → sm t < 2 ^ 31) (hn : 1 ≤ ws.length) (hK : ∀ e ∈ ws, EntK e) (h1W : OneW ws) (hP : P + 1 < 2 ^ 30) : RN sc (d + 4) mr_160 [.ref 1, .ref 60] H (fun H' => IncP H' B N bb P op sm ws X ∧ FsC H0 H' B (P + 1) cw cl cp cb tb l g rl wss t ws) := by
  obtain ⟨a1, a2, a3⟩ := hA
  obtain ⟨H2, k1, k2, k3, k4⟩ := rn_incP (sc := sc) (d := d) h a1.1 a2 hsm (by decide) (by decide) hn hK h1W hP
  exact ⟨H2, k1, k2, a1.next k3 (fun a b0 b1 _ => k4 a b0 (by omega)), a2.keep (fun a b1 b2 => k4 a (by omega) (by omega)), fun a ha => (k4 a (by omega) (by omega)).trans (a3 a ha)⟩
theorem fs_stoC {sc : Nat × (Nat → Int32)} {d N P : Nat} {H0 H : aH} {B bb : Nat} {cw cl : Int32} {cp cb : Nat} {tb : Nat → Int8} {l : Nat} {g : Nat → Int8} {rl : Nat} {wss : Nat → List aE} {t : aTr} {op : Nat → Bool} {sm : Nat → Nat} {ws : List aE} {X : (Nat → Int8) → List aV → Prop} (h : Rdy H B N bb P op sm ws X) (hA : FsC H0 H B P cw cl cp cb tb l g rl wss t ws) (hK : ∀ e ∈ ws, EntK e) (hB : B ≤ 128) (hB1 : 3 ≤ B) (hbb : bb % 2 ^ 32 < 2 ^ 31) (hun : bb / 2 ^ 32 = ws.length + 2) (hP : P + 1 < 2 ^ 30) (hX : ∀ c c' vs, (∀ v ∈ vs, v.2.2.2.1 ≠ none → valB c' v = valB c v) → X c vs → X c' vs) : RB sc (d + 6) mr_150 [.ref 1, .ref 60] H (fun _ => False) (fun H' => CutP H' B N bb P op sm X ∧ FsC H0 H' B P cw cl cp cb tb l g rl wss t ws) := by
  obtain ⟨a1, a2, a3⟩ := hA
  rcases rb_stoC (sc := sc) (d := d) (b := 59) h a1.1 a2 a1.2.2.2.2.2.2.2.2.1.2 (by decide) (by decide) hK hB hB1 hbb hun hP hX with ⟨H2, -, k⟩ | ⟨H2, k1, k2, k5, k3⟩
  · exact k.elim
  · exact Or.inr ⟨H2, k1, k2, a1.sto (Or.inr rfl) (fun a b1 _ b3 => k3 a (by omega) b3) k5, a2.keep (fun a b1 b2 => k3 a (by omega) (by omega)), fun a ha => (k3 a (by omega) (by omega)).trans (a3 a ha)⟩
