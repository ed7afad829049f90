/-! ===== a node goes from the tree, a size is set; class; by hand ===== -/
theorem fs_unset {ky : List (List Nat)} {M : Nat} {sc : Nat × (Nat → Int32)} {d N P P' r : Nat} {H0 H : aH} {B bb : Nat} {cw cl : Int32} {cp cb : Nat} {tb : Nat → Int8} {l : Nat} {g : Nat → Int8} {rl : Nat} {wss : Nat → List aE} {t : aTr} {op : Nat → Bool} {sm : Nat → Nat} {ws : List aE} {X : (Nat → Int8) → List aV → Prop} (h : IncP ky M H B N bb P op sm ws X) (hA : FsC H0 H B P' cw cl cp cb tb l g rl wss t ws) (hk : TreeOk t.1 t.2.1 t.2.2.1 t.2.2.2.1) (hr1 : 1 ≤ r) (hr : r ≤ 200) (hkr : ¬ t.1 r = 0) (hno : 1 ≤ t.2.2.2.2.2) : RN sc d mr_231 [.ref 66, .int (nI r)] H (fun H' => IncP ky M H' B N bb P op sm ws X ∧ FsC H0 H' B P' cw cl cp cb tb l g rl wss (va_up t.1 r 0, t.2.1, t.2.2.1, t.2.2.2.1, t.2.2.2.2.1, t.2.2.2.2.2 - 1) ws) := by
  obtain ⟨a1, a2, a3⟩ := hA
  have hT := a1.2.2.2.2.2.2.2.2.2
  obtain ⟨H', k1, k2, k3⟩ := rn_unset (sc := sc) (d := d) hT hk hr1 hr hkr hno
  exact ⟨H', k1, h.keep k3, a1.tree k2 (fun a ha => k3 a (by omega)), a2.keep (fun a b1 b2 => k3 a (by omega)), fun a ha => (k3 a (by omega)).trans (a3 a ha)⟩
theorem fs_size {ky : List (List Nat)} {M : Nat} {sc : Nat × (Nat → Int32)} {d N P P' r s : Nat} {H0 H : aH} {B bb : Nat} {cw cl : Int32} {cp cb : Nat} {tb : Nat → Int8} {l : Nat} {g : Nat → Int8} {rl : Nat} {wss : Nat → List aE} {t : aTr} {op : Nat → Bool} {sm : Nat → Nat} {ws : List aE} {X : (Nat → Int8) → List aV → Prop} (h : IncP ky M H B N bb P op sm ws X) (hA : FsC H0 H B P' cw cl cp cb tb l g rl wss t ws) (hr : r ≤ 200) : RN sc (d + 1) mr_245 [.ref 66, .int (nI r), .int (nI s)] H (fun H' => IncP ky M H' B N bb P op sm ws X ∧ FsC H0 H' B P' cw cl cp cb tb l g rl wss (t.1, t.2.1, va_up t.2.2.1 r s, t.2.2.2.1, t.2.2.2.2.1, t.2.2.2.2.2) ws) := by
  obtain ⟨a1, a2, a3⟩ := hA
  have hT := a1.2.2.2.2.2.2.2.2.2
  obtain ⟨H', k1, k2, k3⟩ := rn_setSize (sc := sc) (d := d) (s := s) hT hr
  exact ⟨H', k1, h.keep k3, a1.tree k2 (fun a ha => k3 a (by omega)), a2.keep (fun a b1 b2 => k3 a (by omega)), fun a ha => (k3 a (by omega)).trans (a3 a ha)⟩
