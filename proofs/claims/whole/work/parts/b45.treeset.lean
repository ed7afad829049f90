/-! ===== the tree is set behind include; class; by hand ===== -/
theorem ClsA.tree {H H' : aH} {B P : Nat} {up cw cl : Int32} {cp cb : Nat} {tb : Nat → Int8} {l : Nat} {g : Nat → Int8} {rl : Nat} {wss : Nat → List aE} {t t' : aTr} (h : ClsA H B P up cw cl cp cb tb l g rl wss t) (hT : TreeIs H' t') (hs : ∀ a, a < 65 → H'[a]? = H[a]?) : ClsA H' B P up cw cl cp cb tb l g rl wss t' := by
  obtain ⟨c0, c1, c2, c3, c4, ⟨q, p, c5, c6⟩, ⟨wq, c10, cw⟩, cb, ⟨⟨ws, cc⟩, ⟨Q, cq⟩⟩, -⟩ := h
  refine ⟨(hs 0 (by decide)).trans c0, (hs 1 (by decide)).trans c1, (hs 2 (by decide)).trans c2, (hs 3 (by decide)).trans c3, (hs 4 (by decide)).trans c4, ⟨q, p, (hs 5 (by decide)).trans c5, (hs 6 (by decide)).trans c6⟩, ⟨wq, (hs 10 (by decide)).trans c10, cw⟩, fun t ht => ⟨(cb t ht).1.keep (fun a a1 a2 => hs a (by omega)), ?_⟩, ⟨⟨ws, cc.keep (fun a a1 a2 => hs a (by omega))⟩, ⟨Q, (hs _ (by omega)).trans cq⟩⟩, hT⟩
  obtain ⟨Q, h5⟩ := (cb t ht).2
  exact ⟨Q, (hs _ (by omega)).trans h5⟩
theorem IncP.keep {ky : List (List Nat)} {M : Nat} {H H' : aH} {B N bb P : Nat} {op : Nat → Bool} {sm : Nat → Nat} {ws : List aE} {X : (Nat → Int8) → List aV → Prop} (h : IncP ky M H B N bb P op sm ws X) (hs : ∀ a, ¬ (65 ≤ a ∧ a < 71) → H'[a]? = H[a]?) : IncP ky M H' B N bb P op sm ws X := by
  obtain ⟨S, lgs, fr, ff, tp, rs, us, c, c1, P2, gs1, vs, tss, L, Q, s0, s1⟩ := h
  exact ⟨S, lgs, fr, ff, tp, rs, us, c, c1, P2, gs1, vs, tss, L, Q, s0.sight (s0.2.2.2.2.2.2.2.2.1.far2 (fun a a1 a2 => hs a (by omega))) (fun a a1 a2 => hs a (by omega)), s1⟩
/-- a node is set in the tree -/
theorem fs_tset {ky : List (List Nat)} {M : Nat} {sc : Nat × (Nat → Int32)} {d N P P' r k v s i n : Nat} {H0 H : aH} {B bb : Nat} {cw cl : Int32} {cp cb : Nat} {tb : Nat → Int8} {l : Nat} {g : Nat → Int8} {rl : Nat} {wss : Nat → List aE} {t : aTr} {op : Nat → Bool} {sm : Nat → Nat} {ws : List aE} {X : (Nat → Int8) → List aV → Prop} (h : IncP ky M H B N bb P op sm ws X) (hA : FsC H0 H B P' cw cl cp cb tb l g rl wss t ws) (hk : TreeOk t.1 t.2.1 t.2.2.1 t.2.2.2.1) (hr1 : 1 ≤ r) (hr : r ≤ 200) (hn : n ≤ 30) (hin : i + n ≤ 2000) : RN sc (d + 1) mr_191 [.ref 66, .int (nI r), .int (nI k), .int (nI v), .int (nI s), .ref 3, .int (nI i), .int (nI n)] H (fun H' => IncP ky M H' B N bb P op sm ws X ∧ ClsA H' B P' 1 cw cl cp cb tb l g rl wss (setT r k v s n tb i t) ∧ ∀ a, 195 ≤ a → H'[a]? = H0[a]?) := by
  obtain ⟨a1, -, a3⟩ := hA
  have hT := a1.2.2.2.2.2.2.2.2.2
  obtain ⟨H', k1, k2, k3⟩ := rn_tset (sc := sc) (d := d) (v := r) (k := k) (dir := v) (s := s) (i := i) (n := n) (a := 2) hT (by have := (hk r hr).1; omega) a1.2.2.1 (by decide) (by decide) hin hr1 hr hn
  exact ⟨H', k1, h.keep k3, a1.tree k2 (fun a ha => k3 a (by omega)), fun a ha => (k3 a (by omega)).trans (a3 a ha)⟩
