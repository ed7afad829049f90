/-! ===== commit that comes through, out of room made; class; by hand ===== -/
theorem ri_commitW {ky : List (List Nat)} {M : Nat} {sc : Nat × (Nat → Int32)} {d : Nat} {H : aH} {B P bb : Nat} {cl : Int32} {cp cb : Nat} {tb : Nat → Int8} {l : Nat} {g : Nat → Int8} {rl : Nat} {wss : Nat → List aE} {t0 : aTr} {t N : Nat} {op : Nat → Bool} {sm : Nat → Nat} {vs : List aV} {X : (Nat → Int8) → List aV → Prop} (h : ClsA H B P 1 0 cl cp cb tb l g rl wss t0) (hs : SightAt H op sm) (hsm : ∀ t, t < 8 → sm t < 2 ^ 30) (hV : VersIs H N vs) (hpr : ∀ v ∈ vs, v.2.1 ≤ P) (ht : t < 8) (hop : op t = true) (hw0 : ¬ wss t = []) (hcol : ((wss t).any (fun e => colV vs P (sm t) e.1)) = false) (h1W : OneW ((wss t).map pfx)) (hP : P + 1 < 2 ^ 30) (hB : B ≤ 128) (hB1 : 3 ≤ B) (hbb : bb < 2 ^ 31) (hK : ∀ e ∈ (wss t).map pfx, EntK ky e) (hle : sumN op sm (nI t) (P + 1) (kmV (inclV (P + 1) (fun _ => 0) 0 ((wss t).map pfx) vs)) (inclV (P + 1) (fun _ => 0) 0 ((wss t).map pfx) vs) ≤ B * 256) (hRM : RB sc (d + 7) mr_96 [.ref 1] H (fun H' => Rdy ky M H' B N bb P op sm ((wss t).map pfx) X ∧ ClsA H' B P 1 0 cl cp cb tb l g rl wss t0 ∧ ∀ a, 195 ≤ a → H'[a]? = H[a]?) (fun _ => False)) : RI sc (d + 8) mr_77 [.ref 1, .int (nI t)] H (fun x H' => x = nI (P + 1) ∧ IncP ky M H' B N bb P (va_up op t false) sm ((wss t).map pfx) X ∧ ClsA H' B (P + 1) 1 0 cl cp cb tb l g rl wss t0 ∧ ∀ a, 195 ≤ a → H'[a]? = H[a]?) := by
  have hn : 1 ≤ ((wss t).map pfx).length := by
    rw [List.length_map]
    exact List.length_pos_iff.mpr hw0
  refine ri_commit_ok (ok1 := fun H' => Rdy ky M H' B N bb P op sm ((wss t).map pfx) X ∧ ClsA H' B P 1 0 cl cp cb tb l g rl wss t0 ∧ ∀ a, 195 ≤ a → H'[a]? = H[a]?) (ok2 := fun H' => StoP ky M H' B N bb P (11 + 6 * t) op sm ((wss t).map pfx) X ∧ ClsA H' B P 1 0 cl cp cb tb l g rl wss t0 ∧ ∀ a, 195 ≤ a → H'[a]? = H[a]?) (ok3 := fun H' => StoP ky M H' B N bb P (11 + 6 * t) op sm ((wss t).map pfx) X ∧ ClsA H' B P 1 0 cl cp cb tb l g rl wss t0 ∧ ∀ a, 195 ≤ a → H'[a]? = H[a]?) (ok4 := fun H' => StoP ky M H' B N bb P (11 + 6 * t) (va_up op t false) sm ((wss t).map pfx) X ∧ ClsA H' B P 1 0 cl cp cb tb l g rl wss t0 ∧ ∀ a, 195 ≤ a → H'[a]? = H[a]?) (ok5 := fun H' => IncP ky M H' B N bb P (va_up op t false) sm ((wss t).map pfx) X ∧ ClsA H' B (P + 1) 1 0 cl cp cb tb l g rl wss t0 ∧ ∀ a, 195 ≤ a → H'[a]? = H[a]?) h hs hsm hV hpr ht hop hw0 hcol h1W hP hB hle hRM (fun H' h' => ?_) (fun H' h' => ?_) (fun H' h' => ?_) (fun H' h' => ?_) (fun H' h' => h'.2.1.1) (fun H' h' => h'.2.1.1) (fun H' h' => h'.2.1.1) (fun H' h' => ?_) (fun H' h' => h'.2.1.1) (fun H' h' => h'.2.1.1)
  · obtain ⟨r1, r2, r3⟩ := h'
    have hbt := r2.2.2.2.2.2.2.2.1 t ht
    rcases rb_stoP (sc := sc) (d := d + 1) r1 r2.1 hbt.1 hbt.2 (by omega) (by omega) hK hB hB1 hbb hP with ⟨H2, k1, k2, k3⟩ | ⟨H2, -, k⟩
    · refine Or.inl ⟨H2, k1, k2, r2.sto (Or.inl ⟨t, ht, rfl⟩) (fun a a1 _ a3 => k3 a (by omega) a3) ?_, fun a ha => (k3 a (by omega) (by omega)).trans (r3 a ha)⟩
      obtain ⟨S, lgs, fr, ff, tp, rs, us, c, c1, P1, P2, gs, gs1, vs, tss, L, Q, a, s0, s1, s2, s3, s4, s5, s6, s7, s8⟩ := k2
      exact ⟨Q, s7⟩
    · exact k.elim
  · obtain ⟨r1, r2, r3⟩ := h'
    obtain ⟨S, lgs, fr, ff, tp, rs, us, c, c1, P1, P2, gs, gs1, vs, tss, L, Q, a, s0, s1, s2, s3, s4, s5, s6, s7, s8⟩ := r1
    obtain ⟨H2, k1, k2, k3, k4⟩ := rn_settleU (sc := sc) (d := d + 6) r2 s0 (by omega)
    exact ⟨H2, k1, ⟨S, lgs, fr, ff, tp, rs, us, c, c1, P1, P2, gs, gs1, vs, tss, L, Q, a, k3, s1, s2, s3, s4, s5, s6, (k4 _ (by omega) (by omega)).trans s7, s8⟩, k2, fun a ha => (k4 a (by omega) (by omega)).trans (r3 a ha)⟩
  · obtain ⟨r1, r2, r3⟩ := h'
    obtain ⟨S, lgs, fr, ff, tp, rs, us, c, c1, P1, P2, gs, gs1, vs, tss, L, Q, a, s0, s1, s2, s3, s4, s5, s6, s7, s8⟩ := r1
    obtain ⟨H2, k1, k2, k3⟩ := rn_closeU (sc := sc) (d := d + 7) s0 ht
    exact ⟨H2, k1, ⟨S, lgs, fr, ff, tp, rs, us, c, c1, P1, P2, gs, gs1, vs, tss, L, Q, a, k2, s1, s2, s3, s4, s5, s6, (k3 _ (by omega)).trans s7, s8⟩, r2.far (fun a _ a2 => k3 a (by omega)), fun a ha => (k3 a (by omega)).trans (r3 a ha)⟩
  · obtain ⟨r1, r2, r3⟩ := h'
    have hbt := r2.2.2.2.2.2.2.2.1 t ht
    obtain ⟨H2, k1, k2, k3, k4⟩ := rn_incP (sc := sc) (d := d + 3) r1 r2.1 hbt.1 (fun t ht => by have := hsm t ht; omega) (by omega) (by omega) hn hK h1W hP
    exact ⟨H2, k1, k2, r2.next k3 (fun a a0 a1 _ => k4 a a0 (by omega)), fun a ha => (k4 a (by omega) (by omega)).trans (r3 a ha)⟩
  · obtain ⟨⟨S, lgs, fr, ff, tp, rs, us, c, c1, P1, P2, gs, gs1, vs, tss, L, Q, a, s0, -⟩, -⟩ := h'
    exact s0.2.2.2.2.2.2.2.2.1.1
