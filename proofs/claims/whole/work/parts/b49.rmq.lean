/-! ===== room is made within a call: for a commit and for the changes of files; class; by hand ===== -/
section RQ9
variable {sc : Nat × (Nat → Int32)} {d : Nat} {H : aH} {B N bb P M0 M n : Nat} {op : Nat → Bool} {sm : Nat → Nat} {ws : List aE} {X : (Nat → Int8) → List aV → Prop}
theorem UpQ.to {ky : List (List Nat)} {H' : aH} (h : UpQ ky M H B N bb P op sm n X) (hf : FrK H H') : UpQ ky M H' B N bb P op sm n X := by
  obtain ⟨S, lgs, fr, ff, wr, tp, rs, us, c, P1, gs, vs, tss, L, h1, h2⟩ := h
  exact ⟨S, lgs, fr, ff, wr, tp, rs, us, c, P1, gs, vs, tss, L, h1.sight (h1.2.2.2.2.2.2.2.2.1.far2 (fun a a1 a2 => hf a (by omega))) (fun a a1 a2 => hf a (by omega)), h2⟩
theorem UpQ.arm {ky : List (List Nat)} {k m cb : Nat} (h : UpQ ky M H B N bb P op sm n X) (hk : k ≤ m) (hk2 : k < 2 ^ 31) (hcb : cb < 2 ^ 31) : UpQ ky M (H.set 71 (kO 1 [.ref 73, .ref 74, .int (lI (some k)), .int (nI cb), .int (nI 0)])) B N (cb + 2 ^ 32 * (m + 2)) P op sm n X := by
  obtain ⟨S, lgs, fr, ff, wr, tp, rs, us, c, P1, gs, vs, tss, L, h1, h2⟩ := h
  exact ⟨S, lgs, fr, ff, wr, tp, rs, us, c, P1, gs, vs, tss, L, up_arm h1 hk hk2 hcb, h2⟩
theorem room_Q {ky : List (List Nat)} {up cw cl cp cb : Int32} (hX : XC op sm P X) (hXN : ∀ c vs, (∀ v ∈ vs, VOk ky P v) → X c vs → sumN op sm (-1) P (kmV vs) vs ≤ B * 256) (h0 : H[0]? = some (kO 11 (fvs (nI B) (nI P) up cw cl cp cb))) (h : UpQ ky M0 H B N bb P op sm n X) (hB : B = 64 ∨ B = 96 ∨ B = 128) (hbb : bb % 2 ^ 32 < 2 ^ 31) (hM0 : M0 + 40 ≤ M) (hM : M < 2 ^ 30) (hP : P < 2 ^ 30) (hsm : ∀ t, t < 8 → sm t < 2 ^ 31) (hvN : n + ws.length ≤ N) (hN : N < 65536) (hws : ∀ w t, opnN w t (szW ws) ≤ 5) : RB sc (d + 7) mr_96 [.ref 1] H (fun H' => Rdy ky M H' B N bb P op sm ws (Xa X) ∧ FrU H H') (fun H' => CutP ky M H' B N bb P op sm X ∧ FrU H H') := by
  obtain ⟨S, lgs, fr, ff, wr, tp, rs, us, c, P1, gs, vs, tss, L, h1, h2, h3, h4, ⟨r1, r2, r3, r4⟩, h6⟩ := h
  exact rb_roomW hX hXN h0 h1 h2 h3 h4 (by omega) r2 r4 hB hbb (by omega) hM hP hsm (by omega) hN hws
theorem cut_no {ky : List (List Nat)} (h : CutP ky M H B N bb P op sm X) (hbb : bb < 2 ^ 31) : False := by
  obtain ⟨S, lgs, rs, c, vs, tss, L, h1, -⟩ := h
  exact h1.armed (by omega)
/-- no cut is armed: room is made -/
theorem room_ok {ky : List (List Nat)} {up cw cl cp cb : Int32} (hX : XC op sm P X) (hXN : ∀ c vs, (∀ v ∈ vs, VOk ky P v) → X c vs → sumN op sm (-1) P (kmV vs) vs ≤ B * 256) (h0 : H[0]? = some (kO 11 (fvs (nI B) (nI P) up cw cl cp cb))) (h : UpQ ky M0 H B N bb P op sm n X) (hB : B = 64 ∨ B = 96 ∨ B = 128) (hbb : bb < 2 ^ 31) (hM0 : M0 + 40 ≤ M) (hM : M < 2 ^ 30) (hP : P < 2 ^ 30) (hsm : ∀ t, t < 8 → sm t < 2 ^ 31) (hvN : n + ws.length ≤ N) (hN : N < 65536) (hws : ∀ w t, opnN w t (szW ws) ≤ 5) : RB sc (d + 7) mr_96 [.ref 1] H (fun H' => Rdy ky M H' B N bb P op sm ws (Xa X) ∧ FrU H H') (fun _ => False) := by
  rcases room_Q (sc := sc) (d := d) hX hXN h0 h hB (by omega) hM0 hM hP hsm hvN hN hws with ⟨H', k1, k2⟩ | ⟨H', k1, k2, -⟩
  · exact Or.inl ⟨H', k1, k2⟩
  · exact (cut_no k2 hbb).elim
theorem ClsA.frU {H' : aH} {P' : Nat} {up cw cl : Int32} {cp cb : Nat} {tb : Nat → Int8} {l : Nat} {g : Nat → Int8} {rl : Nat} {wss : Nat → List aE} {t : aTr} (h : ClsA H B P' up cw cl cp cb tb l g rl wss t) (hf : FrU H H') : ClsA H' B P' up cw cl cp cb tb l g rl wss t := h.far (fun a a1 _ => hf a (Or.inl a1))
/-- within a change of files -/
theorem rm_ok {ky : List (List Nat)} {H' : aH} {cw cl : Int32} {cp cb : Nat} {tb : Nat → Int8} {l : Nat} {g : Nat → Int8} {rl : Nat} {wss : Nat → List aE} {t : aTr} (hX : XC op sm P X) (hXN : ∀ c vs, (∀ v ∈ vs, VOk ky P v) → X c vs → sumN op sm (-1) P (kmV vs) vs ≤ B * 256) (h : UpQ ky M0 H B N bb P op sm n X) (hB : B = 64 ∨ B = 96 ∨ B = 128) (hbb : bb < 2 ^ 31) (hM0 : M0 + 40 ≤ M) (hM : M < 2 ^ 30) (hP : P + 1 < 2 ^ 30) (hsm : ∀ t, t < 8 → sm t < 2 ^ 30) (hvN : n + ws.length ≤ N) (hN : N < 65536) (hws : ∀ w t, opnN w t (szW ws) ≤ 5) (hc : ChB H H' B P cw cl cp cb tb l g rl wss t ws) : RB sc (d + 7) mr_96 [.ref 1] H' (fun H2 => Rdy ky M H2 B N bb P op sm ws (Xa X) ∧ FsC H H2 B P cw cl cp cb tb l g rl wss t ws) (fun _ => False) := by
  obtain ⟨c1, c2, c3⟩ := hc
  rcases room_ok (sc := sc) (d := d) hX hXN c1.1 (h.to c3) hB hbb hM0 hM (by omega) (fun t ht => by have := hsm t ht; omega) hvN hN hws with ⟨H2, k1, k2, k3⟩ | ⟨_, _, k⟩
  · exact Or.inl ⟨H2, k1, k2, c1.frU k3, c2.keep (fun a a1 a2 => k3 a (Or.inl (by omega))), fun a ha => (k3 a (Or.inr ha)).trans (c3 a (Or.inr (by omega)))⟩
  · exact k.elim
/-- and where a cut is armed -/
theorem rm_cut {ky : List (List Nat)} {H' : aH} {cw cl : Int32} {cp cb : Nat} {tb : Nat → Int8} {l : Nat} {g : Nat → Int8} {rl : Nat} {wss : Nat → List aE} {t : aTr} (hX : XC op sm P X) (hXN : ∀ c vs, (∀ v ∈ vs, VOk ky P v) → X c vs → sumN op sm (-1) P (kmV vs) vs ≤ B * 256) (h : UpQ ky M0 H B N bb P op sm n X) (hB : B = 64 ∨ B = 96 ∨ B = 128) (hcb : cb < 2 ^ 31) (hM0 : M0 + 40 ≤ M) (hM : M < 2 ^ 30) (hP : P + 1 < 2 ^ 30) (hsm : ∀ t, t < 8 → sm t < 2 ^ 30) (hvN : n + ws.length ≤ N) (hN : N < 65536) (hws : ∀ w t, opnN w t (szW ws) ≤ 5) (hc : ChB H H' B P cw cl cp cb tb l g rl wss t ws) : RB sc (d + 7) mr_96 [.ref 1] (H'.set 71 (kO 1 [.ref 73, .ref 74, .int (lI (some (cp % (ws.length + 1)))), .int (nI cb), .int (nI 0)])) (fun H2 => Rdy ky M H2 B N (cb + 2 ^ 32 * (ws.length + 2)) P op sm ws (Xa X) ∧ FsC H H2 B P cw cl cp cb tb l g rl wss t ws) (fun H2 => CutP ky M H2 B N (cb + 2 ^ 32 * (ws.length + 2)) P op sm X ∧ FsC H H2 B P cw cl cp cb tb l g rl wss t ws) := by
  obtain ⟨c1, c2, c3⟩ := hc
  have hlt : cp % (ws.length + 1) ≤ ws.length := by have := Nat.mod_lt cp (show 0 < ws.length + 1 by omega); omega
  have hfs : ∀ H2, FrU (H'.set 71 (kO 1 [.ref 73, .ref 74, .int (lI (some (cp % (ws.length + 1)))), .int (nI cb), .int (nI 0)])) H2 → FsC H H2 B P cw cl cp cb tb l g rl wss t ws := fun H2 k3 => by
    have k4 : FrU H' H2 := fun a ha => (k3 a ha).trans (set_far (by omega))
    exact ⟨c1.frU k4, c2.keep (fun a a1 a2 => k4 a (Or.inl (by omega))), fun a ha => (k4 a (Or.inr ha)).trans (c3 a (Or.inr (by omega)))⟩
  rcases room_Q (sc := sc) (d := d) hX hXN ((set_far (by decide)).trans c1.1) ((h.to c3).arm hlt (by omega) hcb) hB (by omega) hM0 hM (by omega) (fun t ht => by have := hsm t ht; omega) hvN hN hws with ⟨H2, k1, k2, k3⟩ | ⟨H2, k1, k2, k3⟩
  · exact Or.inl ⟨H2, k1, k2, hfs H2 k3⟩
  · exact Or.inr ⟨H2, k1, k2, hfs H2 k3⟩
end RQ9
