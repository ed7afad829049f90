/-! ===== a change that is stored, and then the power fails; class; by hand ===== -/
/-- the chip has ws, memory is gone -/
def LatP (ky : List (List Nat)) (M : Nat) (H : aH) (B N P : Nat) (op : Nat → Bool) (sm : Nat → Nat) (ws : List aE) (X : (Nat → Int8) → List aV → Prop) : Prop := ∃ bb S lgs rs c c1 vs tss L, ∃ Q : Nat → Nat, bb % 2 ^ 32 < 2 ^ 31 ∧ FaS ky H B N bb S op sm (P + 1) c1 lgs rs (inclV (P + 1) Q 0 ws vs) tss L ∧ InV c c1 vs (inclV (P + 1) Q 0 ws vs) ws ∧ (∀ i e l, ws[i]? = some e → e.2 = some l → valB c1 (e.1, P + 1, Q i, e.2.map List.length, true) = l) ∧ (∀ v ∈ vs, v.2.2.2.1 ≠ none → valB c1 v = valB c v) ∧ (∀ v ∈ vs, VOk ky P v) ∧ SrtV vs ∧ X c vs ∧ RmK B M S lgs rs 0
theorem rx_lateP {ky : List (List Nat)} {M : Nat} {sc : Nat × (Nat → Int32)} {d N P b : Nat} {H : aH} {B bb : Nat} {cl : Int32} {cp cb : Nat} {tb : Nat → Int8} {l : Nat} {g : Nat → Int8} {rl : Nat} {wss : Nat → List aE} {t0 : aTr} {op : Nat → Bool} {sm : Nat → Nat} {ws : List aE} {X : (Nat → Int8) → List aV → Prop} (h : StoP ky M H B N bb P b op sm ws X) (hA : ClsA H B P 1 1 cl cp cb tb l g rl wss t0) (hn : 1 ≤ ws.length) (h40 : ws.length ≤ 40) (hK : ∀ e ∈ ws, EntK ky e) (h1W : OneW ws) (hbb : bb < 2 ^ 31) : RX sc (d + 4) mr_153 [.ref 1, .int 1] H 1 (fun H' => LatP ky M H' B N P (fun j => if j < 8 then false else op j) sm ws X ∧ ClsA H' B 0 0 0 cl cp cb tb 0 g 0 wss (T0 t0) ∧ VersIs H' N [] ∧ ∀ a, 195 ≤ a → H'[a]? = H[a]?) := by
  obtain ⟨S, lgs, fr, ff, tp, rs, us, c, c1, P1, P2, gs, gs1, vs, tss, L, Q, a, s0, s1, s2, s3, s4, s5, s6, s7, s8, s9, hX⟩ := h
  have hV := s1.2.2.2.2.2.2.1
  have hlt : ∀ v ∈ vs, v.2.1 < P + 1 := fun v hv => by have := (hV v hv).1; omega
  have hsrt := s0.2.2.2.2.2.2.1.srtV
  have hone : OneV (inclV (P + 1) Q 0 ws vs) := hsrt.one.incl h1W hlt
  have hW2 := W.stored (P2 := P2) (a := a) s1 h1W hn h40 hK s2 s3 (fun v hv => (s4 v hv).2)
  refine (rx_settleU (sc := sc) (d := d) (x := 1) hA s0 (Or.inl (by decide))).to (fun H' q => ?_)
  obtain ⟨q1, q2, q3, q4⟩ := q
  refine ⟨⟨_, S, lgs, rs, c, c1, vs, tss, _, Q, by omega, fa_up s0 hW2 hone (fun v hv => ?_) q2, fun k b => val_incl h1W hlt s6 s5 k b, s5, s6, hV, hsrt, hX⟩, q1, q3, q4⟩
  rcases mem_incl.mp hv with r | r
  · exact s0.2.2.2.2.2.2.2.1 v r
  · exact (s4 v r).1
theorem rx_commitL {ky : List (List Nat)} {M : Nat} {sc : Nat × (Nat → Int32)} {d : Nat} {H : aH} {B P bb : Nat} {cp cb : Nat} {tb : Nat → Int8} {l : Nat} {g : Nat → Int8} {rl : Nat} {wss : Nat → List aE} {t0 : aTr} {t N : Nat} {op : Nat → Bool} {sm : Nat → Nat} {vs : List aV} {X : (Nat → Int8) → List aV → Prop} (h : ClsA H B P 1 1 1 cp cb tb l g rl wss t0) (hs : SightAt H op sm) (hsm : ∀ t, t < 8 → sm t < 2 ^ 30) (hV : VersIs H N vs) (hpr : ∀ v ∈ vs, v.2.1 ≤ P) (ht : t < 8) (hop : op t = true) (hw0 : ¬ wss t = []) (hcol : ((wss t).any (fun e => colV vs P (sm t) e.1)) = false) (h1W : OneW ((wss t).map pfx)) (hP : P + 1 < 2 ^ 30) (hB : B ≤ 128) (hB1 : 3 ≤ B) (hbb : bb < 2 ^ 31) (hK : ∀ e ∈ (wss t).map pfx, EntK ky e) (hle : sumN op sm (nI t) (P + 1) (kmV (inclV (P + 1) (fun _ => 0) 0 ((wss t).map pfx) vs)) (inclV (P + 1) (fun _ => 0) 0 ((wss t).map pfx) vs) ≤ B * 256) (hRM : RB sc (d + 7) mr_96 [.ref 1] H (fun H' => Rdy ky M H' B N bb P op sm ((wss t).map pfx) X ∧ ClsA H' B P 1 1 1 cp cb tb l g rl wss t0 ∧ ∀ a, 195 ≤ a → H'[a]? = H[a]?) (fun _ => False)) : RX sc (d + 8) mr_77 [.ref 1, .int (nI t)] H 1 (fun H' => LatP ky M H' B N P (fun j => if j < 8 then false else op j) sm ((wss t).map pfx) X ∧ ClsA H' B 0 0 0 1 cp cb tb 0 g 0 wss (T0 t0) ∧ VersIs H' N [] ∧ ∀ a, 195 ≤ a → H'[a]? = H[a]?) := by
  have hn : 1 ≤ ((wss t).map pfx).length := by
    rw [List.length_map]
    exact List.length_pos_iff.mpr hw0
  refine rx_commit_late (ok1 := fun H' => Rdy ky M H' B N bb P op sm ((wss t).map pfx) X ∧ ClsA H' B P 1 1 1 cp cb tb l g rl wss t0 ∧ ∀ a, 195 ≤ a → H'[a]? = H[a]?) (ok2 := fun H' => StoP ky M H' B N bb P (11 + 6 * t) op sm ((wss t).map pfx) X ∧ ClsA H' B P 1 1 1 cp cb tb l g rl wss t0 ∧ ∀ a, 195 ≤ a → H'[a]? = H[a]?) h hs hsm hV hpr ht hop hw0 hcol h1W hP hB hle hRM (fun H' h' => ?_) (fun H' h' => ?_) (fun H' h' => h'.2.1.1) (fun H' h' => h'.2.1.1)
  · obtain ⟨r1, r2, r3⟩ := h'
    have hbt := r2.2.2.2.2.2.2.2.1 t ht
    rcases rb_stoP (sc := sc) (d := d + 1) r1 r2.1 hbt.1 hbt.2 (by omega) (by omega) hK hB hB1 hbb hP with ⟨H2, k1, k2, k3⟩ | ⟨H2, -, k⟩
    · refine Or.inl ⟨H2, k1, k2, r2.sto (Or.inl ⟨t, ht, rfl⟩) (fun a a1 _ a3 => k3 a (by omega) a3) ?_, fun a ha => (k3 a (by omega) (by omega)).trans (r3 a ha)⟩
      obtain ⟨S, lgs, fr, ff, tp, rs, us, c, c1, P1, P2, gs, gs1, vs, tss, L, Q, a, s0, s1, s2, s3, s4, s5, s6, s7, s8⟩ := k2
      exact ⟨Q, s7⟩
    · exact k.elim
  · obtain ⟨r1, r2, r3⟩ := h'
    obtain ⟨D, Sx, K, E, -, -, w1, -⟩ := (r2.2.2.2.2.2.2.2.1 t ht).1
    refine (rx_lateP (sc := sc) (d := d + 3) r1 r2 hn w1 hK h1W hbb).to (fun H2 q => ?_)
    exact ⟨q.1, q.2.1, q.2.2.1, fun a ha => (q.2.2.2 a ha).trans (r3 a ha)⟩
