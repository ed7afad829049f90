/-! ===== the power fails in the store of a change; class; by hand ===== -/
/-- the chip has what it had -/
def CutP (ky : List (List Nat)) (M : Nat) (H : aH) (B N bb P : Nat) (op : Nat → Bool) (sm : Nat → Nat) (X : (Nat → Int8) → List aV → Prop) : Prop := ∃ S lgs rs c vs tss L, FaS ky H B N bb S op sm P c lgs rs vs tss L ∧ SrtV vs ∧ X c vs ∧ RmK B M S lgs rs 0
theorem recx_val {c c' : Nat → Int8} {lgs : List Nat} {wr : Bool} {tp B : Nat} {rs : List aR} {v : aV} (h : RecX c lgs wr tp v) (hO : LsOk B lgs rs) (hc : ∀ q, Tl lgs rs wr tp q → c' q = c q) (hn : v.2.2.2.1 ≠ none) : valB c' v = valB c v := by
  obtain ⟨n, e⟩ := Option.ne_none_iff_exists'.mp hn
  unfold valB
  rw [e]
  refine sl_congr _ _ _ (fun q hq => hc _ (h.tl hO e _ (by omega) ?_))
  have hq : q < n := hq
  omega
theorem rb_stoC {ky : List (List Nat)} {M : Nat} {sc : Nat × (Nat → Int32)} {d N P b : Nat} {H : aH} {bl up cw cl cp cb : Int32} {B bb : Nat} {op : Nat → Bool} {sm : Nat → Nat} {ws : List aE} {X : (Nat → Int8) → List aV → Prop} (h : Rdy ky M H B N bb P op sm ws X) (h0 : H[0]? = some (kO 11 (fvs bl (nI P) up cw cl cp cb))) (hb : BatchIs H b ws) (h5 : ∃ Q : Nat → Nat, H[b + 5]? = some (kI 40 (fun j => nI (Q j)))) (hb11 : 11 ≤ b) (hb71 : b + 6 ≤ 71) (hK : ∀ e ∈ ws, EntK ky e) (hB : B ≤ 128) (hB1 : 3 ≤ B) (hbb : bb % 2 ^ 32 < 2 ^ 31) (hun : bb / 2 ^ 32 = ws.length + 2) (hP : P + 1 < 2 ^ 30) (hX : ∀ c c' vs, (∀ v ∈ vs, v.2.2.2.1 ≠ none → valB c' v = valB c v) → X c vs → X c' vs) : RB sc (d + 6) mr_150 [.ref 1, .ref (b + 1)] H (fun _ => False) (fun H' => CutP ky M H' B N bb P op sm X ∧ (∃ Q : Nat → Nat, H'[b + 5]? = some (kI 40 (fun j => nI (Q j)))) ∧ ∀ a, ¬ (71 ≤ a ∧ a < 195) → a ≠ b + 5 → H'[a]? = H[a]?) := by
  obtain ⟨S, lgs, fr, ff, wr, tp, rs, us, c, P1, gs, vs, tss, L, hU, hW, r1, r2, r3, r4, r5, r6, hx⟩ := h
  obtain ⟨D, Sx, K, E, hA, hL, w1, w2⟩ := hb
  have := rb_stoA (sc := sc) (d := d) hU hW hA (hL.ok w1 w2) hL h5 hb11 hb71 w1 hK hB hB1 hbb hP r1 r2 r3 r4 r5 h0 hun
  rcases this with ⟨H', -, k⟩ | ⟨H', k1, ⟨c1, lgs1, l1, e1, e2, q3, q4⟩, k3, k4⟩
  · exact k.elim
  · obtain ⟨P0, fr0, ff0, gs0, jk, hDn, -⟩ := id q3
    have hRk : RmK B M (S + opnN wr tp (szW ws)) lgs1 rs 0 := by rw [e1]; exact hx.2.opn (by rw [← e1]; exact hDn.2.1) e2
    exact Or.inr ⟨H', k1, ⟨_, lgs1, rs, c1, vs, tss, L, q3, hU.2.2.2.2.2.2.1.srtV, hX c c1 vs (fun v hv hn => recx_val (hU.2.2.2.2.2.2.2.1 v hv) hU.2.1 q4 hn) hx.1, hRk⟩, k3, k4⟩
