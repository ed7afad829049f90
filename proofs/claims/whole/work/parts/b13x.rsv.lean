/-! ===== the reserve is looked at before a call writes, and all agrees; class; by hand ===== -/
/-- there is room for what a call takes -/
def RsQ (ky : List (List Nat)) (H0 : aH) (B N bb S P : Nat) (op : Nat → Bool) (sm : Nat → Nat) (n : Nat) (X : (Nat → Int8) → List aV → Prop) (H : aH) : Prop := ∃ S' lgs fr ff wr tp rs us c P1 gs vs tss L, S' ≤ S ∧ UpS H B N bb S' op sm lgs fr ff wr tp rs us c P1 gs vs ∧ StW ky B P P1 rs gs c vs tss L ∧ X c vs ∧ PgV op sm P vs ∧ B / 8 * 3 + (alBk vs + alBk vs + tbK rs + 6) ≤ frL B lgs rs ∧ rs.length ≤ 21 ∧ vs.length ≤ n ∧ Lv3 rs ∧ FrU H0 H
theorem alB_told {vs : List aV} (h : ∀ v ∈ vs, v.2.2.2.2 = false) : alBk vs = 0 := by
  have h1 := alone_bytes vs
  rw [alone_no h] at h1
  have h1 : 0 = alB vs := h1
  unfold alBk
  omega
theorem ups_rec {H : aH} {B N bb S : Nat} {op : Nat → Bool} {sm : Nat → Nat} {lgs : List Nat} {fr ff : Nat} {wr : Bool} {tp : Nat} {rs : List aR} {us : Nat → Bool} {c : Nat → Int8} {P1 : Nat} {gs : List aSg} {vs : List aV} (h : UpS H B N bb S op sm lgs fr ff wr tp rs us c P1 gs vs) : ∀ v ∈ vs, RecX c lgs wr tp v := h.2.2.2.2.2.2.2.1
set_option maxRecDepth 20000 in
theorem rr_W {ky : List (List Nat)} {sc : Nat × (Nat → Int32)} {d : Nat} {H : aH} {B N bb S P : Nat} {up cw cl cp cb : Int32} {op : Nat → Bool} {sm : Nat → Nat} {lgs : List Nat} {fr ff : Nat} {wr : Bool} {tp : Nat} {rs : List aR} {us : Nat → Bool} {c : Nat → Int8} {P1 : Nat} {gs : List aSg} {vs : List aV} {tss : List (List aT)} {L : List aCh} {X : (Nat → Int8) → List aV → Prop} (hX : XC op sm P X) (hXN : ∀ c vs, (∀ v ∈ vs, VOk ky P v) → X c vs → sumN op sm (-1) P (kmV vs) vs ≤ B * 256) (h0 : H[0]? = some (kO 11 (fvs (nI B) (nI P) up cw cl cp cb))) (h : UpS H B N bb S op sm lgs fr ff wr tp rs us c P1 gs vs) (hW : StW ky B P P1 rs gs c vs tss L) (hx : X c vs) (hpg : PgV op sm P vs) (hres : B / 8 * 3 ≤ frL B lgs rs) (hrl : rs.length ≤ 23) (hl3 : Lv3 rs) (hB : B = 64 ∨ B = 96 ∨ B = 128) (hbb : bb % 2 ^ 32 < 2 ^ 31) (hS : S + 1 < 2 ^ 31) (hP : P < 2 ^ 30) (hsm : ∀ t, t < 8 → sm t < 2 ^ 31) (hvl : vs.length < 65536) : RR sc (d + 6) P H (RsQ ky H B N bb (S + 1) P op sm vs.length X) (fun H' => ∃ c', FaS ky H' B N bb S op sm P c' lgs rs vs tss L ∧ X c' vs ∧ FrU H H') := by
  obtain ⟨hD, hO, hus, hF, htp, hff, hV, hRX, g, hA⟩ := id h
  obtain ⟨w1, w2, w3, w4, w5, w6, w7, w8, w9⟩ := id hW
  obtain ⟨tf, pq, ms, mt, sq, tu, hL, -⟩ := id hD
  obtain ⟨A1, ⟨lm, bf, A2, A3⟩, -⟩ := id hA
  have hB1 : B ≤ 128 ∧ 64 ≤ B ∧ B % 8 = 0 := by omega
  have hfr : freeN us B = frL B lgs rs := freeN_congr hus
  have htB := tbK_le hO
  have hsrt := hV.srtV
  refine rr_of (ri_lacks (d := d + 4) h0 hV A3 hL hB1.1 (by omega) (by omega)) (fun hl => ?_) (fun _ => ?_)
  · have hl1 : ¬ freeN us B < B / 8 * 3 + (alBk vs + alBk vs + tbK rs + 6) := fun e => hl (Or.inl e)
    have hl2 : ¬ 21 < rs.length := fun e => hl (Or.inr e)
    exact ⟨S, lgs, fr, ff, wr, tp, rs, us, c, P1, gs, vs, tss, L, by omega, h, hW, hx, hpg, by omega, by omega, Nat.le_refl _, hl3, FrU.rfl'⟩
  · obtain ⟨r1, r2, r3⟩ := ren_room (tp := tp) (hXN c vs w7 hx) hB1.2.2 (by omega) hpg (fun v hv => (w7 v hv).2.1.w)
    have hN := hXN c vs w7 hx
    have hlf := frL_len hO
    refine (re_renewW (d := d + 1) (T := B / 8) (jk := []) (vg := vs) hD hO hO (fun b hb e => by rw [hus b hb] at e; exact ⟨e, e⟩) hF.1 hff hff htp hV hRX g hsm w7 hA hB1.1 (by omega) hbb hS hP (by omega) r1 (by omega) hvl (by omega) r3 (by omega) (by omega) w1 w2 w8 ⟨w3, w4, by rw [List.append_nil]; exact w5, JkS.nil, w6, w7, w9, hsrt.one, fun v hv => (hRX v hv).1⟩).mono ?_ ?_
    · rintro H' ⟨Q, l1, wr1, tp1, x, c', us', gs', y1, y2, y3, y4, y5, y6, y7, y8⟩
      have hxT : x.2.2.2.length ≤ B / 8 := by
        have := r3 Q
        omega
      have hfl := frL_ren (K := opnN false tp (mvS none vs)) (T := B / 8) (by omega) y5.2.1 (by omega) hxT
      have h0' := alB_told (rnV_told (op := op) (sm := sm) (P := P) (Q := Q) (vs := vs))
      have htb : tbK (if 0 < x.2.1 then [x] else []) ≤ B / 8 := by
        split
        · show x.2.2.2.length + 0 ≤ _; omega
        · exact Nat.zero_le _
      refine ⟨S + 1, l1, _, _, wr1, tp1, _, us', c', P, gs', _, _, [], Nat.le_refl _, y5, y6, hX.ren hsrt (fun v hv => (w7 v hv).1) y7 hx, PgV.purge, ?_, ?_, rnV_len, Lv3.one (by omega), y8⟩
      · rw [h0']
        omega
      · split
        · exact (by decide : (1 : Nat) ≤ 21)
        · exact Nat.zero_le _
    · rintro H' ⟨c', y1, y2, y3⟩
      exact ⟨c', y1, hX.1 c c' vs (fun v hv => (recs_used hO (hRX v hv).1 y2).2) hx, y3⟩
