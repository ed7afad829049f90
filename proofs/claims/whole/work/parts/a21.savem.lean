/-! ===== the state is saved, both ways in one; a log block is opened; written by wip/gen/savem.py ===== -/
set_option maxRecDepth 20000 in
theorem re_saveM {sc : Nat × (Nat → Int32)} {d P : Nat} {H : aH} {B : Nat} {lgs : List Nat} {fr ff : Nat} {wr : Bool} {tp : Nat} {rs : List aR} {ms mt sq tu : Nat} {us : Nat → Bool} {P0 fr0 ff0 : Nat} {lgs0 : List Nat} {rs0 : List aR} {cf : Nat → Int8} {tf : Nat → Nat} {pq : Option Nat} {bb : Nat} {pg : Nat → Int8} (h : LayIs H B lgs fr ff wr tp rs ms mt sq tu us) (hB : B ≤ 128) (hpg : H[85]? = some (kB 2048 pg)) (hC : ChipAt H B cf tf pq bb 0) (hbb : bb % 2 ^ 32 < 2 ^ 31) (hpq : PQ bb pq) (hB2 : 2 ≤ B) (hP : P < 2 ^ 31) (hfr : fr < 256) (hff : ff < 65536) (hlB : ∀ x ∈ lgs, x < B) (hrs : ∀ x ∈ rs, x.1 < 256 ∧ x.2.1 < 2 ^ 24 ∧ x.2.2.1 < 65536 ∧ ∀ y ∈ x.2.2.2, y < B) (hlen : (encS P fr ff lgs rs).length ≤ 2043) (hM : Mast cf P0 fr0 ff0 lgs0 rs0 ms mt sq) (htf : mt < 2048 → tf ms ≤ mt) (hsq : sq + 1 < 2 ^ 31) : RE sc (d + 3) mr_115 [.ref 84, .int (nI P)] H (fun H' => ∃ c' tf' pq' ms' mt' sq', ChipAt H' B c' tf' pq' bb 0 ∧ Mast c' P fr ff lgs rs ms' mt' sq' ∧ (∀ q, 4096 ≤ q → c' q = cf q) ∧ (∀ j, 2 ≤ j → tf' j = tf j) ∧ (mt' < 2048 → tf' ms' ≤ mt') ∧ sq' ≤ sq + 1 ∧ (PQ bb pq') ∧ (∃ pg', H'[85]? = some (kB 2048 pg')) ∧ LayIs H' B lgs fr ff wr tp rs ms' mt' sq' tu (fun b => if b < B then usedB lgs rs b else us b) ∧ ∀ a, ¬ (71 ≤ a ∧ a < 74) → a ≠ 83 → a ≠ 85 → a ≠ 86 → H'[a]? = H[a]?) (fun H' => ∃ c' tf', ChipDn H' B c' tf' bb ∧ Mast c' P0 fr0 ff0 lgs0 rs0 ms 2048 sq ∧ (∀ q, 4096 ≤ q → c' q = cf q) ∧ (∃ pg', H'[85]? = some (kB 2048 pg')) ∧ (∃ ms mt sq, LayIs H' B lgs fr ff wr tp rs ms mt sq tu us) ∧ ∀ a, ¬ (71 ≤ a ∧ a < 74) → a ≠ 83 → a ≠ 85 → H'[a]? = H[a]?) := by
  have hms := hM.1.1
  have hmt := hM.1.2.1
  have hel := encS_len (P := P) (fr := fr) (ff := ff) (lgs := lgs) (rs := rs)
  by_cases hfit : (encS P fr ff lgs rs).length ≤ 2048 - mt
  · refine (re_saveA (d := d) h hB hpg hC hbb hpq hB2 hP hfr hff hlB hrs hlen hms hfit hmt (htf (by omega))).mono ?_ ?_
    · rintro H' ⟨⟨c', tf', pq', a1, a2, a3, a4, a5⟩, b, c, d⟩
      exact ⟨c', tf', pq', ms, mt + (encS P fr ff lgs rs).length, sq, a1, hM.app hP hfit a2, fun q hq => a2.2 q (by omega), fun j hj => a3 j (by omega), fun _ => a4, Nat.le_succ _, a5, b, c, d⟩
    · rintro H' ⟨⟨c', tf', a1, k, a2, a3⟩, b, c, d⟩
      have hl : ((encS P fr ff lgs rs).take k).length = k := by rw [List.length_take]; omega
      exact ⟨c', tf', a1, hM.appTorn hfit a2 a3, fun q hq => a3.2 q (by rw [hl]; omega), b, ⟨_, _, _, c⟩, d⟩
  · refine (re_saveB (d := d) h hB hpg hC hbb hpq hB2 hP hfr hff hlB hrs hlen hms (by omega) hmt hsq).mono ?_ ?_
    · rintro H' ⟨⟨c', tf', pq', a1, ⟨c1, a2, a3⟩, a4, a5, a6⟩, b, c, d⟩
      refine ⟨c', tf', pq', 1 - ms, 5 + (encS P fr ff lgs rs).length, sq + 1, a1, hM.flip hP hlen hsq a2 a3, fun q hq => ?_, fun j hj => a4 j (by omega), fun _ => a5, Nat.le_refl _, a6, b, c, d⟩
      have := hdS_len (sq := sq + 1) (l := (encS P fr ff lgs rs))
      rw [a3.2 q (by omega), a2]
      exact if_neg (by omega)
    · rintro H' ⟨⟨c', tf', a1, a2⟩, b, c, d⟩
      rcases a2 with ⟨k, a3, a4⟩ | ⟨k, c1, a3, a4, a5⟩
      · exact ⟨c', tf', a1, hM.eraTorn (Nat.le_of_lt a3) a4, fun q hq => by rw [a4]; exact if_neg (by omega), b, c, d⟩
      · refine ⟨c', tf', a1, hM.hdTorn hlen a3 a4 a5, fun q hq => ?_, b, c, d⟩
        have h9 := hdS_len (sq := sq + 1) (l := (encS P fr ff lgs rs))
        have hl : ((hdS (sq + 1) (encS P fr ff lgs rs)).take k).length = k := by rw [List.length_take]; omega
        rw [a5.2 q (by rw [hl]; omega), a3]
        exact if_neg (by omega)
