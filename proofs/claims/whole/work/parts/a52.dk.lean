/-! ===== disk and layout together, as far as a call's steps need them; class; by hand ===== -/
/-- layout lgs fr ff wr tp rs us in memory; the chip holds c, and its last state is P0 fr0 ff0 lgs0 rs0 -/
def Dk (H : aH) (B bb S : Nat) (lgs : List Nat) (fr ff : Nat) (wr : Bool) (tp : Nat) (rs : List aR) (us : Nat → Bool) (c : Nat → Int8) (P0 fr0 ff0 : Nat) (lgs0 : List Nat) (rs0 : List aR) : Prop := ∃ tf pq ms mt sq tu, LayIs H B lgs fr ff wr tp rs ms mt sq tu us ∧ ChipAt H B c tf pq bb 0 ∧ (PQ bb pq) ∧ tu ≤ 128 ∧ Mast c P0 fr0 ff0 lgs0 rs0 ms mt sq ∧ (mt < 2048 → tf ms ≤ mt) ∧ sq ≤ S ∧ (wr = true → ∀ x, lgs[lgs.length - 1]? = some x → tf x ≤ tp) ∧ (∃ pg, H[85]? = some (kB 2048 pg)) ∧ (∃ pg, H[140]? = some (kB 2099 pg)) ∧ ∃ pg, H[191]? = some (kB 2048 pg)
/-- the power failed: what the chip holds -/
def Dd (H : aH) (B bb S : Nat) (c : Nat → Int8) (P0 fr0 ff0 : Nat) (lgs0 : List Nat) (rs0 : List aR) : Prop := ∃ tf ms sq, ChipDn H B c tf bb ∧ Mast c P0 fr0 ff0 lgs0 rs0 ms 2048 sq ∧ sq ≤ S ∧ (∃ lgs fr ff wr tp rs ms mt sq tu us, tu ≤ 128 ∧ LayIs H B lgs fr ff wr tp rs ms mt sq tu us) ∧ (∃ pg, H[85]? = some (kB 2048 pg)) ∧ (∃ pg, H[140]? = some (kB 2099 pg)) ∧ ∃ pg, H[191]? = some (kB 2048 pg)
/-- the blocks of logs and tables are blocks of their own -/
def LsOk (B : Nat) (lgs : List Nat) (rs : List aR) : Prop := (∀ x ∈ lgs, 2 ≤ x ∧ x < B) ∧ (∀ x ∈ rs, x.1 < 256 ∧ x.2.1 < 2 ^ 24 ∧ x.2.2.1 < 65536 ∧ ∀ y ∈ x.2.2.2, 2 ≤ y ∧ y < B) ∧ (lgs ++ rs.flatMap (fun x => x.2.2.2)).Nodup
theorem LsOk.runs {B : Nat} {lgs : List Nat} {rs : List aR} (h : LsOk B lgs rs) : ∀ x ∈ rs, x.1 < 256 ∧ x.2.1 < 2 ^ 24 ∧ x.2.2.1 < 65536 ∧ ∀ y ∈ x.2.2.2, y < B := fun x hx => ⟨(h.2.1 x hx).1, (h.2.1 x hx).2.1, (h.2.1 x hx).2.2.1, fun y hy => ((h.2.1 x hx).2.2.2 y hy).2⟩
theorem usedB_lg {lgs : List Nat} {rs : List aR} {b : Nat} (h : usedB lgs rs b = false) : 2 ≤ b ∧ ¬ b ∈ lgs ∧ ∀ x ∈ rs, ¬ b ∈ x.2.2.2 := by
  have hn : ¬ usedB lgs rs b = true := by rw [h]; exact Bool.noConfusion
  rw [usedB_iff] at hn
  exact ⟨Nat.le_of_not_lt (fun e => hn (Or.inl e)), fun e => hn (Or.inr (Or.inl e)), fun x hx e => hn (Or.inr (Or.inr ⟨x, hx, e⟩))⟩
theorem encS_len2 {P fr ff : Nat} {lgs : List Nat} {rs : List aR} : (encS P fr ff lgs rs).length = 13 + lgs.length + (rs.flatMap encR).length := by
  have hel := encS_len (P := P) (fr := fr) (ff := ff) (lgs := lgs) (rs := rs)
  have hbl : (encB P fr ff lgs rs).length = 9 + lgs.length + (rs.flatMap encR).length := by
    unfold encB
    rw [List.length_append, List.length_append, List.length_append, List.length_append, List.length_append, List.length_append, beB_len, beB_len, beB_len, beB_len, beB_len, fm_len1]
    omega
  omega
theorem use_ok2 {B : Nat} {us : Nat → Bool} {lgs : List Nat} {rs : List aR} (hB1 : 3 ≤ B) (hU : ∀ b, b < B → us b = false → usedB lgs rs b = false) : ∀ b, us b = false → 2 ≤ b := fun b hb => by
  by_cases e : b < B
  · exact (usedB_lg (hU b e hb)).1
  · omega
theorem Dk.far {H H' : aH} {B bb S : Nat} {lgs : List Nat} {fr ff : Nat} {wr : Bool} {tp : Nat} {rs : List aR} {us : Nat → Bool} {c : Nat → Int8} {P0 fr0 ff0 : Nat} {lgs0 : List Nat} {rs0 : List aR} (h : Dk H B bb S lgs fr ff wr tp rs us c P0 fr0 ff0 lgs0 rs0) (hf : ∀ a, (71 ≤ a ∧ a < 74) ∨ (83 ≤ a ∧ a < 136) ∨ a = 140 ∨ a = 191 → H'[a]? = H[a]?) : Dk H' B bb S lgs fr ff wr tp rs us c P0 fr0 ff0 lgs0 rs0 := by
  obtain ⟨tf, pq, ms, mt, sq, tu, h1, h2, h3, h4, h5, h6, h7, h8, ⟨g1, h9⟩, ⟨g2, h10⟩, ⟨g3, h11⟩⟩ := h
  exact ⟨tf, pq, ms, mt, sq, tu, h1.far (fun a a1 a2 a3 => hf a (by omega)), h2.far (fun a a1 a2 => hf a (by omega)), h3, h4, h5, h6, h7, h8, ⟨g1, (hf 85 (by decide)).trans h9⟩, ⟨g2, (hf 140 (by decide)).trans h10⟩, ⟨g3, (hf 191 (by decide)).trans h11⟩⟩
theorem Dd.far {H H' : aH} {B bb S : Nat} {c : Nat → Int8} {P0 fr0 ff0 : Nat} {lgs0 : List Nat} {rs0 : List aR} (h : Dd H B bb S c P0 fr0 ff0 lgs0 rs0) (hf : ∀ a, (71 ≤ a ∧ a < 74) ∨ (83 ≤ a ∧ a < 136) ∨ a = 140 ∨ a = 191 → H'[a]? = H[a]?) : Dd H' B bb S c P0 fr0 ff0 lgs0 rs0 := by
  obtain ⟨tf, ms, sq, h1, h2, h3, ⟨l1, l2, l3, l4, l5, l6, l7, l8, l9, l10, l11, l12, l13⟩, ⟨g1, h9⟩, ⟨g2, h10⟩, ⟨g3, h11⟩⟩ := h
  exact ⟨tf, ms, sq, h1.far (fun a a1 a2 => hf a (by omega)), h2, h3, ⟨l1, l2, l3, l4, l5, l6, l7, l8, l9, l10, l11, l12, l13.far (fun a a1 a2 a3 => hf a (by omega))⟩, ⟨g1, (hf 85 (by decide)).trans h9⟩, ⟨g2, (hf 140 (by decide)).trans h10⟩, ⟨g3, (hf 191 (by decide)).trans h11⟩⟩
theorem Dd.le {H : aH} {B bb S S' : Nat} {c : Nat → Int8} {P0 fr0 ff0 : Nat} {lgs0 : List Nat} {rs0 : List aR} (h : Dd H B bb S c P0 fr0 ff0 lgs0 rs0) (hS : S ≤ S') : Dd H B bb S' c P0 fr0 ff0 lgs0 rs0 := by
  obtain ⟨tf, ms, sq, h1, h2, h3, h4⟩ := h
  exact ⟨tf, ms, sq, h1, h2, by omega, h4⟩
theorem Dk.le {H : aH} {B bb S S' : Nat} {lgs : List Nat} {fr ff : Nat} {wr : Bool} {tp : Nat} {rs : List aR} {us : Nat → Bool} {c : Nat → Int8} {P0 fr0 ff0 : Nat} {lgs0 : List Nat} {rs0 : List aR} (h : Dk H B bb S lgs fr ff wr tp rs us c P0 fr0 ff0 lgs0 rs0) (hS : S ≤ S') : Dk H B bb S' lgs fr ff wr tp rs us c P0 fr0 ff0 lgs0 rs0 := by
  obtain ⟨tf, pq, ms, mt, sq, tu, h1, h2, h3, h4, h5, h6, h7, h8⟩ := h
  exact ⟨tf, pq, ms, mt, sq, tu, h1, h2, h3, h4, h5, h6, by omega, h8⟩
theorem Dk.un {H : aH} {B bb S n : Nat} {lgs : List Nat} {fr ff : Nat} {wr : Bool} {tp : Nat} {rs : List aR} {us : Nat → Bool} {c : Nat → Int8} {P0 fr0 ff0 : Nat} {lgs0 : List Nat} {rs0 : List aR} (h : Dk H B (dkN n bb) S lgs fr ff wr tp rs us c P0 fr0 ff0 lgs0 rs0) : Dk H B bb S lgs fr ff wr tp rs us c P0 fr0 ff0 lgs0 rs0 := by
  obtain ⟨tf, pq, ms, mt, sq, tu, h1, h2, h3, h4⟩ := h
  exact ⟨tf, pq, ms, mt, sq, tu, h1, h2.bb (dkN_mod n bb), h3.un, h4⟩
theorem Dd.un {H : aH} {B bb S n : Nat} {c : Nat → Int8} {P0 fr0 ff0 : Nat} {lgs0 : List Nat} {rs0 : List aR} (h : Dd H B (dkN n bb) S c P0 fr0 ff0 lgs0 rs0) : Dd H B bb S c P0 fr0 ff0 lgs0 rs0 := by
  obtain ⟨tf, ms, sq, h1, h2⟩ := h
  exact ⟨tf, ms, sq, ⟨h1.1.bb (dkN_mod n bb), fun e => h1.2 (by have := (dkN_div n bb).1; omega)⟩, h2⟩
set_option maxRecDepth 20000 in
theorem re_openD {sc : Nat × (Nat → Int32)} {d P mp hv : Nat} {H : aH} {B bb S : Nat} {lgs : List Nat} {fr ff : Nat} {wr : Bool} {tp : Nat} {rs : List aR} {us : Nat → Bool} {c : Nat → Int8} {P0 fr0 ff0 : Nat} {lgs0 : List Nat} {rs0 : List aR} (h : Dk H B bb S lgs fr ff wr tp rs us c P0 fr0 ff0 lgs0 rs0) (hO : LsOk B lgs rs) (hU : ∀ b, b < B → us b = false → usedB lgs rs b = false) (hG : H[190]? = some (kO 4 (logF mp hv))) (hB : B ≤ 128) (hB1 : 3 ≤ B) (hbb : bb % 2 ^ 32 < 2 ^ 31) (hS : S + 1 < 2 ^ 31) (hP : P < 2 ^ 31) (hfr1 : fr + 1 < 256) (hff : ff < 65536) (hlen : 13 + (lgs.length + 1) + (rs.flatMap encR).length ≤ 2043) (hlgB : lgs.length < B) (hex : 1 ≤ freeN us B) : RO sc d P H (fun H' => ∃ b c' us', b < B ∧ us b = false ∧ (∀ x, x < B → us' x = usedB (lgs ++ [b]) rs x) ∧ Dk H' B bb (S + 1) (lgs ++ [b]) (fr + 1) (if fr = 0 then 0 else ff) true 0 rs us' c' P (fr + 1) (if fr = 0 then 0 else ff) (lgs ++ [b]) rs ∧ (∀ q, 4096 ≤ q → ¬ q / 2048 = b → c' q = c q) ∧ (∀ q, b * 2048 ≤ q → q < b * 2048 + 2048 → c' q = -1) ∧ ∀ a, ¬ (71 ≤ a ∧ a < 74) → ¬ (83 ≤ a ∧ a < 88) → H'[a]? = H[a]?) (fun H' => ∃ b c', b < B ∧ us b = false ∧ Dd H' B bb S c' P0 fr0 ff0 lgs0 rs0 ∧ (∀ q, 4096 ≤ q → ¬ q / 2048 = b → c' q = c q) ∧ ∀ a, ¬ (71 ≤ a ∧ a < 74) → ¬ (83 ≤ a ∧ a < 88) → H'[a]? = H[a]?) := by
  obtain ⟨tf, pq, ms, mt, sq, tu, h1, h2, h3, h4, h5, h6, h7, h8, ⟨g1, h9⟩, ⟨g2, h10⟩, ⟨g3, h11⟩⟩ := h
  refine (ro_openBlock (d := d) h1 hB hG h9 h2 hbb h3 hB1 h4 hP hfr1 (by split <;> omega) (fun x hx => (hO.1 x hx).2) hO.runs (fun b => by rw [encS_len2, List.length_append]; exact hlen) hlgB (use_ok2 hB1 hU) (fun b hb e => usesL_0 (hU b hb e)) (free_ex hex) h5 h6 (by omega)).mono ?_ ?_
  · rintro H' ⟨b, c', tf', pq', ms', mt', sq', y1, y2, y3, y4, y5, y6, y7, y8, y9, y10, y11, y12, y13, y14⟩
    refine ⟨b, c', _, y1, y2, fun x hx => if_pos hx, ⟨tf', pq', ms', mt', sq', b + 1, y13, y3, y11, by omega, y4, y9, by omega, fun _ x hx => ?_, y12, ⟨g2, (y14 140 (by decide) (by decide)).trans h10⟩, ⟨g3, (y14 191 (by decide) (by decide)).trans h11⟩⟩, y5, y6, y14⟩
    rw [List.length_append, List.length_singleton, Nat.add_sub_cancel, List.getElem?_append_right (Nat.le_refl _), Nat.sub_self] at hx
    rw [← Option.some.inj hx, y8]
    exact Nat.le_refl _
  · rintro H' ⟨b, c', tf', y1, y2, y3, y4, y5, y6, ⟨l1, l2, l3, l4, l5, l7, l8, l9, l11, l12⟩, y8⟩
    exact ⟨b, c', y1, y2, ⟨tf', ms, sq, y3, y4, h7, ⟨l1, l2, l3, l4, l5, rs, l7, l8, l9, b + 1, l11, by omega, l12⟩, y6, ⟨g2, (y8 140 (by decide) (by decide)).trans h10⟩, ⟨g3, (y8 191 (by decide) (by decide)).trans h11⟩⟩, y5, y8⟩
set_option maxRecDepth 20000 in
theorem re_appD {sc : Nat × (Nat → Int32)} {d n b mp hv : Nat} {H : aH} {B bb S : Nat} {lgs : List Nat} {fr ff : Nat} {wr : Bool} {tp : Nat} {rs : List aR} {us : Nat → Bool} {c : Nat → Int8} {P0 fr0 ff0 : Nat} {lgs0 : List Nat} {rs0 : List aR} {pg : Nat → Int8} {r : aRd} (h : Dk H B bb S lgs fr ff wr tp rs us c P0 fr0 ff0 lgs0 rs0) (hw : wr = true) (hG : H[190]? = some (kO 4 (logF mp hv))) (hB : B ≤ 128) (hbb : bb % 2 ^ 32 < 2 ^ 31) (hp : H[191]? = some (kB 2048 pg)) (hb : lgs[lgs.length - 1]? = some b) (hb2 : 2 ≤ b) (hbB : b < B) (hn : n = (encL r).length) (hfit : tp + n ≤ 2048) (hl : sl (numF pg (n - 1) 1 (nI 90) 1) 0 n = encL r) : RE sc (d + 2) mr_148 [.ref 191, .int (nI n)] H (fun H' => ∃ c', Dk H' B (dk bb) S lgs fr ff wr (tp + n) rs us c' P0 fr0 ff0 lgs0 rs0 ∧ WrP c c' (b * 2048 + tp) (encL r) ∧ ∀ a, ¬ (71 ≤ a ∧ a < 74) → a ≠ 191 → a ≠ 83 → H'[a]? = H[a]?) (fun H' => ∃ c' k, k < (encL r).length ∧ Dd H' B bb S c' P0 fr0 ff0 lgs0 rs0 ∧ WrP c c' (b * 2048 + tp) ((encL r).take k) ∧ ∀ a, ¬ (71 ≤ a ∧ a < 74) → a ≠ 191 → H'[a]? = H[a]?) := by
  obtain ⟨tf, pq, ms, mt, sq, tu, h1, h2, h3, h4, h5, h6, h7, h8, ⟨g1, h9⟩, ⟨g2, h10⟩, ⟨g3, h11⟩⟩ := h
  have hel := encL_len r
  have hms := h5.1.1
  refine (re_append (d := d) h1 hB hG hp h2 hbb h3 hb hbB (by omega) hfit (h8 hw b hb) hl).mono ?_ ?_
  · rintro H' ⟨⟨c', tf', pq', y1, y2, y3, y4, y5⟩, y6, y7, y8⟩
    refine ⟨c', ⟨tf', pq', ms, mt, sq, tu, y7, y1.bb (dk_mod bb).symm, y5, h4, h5.far (fun q hq => y2.2 q (Or.inl (by omega))), fun e => by rw [y3 ms (by omega)]; exact h6 e, h7, fun _ x hx => ?_, ⟨g1, (y8 85 (by decide) (by decide) (by decide)).trans h9⟩, ⟨g2, (y8 140 (by decide) (by decide) (by decide)).trans h10⟩, y6⟩, y2, y8⟩
    rw [hb] at hx
    rw [← Option.some.inj hx]
    exact y4
  · rintro H' ⟨⟨c', tf', y1, k, y2, y3⟩, y6, y7, y8⟩
    exact ⟨c', k, y2, ⟨tf', ms, sq, y1, (h5.far (fun q hq => y3.2 q (Or.inl (by omega)))).forget, h7, ⟨_, _, _, _, _, _, _, _, _, _, _, h4, y7⟩, ⟨g1, (y8 85 (by decide) (by decide)).trans h9⟩, ⟨g2, (y8 140 (by decide) (by decide)).trans h10⟩, y6⟩, y3, y8⟩
