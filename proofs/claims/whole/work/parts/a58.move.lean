/-! ===== a record is moved: no state is saved meanwhile; class; written by wip/gen/move.py ===== -/
/-- a version's value -/
def valB (c : Nat → Int8) (v : aV) : List Nat := sl c (v.2.2.1 + 8 + v.1.length) (v.2.2.2.1.getD 0)
/-- each value lies whole in a block of the log -/
def RecW (c : Nat → Int8) (lgs : List Nat) (v : aV) : Prop := ∀ n, v.2.2.2.1 = some n → (∃ kd, (kd = 1 ∨ kd = 4) ∧ sl c v.2.2.1 (9 + v.1.length + n) = encL (kd, v.1, n, v.2.1, valB c v)) ∧ v.2.2.1 % 2048 + 9 + v.1.length + n ≤ 2048 ∧ v.2.2.1 / 2048 ∈ lgs
theorem valB_len {c : Nat → Int8} {v : aV} {n : Nat} (h : v.2.2.2.1 = some n) : (valB c v).length = n := by
  unfold valB
  rw [sl_length, h]
  rfl
theorem RecW.at {c : Nat → Int8} {lgs : List Nat} {v : aV} {n : Nat} (h : RecW c lgs v) (hn : v.2.2.2.1 = some n) (hk : v.1.length ≤ 41) (hm : v.2.1 < 2 ^ 31) : RecAt c v.2.2.1 v.1 v.2.1 n := by
  obtain ⟨⟨kd, hkd, h1⟩, h2, h3⟩ := h n hn
  have hvl := valB_len (c := c) hn
  have hl : (encL (kd, v.1, n, v.2.1, valB c v)).length = 9 + v.1.length + n := by rw [encL_len]; show 9 + v.1.length + (valB c v).length = _; rw [hvl]
  obtain ⟨p1, p2, p3, p4, p5, p6, p7⟩ := encL_parts (r := (kd, v.1, n, v.2.1, valB c v)) (c := c) (a := v.2.2.1) (by rw [hl]; exact h1)
  refine ⟨by rw [p1]; exact hkd, p2, ?_, ?_, p5, ?_⟩
  · rw [p3]
    exact beN_beB0 (by show n < 256 ^ 2; omega)
  · rw [p4]
    exact beN_beB0 (by show v.2.1 < 256 ^ 4; omega)
  · rw [hl] at p7
    rw [← p7]
    congr 2
    omega
theorem mv_page {c pg : Nat → Int8} {s n kd l m : Nat} {k v : List Nat} (hn : n = 9 + k.length + v.length) (h : sl c s n = encL (kd, k, l, m, v)) : sl (numF (numF (cpy c s pg 0 n) 0 1 (nI 4) 1) (n - 1) 1 (nI 90) 1) 0 n = encL (4, k, l, m, v) := by
  have e : ∀ x, encL (x, k, l, m, v) = [x] ++ (([k.length] ++ (beB 2 l ++ (beB 4 m ++ (k ++ v)))) ++ [90]) := fun x => by
    unfold encL
    simp only [List.append_assoc]
  have hml : ([k.length] ++ (beB 2 l ++ (beB 4 m ++ (k ++ v)))).length = n - 2 := by
    rw [List.length_append, List.length_append, List.length_append, List.length_append, beB_len, beB_len, List.length_singleton]
    omega
  rw [e, show n = 1 + ((n - 2) + 1) by omega] at h
  obtain ⟨-, h⟩ := sl_split h rfl
  obtain ⟨h, -⟩ := sl_split h hml
  rw [e, show n - 1 = 0 + 1 + (n - 2) by omega]
  suffices hs : sl (numF (numF (cpy c s pg 0 n) 0 1 (nI 4) 1) (0 + 1 + (n - 2)) 1 (nI 90) 1) 0 (1 + ((n - 2) + 1)) = [4] ++ (([k.length] ++ (beB 2 l ++ (beB 4 m ++ (k ++ v)))) ++ [90]) by
    rw [show 1 + ((n - 2) + 1) = n by omega] at hs
    exact hs
  refine sl_join ?_ (sl_join ?_ ?_)
  · rw [sl_numF_out (by omega), sl_numF (by omega) (by omega), beB1 (by omega)]
  · rw [sl_numF_out (by omega), sl_numF_out (by omega), ← h]
    exact sl_congr (n - 2) (0 + 1) (s + 1) (fun q hq => by rw [show 0 + 1 + q = 0 + (1 + q) by omega, cpy_in (by omega), show s + (1 + q) = s + 1 + q by omega])
  · rw [sl_numF (by omega) (by omega), beB1 (by omega)]
/-- bytes that are in use, but behind the top of the log that is written -/
def TlU (us : Nat → Bool) (lgs : List Nat) (wr : Bool) (tp q : Nat) : Prop := 4096 ≤ q ∧ us (q / 2048) = true ∧ ¬ (wr = true ∧ lgs[lgs.length - 1]? = some (q / 2048) ∧ tp ≤ q % 2048)
theorem TlU.wr {us : Nat → Bool} {lgs : List Nat} {tp b q : Nat} {c c1 : Nat → Int8} {l : List Nat} (h : TlU us lgs true tp q) (hb : lgs[lgs.length - 1]? = some b) (h1 : WrP c c1 (b * 2048 + tp) l) (hl : tp + l.length ≤ 2048) : c1 q = c q := by
  refine h1.2 q ?_
  by_cases e : q / 2048 = b
  · have : ¬ tp ≤ q % 2048 := fun e2 => h.2.2 ⟨rfl, by rw [hb, e], e2⟩
    omega
  · omega
/-- moved records go to the log; no state is saved meanwhile: the chip's last state stays, and what it tells of the log, but for moved records behind it -/
def MvI (H : aH) (B bb S : Nat) (rs : List aR) (ns : List Nat) (lgs : List Nat) (fr ff : Nat) (wr : Bool) (tp : Nat) (us : Nat → Bool) (c : Nat → Int8) (gs : List aSg) (P0 fr0 ff0 : Nat) (lgs0 : List Nat) (rs0 : List aR) (base : List (Nat × aRd)) (Y : Prop) : Prop := Dk H B bb S lgs fr ff wr tp rs us c P0 fr0 ff0 lgs0 rs0 ∧ LsOk B lgs rs ∧ LsOk B lgs0 rs0 ∧ (∀ b, b < B → us b = false → usedB lgs rs b = false ∧ usedB lgs0 rs0 b = false) ∧ FrW c lgs fr ff wr tp gs ∧ (∃ gs0 xs, FrC c lgs0 fr0 ff0 gs0 ∧ gs0.flatMap flG = base ++ xs ∧ (∀ x ∈ xs, x.2.1 = 4) ∧ (xs = [] ∨ Y) ∧ (wr = true → (Y ∧ lgs0 = lgs ∧ fr0 = fr ∧ ff0 = ff ∧ gs0 = gs) ∨ ∀ x, lgs[lgs.length - 1]? = some x → ¬ x ∈ lgs0)) ∧ tp ≤ 2048 ∧ ff ≤ 2048 ∧ ff0 ≤ 2048 ∧ opnN wr tp ns ≤ freeN us B ∧ lgs.length + opnN wr tp ns ≤ B
/-- the power failed meanwhile -/
def MvB (B bb S : Nat) (us : Nat → Bool) (lgs : List Nat) (wr : Bool) (tp : Nat) (cf : Nat → Int8) (P0 fr0 ff0 : Nat) (lgs0 : List Nat) (rs0 : List aR) (base : List (Nat × aRd)) (Y : Prop) (H : aH) : Prop := ∃ c1 gs0 xs, ff0 ≤ 2048 ∧ Dd H B bb S c1 P0 fr0 ff0 lgs0 rs0 ∧ LsOk B lgs0 rs0 ∧ FrC c1 lgs0 fr0 ff0 gs0 ∧ gs0.flatMap flG = base ++ xs ∧ (∀ x ∈ xs, x.2.1 = 4) ∧ (xs = [] ∨ Y) ∧ ∀ q, TlU us lgs wr tp q → c1 q = cf q
/-- a log that has taken the moved records xs since it was lgs, gs, cf; ns: the sizes of those that are to come -/
def MvS (B bb S : Nat) (rs : List aR) (us : Nat → Bool) (lgs : List Nat) (wr : Bool) (tp : Nat) (cf : Nat → Int8) (gs : List aSg) (P0 fr0 ff0 : Nat) (lgs0 : List Nat) (rs0 : List aR) (base : List (Nat × aRd)) (Y : Prop) (M : Nat) (ns : List Nat) (xs : List (Nat × aRd)) (H : aH) (lgs1 l1 : List Nat) (fr1 ff1 : Nat) (wr1 : Bool) (tp1 : Nat) (us1 : Nat → Bool) (c1 : Nat → Int8) (gs1 : List aSg) : Prop := MvI H B bb S rs ns lgs1 fr1 ff1 wr1 tp1 us1 c1 gs1 P0 fr0 ff0 lgs0 rs0 base Y ∧ lgs1 = lgs ++ l1 ∧ l1.length + opnN wr1 tp1 ns = M ∧ gs1.flatMap flG = gs.flatMap flG ++ xs ∧ (∀ q, TlU us lgs wr tp q → TlU us1 lgs1 wr1 tp1 q ∧ c1 q = cf q) ∧ freeN us1 B + l1.length = freeN us B ∧ ∀ b, us b = true → us1 b = true
section MV
variable {sc : Nat × (Nat → Int32)} {d mp hv n : Nat} {B bb S : Nat} {rs : List aR} {us : Nat → Bool} {lgs : List Nat} {wr : Bool} {tp : Nat} {cf : Nat → Int8} {gs : List aSg} {P0 fr0 ff0 : Nat} {lgs0 : List Nat} {rs0 : List aR} {base : List (Nat × aRd)} {Y : Prop} {M : Nat} {ns : List Nat} {xs : List (Nat × aRd)} {H : aH} {lgs1 l1 : List Nat} {fr1 ff1 : Nat} {wr1 : Bool} {tp1 : Nat} {us1 : Nat → Bool} {c1 : Nat → Int8} {gs1 : List aSg}
theorem MvS.far {H' : aH} (h : MvS B bb S rs us lgs wr tp cf gs P0 fr0 ff0 lgs0 rs0 base Y M ns xs H lgs1 l1 fr1 ff1 wr1 tp1 us1 c1 gs1) (hf : ∀ a, (71 ≤ a ∧ a < 74) ∨ (83 ≤ a ∧ a < 136) ∨ a = 140 ∨ a = 191 → H'[a]? = H[a]?) : MvS B bb S rs us lgs wr tp cf gs P0 fr0 ff0 lgs0 rs0 base Y M ns xs H' lgs1 l1 fr1 ff1 wr1 tp1 us1 c1 gs1 := ⟨⟨h.1.1.far hf, h.1.2⟩, h.2⟩
theorem Dk.page2 {fr ff : Nat} {c : Nat → Int8} (h : Dk H B bb S lgs fr ff wr tp rs us c P0 fr0 ff0 lgs0 rs0) (pg : Nat → Int8) : Dk (H.set 191 (kB 2048 pg)) B bb S lgs fr ff wr tp rs us c P0 fr0 ff0 lgs0 rs0 := by
  obtain ⟨tf, pq, ms, mt, sq, tu, h1, h2, h3, h4, h5, h6, h7, h8, ⟨g1, h9⟩, ⟨g2, h10⟩, ⟨g3, h11⟩⟩ := h
  exact ⟨tf, pq, ms, mt, sq, tu, h1.far (fun a a1 a2 a3 => set_far (by omega)), h2.far (fun a a1 a2 => set_far (by omega)), h3, h4, h5, h6, h7, h8, ⟨g1, (set_far (by decide)).trans h9⟩, ⟨g2, (set_far (by decide)).trans h10⟩, ⟨pg, get_set h11⟩⟩
theorem MvS.page (h : MvS B bb S rs us lgs wr tp cf gs P0 fr0 ff0 lgs0 rs0 base Y M ns xs H lgs1 l1 fr1 ff1 wr1 tp1 us1 c1 gs1) (pg : Nat → Int8) : MvS B bb S rs us lgs wr tp cf gs P0 fr0 ff0 lgs0 rs0 base Y M ns xs (H.set 191 (kB 2048 pg)) lgs1 l1 fr1 ff1 wr1 tp1 us1 c1 gs1 := ⟨⟨h.1.1.page2 pg, h.1.2⟩, h.2⟩
theorem MvS.lay (h : MvS B bb S rs us lgs wr tp cf gs P0 fr0 ff0 lgs0 rs0 base Y M ns xs H lgs1 l1 fr1 ff1 wr1 tp1 us1 c1 gs1) : (∃ ms mt sq tu lg, LayAt H (layF B lgs1.length fr1 ff1 wr1 tp1 rs.length ms mt sq tu 0 0) B us1 lg ∧ (∀ i b, lgs1[i]? = some b → lg i = b) ∧ lgs1.length ≤ B) ∧ tp1 ≤ 2048 ∧ ∃ pg, H[191]? = some (kB 2048 pg) := by
  obtain ⟨⟨⟨tf, pq, ms, mt, sq, tu, h1, h2, h3, h4, h5, h6, h7, h8, h9, h10, h11⟩, k1, k2, k3, k4, k5, k6, k7⟩, -⟩ := h
  obtain ⟨lg, pi, hY, hlg, hlc, hR⟩ := h1
  exact ⟨⟨ms, mt, sq, tu, lg, hY, hlg, hlc⟩, k6, h11⟩
theorem MvS.last (h : MvS B bb S rs us lgs wr tp cf gs P0 fr0 ff0 lgs0 rs0 base Y M ns xs H lgs1 l1 fr1 ff1 wr1 tp1 us1 c1 gs1) (hw : wr1 = true) : ∃ b, lgs1[lgs1.length - 1]? = some b ∧ 2 ≤ b ∧ b < B := by
  obtain ⟨gi, s, z1, z2, z3⟩ := h.1.2.2.2.2.1.2 hw
  have hF := h.1.2.2.2.2.1.1
  rw [z1] at hF
  exact ⟨s.1, hF.last.1, h.1.2.1.1 _ (List.mem_of_getElem? hF.last.1)⟩
theorem used_us {b : Nat} (hU : ∀ b, b < B → us b = false → usedB lgs rs b = false ∧ usedB lgs0 rs0 b = false) (hb : b < B) (h : usedB lgs rs b = true ∨ usedB lgs0 rs0 b = true) : us b = true := by
  cases e : us b with
  | true => rfl
  | false =>
    rcases h with h | h
    · rw [(hU b hb e).1] at h; exact Bool.noConfusion h
    · rw [(hU b hb e).2] at h; exact Bool.noConfusion h
set_option maxRecDepth 20000 in
theorem re_openM (h : MvS B bb S rs us lgs wr tp cf gs P0 fr0 ff0 lgs0 rs0 base Y M (n :: ns) xs H lgs1 l1 fr1 ff1 wr1 tp1 us1 c1 gs1) (hn : ¬ (wr1 = true ∧ n ≤ 2048 - tp1)) (hn2 : n ≤ 2048) (hG : H[190]? = some (kO 4 (logF mp hv))) (hB : B ≤ 128) (hB1 : 3 ≤ B) (hbb : bb % 2 ^ 32 < 2 ^ 31) : RE sc (d + 3) mr_144 [.ref 191] H (fun H' => ∃ b c2 gs2, MvS B bb S rs us lgs wr tp cf gs P0 fr0 ff0 lgs0 rs0 base Y M (n :: ns) xs H' (lgs1 ++ [b]) (l1 ++ [b]) (fr1 + 1) (if fr1 = 0 then 0 else ff1) true 0 (va_up us1 b true) c2 gs2 ∧ us1 b = false ∧ b < B ∧ ∀ a, ¬ (71 ≤ a ∧ a < 74) → ¬ (83 ≤ a ∧ a < 88) → H'[a]? = H[a]?) (fun H' => MvB B bb S us lgs wr tp cf P0 fr0 ff0 lgs0 rs0 base Y H' ∧ ∀ a, ¬ (71 ≤ a ∧ a < 74) → ¬ (83 ≤ a ∧ a < 88) → H'[a]? = H[a]?) := by
  obtain ⟨⟨⟨tf, pq, ms, mt, sq, tu, h1, h2, h3, h4, h5, h6, h7, h8, ⟨g1, h9⟩, ⟨g2, h10⟩, ⟨g3, h11⟩⟩, k1, k2, k3, k4, ⟨gs0, xs0, kA, kB, kC, kE, kD⟩, k6, k7, k8, k9, k10⟩, m1, m2, m3, m4, m5, m6⟩ := h
  have ho : opnN wr1 tp1 (n :: ns) = 1 + opnN true n ns := by rw [opnN, if_neg hn]
  have ho2 : opnN true 0 (n :: ns) = opnN true n ns := by rw [opnN, if_pos ⟨rfl, by omega⟩, Nat.zero_add]
  have hO := k1
  have hus : ∀ b, b < B → usedB lgs1 rs b = true ∨ usedB lgs0 rs0 b = true → us1 b = true := fun b hb e => used_us k3 hb e
  have hl1 : ∀ q, q / 2048 ∈ lgs1 → us1 (q / 2048) = true := fun q hq => hus _ (k1.1 _ hq).2 (Or.inl (usedB_iff.mpr (Or.inr (Or.inl hq))))
  have hl0 : ∀ q, q / 2048 ∈ lgs0 → us1 (q / 2048) = true := fun q hq => hus _ (k2.1 _ hq).2 (Or.inr (usedB_iff.mpr (Or.inr (Or.inl hq))))
  refine (re_openN (d := d) h1 hB hG h2 hbb h3 hB1 h4 (by have := k4.1.2.1; omega) (fun x hx => (hO.1 x hx).2) (fun x hx y hy => (hO.runs x hx).2.2.2 y hy) (by omega) (use_ok2 hB1 (fun b hb e => (k3 b hb e).1)) (fun b hb e => usesL_0 (k3 b hb e).1) (free_ex (by omega))).mono ?_ ?_
  · rintro H' ⟨b, hb, hub, hC', hpq', hL', f'⟩
    have hu := k3 b hb hub
    have u1 := (usedB_lg hu.1).1
    have hne : ∀ q, us1 (q / 2048) = true → ¬ q / 2048 = b := fun q hq e => by rw [e, hub] at hq; exact Bool.noConfusion hq
    have hfw := FrW.opn (b := b) (c' := fun q => if b * 2048 ≤ q ∧ q < b * 2048 + 2048 then -1 else c1 q) k4.1 (fun q hq => if_neg (by have := hne q (hl1 q hq); omega)) (fun q q1 q2 => if_pos ⟨q1, q2⟩)
    have hms := h5.1.1
    refine ⟨b, _, gs1 ++ [(b, 0, [])], ⟨⟨⟨va_up tf b 0, plUp pq, ms, mt, sq, b + 1, hL', hC', hpq', by omega, h5.far (fun q hq => if_neg (by omega)), fun e => by rw [up_ne (by omega)]; exact h6 e, h7, fun _ x hx => ?_, ⟨g1, (f' 85 (by decide) (by decide) (by decide) (by decide)).trans h9⟩, ⟨g2, (f' 140 (by decide) (by decide) (by decide) (by decide)).trans h10⟩, ⟨g3, (f' 191 (by decide) (by decide) (by decide) (by decide)).trans h11⟩⟩, k1.app hb hu.1, k2, fun x hx e => ?_, hfw, ⟨gs0, xs0, kA.far (fun q hq => if_neg (by have := hne q (hl0 q hq); omega)), kB, kC, kE, fun _ => Or.inr (fun x hx => ?_)⟩, by omega, by split <;> omega, k8, ?_, ?_⟩, by rw [m1, List.append_assoc], ?_, ?_, fun q hq => ?_, ?_, fun x hx => ?_⟩, hub, hb, fun a a1 a2 => f' a a1 (by omega) (by omega) (by omega)⟩
    · rw [List.length_append, List.length_singleton, Nat.add_sub_cancel, List.getElem?_append_right (Nat.le_refl _), Nat.sub_self] at hx
      rw [← Option.some.inj hx, up_at]
      exact Nat.le_refl _
    · have hxb : ¬ x = b := fun e2 => by rw [e2, up_at] at e; exact Bool.noConfusion e
      rw [up_ne hxb] at e
      have := k3 x hx e
      refine ⟨?_, this.2⟩
      rw [usedB_app, up_ne hxb]
      exact this.1
    · rw [List.length_append, List.length_singleton, Nat.add_sub_cancel, List.getElem?_append_right (Nat.le_refl _), Nat.sub_self] at hx
      rw [← Option.some.inj hx]
      exact (usedB_lg hu.2).2.1
    · have := free_take hb hub
      rw [ho2]
      omega
    · rw [ho2, List.length_append, List.length_singleton]
      omega
    · rw [List.length_append, List.length_singleton]
      omega
    · rw [List.flatMap_append, m3, List.append_assoc]
      show gs.flatMap flG ++ (xs ++ [(b, 0, [])].flatMap flG) = _
      rw [show [(b, 0, [])].flatMap flG = [] from rfl, List.append_nil]
    · obtain ⟨q1, q2⟩ := m4 q hq
      have hqb := hne q q1.2.1
      refine ⟨⟨q1.1, by rw [up_ne hqb]; exact q1.2.1, fun e => ?_⟩, (if_neg (by omega)).trans q2⟩
      have e2 := e.2.1
      rw [List.length_append, List.length_singleton, Nat.add_sub_cancel, List.getElem?_append_right (Nat.le_refl _), Nat.sub_self] at e2
      exact hqb (Option.some.inj e2).symm
    · have := free_take hb hub
      rw [List.length_append, List.length_singleton]
      omega
    · by_cases e : x = b
      · rw [e, up_at]
      · rw [up_ne e]
        exact m6 x hx
  · rintro H' ⟨b, c', tf', hb, hub, y1, y2, ⟨l1', l2', l3', l4', l5', l6', l7', l8', l9', y3⟩, y4⟩
    have hne : ∀ q, us1 (q / 2048) = true → ¬ q / 2048 = b := fun q hq e => by rw [e, hub] at hq; exact Bool.noConfusion hq
    have u1 := (usedB_lg (k3 b hb hub).1).1
    refine ⟨⟨c', gs0, xs0, k8, ⟨tf', ms, sq, y1, (h5.far (fun q hq => y2 q (by omega))).forget, h7, ⟨l1', l2', l3', l4', l5', rs, l6', l7', l8', b + 1, l9', by omega, y3⟩, ⟨g1, (y4 85 (by decide) (by decide) (by decide) (by decide)).trans h9⟩, ⟨g2, (y4 140 (by decide) (by decide) (by decide) (by decide)).trans h10⟩, ⟨g3, (y4 191 (by decide) (by decide) (by decide) (by decide)).trans h11⟩⟩, k2, kA.far (fun q hq => y2 q (hne q (hl0 q hq))), kB, kC, kE, fun q hq => ?_⟩, fun a a1 a2 => y4 a a1 (by omega) (by omega) (by omega)⟩
    obtain ⟨q1, q2⟩ := m4 q hq
    exact (y2 q (hne q q1.2.1)).trans q2
set_option maxRecDepth 20000 in
theorem re_appM {pg : Nat → Int8} {r : aRd} (h : MvS B bb S rs us lgs wr tp cf gs P0 fr0 ff0 lgs0 rs0 base Y M (n :: ns) xs H lgs1 l1 fr1 ff1 wr1 tp1 us1 c1 gs1) (hw : wr1 = true ∧ n ≤ 2048 - tp1) (hG : H[190]? = some (kO 4 (logF mp hv))) (hB : B ≤ 128) (hbb : bb % 2 ^ 32 < 2 ^ 31) (hp : H[191]? = some (kB 2048 pg)) (hr : LOk r) (hr4 : r.1 = 4) (hn : n = (encL r).length) (hl : sl (numF pg (n - 1) 1 (nI 90) 1) 0 n = encL r) : ∃ b, lgs1[lgs1.length - 1]? = some b ∧ 2 ≤ b ∧ b < B ∧ RE sc (d + 2) mr_148 [.ref 191, .int (nI n)] H (fun H' => ∃ c2 gs2, MvS B bb S rs us lgs wr tp cf gs P0 fr0 ff0 lgs0 rs0 base Y M ns (xs ++ [(b * 2048 + tp1, r)]) H' lgs1 l1 fr1 ff1 wr1 (tp1 + n) us1 c2 gs2 ∧ ∀ a, ¬ (71 ≤ a ∧ a < 74) → a ≠ 191 → a ≠ 83 → H'[a]? = H[a]?) (fun H' => MvB B bb S us lgs wr tp cf P0 fr0 ff0 lgs0 rs0 base Y H' ∧ ∀ a, ¬ (71 ≤ a ∧ a < 74) → a ≠ 191 → H'[a]? = H[a]?) := by
  obtain ⟨⟨h1, k1, k2, k3, k4, ⟨gs0, xs0, kA, kB, kC, kE, kD⟩, k6, k7, k8, k9, k10⟩, m1, m2, m3, m4, m5, m6⟩ := h
  have ho : opnN wr1 tp1 (n :: ns) = opnN wr1 (tp1 + n) ns := by rw [opnN, if_pos hw]
  rw [ho] at k9 k10 m2
  obtain ⟨hF, hE⟩ := k4
  obtain ⟨gi, s, g1, g2, g3⟩ := hE hw.1
  have hF0 := hF
  rw [g1] at hF
  obtain ⟨hb, -⟩ := hF.last
  have hm := k1.1 s.1 (List.mem_of_getElem? hb)
  refine ⟨s.1, hb, hm.1, hm.2, ?_⟩
  have hw2 := hw.2
  have hel := encL_len r
  have hus0 : ∀ q, q / 2048 ∈ lgs0 → us1 (q / 2048) = true := fun q hq => used_us k3 (k2.1 _ hq).2 (Or.inr (usedB_iff.mpr (Or.inr (Or.inl hq))))
  have hfl : (gi ++ [(s.1, s.2.1, s.2.2 ++ [r])]).flatMap flG = gs1.flatMap flG ++ [(s.1 * 2048 + tp1, r)] := by
    rw [g1, List.flatMap_append, List.flatMap_append, List.append_assoc]
    congr 1
    rw [List.flatMap_cons, List.flatMap_nil, List.flatMap_cons, List.flatMap_nil, List.append_nil, List.append_nil]
    show adL (s.1 * 2048 + s.2.1) (s.2.2 ++ [r]) = adL (s.1 * 2048 + s.2.1) s.2.2 ++ _
    rw [adL_app]
    have e : s.2.1 + lenL s.2.2 = tp1 := g2
    show _ ++ [(s.1 * 2048 + s.2.1 + lenL s.2.2, r)] = _
    rw [show s.1 * 2048 + s.2.1 + lenL s.2.2 = s.1 * 2048 + tp1 by omega]
  refine (re_appD (d := d) (r := r) h1 hw.1 hG hB hbb hp hb hm.1 hm.2 hn (by omega) hl).mono ?_ ?_
  · rintro H' ⟨c', y1, y2, y3⟩
    have hfw := FrW.app hF k1.logs g2 g3 y2 hr (by omega)
    rw [← hn] at hfw
    refine ⟨c', _, ⟨⟨Dk.un (n := 1) y1, k1, k2, k3, by rw [hw.1]; exact hfw, ?_, by omega, k7, k8, k9, k10⟩, m1, m2, by rw [hfl, m3, List.append_assoc], fun q hq => ?_, m5, m6⟩, y3⟩
    · rcases kD hw.1 with ⟨eY, e1, e2, e3, e4⟩ | e
      · refine ⟨_, xs0 ++ [(s.1 * 2048 + tp1, r)], by rw [e1, e2, e3]; exact hfw.1, by rw [hfl, ← e4, kB, List.append_assoc], fun x hx => ?_, Or.inr eY, fun _ => Or.inl ⟨eY, e1, e2, e3, rfl⟩⟩
        rcases List.mem_append.mp hx with hx | hx
        · exact kC x hx
        · rw [List.mem_singleton.mp hx]
          exact hr4
      · refine ⟨gs0, xs0, kA.far (fun q hq => y2.2 q ?_), kB, kC, kE, fun _ => Or.inr e⟩
        have : ¬ q / 2048 = s.1 := fun e2 => e s.1 hb (by rw [← e2]; exact hq)
        omega
    · obtain ⟨q1, q2⟩ := m4 q hq
      rw [hw.1] at q1 ⊢
      exact ⟨⟨q1.1, q1.2.1, fun e => q1.2.2 ⟨rfl, e.2.1, by omega⟩⟩, (q1.wr hb y2 (by omega)).trans q2⟩
  · rintro H' ⟨c', k, y1, y2, y3, y4⟩
    have hlt : ((encL r).take k).length = k := by rw [List.length_take]; omega
    refine ⟨⟨c', gs0, xs0, k8, y2, k2, ?_, kB, kC, kE, fun q hq => ?_⟩, y4⟩
    · rcases kD hw.1 with ⟨eY, e1, e2, e3, e4⟩ | e
      · rw [e1, e2, e3, e4, g1]
        exact hF.torn k1.logs g2 g3 y3 y1 hr (by omega)
      · refine kA.far (fun q hq => y3.2 q ?_)
        have : ¬ q / 2048 = s.1 := fun e2 => e s.1 hb (by rw [← e2]; exact hq)
        omega
    · obtain ⟨q1, q2⟩ := m4 q hq
      rw [hw.1] at q1
      exact (q1.wr hb y3 (by rw [hlt]; omega)).trans q2
end MV
set_option maxRecDepth 20000 in
theorem rq_move {sc : Nat × (Nat → Int32)} {d p n mp hv : Nat} {H : aH} {mv bv dv : Int32} {QQ : tO × aH × Nat × Nat → Prop} {N : Nat} {kf : Nat → Int8} {kl mo pl : Nat → Nat} {le : Nat → Option Nat} {al : Nat → Bool} {od sp : Nat → Nat} {sz ss ac : Nat} {B bb S : Nat} {rs : List aR} {us : Nat → Bool} {lgs : List Nat} {wr : Bool} {tp : Nat} {cf : Nat → Int8} {gs : List aSg} {P0 fr0 ff0 : Nat} {lgs0 : List Nat} {rs0 : List aR} {base : List (Nat × aRd)} {Y : Prop} {M : Nat} {ns : List Nat} {xs : List (Nat × aRd)} {lgs1 l1 : List Nat} {fr1 ff1 : Nat} {wr1 : Bool} {tp1 : Nat} {us1 : Nat → Bool} {c1 : Nat → Int8} {gs1 : List aSg} (hA : VersAt H N kf kl mo pl le al od sp sz ss ac) (hW : VersWf N kf kl mo pl le al od sp sz ss ac) (hp : p < sz) (hn : le (od p) = some n) (hm31 : mo (od p) < 2 ^ 31) (hI : MvS B bb S rs us lgs wr tp cf gs P0 fr0 ff0 lgs0 rs0 base Y M ((9 + kl (od p) + n) :: ns) xs H lgs1 l1 fr1 ff1 wr1 tp1 us1 c1 gs1) (hw : wr1 = true ∧ 9 + kl (od p) + n ≤ 2048 - tp1) (hR : RecW c1 lgs1 (verO kf kl mo pl le al (od p))) (hG : H[190]? = some (kO 4 (logF mp hv))) (hB : B ≤ 128) (hbb : bb % 2 ^ 32 < 2 ^ 31) (k1 : ∀ H' b c2 gs2, 2 ≤ b → b < B → lgs1[lgs1.length - 1]? = some b → MvS B bb S rs us lgs wr tp cf gs P0 fr0 ff0 lgs0 rs0 base Y M ns (xs ++ [(b * 2048 + tp1, (4, sl kf (od p * 41) (kl (od p)), n, mo (od p), valB c1 (verO kf kl mo pl le al (od p))))]) H' lgs1 l1 fr1 ff1 wr1 (tp1 + (9 + kl (od p) + n)) us1 c2 gs2 → VersAt H' N kf kl mo (va_up pl (od p) (b * 2048 + tp1)) le (va_up al (od p) true) od sp sz ss (acUp (al (od p)) true ac) → VersWf N kf kl mo (va_up pl (od p) (b * 2048 + tp1)) le (va_up al (od p) true) od sp sz ss (acUp (al (od p)) true ac) → (∀ a, ¬ (71 ≤ a ∧ a < 84) → a ≠ 191 → H'[a]? = H[a]?) → RQ sc (d + 3) mr_146 173 [(7, .int (nI (b * 2048 + tp1))), (6, .int (nI (9 + kl (od p) + n))), (5, .int (nI (od p))), (4, .int (nI p)), (3, .int mv), (0, .ref 191), (1, .int bv), (2, .int dv)] [] H' 0 0 QQ) (k2 : ∀ H', MvB B bb S us lgs wr tp cf P0 fr0 ff0 lgs0 rs0 base Y H' → VersAt H' N kf kl mo pl le al od sp sz ss ac → (∀ a, ¬ (71 ≤ a ∧ a < 84) → a ≠ 191 → H'[a]? = H[a]?) → QQ (.inr 1, H', 0 + 1, 0 + 6)) : RQ sc (d + 3) mr_146 107 [(6, .int (nI (9 + kl (od p) + n))), (5, .int (nI (od p))), (4, .int (nI p)), (3, .int mv), (0, .ref 191), (1, .int bv), (2, .int dv)] [] H 0 0 QQ := by
  have hod := hW.1.2.2.2.1 p hp
  have hso := hW.1.2.2.2.2.2 _ hod
  have hN := hW.1.1
  have hI0 := hI
  obtain ⟨⟨ms, mt, sq, tu, lg, hY, hlg, hlc⟩, htp1, pg, hpg⟩ := hI.lay
  obtain ⟨⟨⟨tf, pq, -, -, -, -, -, hC, -⟩, hO, -⟩, -⟩ := id hI
  obtain ⟨⟨kd, hkd, hrec⟩, hfit, hin⟩ := id (hR n hn)
  have hkl : (sl kf (od p * 41) (kl (od p))).length = kl (od p) := sl_length _ _ _
  have hrec : sl c1 (pl (od p)) (9 + (sl kf (od p * 41) (kl (od p))).length + n) = encL (kd, sl kf (od p * 41) (kl (od p)), n, mo (od p), valB c1 (verO kf kl mo pl le al (od p))) := hrec
  rw [hkl] at hrec
  have hfit : pl (od p) % 2048 + 9 + (sl kf (od p * 41) (kl (od p))).length + n ≤ 2048 := hfit
  rw [hkl] at hfit
  have hin : pl (od p) / 2048 ∈ lgs1 := hin
  have hblk := hO.1 _ hin
  have hRA := hR.at hn (by show (sl kf (od p * 41) (kl (od p))).length ≤ 41; rw [hkl]; exact hso.1) hm31
  have hRA : RecAt c1 (pl (od p)) (sl kf (od p * 41) (kl (od p))) (mo (od p)) n := hRA
  obtain ⟨j, hj⟩ := List.getElem?_of_mem hin
  have hjl := get_lt hj
  have hlg30 : ∀ j, j < lgs1.length → lg j < 2 ^ 30 := fun j hj => by
    obtain ⟨y, hy⟩ := lt_get hj
    rw [hlg j y hy]
    have := (hO.1 y (List.mem_of_getElem? hy)).2
    omega
  have hvl : (valB c1 (verO kf kl mo pl le al (od p))).length = n := valB_len hn
  refine RQ.blk 2 (pc' := 110) (lv' := [(6, .int (nI (9 + kl (od p) + n))), (5, .int (nI (od p))), (4, .int (nI p)), (3, .int mv), (0, .ref 191), (1, .int bv), (2, .int dv)]) (st' := [.int (nI (od p)), .ref 191]) (H' := _) (kc' := 0) (ks' := 0) rfl ?_
  refine RQ.call (v := none) (st' := []) rfl rfl rfl rfl rfl rfl (args_v [.int (nI (od p))] [] rfl rfl (Nat.le_of_ble_eq_true rfl) rfl hG (Nat.le_of_ble_eq_true rfl)) (rc_watch hA hW.1 hC hY hB hlc hlg30 hG hod hn hRA ⟨j, hjl, hlg j _ hj⟩ (by omega)) ?_
  refine RQ.blk 1 (pc' := 114) (lv' := [(6, .int (nI (9 + kl (od p) + n))), (5, .int (nI (od p))), (4, .int (nI p)), (3, .int mv), (0, .ref 191), (1, .int bv), (2, .int dv)]) (st' := [.ref 191]) (H' := _) (kc' := 0) (ks' := 0) rfl ?_
  refine RQ.get (ci := 4) rfl hG rfl rfl ?_
  refine RQ.blk 1 (pc' := 118) (lv' := [(6, .int (nI (9 + kl (od p) + n))), (5, .int (nI (od p))), (4, .int (nI p)), (3, .int mv), (0, .ref 191), (1, .int bv), (2, .int dv)]) (st' := [.ref 191, .ref 72]) (H' := _) (kc' := 0) (ks' := 0) rfl ?_
  refine RQ.get (ci := 4) rfl hG rfl rfl ?_
  refine RQ.get (ci := 10) rfl hA.1 rfl rfl ?_
  refine RQ.blk 1 (pc' := 126) (lv' := [(6, .int (nI (9 + kl (od p) + n))), (5, .int (nI (od p))), (4, .int (nI p)), (3, .int mv), (0, .ref 191), (1, .int bv), (2, .int dv)]) (st' := [.int (nI (od p)), .ref 79, .ref 72]) (H' := _) (kc' := 0) (ks' := 0) rfl ?_
  refine RQ.ialdN (j := od p) rfl hA.2.2.2.2.1 (by omega) (by omega) ?_
  refine RQ.blk 1 (pc' := 128) (lv' := [(6, .int (nI (9 + kl (od p) + n))), (5, .int (nI (od p))), (4, .int (nI p)), (3, .int mv), (0, .ref 191), (1, .int bv), (2, .int dv)]) (st' := [.ref 191, .int (nI (pl (od p))), .ref 72]) (H' := _) (kc' := 0) (ks' := 0) rfl ?_
  refine RQ.get (ci := 4) rfl hG rfl rfl ?_
  refine RQ.blk 2 (pc' := 134) (lv' := [(6, .int (nI (9 + kl (od p) + n))), (5, .int (nI (od p))), (4, .int (nI p)), (3, .int mv), (0, .ref 191), (1, .int bv), (2, .int dv)]) (st' := [.int (nI (9 + kl (od p) + n)), .int 0, .ref 192, .int (nI (pl (od p))), .ref 72]) (H' := _) (kc' := 0) (ks' := 0) rfl ?_
  refine RQ.call (v := none) (st' := []) rfl rfl rfl rfl rfl rfl (args_v [.int (nI (9 + kl (od p) + n)), .int 0, .ref 192, .int (nI (pl (od p)))] [] rfl rfl (Nat.le_of_ble_eq_true rfl) rfl hC.1 (Nat.le_of_ble_eq_true rfl)) (rc_copyOut (a := 71) (b := 72) (c := 191) (i := pl (od p)) (j := 0) (k := 9 + kl (od p) + n) hC.1 rfl hC.2.1 (by omega) hpg (by decide) (by omega) (by omega)) ?_
  refine RQ.blk 1 (pc' := 138) (lv' := [(6, .int (nI (9 + kl (od p) + n))), (5, .int (nI (od p))), (4, .int (nI p)), (3, .int mv), (0, .ref 191), (1, .int bv), (2, .int dv)]) (st' := [.ref 191]) (H' := _) (kc' := 0) (ks' := 0) rfl ?_
  refine RQ.get (ci := 4) rfl ((set_far (by decide)).trans hG) rfl rfl ?_
  refine RQ.blk 3 (pc' := 144) (lv' := [(6, .int (nI (9 + kl (od p) + n))), (5, .int (nI (od p))), (4, .int (nI p)), (3, .int mv), (0, .ref 191), (1, .int bv), (2, .int dv)]) (st' := [.int 4, .int 1, .int 0, .ref 192]) (H' := _) (kc' := 0) (ks' := 0) rfl ?_
  refine RQ.call (v := none) (st' := []) rfl rfl rfl rfl rfl rfl rfl (rc_number (a := 191) (p := 0) (n := 1) (v := nI 4) (get_set hpg) (by decide) (by decide) (by decide)) ?_
  rw [set_set]
  have hI3 := hI.page (numF (cpy c1 (pl (od p)) pg 0 (9 + kl (od p) + n)) 0 1 (nI 4) 1)
  have hA3 := hA.far (H' := (H.set 191 (kB 2048 (numF (cpy c1 (pl (od p)) pg 0 (9 + kl (od p) + n)) 0 1 (nI 4) 1)))) (fun a a1 a2 => set_far (by omega))
  have f3 : ∀ a, a ≠ 191 → (H.set 191 (kB 2048 (numF (cpy c1 (pl (od p)) pg 0 (9 + kl (od p) + n)) 0 1 (nI 4) 1)))[a]? = H[a]? := fun a a1 => set_far a1
  have hp3 : (H.set 191 (kB 2048 (numF (cpy c1 (pl (od p)) pg 0 (9 + kl (od p) + n)) 0 1 (nI 4) 1)))[191]? = some (kB 2048 (numF (cpy c1 (pl (od p)) pg 0 (9 + kl (od p) + n)) 0 1 (nI 4) 1)) := get_set hpg
  show RQ _ _ _ _ _ _ (H.set 191 (kB 2048 (numF (cpy c1 (pl (od p)) pg 0 (9 + kl (od p) + n)) 0 1 (nI 4) 1))) _ _ _
  generalize (H.set 191 (kB 2048 (numF (cpy c1 (pl (od p)) pg 0 (9 + kl (od p) + n)) 0 1 (nI 4) 1))) = H3 at hI3 hA3 f3 hp3 ⊢
  obtain ⟨⟨ms3, mt3, sq3, tu3, lg3, hY3, hlg3, hlc3⟩, -, -⟩ := hI3.lay
  have hG3 := (f3 190 (by decide)).trans hG
  obtain ⟨b, hb1, hb2, hb3, hApp⟩ := re_appM (sc := sc) (d := d) (mp := mp) (hv := hv) (r := (4, sl kf (od p * 41) (kl (od p)), n, mo (od p), valB c1 (verO kf kl mo pl le al (od p)))) hI3 hw hG3 hB hbb hp3 ⟨by show 1 ≤ 4; omega, by show 4 ≤ 4; omega, by rw [hkl]; exact hso.1, by show n < 65536; omega, hm31, hvl, fun e => absurd e (by show ¬ 4 = 3; omega)⟩ rfl (by rw [encL_len]; show 9 + kl (od p) + n = 9 + (sl kf (od p * 41) (kl (od p))).length + (valB c1 (verO kf kl mo pl le al (od p))).length; rw [hkl, hvl]) (mv_page (by rw [hkl, hvl]) hrec)
  have hlb : lg3 (lgs1.length - 1) = b := hlg3 _ _ hb1
  have hlen := get_lt hb1
  refine RQ.blk 1 (pc' := 148) (lv' := [(6, .int (nI (9 + kl (od p) + n))), (5, .int (nI (od p))), (4, .int (nI p)), (3, .int mv), (0, .ref 191), (1, .int bv), (2, .int dv)]) (st' := [.ref 191]) (H' := _) (kc' := 0) (ks' := 0) rfl ?_
  refine RQ.get (ci := 4) rfl hG3 rfl rfl ?_
  refine RQ.call (v := some (.int (nI (lg3 (lgs1.length - 1) * 2048 + tp1)))) (st' := []) rfl rfl rfl rfl rfl rfl (args_v [] [] rfl rfl (Nat.le_of_ble_eq_true rfl) rfl hY3.1 (Nat.le_of_ble_eq_true rfl)) (rc_point hY3 hB (by omega) hlc3) ?_
  rw [hlb]
  refine RQ.blk 3 (pc' := 159) (lv' := [(7, .int (nI (b * 2048 + tp1))), (6, .int (nI (9 + kl (od p) + n))), (5, .int (nI (od p))), (4, .int (nI p)), (3, .int mv), (0, .ref 191), (1, .int bv), (2, .int dv)]) (st' := [.int (nI (9 + kl (od p) + n)), .ref 191]) (H' := _) (kc' := 0) (ks' := 0) rfl ?_
  refine RQ.callT (st' := []) rfl rfl rfl rfl rfl rfl (args_v [.int (nI (9 + kl (od p) + n))] [] rfl rfl (Nat.le_of_ble_eq_true rfl) rfl hG3 (Nat.le_of_ble_eq_true rfl)) hApp rfl (fun H5 hx5 => ?_) (fun H9 hbad => by obtain ⟨z1, z2⟩ := hbad; exact k2 _ z1 (hA3.far (fun a a1 a2 => z2 a (by omega) (by omega))) (fun a a1 a2 => (z2 a (by omega) a2).trans (f3 a a2)))
  obtain ⟨c5, gs5, hS5, z5⟩ := hx5
  have hA5 := hA3.far (H' := H5) (fun a a1 a2 => z5 a (by omega) (by omega) (by omega))
  have hG5 := (z5 190 (by decide) (by decide) (by decide)).trans hG3
  refine RQ.blk 1 (pc' := 163) (lv' := [(7, .int (nI (b * 2048 + tp1))), (6, .int (nI (9 + kl (od p) + n))), (5, .int (nI (od p))), (4, .int (nI p)), (3, .int mv), (0, .ref 191), (1, .int bv), (2, .int dv)]) (st' := [.ref 191]) (H' := _) (kc' := 0) (ks' := 0) rfl ?_
  refine RQ.get (ci := 4) rfl hG5 rfl rfl ?_
  refine RQ.blk 2 (pc' := 170) (lv' := [(7, .int (nI (b * 2048 + tp1))), (6, .int (nI (9 + kl (od p) + n))), (5, .int (nI (od p))), (4, .int (nI p)), (3, .int mv), (0, .ref 191), (1, .int bv), (2, .int dv)]) (st' := [.int (nI (b * 2048 + tp1)), .int (nI (od p)), .ref 75]) (H' := _) (kc' := 0) (ks' := 0) rfl ?_
  refine RQ.callN (st' := []) rfl rfl rfl rfl rfl rfl (args_v [.int (nI (b * 2048 + tp1)), .int (nI (od p))] [] rfl rfl (Nat.le_of_ble_eq_true rfl) rfl hA5.1 (Nat.le_of_ble_eq_true rfl)) (rn_relocate (p := p) (pp := b * 2048 + tp1) hA5 hW hp (by omega)) (fun H6 hx6 => ?_)
  obtain ⟨hA6, hW6, f6⟩ := hx6
  exact k1 H6 b c5 gs5 hb2 hb3 hb1 (hS5.far (fun a ha => f6 a (by omega))) hA6 hW6 (fun a a1 a2 => (f6 a (by omega)).trans ((z5 a (by omega) a2 (by omega)).trans (f3 a a2)))
