/-! ===== records go to the log, blocks are opened for them; class; by hand ===== -/
/-- how many blocks are opened for records of these sizes -/
def opnN : Bool → Nat → List Nat → Nat
  | _, _, [] => 0
  | wr, tp, n :: ns => if wr = true ∧ n ≤ 2048 - tp then opnN wr (tp + n) ns else 1 + opnN true n ns
/-- how many blocks are free -/
def frL (B : Nat) (lgs : List Nat) (rs : List aR) : Nat := freeN (usedB lgs rs) B
theorem freeN_congr {us us' : Nat → Bool} {B : Nat} (h : ∀ b, b < B → us' b = us b) : freeN us' B = freeN us B := cntB_congr B (fun i hi => by show (!(us' i)) = !(us i); rw [h i hi])
theorem usedB_app {lgs : List Nat} {rs : List aR} {b : Nat} : ∀ x, usedB (lgs ++ [b]) rs x = va_up (usedB lgs rs) b true x := fun x => by
  by_cases e : x = b
  · rw [e, up_at]
    exact usedB_iff.mpr (Or.inr (Or.inl (List.mem_append.mpr (Or.inr (List.mem_singleton.mpr rfl)))))
  · rw [up_ne e]
    have : (usedB (lgs ++ [b]) rs x = true) ↔ (usedB lgs rs x = true) := by
      rw [usedB_iff, usedB_iff, List.mem_append]
      constructor
      · rintro (h | (h | h) | h)
        · exact Or.inl h
        · exact Or.inr (Or.inl h)
        · exact absurd (List.mem_singleton.mp h) e
        · exact Or.inr (Or.inr h)
      · rintro (h | h | h)
        · exact Or.inl h
        · exact Or.inr (Or.inl (Or.inl h))
        · exact Or.inr (Or.inr h)
    cases h1 : usedB lgs rs x with
    | true => exact this.mpr h1
    | false =>
      cases h2 : usedB (lgs ++ [b]) rs x with
      | false => rfl
      | true => rw [this.mp h2] at h1; exact h1
theorem frL_app {B : Nat} {lgs : List Nat} {rs : List aR} {b : Nat} (hb : b < B) (hu : usedB lgs rs b = false) : frL B (lgs ++ [b]) rs + 1 = frL B lgs rs := by
  unfold frL
  rw [freeN_congr (fun x _ => usedB_app x)]
  exact free_take hb hu
theorem LsOk.app {B : Nat} {lgs : List Nat} {rs : List aR} {b : Nat} (h : LsOk B lgs rs) (hb : b < B) (hu : usedB lgs rs b = false) : LsOk B (lgs ++ [b]) rs := by
  obtain ⟨h1, h2, h3⟩ := h
  obtain ⟨u1, u2, u3⟩ := usedB_lg hu
  refine ⟨fun x hx => ?_, h2, ?_⟩
  · rcases List.mem_append.mp hx with e | e
    · exact h1 x e
    · rw [List.mem_singleton.mp e]
      exact ⟨u1, hb⟩
  · rw [List.append_assoc]
    refine (List.perm_middle (a := b) (l₁ := lgs) (l₂ := rs.flatMap (fun x => x.2.2.2))).nodup_iff.mpr (List.nodup_cons.mpr ⟨fun e => ?_, h3⟩)
    rcases List.mem_append.mp e with e | e
    · exact u2 e
    · obtain ⟨x, hx, hy⟩ := List.mem_flatMap.mp e
      exact u3 x hx hy
/-- bytes that are in use, but behind the top of the log that is written -/
def Tl (lgs : List Nat) (rs : List aR) (wr : Bool) (tp q : Nat) : Prop := 4096 ≤ q ∧ usedB lgs rs (q / 2048) = true ∧ ¬ (wr = true ∧ lgs[lgs.length - 1]? = some (q / 2048) ∧ tp ≤ q % 2048)
theorem Tl.opn {lgs : List Nat} {rs : List aR} {wr : Bool} {tp b q : Nat} (hu : usedB lgs rs b = false) (h : Tl lgs rs wr tp q) : Tl (lgs ++ [b]) rs true 0 q ∧ ¬ q / 2048 = b := by
  obtain ⟨q1, q2, q3⟩ := h
  have hne : ¬ q / 2048 = b := fun e => by rw [e, hu] at q2; exact Bool.noConfusion q2
  refine ⟨⟨q1, by rw [usedB_app, up_ne hne]; exact q2, fun e => ?_⟩, hne⟩
  have e2 := e.2.1
  rw [List.length_append, List.length_singleton, Nat.add_sub_cancel, List.getElem?_append_right (Nat.le_refl _), Nat.sub_self] at e2
  exact hne (Option.some.inj e2).symm
theorem Tl.app {lgs : List Nat} {rs : List aR} {tp n q : Nat} (h : Tl lgs rs true tp q) : Tl lgs rs true (tp + n) q := ⟨h.1, h.2.1, fun e => h.2.2 ⟨rfl, e.2.1, by omega⟩⟩
theorem Tl.wr {lgs : List Nat} {rs : List aR} {tp b q : Nat} {c c1 : Nat → Int8} {l : List Nat} (h : Tl lgs rs true tp q) (hb : lgs[lgs.length - 1]? = some b) (h1 : WrP c c1 (b * 2048 + tp) l) (hl : tp + l.length ≤ 2048) : c1 q = c q := by
  refine h1.2 q ?_
  by_cases e : q / 2048 = b
  · have : ¬ tp ≤ q % 2048 := fun e2 => h.2.2 ⟨rfl, by rw [hb, e], e2⟩
    omega
  · omega
/-- a log that takes records of the sizes ns -/
def LgI (H : aH) (B bb S : Nat) (rs : List aR) (ns : List Nat) (lgs : List Nat) (fr ff : Nat) (wr : Bool) (tp : Nat) (us : Nat → Bool) (c : Nat → Int8) (P1 : Nat) (gs : List aSg) : Prop := (∃ fr0 ff0 gs0, Dk H B bb S lgs fr ff wr tp rs us c P1 fr0 ff0 lgs rs ∧ FrC c lgs fr0 ff0 gs0 ∧ gs0.flatMap flG = gs.flatMap flG ∧ (wr = true → fr0 = fr ∧ ff0 = ff ∧ gs0 = gs) ∧ ff0 ≤ 2048) ∧ LsOk B lgs rs ∧ (∀ b, b < B → us b = usedB lgs rs b) ∧ FrW c lgs fr ff wr tp gs ∧ tp ≤ 2048 ∧ ff ≤ 2048 ∧ opnN wr tp ns ≤ frL B lgs rs ∧ lgs.length + opnN wr tp ns ≤ B ∧ fr + opnN wr tp ns < 256 ∧ 13 + (lgs.length + opnN wr tp ns) + (rs.flatMap encR).length ≤ 2043 ∧ S + opnN wr tp ns < 2 ^ 31
theorem LgI.far {H H' : aH} {B bb S : Nat} {rs : List aR} {ns : List Nat} {lgs : List Nat} {fr ff : Nat} {wr : Bool} {tp : Nat} {us : Nat → Bool} {c : Nat → Int8} {P1 : Nat} {gs : List aSg} (h : LgI H B bb S rs ns lgs fr ff wr tp us c P1 gs) (hf : ∀ a, (71 ≤ a ∧ a < 74) ∨ (83 ≤ a ∧ a < 136) ∨ a = 140 ∨ a = 191 → H'[a]? = H[a]?) : LgI H' B bb S rs ns lgs fr ff wr tp us c P1 gs := by
  obtain ⟨⟨fr0, ff0, gs0, h1, h1'⟩, h2⟩ := h
  exact ⟨⟨fr0, ff0, gs0, h1.far hf, h1'⟩, h2⟩
theorem Dk.page {H : aH} {B bb S : Nat} {lgs : List Nat} {fr ff : Nat} {wr : Bool} {tp : Nat} {rs : List aR} {us : Nat → Bool} {c : Nat → Int8} {P0 fr0 ff0 : Nat} {lgs0 : List Nat} {rs0 : List aR} (h : Dk H B bb S lgs fr ff wr tp rs us c P0 fr0 ff0 lgs0 rs0) (hl : ∃ pg, H[191]? = some (kB 2048 pg)) (pg : Nat → Int8) : Dk (H.set 191 (kB 2048 pg)) B bb S lgs fr ff wr tp rs us c P0 fr0 ff0 lgs0 rs0 := by
  obtain ⟨tf, pq, ms, mt, sq, tu, h1, h2, h3, h4, h5, h6, h7, h8, ⟨g1, h9⟩, ⟨g2, h10⟩, h11⟩ := h
  obtain ⟨g3, hl⟩ := hl
  exact ⟨tf, pq, ms, mt, sq, tu, h1.far (fun a a1 a2 a3 => set_far (by omega)), h2.far (fun a a1 a2 => set_far (by omega)), h3, h4, h5, h6, h7, h8, ⟨g1, (set_far (by decide)).trans h9⟩, ⟨g2, (set_far (by decide)).trans h10⟩, ⟨pg, get_set hl⟩⟩
theorem LgI.page {H : aH} {B bb S : Nat} {rs : List aR} {ns : List Nat} {lgs : List Nat} {fr ff : Nat} {wr : Bool} {tp : Nat} {us : Nat → Bool} {c : Nat → Int8} {P1 : Nat} {gs : List aSg} (h : LgI H B bb S rs ns lgs fr ff wr tp us c P1 gs) (pg : Nat → Int8) : LgI (H.set 191 (kB 2048 pg)) B bb S rs ns lgs fr ff wr tp us c P1 gs := by
  obtain ⟨⟨fr0, ff0, gs0, h1, h1'⟩, h2⟩ := h
  refine ⟨⟨fr0, ff0, gs0, h1.page ?_ pg, h1'⟩, h2⟩
  obtain ⟨tf, pq, ms, mt, sq, tu, -, -, -, -, -, -, -, -, -, -, h11⟩ := h1
  exact h11
theorem LsOk.logs {B : Nat} {lgs : List Nat} {rs : List aR} (h : LsOk B lgs rs) : lgs.Nodup := (List.nodup_append.mp h.2.2).1
set_option maxRecDepth 20000 in
theorem re_openG {sc : Nat × (Nat → Int32)} {d P mp hv n : Nat} {H : aH} {B bb S : Nat} {rs : List aR} {ns : List Nat} {lgs : List Nat} {fr ff : Nat} {wr : Bool} {tp : Nat} {us : Nat → Bool} {c : Nat → Int8} {P1 : Nat} {gs : List aSg} (h : LgI H B bb S rs (n :: ns) lgs fr ff wr tp us c P1 gs) (hn : ¬ (wr = true ∧ n ≤ 2048 - tp)) (hn2 : n ≤ 2048) (hG : H[190]? = some (kO 4 (logF mp hv))) (hB : B ≤ 128) (hB1 : 3 ≤ B) (hbb : bb % 2 ^ 32 < 2 ^ 31) (hP : P < 2 ^ 31) : RO sc d P H (fun H' => ∃ b c' us', usedB lgs rs b = false ∧ b < B ∧ LgI H' B bb (S + 1) rs (n :: ns) (lgs ++ [b]) (fr + 1) (if fr = 0 then 0 else ff) true 0 us' c' P (gs ++ [(b, 0, [])]) ∧ opnN true 0 (n :: ns) + 1 = opnN wr tp (n :: ns) ∧ (∀ q, 4096 ≤ q → ¬ q / 2048 = b → c' q = c q) ∧ ∀ a, ¬ (71 ≤ a ∧ a < 74) → ¬ (83 ≤ a ∧ a < 88) → H'[a]? = H[a]?) (fun H' => ∃ c' fr0 ff0 gs0, ff0 ≤ 2048 ∧ Dd H' B bb S c' P1 fr0 ff0 lgs rs ∧ FrC c' lgs fr0 ff0 gs0 ∧ gs0.flatMap flG = gs.flatMap flG ∧ (∀ q, Tl lgs rs wr tp q → c' q = c q) ∧ ∀ a, ¬ (71 ≤ a ∧ a < 74) → ¬ (83 ≤ a ∧ a < 88) → H'[a]? = H[a]?) := by
  obtain ⟨⟨fr0, ff0, gs0, h1, hf1, hf2, hf3, hf4⟩, h2, h3, h4, h5, h6, h7, h8, h9, h10, h11⟩ := h
  have ho : opnN wr tp (n :: ns) = 1 + opnN true n ns := by rw [opnN, if_neg hn]
  have ho2 : opnN true 0 (n :: ns) = opnN true n ns := by rw [opnN, if_pos ⟨rfl, by omega⟩, Nat.zero_add]
  rw [ho] at h7 h8 h9 h10 h11
  refine (re_openD (d := d) h1 h2 (fun b hb e => by rw [← h3 b hb]; exact e) hG hB hB1 hbb (by omega) hP (by omega) (by omega) (by omega) (by omega) (by rw [freeN_congr h3]; unfold frL at h7; omega)).mono ?_ ?_
  · rintro H' ⟨b, c', us', y1, y2, y3, y4, y5, y6, y7⟩
    have hu : usedB lgs rs b = false := by rw [← h3 b y1]; exact y2
    have hff := frL_app y1 hu
    have u1 := (usedB_lg hu).1
    refine ⟨b, c', us', hu, y1, ⟨⟨_, _, _, y4, (FrW.opn h4.1 (fun q hq => y5 q (by have := (h2.1 _ hq).1; omega) (fun e => by rw [e] at hq; exact (usedB_lg hu).2.1 hq)) y6).1, rfl, fun _ => ⟨rfl, rfl, rfl⟩, by split <;> omega⟩, h2.app y1 hu, y3, FrW.opn h4.1 (fun q hq => y5 q ?_ ?_) y6, by omega, by split <;> omega, ?_, ?_, ?_, ?_, ?_⟩, by omega, y5, y7⟩
    · have := (h2.1 _ hq).1
      omega
    · intro e
      rw [e] at hq
      exact (usedB_lg hu).2.1 hq
    · rw [ho2]; omega
    · rw [ho2, List.length_append, List.length_singleton]; omega
    · rw [ho2]; omega
    · rw [ho2, List.length_append, List.length_singleton]; omega
    · rw [ho2]; omega
  · rintro H' ⟨b, c', y1, y2, y3, y4, y5⟩
    have hu : usedB lgs rs b = false := by rw [← h3 b y1]; exact y2
    have u1 := (usedB_lg hu).1
    have hne : ∀ q, usedB lgs rs (q / 2048) = true → ¬ q / 2048 = b := fun q hq e => by rw [e, hu] at hq; exact Bool.noConfusion hq
    refine ⟨c', fr0, ff0, gs0, hf4, y3, hf1.far (fun q hq => y4 q ?_ (hne q (usedB_iff.mpr (Or.inr (Or.inl hq))))), hf2, fun q hq => y4 q hq.1 (hne q hq.2.1), y5⟩
    have := (h2.1 _ hq).1
    omega
set_option maxRecDepth 20000 in
theorem re_appG {sc : Nat × (Nat → Int32)} {d mp hv n : Nat} {H : aH} {B bb S : Nat} {rs : List aR} {ns : List Nat} {lgs : List Nat} {fr ff : Nat} {wr : Bool} {tp : Nat} {us : Nat → Bool} {c : Nat → Int8} {P1 : Nat} {gs : List aSg} {pg : Nat → Int8} {r : aRd} (h : LgI H B bb S rs (n :: ns) lgs fr ff wr tp us c P1 gs) (hw : wr = true ∧ n ≤ 2048 - tp) (hG : H[190]? = some (kO 4 (logF mp hv))) (hB : B ≤ 128) (hbb : bb % 2 ^ 32 < 2 ^ 31) (hp : H[191]? = some (kB 2048 pg)) (hr : LOk r) (hn : n = (encL r).length) (hl : sl (numF pg (n - 1) 1 (nI 90) 1) 0 n = encL r) : ∃ b, lgs[lgs.length - 1]? = some b ∧ 2 ≤ b ∧ b < B ∧ RE sc (d + 2) mr_148 [.ref 191, .int (nI n)] H (fun H' => ∃ c' gs', LgI H' B (dk bb) S rs ns lgs fr ff wr (tp + n) us c' P1 gs' ∧ gs'.flatMap flG = gs.flatMap flG ++ [(b * 2048 + tp, r)] ∧ WrP c c' (b * 2048 + tp) (encL r) ∧ ∀ a, ¬ (71 ≤ a ∧ a < 74) → a ≠ 191 → a ≠ 83 → H'[a]? = H[a]?) (fun H' => ∃ c', Dd H' B bb S c' P1 fr ff lgs rs ∧ FrC c' lgs fr ff gs ∧ (∀ q, Tl lgs rs wr tp q → c' q = c q) ∧ ∀ a, ¬ (71 ≤ a ∧ a < 74) → a ≠ 191 → H'[a]? = H[a]?) := by
  obtain ⟨⟨fr0, ff0, gs0, h1, hf1, hf2, hf3, hf4⟩, h2, h3, h4, h5, h6, h7, h8, h9, h10, h11⟩ := h
  obtain ⟨q1, q2, q3⟩ := hf3 hw.1
  rw [q1, q2] at h1
  have ho : opnN wr tp (n :: ns) = opnN wr (tp + n) ns := by rw [opnN, if_pos hw]
  rw [ho] at h7 h8 h9 h10 h11
  obtain ⟨hF, hE⟩ := h4
  obtain ⟨gi, s, g1, g2, g3⟩ := hE hw.1
  have hF0 := hF
  rw [g1] at hF
  obtain ⟨hb, -⟩ := hF.last
  have hm := h2.1 s.1 (List.mem_of_getElem? hb)
  refine ⟨s.1, hb, hm.1, hm.2, ?_⟩
  have hw2 := hw.2
  refine (re_appD (d := d) (r := r) h1 hw.1 hG hB hbb hp hb hm.1 hm.2 hn (by omega) hl).mono ?_ ?_
  · rintro H' ⟨c', y1, y2, y3⟩
    have hfw := FrW.app hF h2.logs g2 g3 y2 hr (by omega)
    rw [← hn] at hfw
    refine ⟨c', _, ⟨⟨_, _, _, y1, hfw.1, rfl, fun _ => ⟨rfl, rfl, rfl⟩, h6⟩, h2, h3, by rw [hw.1]; exact hfw, by omega, h6, h7, h8, h9, h10, h11⟩, ?_, y2, y3⟩
    rw [g1, List.flatMap_append, List.flatMap_append, List.append_assoc]
    congr 1
    rw [List.flatMap_cons, List.flatMap_nil, List.flatMap_cons, List.flatMap_nil, List.append_nil, List.append_nil]
    show adL (s.1 * 2048 + s.2.1) (s.2.2 ++ [r]) = adL (s.1 * 2048 + s.2.1) s.2.2 ++ _
    rw [adL_app]
    have e : s.2.1 + lenL s.2.2 = tp := g2
    show _ ++ [(s.1 * 2048 + s.2.1 + lenL s.2.2, r)] = _
    rw [show s.1 * 2048 + s.2.1 + lenL s.2.2 = s.1 * 2048 + tp by omega]
  · rintro H' ⟨c', k, y1, y2, y3, y4⟩
    refine ⟨c', y2, ?_, ?_, y4⟩
    · rw [g1]
      exact hF.torn h2.logs g2 g3 y3 y1 hr (by omega)
    · have hlt : ((encL r).take k).length = k := by rw [List.length_take]; omega
      intro q hq
      rw [hw.1] at hq
      exact hq.wr hb y3 (by rw [hlt]; omega)
/-- the record of a change, and the mark behind a change -/
def recE (m : Nat) (e : aE) : aRd := ((match e.2 with | none => 2 | some _ => 1), e.1, (e.2.getD []).length, m, e.2.getD [])
def doneR (n m : Nat) : aRd := (3, [], n, m, [])
theorem recE_len {m : Nat} {e : aE} : (encL (recE m e)).length = eLen e + 9 := by
  rw [encL_len]
  show 9 + e.1.length + (e.2.getD []).length = e.1.length + (e.2.getD []).length + 9
  omega
theorem recE_ok {m : Nat} {e : aE} (h1 : e.1.length ≤ 41) (h2 : (e.2.getD []).length < 65536) (hm : m < 2 ^ 31) : LOk (recE m e) := by
  obtain ⟨k, v⟩ := e
  cases v with
  | none => exact ⟨by show 1 ≤ 2; omega, by show 2 ≤ 4; omega, h1, h2, hm, rfl, fun e => absurd e (by show ¬ 2 = 3; omega)⟩
  | some l => exact ⟨by show 1 ≤ 1; omega, by show 1 ≤ 4; omega, h1, h2, hm, rfl, fun e => absurd e (by show ¬ 1 = 3; omega)⟩
theorem doneR_ok {n m : Nat} (hn : n < 65536) (hm : m < 2 ^ 31) : LOk (doneR n m) := ⟨by show 1 ≤ 3; omega, by show 3 ≤ 4; omega, Nat.zero_le _, hn, hm, rfl, fun _ => rfl⟩
/-- the records of a change, with their places -/
def adB (m : Nat) (Q : Nat → Nat) : Nat → List aE → List (Nat × aRd)
  | _, [] => []
  | j, e :: ws => (Q j, recE m e) :: adB m Q (j + 1) ws
theorem adB_snoc {m : Nat} {Q : Nat → Nat} {e : aE} : ∀ (ws : List aE) (j : Nat), adB m Q j (ws ++ [e]) = adB m Q j ws ++ [(Q (j + ws.length), recE m e)]
  | [], j => rfl
  | w :: ws, j => by
    show (Q j, recE m w) :: adB m Q (j + 1) (ws ++ [e]) = (Q j, recE m w) :: (adB m Q (j + 1) ws ++ [(Q (j + (ws.length + 1)), recE m e)])
    rw [adB_snoc ws (j + 1), show j + 1 + ws.length = j + (ws.length + 1) by omega]
theorem adB_congr {m : Nat} {Q Q' : Nat → Nat} : ∀ (ws : List aE) (j : Nat), (∀ i, j ≤ i → i < j + ws.length → Q' i = Q i) → adB m Q' j ws = adB m Q j ws
  | [], j, _ => rfl
  | w :: ws, j, h => by
    show (Q' j, recE m w) :: adB m Q' (j + 1) ws = (Q j, recE m w) :: adB m Q (j + 1) ws
    rw [List.length_cons] at h
    rw [h j (Nat.le_refl _) (by omega), adB_congr ws (j + 1) (fun i h1 h2 => h i (by omega) (by omega))]
/-- the sizes of a change's records -/
def szW (ws : List aE) : List Nat := ws.map (fun e => eLen e + 9) ++ [9]
theorem szW_drop {ws : List aE} {i : Nat} {e : aE} (h : ws[i]? = some e) : szW (ws.drop i) = (eLen e + 9) :: szW (ws.drop (i + 1)) := by
  have hi := get_lt h
  rw [List.drop_eq_getElem_cons hi]
  rw [List.getElem?_eq_getElem hi] at h
  rw [Option.some.inj h]
  rfl
/-- a log that has taken the records xs since it was lgs, gs, cf; ns: the sizes of those that are to come -/
def StI (B bb S P P1 : Nat) (rs : List aR) (lgs : List Nat) (wr : Bool) (tp : Nat) (cf : Nat → Int8) (gs : List aSg) (M : Nat) (ns : List Nat) (xs : List (Nat × aRd)) (H : aH) (lgs1 l1 : List Nat) (fr1 ff1 : Nat) (wr1 : Bool) (tp1 : Nat) (us1 : Nat → Bool) (c1 : Nat → Int8) (P2 : Nat) (gs1 : List aSg) : Prop := LgI H B (dkN xs.length bb) (S + l1.length) rs ns lgs1 fr1 ff1 wr1 tp1 us1 c1 P2 gs1 ∧ lgs1 = lgs ++ l1 ∧ l1.length + opnN wr1 tp1 ns = M ∧ (P2 = P1 ∨ P2 = P) ∧ gs1.flatMap flG = gs.flatMap flG ++ xs ∧ ∀ q, Tl lgs rs wr tp q → Tl lgs1 rs wr1 tp1 q ∧ c1 q = cf q
/-- the power failed meanwhile -/
def StB (B bb S P P1 : Nat) (rs : List aR) (lgs : List Nat) (wr : Bool) (tp : Nat) (cf : Nat → Int8) (gs : List aSg) (M : Nat) (xs : List (Nat × aRd)) (H : aH) : Prop := ∃ c1 lgs1 l1 fr1 ff1 P2 gs1, ff1 ≤ 2048 ∧ Dd H B bb (S + M) c1 P2 fr1 ff1 lgs1 rs ∧ LsOk B lgs1 rs ∧ FrC c1 lgs1 fr1 ff1 gs1 ∧ lgs1 = lgs ++ l1 ∧ l1.length ≤ M ∧ (P2 = P1 ∨ P2 = P) ∧ gs1.flatMap flG = gs.flatMap flG ++ xs ∧ ∀ q, Tl lgs rs wr tp q → c1 q = cf q
theorem StI.far {B bb S P P1 : Nat} {rs : List aR} {lgs : List Nat} {wr : Bool} {tp : Nat} {cf : Nat → Int8} {gs : List aSg} {M : Nat} {ns : List Nat} {xs : List (Nat × aRd)} {H H' : aH} {lgs1 l1 : List Nat} {fr1 ff1 : Nat} {wr1 : Bool} {tp1 : Nat} {us1 : Nat → Bool} {c1 : Nat → Int8} {P2 : Nat} {gs1 : List aSg} (h : StI B bb S P P1 rs lgs wr tp cf gs M ns xs H lgs1 l1 fr1 ff1 wr1 tp1 us1 c1 P2 gs1) (hf : ∀ a, (71 ≤ a ∧ a < 74) ∨ (83 ≤ a ∧ a < 136) ∨ a = 140 ∨ a = 191 → H'[a]? = H[a]?) : StI B bb S P P1 rs lgs wr tp cf gs M ns xs H' lgs1 l1 fr1 ff1 wr1 tp1 us1 c1 P2 gs1 := ⟨h.1.far hf, h.2⟩
theorem StI.page {B bb S P P1 : Nat} {rs : List aR} {lgs : List Nat} {wr : Bool} {tp : Nat} {cf : Nat → Int8} {gs : List aSg} {M : Nat} {ns : List Nat} {xs : List (Nat × aRd)} {H : aH} {lgs1 l1 : List Nat} {fr1 ff1 : Nat} {wr1 : Bool} {tp1 : Nat} {us1 : Nat → Bool} {c1 : Nat → Int8} {P2 : Nat} {gs1 : List aSg} (h : StI B bb S P P1 rs lgs wr tp cf gs M ns xs H lgs1 l1 fr1 ff1 wr1 tp1 us1 c1 P2 gs1) (pg : Nat → Int8) : StI B bb S P P1 rs lgs wr tp cf gs M ns xs (H.set 191 (kB 2048 pg)) lgs1 l1 fr1 ff1 wr1 tp1 us1 c1 P2 gs1 := ⟨h.1.page pg, h.2⟩
theorem StI.lay {B bb S P P1 : Nat} {rs : List aR} {lgs : List Nat} {wr : Bool} {tp : Nat} {cf : Nat → Int8} {gs : List aSg} {M : Nat} {ns : List Nat} {xs : List (Nat × aRd)} {H : aH} {lgs1 l1 : List Nat} {fr1 ff1 : Nat} {wr1 : Bool} {tp1 : Nat} {us1 : Nat → Bool} {c1 : Nat → Int8} {P2 : Nat} {gs1 : List aSg} (h : StI B bb S P P1 rs lgs wr tp cf gs M ns xs H lgs1 l1 fr1 ff1 wr1 tp1 us1 c1 P2 gs1) : (∃ ms mt sq tu lg, LayAt H (layF B lgs1.length fr1 ff1 wr1 tp1 rs.length ms mt sq tu 0 0) B us1 lg ∧ (∀ i b, lgs1[i]? = some b → lg i = b) ∧ lgs1.length ≤ B) ∧ tp1 ≤ 2048 ∧ ∃ pg, H[191]? = some (kB 2048 pg) := by
  obtain ⟨⟨⟨fr0, ff0, gs0, ⟨tf, pq, ms, mt, sq, tu, h1, h2, h3, h4, h5, h6, h7, h8, h9, h10, h11⟩, -⟩, k2, k3, k4, k5, k6⟩, -⟩ := h
  obtain ⟨lg, pi, hY, hlg, hlc, hR⟩ := h1
  exact ⟨⟨ms, mt, sq, tu, lg, hY, hlg, hlc⟩, k5, h11⟩
theorem re_openS {sc : Nat × (Nat → Int32)} {d mp hv n : Nat} {B bb S P P1 : Nat} {rs : List aR} {lgs : List Nat} {wr : Bool} {tp : Nat} {cf : Nat → Int8} {gs : List aSg} {M : Nat} {ns : List Nat} {xs : List (Nat × aRd)} {H : aH} {lgs1 l1 : List Nat} {fr1 ff1 : Nat} {wr1 : Bool} {tp1 : Nat} {us1 : Nat → Bool} {c1 : Nat → Int8} {P2 : Nat} {gs1 : List aSg} (h : StI B bb S P P1 rs lgs wr tp cf gs M (n :: ns) xs H lgs1 l1 fr1 ff1 wr1 tp1 us1 c1 P2 gs1) (hn : ¬ (wr1 = true ∧ n ≤ 2048 - tp1)) (hn2 : n ≤ 2048) (hG : H[190]? = some (kO 4 (logF mp hv))) (hB : B ≤ 128) (hB1 : 3 ≤ B) (hbb : bb % 2 ^ 32 < 2 ^ 31) (hP : P < 2 ^ 31) : RO sc d P H (fun H' => ∃ lgs2 l2 fr2 ff2 us2 c2 gs2, StI B bb S P P1 rs lgs wr tp cf gs M (n :: ns) xs H' lgs2 l2 fr2 ff2 true 0 us2 c2 P gs2 ∧ ∀ a, ¬ (71 ≤ a ∧ a < 74) → ¬ (83 ≤ a ∧ a < 88) → H'[a]? = H[a]?) (fun H' => StB B bb S P P1 rs lgs wr tp cf gs M xs H' ∧ ∀ a, ¬ (71 ≤ a ∧ a < 74) → ¬ (83 ≤ a ∧ a < 88) → H'[a]? = H[a]?) := by
  obtain ⟨h1, h2, h3, h4, h5, h6⟩ := h
  refine (re_openG (d := d) h1 hn hn2 hG hB hB1 (by rw [dkN_mod]; exact hbb) hP).mono ?_ ?_
  · rintro H' ⟨b, c', us', y1, y2, y3, y4, y5, y6⟩
    refine ⟨lgs1 ++ [b], l1 ++ [b], fr1 + 1, (if fr1 = 0 then 0 else ff1), us', c', gs1 ++ [(b, 0, [])], ⟨?_, by rw [h2, List.append_assoc], ?_, Or.inr rfl, ?_, fun q hq => ?_⟩, y6⟩
    · rw [List.length_append, List.length_singleton, ← Nat.add_assoc]
      exact y3
    · rw [List.length_append, List.length_singleton]
      omega
    · rw [List.flatMap_append, h5, List.append_assoc]
      show gs.flatMap flG ++ (xs ++ [(b, 0, [])].flatMap flG) = _
      rw [show [(b, 0, [])].flatMap flG = [] from rfl, List.append_nil]
    · obtain ⟨k1, k2⟩ := h6 q hq
      obtain ⟨k3, k4⟩ := k1.opn y1
      exact ⟨k3, (y5 q k1.1 k4).trans k2⟩
  · rintro H' ⟨c', fr0, ff0, gs0, y0, y1, y2, y2', y3, y4⟩
    exact ⟨⟨c', lgs1, l1, fr0, ff0, P2, gs0, y0, y1.un.le (by omega), h1.2.1, y2, h2, by omega, h4, y2'.trans h5, fun q hq => (y3 q (h6 q hq).1).trans (h6 q hq).2⟩, y4⟩
theorem re_appS {sc : Nat × (Nat → Int32)} {d mp hv n : Nat} {B bb S P P1 : Nat} {rs : List aR} {lgs : List Nat} {wr : Bool} {tp : Nat} {cf : Nat → Int8} {gs : List aSg} {M : Nat} {ns : List Nat} {xs : List (Nat × aRd)} {H : aH} {lgs1 l1 : List Nat} {fr1 ff1 : Nat} {wr1 : Bool} {tp1 : Nat} {us1 : Nat → Bool} {c1 : Nat → Int8} {P2 : Nat} {gs1 : List aSg} {pg : Nat → Int8} {r : aRd} (h : StI B bb S P P1 rs lgs wr tp cf gs M (n :: ns) xs H lgs1 l1 fr1 ff1 wr1 tp1 us1 c1 P2 gs1) (hw : wr1 = true ∧ n ≤ 2048 - tp1) (hG : H[190]? = some (kO 4 (logF mp hv))) (hB : B ≤ 128) (hbb : bb % 2 ^ 32 < 2 ^ 31) (hp : H[191]? = some (kB 2048 pg)) (hr : LOk r) (hn : n = (encL r).length) (hl : sl (numF pg (n - 1) 1 (nI 90) 1) 0 n = encL r) : ∃ b, lgs1[lgs1.length - 1]? = some b ∧ 2 ≤ b ∧ b < B ∧ RE sc (d + 2) mr_148 [.ref 191, .int (nI n)] H (fun H' => ∃ c2 gs2, StI B bb S P P1 rs lgs wr tp cf gs M ns (xs ++ [(b * 2048 + tp1, r)]) H' lgs1 l1 fr1 ff1 wr1 (tp1 + n) us1 c2 P2 gs2 ∧ ∀ a, ¬ (71 ≤ a ∧ a < 74) → a ≠ 191 → a ≠ 83 → H'[a]? = H[a]?) (fun H' => StB B bb S P P1 rs lgs wr tp cf gs M xs H' ∧ ∀ a, ¬ (71 ≤ a ∧ a < 74) → a ≠ 191 → H'[a]? = H[a]?) := by
  obtain ⟨h1, h2, h3, h4, h5, h6⟩ := h
  obtain ⟨b, b1, b2, b3, hA⟩ := re_appG (sc := sc) (d := d) h1 hw hG hB (by rw [dkN_mod]; exact hbb) hp hr hn hl
  have ho : opnN wr1 tp1 (n :: ns) = opnN wr1 (tp1 + n) ns := by rw [opnN, if_pos hw]
  refine ⟨b, b1, b2, b3, hA.mono ?_ ?_⟩
  · rintro H' ⟨c', gs', y1, y2, y3, y4⟩
    refine ⟨c', gs', ⟨by rw [List.length_append, List.length_singleton]; exact y1, h2, by omega, h4, by rw [y2, h5, List.append_assoc], fun q hq => ?_⟩, y4⟩
    obtain ⟨k1, k2⟩ := h6 q hq
    have hw2 := hw.2
    have hel := encL_len r
    rw [hw.1] at k1 ⊢
    exact ⟨k1.app, (k1.wr b1 y3 (by omega)).trans k2⟩
  · rintro H' ⟨c', y1, y2, y3, y4⟩
    exact ⟨⟨c', lgs1, l1, fr1, ff1, P2, gs1, h1.2.2.2.2.2.1, y1.un.le (by omega), h1.2.1, y2, h2, by omega, h4, h5, fun q hq => (y3 q (h6 q hq).1).trans (h6 q hq).2⟩, y4⟩
theorem rec_page {pg D : Nat → Int8} {kd s m n : Nat} {k v : List Nat} (hkd : kd < 256) (hk : k.length < 256) (hv : v.length < 65536) (hm : m < 2 ^ 31) (hn : n = k.length + v.length) (hs : sl D s n = k ++ v) : sl (numF (cpy D s (hdF pg kd k.length v.length m) 8 n) (n + 9 - 1) 1 (nI 90) 1) 0 (n + 9) = encL (kd, k, v.length, m, v) := by
  have e : encL (kd, k, v.length, m, v) = ([kd, k.length] ++ (beB 2 v.length ++ beB 4 m)) ++ ((k ++ v) ++ [90]) := by
    unfold encL
    show [kd] ++ ([k.length] ++ (beB 2 v.length ++ (beB 4 m ++ ((k ++ v) ++ [90])))) = ([kd] ++ [k.length] ++ (beB 2 v.length ++ beB 4 m)) ++ ((k ++ v) ++ [90])
    simp only [List.append_assoc]
  rw [e, show n + 9 - 1 = 0 + 8 + n by omega, show n + 9 = 8 + (n + 1) by omega]
  refine sl_join ?_ (sl_join ?_ ?_)
  · rw [sl_numF_out (by omega), sl_cpy_out (by omega), hdF_sl hkd hk hv hm]
  · rw [sl_numF_out (by omega), show 0 + 8 = 8 from rfl, sl_cpy, hs]
  · rw [sl_numF (by omega) (by omega), beB1 (by omega)]
theorem done_page {pg : Nat → Int8} {m n : Nat} (hn : n < 65536) (hm : m < 2 ^ 31) : sl (numF (hdF pg 3 0 n m) (9 - 1) 1 (nI 90) 1) 0 9 = encL (doneR n m) := by
  have e : encL (doneR n m) = ([3, 0] ++ (beB 2 n ++ beB 4 m)) ++ [90] := by
    unfold encL doneR
    show [3] ++ ([0] ++ (beB 2 n ++ (beB 4 m ++ [90]))) = ([3] ++ [0] ++ (beB 2 n ++ beB 4 m)) ++ [90]
    simp only [List.append_assoc]
  rw [e, show (9 : Nat) - 1 = 0 + 8 from rfl, show (9 : Nat) = 8 + 1 from rfl]
  refine sl_join ?_ ?_
  · rw [sl_numF_out (by omega), hdF_sl (by omega) (by omega) hn hm]
  · rw [sl_numF (by omega) (by omega), beB1 (by omega)]
