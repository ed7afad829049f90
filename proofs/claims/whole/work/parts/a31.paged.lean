/-! ===== a page of a table being written goes out, whatever is in it; class; written by wip/gen/paged.py ===== -/
/-- a table is being written: what the chip, the layout and the draft hold -/
def DrI (H : aH) (B : Nat) (lgs : List Nat) (fr ff : Nat) (wr : Bool) (tp : Nat) (rs : List aR) (ms mt sq : Nat) (us : Nat → Bool) (cf : Nat → Int8) (tf : Nat → Nat) (bb r lm gm : Nat) (us1 : Nat → Bool) (tu1 : Nat) (c : Nat → Int8) (tf1 : Nat → Nat) (pq1 : Option Nat) (x : aR) (pg : Nat → Int8) (bf : Nat) (es : List aT) : Prop := DP cf c B us us1 x pg bf es ∧ ChipAt H B c tf1 pq1 bb 0 ∧ (PQ bb pq1) ∧ (∀ j, ¬ j ∈ x.2.2.2 → tf1 j = tf j) ∧ RunIs H r x ∧ LayIs H B lgs fr ff wr tp rs ms mt sq tu1 us1 ∧ tu1 ≤ 128 ∧ freeN us1 B + x.2.2.2.length = freeN us B ∧ H[136]? = some (kO 8 (tabF lm bf gm)) ∧ H[140]? = some (kB 2099 pg) ∧ ∃ Q, H[84]? = some (kQ 5 24 Q) ∧ Q rs.length = some r
theorem DrI.far {H H' : aH} {B : Nat} {lgs : List Nat} {fr ff : Nat} {wr : Bool} {tp : Nat} {rs : List aR} {ms mt sq : Nat} {us : Nat → Bool} {cf : Nat → Int8} {tf : Nat → Nat} {bb r lm gm : Nat} {us1 : Nat → Bool} {tu1 : Nat} {c : Nat → Int8} {tf1 : Nat → Nat} {pq1 : Option Nat} {x : aR} {pg : Nat → Int8} {bf : Nat} {es : List aT} (h : DrI H B lgs fr ff wr tp rs ms mt sq us cf tf bb r lm gm us1 tu1 c tf1 pq1 x pg bf es) (hr : 88 ≤ r ∧ r < 135) (hs : ∀ a, 71 ≤ a → a < 137 → ¬ (74 ≤ a ∧ a < 83) → a ≠ 85 → H'[a]? = H[a]?) (h140 : H'[140]? = H[140]?) : DrI H' B lgs fr ff wr tp rs ms mt sq us cf tf bb r lm gm us1 tu1 c tf1 pq1 x pg bf es := by
  obtain ⟨h1, h2, h3, h4, h5, h6, h7, h8, h9, h10, Q, h11, h12⟩ := h
  exact ⟨h1, h2.far (fun a a1 a2 => hs a (by omega) (by omega) (by omega) (by omega)), h3, h4, h5.far (hs _ (by omega) (by omega) (by omega) (by omega)) (hs _ (by omega) (by omega) (by omega) (by omega)), h6.far (fun a a1 a2 a3 => hs a (by omega) (by omega) (by omega) a3), h7, h8, (hs _ (by omega) (by omega) (by omega) (by omega)).trans h9, h140.trans h10, Q, (hs _ (by omega) (by omega) (by omega) (by omega)).trans h11, h12⟩
/-- the blocks that were used are as they were -/
theorem DP.old {c0 c : Nat → Int8} {B : Nat} {us0 us : Nat → Bool} {x : aR} {pg : Nat → Int8} {bf : Nat} {es : List aT} (h : DP c0 c B us0 us x pg bf es) {q : Nat} (hq : us0 (q / 2048) = true) : c q = c0 q := by
  obtain ⟨h1, h2, h3, h4, h5, h6, h7, h8⟩ := h
  exact h8 q (fun e => by have := (h6 _ e).2; rw [hq] at this; cases this)
theorem DP.free {c0 c : Nat → Int8} {B : Nat} {us0 us : Nat → Bool} {x : aR} {pg : Nat → Int8} {bf : Nat} {es : List aT} (h : DP c0 c B us0 us x pg bf es) {b : Nat} (hb : us b = false) : us0 b = false := by
  obtain ⟨h1, h2, h3, h4, h5, h6, h7, h8⟩ := h
  have := h7 b
  rw [hb] at this
  cases e : us0 b with
  | false => rfl
  | true => rw [e] at this; cases this
theorem RunIs.ent {H : aH} {r : Nat} {x : aR} (h : RunIs H r x) : RunIs (H.set r (kO 6 [.ref (r + 1 + 1), .int (nI x.2.2.2.length), .int (nI x.1), .int (nI x.2.1), .int (nI (x.2.2.1 + 1))])) r (x.1, x.2.1, x.2.2.1 + 1, x.2.2.2) := by
  obtain ⟨f, h1, h2, h3, h4⟩ := h
  exact ⟨f, get_set h1, (set_far (by omega)).trans h2, h3, h4⟩
theorem LayIs.pass {H : aH} {B : Nat} {lgs : List Nat} {fr ff : Nat} {wr : Bool} {tp : Nat} {rs : List aR} {ms mt sq tu : Nat} {us : Nat → Bool} (h : LayIs H B lgs fr ff wr tp rs ms mt sq tu us) : ∃ lg, LayAt H (layF B lgs.length fr ff wr tp rs.length ms mt sq tu 0 0) B us lg ∧ LayIs (H.set 83 (kO 3 (layF B lgs.length (if wr then 1 else 0) (if wr then tp else 0) wr tp rs.length ms mt sq tu 0 0))) B lgs (if wr then 1 else 0) (if wr then tp else 0) wr tp rs ms mt sq tu us := by
  obtain ⟨lg, pi, hY, hlg, hlc, hR⟩ := h
  exact ⟨lg, hY, lg, pi, ⟨get_set hY.1, (set_far (by decide)).trans hY.2.1, (set_far (by decide)).trans hY.2.2⟩, hlg, hlc, hR.far2 (set_far (by decide)) (fun a a1 a2 => set_far (by omega))⟩
theorem rc_pageOut0 {sc : Nat × (Nat → Int32)} {d r lm gm : Nat} {H : aH} (h1 : H[136]? = some (kO 8 (tabF lm 0 gm))) : RC sc d mr_102 [.ref 137, .ref (r + 1)] H (.inl none) H 0 0 := by
  refine RP.blk 1 (pc' := 1) (lv' := [(0, .ref 137), (1, .ref (r + 1))]) (st' := [.ref 137]) (H' := _) (kc' := 0) (ks' := 0) rfl ?_
  refine RP.get (ci := 8) rfl h1 rfl rfl ?_
  refine RP.blk 2 (pc' := 10) (lv' := [(0, .ref 137), (1, .ref (r + 1))]) (st' := [.int (if 2048 < nI 0 then 2048 else nI 0)]) (H' := _) (kc' := 0) (ks' := 0) rfl ?_
  rw [show (if 2048 < nI 0 then 2048 else nI 0 : Int32) = nI (min 0 2048) from minI (a := 0) (b := 2048) (by omega) (by omega)]
  refine RP.blk 2 (pc' := 12) (lv' := [(2, .int (nI (min 0 2048))), (0, .ref 137), (1, .ref (r + 1))]) (st' := [.int (nI (min 0 2048))]) (H' := _) (kc' := 0) (ks' := 0) rfl ?_
  refine RP.brF rfl rfl rfl (by rw [show min 0 2048 = 0 from rfl]; exact cF_gt 0 0) ?_
  exact RP.done (c := 0) (s := 0) rfl rfl rfl rfl
set_option maxRecDepth 20000 in
theorem re_pageD {sc : Nat × (Nat → Int32)} {d : Nat} {H : aH} {B : Nat} {lgs : List Nat} {fr ff : Nat} {wr : Bool} {tp : Nat} {rs : List aR} {ms mt sq : Nat} {us : Nat → Bool} {cf : Nat → Int8} {tf : Nat → Nat} {bb r lm gm : Nat} {us1 : Nat → Bool} {tu1 : Nat} {c : Nat → Int8} {tf1 : Nat → Nat} {pq1 : Option Nat} {x : aR} {pg : Nat → Int8} {bf : Nat} {es : List aT} (h : DrI H B lgs fr ff wr tp rs ms mt sq us cf tf bb r lm gm us1 tu1 c tf1 pq1 x pg bf es) (hB : B ≤ 128) (hbb : bb % 2 ^ 32 < 2 ^ 31) (hB1 : 1 ≤ B) (hl30 : ∀ x ∈ lgs, x < 2 ^ 30) (hi30 : ∀ x ∈ rs, ∀ y ∈ x.2.2.2, y < 2 ^ 30) (hfr : ∀ b, b < B → us b = false → usesL lgs rs b = 0) (hrl : rs.length < 24) (hr1 : 88 ≤ r) (hr2 : r < 135) (hbf : bf ≤ 2099) (hT1 : (es.flatMap encE).length ≤ 2048 * freeN us B) (hT2 : (es.flatMap encE).length ≤ 131072) (hxn : x.2.2.2.length * 2048 < x.2.1 + 2048) : RE sc (d + 3) mr_102 [.ref 137, .ref (r + 1)] H (fun H' => ∃ us1' tu1' c' tf1' pq1' x' pg', DrI H' B lgs fr ff wr tp rs ms mt sq us cf tf bb r lm gm us1' tu1' c' tf1' pq1' x' pg' (bf - min bf 2048) es ∧ x'.1 = x.1 ∧ (2048 ≤ bf → x'.2.1 = x'.2.2.2.length * 2048) ∧ x'.2.2.2.length * 2048 < x'.2.1 + 2048 ∧ ∀ a, ¬ (71 ≤ a ∧ a < 74) → a ≠ 83 → a ≠ 86 → a ≠ r → a ≠ r + 1 → ¬ (a = 136 ∨ a = 140) → H'[a]? = H[a]?) (fun H' => ∃ c' tf', ChipDn H' B c' tf' bb ∧ (∀ q, us (q / 2048) = true → c' q = cf q) ∧ (∃ tu us', tu ≤ 128 ∧ LayIs H' B lgs fr ff wr tp rs ms mt sq tu us') ∧ ∀ a, ¬ (71 ≤ a ∧ a < 74) → ¬ (a = 83 ∨ a = 86) → H'[a]? = H[a]?) := by
  have h0 := h
  obtain ⟨h1, h2, h3, h4, h5, h6, h7, h8, h9, h10, Q, h11, h12⟩ := h
  by_cases hb0 : bf = 0
  · subst hb0
    refine Or.inl ⟨H, rc_pageOut0 h9, us1, tu1, c, tf1, pq1, x, pg, h0, rfl, fun e => by omega, hxn, fun _ _ _ _ _ _ _ => rfl⟩
  have hby := h1.bytes
  have hxf := h1.2.2.1 (by omega)
  have hid : x.2.2.2.length < 64 := by omega
  have hfree : 1 ≤ freeN us1 B := by omega
  refine (re_pageOut (d := d) (n := min bf 2048) h6 hB h9 h10 h2 hbb h3 hB1 h7 hl30 hi30 (fun b hb hu => hfr b hb (h1.free hu)) (free_ex hfree) h11 h12 hrl h5 hr1 hr2 hid rfl (by omega) hbf).mono ?_ ?_
  · rintro H' ⟨b, hb, hub, a1, ⟨tf', pq', a2, a3, a4⟩, ⟨pg', a5, a6⟩, a7, a8, a9⟩
    have hft := free_take hb hub
    refine ⟨_, _, _, tf', pq', _, pg', ⟨h1.page rfl (by omega) hb hub a6, a2, a4, fun j hj => ?_, a1, a8, by omega, ?_, a7, a5, Q, (a9 84 (by decide) (by decide) (by decide) (by omega) (by omega) (by decide)).trans h11, h12⟩, rfl, fun e => ?_, ?_, fun a b1 b2 b3 b4 b5 b6 => a9 a b1 b2 b3 b4 b5 b6⟩
    · rw [a3 j (fun e => hj (List.mem_append.mpr (Or.inr (List.mem_singleton.mpr e))))]
      exact h4 j (fun e => hj (List.mem_append.mpr (Or.inl e)))
    · show freeN (va_up us1 b true) B + (x.2.2.2 ++ [b]).length = _
      rw [List.length_append]
      show freeN (va_up us1 b true) B + (x.2.2.2.length + 1) = _
      omega
    · show x.2.1 + min bf 2048 = (x.2.2.2 ++ [b]).length * 2048
      rw [List.length_append]
      show x.2.1 + min bf 2048 = (x.2.2.2.length + 1) * 2048
      omega
    · show (x.2.2.2 ++ [b]).length * 2048 < x.2.1 + min bf 2048 + 2048
      rw [List.length_append]
      show (x.2.2.2.length + 1) * 2048 < x.2.1 + min bf 2048 + 2048
      omega
  · rintro H' ⟨b, c', tf', hb, hub, a1, a2, a3, a4⟩
    refine ⟨c', tf', a2, fun q hq => ?_, ⟨_, _, by omega, a3⟩, a4⟩
    have hub0 := h1.free hub
    rw [a1 q (fun e => by rw [e] at hq; rw [hq] at hub0; cases hub0)]
    exact h1.old hq
/-- the entry that tells of a version -/
def entV (v : aV) : aT := (v.1, v.2.1, (if v.2.2.2.1 = none then 0 else v.2.2.1), v.2.2.2.1)
/-- the entries of what is known in memory alone -/
def aloneE (vs : List aV) : List aT := (vs.filter (fun v => v.2.2.2.2)).map entV
theorem aloneE_app {a b : List aV} : aloneE (a ++ b) = aloneE a ++ aloneE b := by
  unfold aloneE
  rw [List.filter_append, List.map_append]
theorem aloneE_T {vs : List aV} {p : Nat} {v : aV} (h : vs[p]? = some v) (hv : v.2.2.2.2 = true) : aloneE (vs.take (p + 1)) = aloneE (vs.take p) ++ [entV v] := by
  rw [take_get h, aloneE_app]
  congr 1
  unfold aloneE
  rw [List.filter_cons, if_pos hv]
  rfl
theorem aloneE_F {vs : List aV} {p : Nat} {v : aV} (h : vs[p]? = some v) (hv : ¬ v.2.2.2.2 = true) : aloneE (vs.take (p + 1)) = aloneE (vs.take p) := by
  rw [take_get h, aloneE_app]
  have : aloneE [v] = [] := by
    unfold aloneE
    rw [List.filter_cons, if_neg hv]
    rfl
  rw [this, List.append_nil]
theorem aloneE_le {vs : List aV} {p : Nat} : ((aloneE (vs.take p)).flatMap encE).length ≤ ((aloneE vs).flatMap encE).length := by
  conv => rhs; rw [← List.take_append_drop p vs, aloneE_app, List.flatMap_append, List.length_append]
  omega
theorem aloneE_len {vs : List aV} : (aloneE vs).length ≤ vs.length := by
  unfold aloneE
  rw [List.length_map]
  exact List.length_filter_le _ _
theorem aloneE_ok {vs : List aV} (h : ∀ v ∈ vs, 1 ≤ v.1.length ∧ v.1.length ≤ 41 ∧ v.2.1 < 2 ^ 30 ∧ v.2.2.1 < 2 ^ 24 ∧ v.2.2.2.1.getD 0 ≤ 2048) : ∀ e ∈ aloneE vs, EOk e := by
  intro e he
  obtain ⟨v, hv, rfl⟩ := List.mem_map.mp he
  obtain ⟨a1, a2, a3, a4, a5⟩ := h v (List.mem_filter.mp hv).1
  refine ⟨a1, a2, a3, ?_, a5, fun e => ?_⟩
  · show (if v.2.2.2.1 = none then 0 else v.2.2.1) < 2 ^ 24
    split <;> omega
  · exact if_pos e
