/-! ===== the records of a log are moved; class; written by wip/gen/clear.py ===== -/
theorem ite_iff {p q : Prop} [Decidable p] [Decidable q] {α : Type} {a b : α} (h : p ↔ q) : (if p then a else b) = if q then a else b := by
  by_cases hp : p
  · rw [if_pos hp, if_pos (h.mp hp)]
  · rw [if_neg hp, if_neg (fun e => hp (h.mpr e))]
/-- whether a version's value lies in the block, or in any -/
def inB (blk : Option Nat) (v : aV) : Bool := decide (v.2.2.2.1 ≠ none ∧ (blk = none ∨ blk = some (v.2.2.1 / 2048)))
def szV (v : aV) : Nat := 9 + v.1.length + v.2.2.2.1.getD 0
/-- the sizes of the records that are to be moved -/
def mvS (blk : Option Nat) (vs : List aV) : List Nat := (vs.filter (inB blk)).map szV
/-- where versions lie behind it -/
def mvV (blk : Option Nat) (Q : Nat → Nat) (i : Nat) (v : aV) : aV := if inB blk v = true then (v.1, v.2.1, Q i, v.2.2.2.1, true) else v
def mvL (blk : Option Nat) (Q : Nat → Nat) : Nat → List aV → List aV
  | _, [] => []
  | i, v :: vs => mvV blk Q i v :: mvL blk Q (i + 1) vs
def mvR (c : Nat → Int8) (v : aV) : aRd := (4, v.1, v.2.2.2.1.getD 0, v.2.1, valB c v)
def mvX (c : Nat → Int8) (blk : Option Nat) (Q : Nat → Nat) : Nat → List aV → List (Nat × aRd)
  | _, [] => []
  | i, v :: vs => (if inB blk v = true then [(Q i, mvR c v)] else []) ++ mvX c blk Q (i + 1) vs
theorem mvX_snoc {c : Nat → Int8} {blk : Option Nat} {Q : Nat → Nat} {v : aV} : ∀ (vs : List aV) (i : Nat), mvX c blk Q i (vs ++ [v]) = mvX c blk Q i vs ++ (if inB blk v = true then [(Q (i + vs.length), mvR c v)] else [])
  | [], i => by show _ ++ [] = [] ++ _; rw [List.append_nil, List.nil_append]; rfl
  | w :: vs, i => by
    show _ ++ mvX c blk Q (i + 1) (vs ++ [v]) = (_ ++ mvX c blk Q (i + 1) vs) ++ (if inB blk v = true then [(Q (i + (vs.length + 1)), mvR c v)] else [])
    rw [mvX_snoc vs (i + 1), List.append_assoc, show i + 1 + vs.length = i + (vs.length + 1) by omega]
theorem mvX_congr {c : Nat → Int8} {blk : Option Nat} {Q Q' : Nat → Nat} : ∀ (vs : List aV) (i : Nat), (∀ j, i ≤ j → j < i + vs.length → Q' j = Q j) → mvX c blk Q' i vs = mvX c blk Q i vs
  | [], i, _ => rfl
  | w :: vs, i, h => by
    rw [List.length_cons] at h
    show (if inB blk w = true then [(Q' i, mvR c w)] else []) ++ mvX c blk Q' (i + 1) vs = (if inB blk w = true then [(Q i, mvR c w)] else []) ++ mvX c blk Q (i + 1) vs
    rw [h i (Nat.le_refl _) (by omega), mvX_congr vs (i + 1) (fun j h1 h2 => h j (by omega) (by omega))]
theorem mvL_len {blk : Option Nat} {Q : Nat → Nat} : ∀ (vs : List aV) (i : Nat), (mvL blk Q i vs).length = vs.length
  | [], _ => rfl
  | v :: vs, i => by show (mvL blk Q (i + 1) vs).length + 1 = _; rw [mvL_len vs]; rfl
theorem mvL_get {blk : Option Nat} {Q : Nat → Nat} : ∀ {vs : List aV} {i j : Nat} {v : aV}, vs[j]? = some v → (mvL blk Q i vs)[j]? = some (mvV blk Q (i + j) v)
  | [], i, j, v, h => by rw [List.getElem?_nil] at h; cases h
  | w :: vs, i, 0, v, h => by
    have h : w = v := Option.some.inj h
    show some (mvV blk Q i w) = some (mvV blk Q (i + 0) v)
    rw [h, Nat.add_zero]
  | w :: vs, i, j + 1, v, h => by
    show (mvL blk Q (i + 1) vs)[j]? = _
    rw [mvL_get (i := i + 1) (j := j) h, show i + 1 + j = i + (j + 1) by omega]
theorem mvS_drop {blk : Option Nat} {vs : List aV} {p : Nat} {v : aV} (h : vs[p]? = some v) : mvS blk (vs.drop p) = if inB blk v = true then szV v :: mvS blk (vs.drop (p + 1)) else mvS blk (vs.drop (p + 1)) := by
  unfold mvS
  rw [filter_drop h]
  split <;> rfl
theorem mvS_take {blk : Option Nat} {vs : List aV} {p : Nat} {v : aV} (h : vs[p]? = some v) : (mvS blk (vs.take (p + 1))).sum = (mvS blk (vs.take p)).sum + (if inB blk v = true then szV v else 0) := by
  unfold mvS
  rw [List.take_add_one, h]
  show (List.map szV (List.filter (inB blk) (vs.take p ++ [v]))).sum = _
  rw [List.filter_append, List.map_append, List.sum_append, List.filter_cons, List.filter_nil]
  split
  · rw [List.map_cons, List.map_nil, List.sum_singleton]
  · rfl
theorem RecW.far2 {c c' : Nat → Int8} {lgs lgs' : List Nat} {v v' : aV} (h : RecW c lgs v) (h1 : v'.1 = v.1) (h2 : v'.2.1 = v.2.1) (h3 : v'.2.2.1 = v.2.2.1) (h4 : v'.2.2.2.1 = v.2.2.2.1) (hc : ∀ n, v.2.2.2.1 = some n → ∀ q, v.2.2.1 ≤ q → q < v.2.2.1 + (9 + v.1.length + n) → c' q = c q) (hl : v.2.2.2.1 ≠ none → v.2.2.1 / 2048 ∈ lgs') : RecW c' lgs' v' ∧ (v.2.2.2.1 ≠ none → valB c' v' = valB c v) := by
  have hval : ∀ n, v.2.2.2.1 = some n → valB c' v' = valB c v := fun n hn => by
    unfold valB
    rw [h1, h3, h4, hn]
    exact sl_congr n _ _ (fun q hq => hc n hn _ (by omega) (by omega))
  refine ⟨fun n hn => ?_, fun e => ?_⟩
  · rw [h4] at hn
    obtain ⟨⟨kd, k1, k2⟩, a2, a3⟩ := h n hn
    refine ⟨⟨kd, k1, ?_⟩, by rw [h3, h1]; exact a2, by rw [h3]; exact hl (by rw [hn]; exact Option.some_ne_none _)⟩
    rw [h1, h2, h3, hval n hn, ← k2]
    exact sl_congr _ _ _ (fun q hq => hc n hn _ (by omega) (by omega))
  · cases hn : v.2.2.2.1 with
    | none => exact absurd hn e
    | some n => exact hval n hn
/-- and below the top of the log that is written -/
def RecX (c : Nat → Int8) (lgs : List Nat) (wr : Bool) (tp : Nat) (v : aV) : Prop := RecW c lgs v ∧ (wr = true → ∀ n, v.2.2.2.1 = some n → lgs[lgs.length - 1]? = some (v.2.2.1 / 2048) → v.2.2.1 % 2048 + 9 + v.1.length + n ≤ tp)
theorem RecX.tl {c : Nat → Int8} {lgs : List Nat} {wr : Bool} {tp B : Nat} {rs : List aR} {v : aV} {n : Nat} (h : RecX c lgs wr tp v) (hO : LsOk B lgs rs) (hn : v.2.2.2.1 = some n) : ∀ q, v.2.2.1 ≤ q → q < v.2.2.1 + (9 + v.1.length + n) → Tl lgs rs wr tp q := fun q q1 q2 => by
  obtain ⟨-, a2, a3⟩ := h.1 n hn
  have hq : q / 2048 = v.2.2.1 / 2048 := by omega
  have h2 := (hO.1 _ a3).1
  refine ⟨by omega, by rw [hq]; exact usedB_iff.mpr (Or.inr (Or.inl a3)), fun e => ?_⟩
  have := h.2 e.1 n hn (by rw [← hq]; exact e.2.1)
  have := e.2.2
  omega
theorem RecW.far {c c' : Nat → Int8} {lgs lgs' : List Nat} {v v' : aV} (h : RecW c lgs v) (h1 : v'.1 = v.1) (h2 : v'.2.1 = v.2.1) (h3 : v'.2.2.1 = v.2.2.1) (h4 : v'.2.2.2.1 = v.2.2.2.1) (hc : ∀ q, q / 2048 = v.2.2.1 / 2048 → c' q = c q) (hl : ∀ x ∈ lgs, x ∈ lgs') : RecW c' lgs' v' ∧ (v.2.2.2.1 ≠ none → valB c' v' = valB c v) := by
  have hval : ∀ n, v.2.2.2.1 = some n → valB c' v' = valB c v := fun n hn => by
    obtain ⟨-, a2, -⟩ := h n hn
    unfold valB
    rw [h1, h3, h4, hn]
    exact sl_congr n _ _ (fun q hq => hc _ (by omega))
  refine ⟨fun n hn => ?_, fun e => ?_⟩
  · rw [h4] at hn
    obtain ⟨⟨kd, k1, k2⟩, a2, a3⟩ := h n hn
    refine ⟨⟨kd, k1, ?_⟩, by rw [h3, h1]; exact a2, by rw [h3]; exact hl _ a3⟩
    rw [h1, h2, h3, hval n hn, ← k2]
    exact sl_congr _ _ _ (fun q hq => hc _ (by omega))
  · cases hn : v.2.2.2.1 with
    | none => exact absurd hn e
    | some n => exact hval n hn
theorem RecX.tlu {c : Nat → Int8} {lgs : List Nat} {wr : Bool} {tp B : Nat} {rs : List aR} {us : Nat → Bool} {v : aV} {n : Nat} (h : RecX c lgs wr tp v) (hO : LsOk B lgs rs) (hu : ∀ b ∈ lgs, us b = true) (hn : v.2.2.2.1 = some n) : ∀ q, v.2.2.1 ≤ q → q < v.2.2.1 + (9 + v.1.length + n) → TlU us lgs wr tp q := fun q q1 q2 => by
  obtain ⟨-, a2, a3⟩ := h.1 n hn
  have hq : q / 2048 = v.2.2.1 / 2048 := by omega
  have h2 := (hO.1 _ a3).1
  refine ⟨by omega, by rw [hq]; exact hu _ a3, fun e => ?_⟩
  have := h.2 e.1 n hn (by rw [← hq]; exact e.2.1)
  have := e.2.2
  omega
set_option maxRecDepth 20000 in
theorem re_moveOut {sc : Nat × (Nat → Int32)} {d mp hv N due : Nat} {blk : Option Nat} {bv : Int32} {H : aH} {B bb S : Nat} {rs : List aR} {lgs : List Nat} {fr ff : Nat} {wr : Bool} {tp : Nat} {us : Nat → Bool} {c : Nat → Int8} {gs : List aSg} {P0 fr0 ff0 : Nat} {lgs0 : List Nat} {rs0 : List aR} {base : List (Nat × aRd)} {Y : Prop} {vs : List aV} (hV : VersIs H N vs) (hI : MvI H B bb S rs (mvS blk vs) lgs fr ff wr tp us c gs P0 fr0 ff0 lgs0 rs0 base Y) (hR : ∀ v ∈ vs, RecX c lgs wr tp v) (hbv : (blk = none ∧ bv = -1) ∨ ∃ b, blk = some b ∧ bv = nI b ∧ b < 2 ^ 30) (hdue : (mvS blk vs).sum ≤ due) (hd31 : due < 2 ^ 31) (hG : H[190]? = some (kO 4 (logF mp hv))) (hB : B ≤ 128) (hB1 : 3 ≤ B) (hbb : bb % 2 ^ 32 < 2 ^ 31) : RE sc (d + 4) mr_146 [.ref 191, .int bv, .int (nI due)] H (fun H' => ∃ Q lgs1 l1 fr1 ff1 wr1 tp1 us1 c1 gs1, VersIs H' N (mvL blk Q 0 vs) ∧ (∀ j v, vs[j]? = some v → inB blk v = true → Q j < B * 2048 ∧ (Q j / 2048 ∈ l1 ∨ (wr = true ∧ lgs[lgs.length - 1]? = some (Q j / 2048)))) ∧ (wr1 = true → ∀ x, lgs1[lgs1.length - 1]? = some x → (x ∈ l1 ∨ (wr = true ∧ lgs[lgs.length - 1]? = some (x)))) ∧ MvS B bb S rs us lgs wr tp c gs P0 fr0 ff0 lgs0 rs0 base Y (opnN wr tp (mvS blk vs)) ([]) (mvX c blk Q 0 vs) H' lgs1 l1 fr1 ff1 wr1 tp1 us1 c1 gs1 ∧ ∀ a, ¬ (71 ≤ a ∧ a < 88) → a ≠ 191 → H'[a]? = H[a]?) (fun H' => (∃ vs', VersIs H' N vs') ∧ MvB B bb S us lgs wr tp c P0 fr0 ff0 lgs0 rs0 base Y H' ∧ ∀ a, ¬ (71 ≤ a ∧ a < 88) → a ≠ 191 → H'[a]? = H[a]?) := by
  obtain ⟨kf, kl, mo, pl, le, al, od, sp, sz, ss, ac, hA, hW, hvs⟩ := hV
  have hN := hW.1.1
  have hszN := hW.1.2.1
  have hsz : vs.length = sz := by rw [hvs]; unfold vsL; rw [List.length_map, List.length_range]
  have hO := hI.2.1
  have hus : ∀ b ∈ lgs, us b = true := fun b hb => used_us hI.2.2.2.1 (hO.1 b hb).2 (Or.inl (usedB_iff.mpr (Or.inr (Or.inl hb))))
  have hve : ∀ j, j < sz → vs[j]? = some (verO kf kl mo pl le al (od j)) := fun j hj => by rw [hvs]; exact vsL_get hj
  have hmix : ∀ Q pl1 al1 p, p ≤ sz → (∀ j, j < sz → pl1 (od j) = (if j < p ∧ (inB blk (verO kf kl mo pl le al (od j)) = true) then Q j else pl (od j)) ∧ al1 (od j) = (if j < p ∧ (inB blk (verO kf kl mo pl le al (od j)) = true) then true else al (od j))) → vsL kf kl mo pl1 le al1 od sz = mvL blk Q 0 (vs.take p) ++ vs.drop p := fun Q pl1 al1 p hp hpa => by
    refine List.ext_getElem? (fun j => ?_)
    by_cases hj : j < sz
    · rw [vsL_get hj]
      obtain ⟨e1, e2⟩ := hpa j hj
      have e0 : verO kf kl mo pl1 le al1 (od j) = (sl kf (od j * 41) (kl (od j)), mo (od j), pl1 (od j), le (od j), al1 (od j)) := rfl
      by_cases hjp : j < p
      · rw [List.getElem?_append_left (by rw [mvL_len, List.length_take]; omega), mvL_get (v := verO kf kl mo pl le al (od j)) (by rw [List.getElem?_take_of_lt hjp]; exact hve j hj), Nat.zero_add, e0, e1, e2]
        unfold mvV
        by_cases hs : (inB blk (verO kf kl mo pl le al (od j)) = true)
        · rw [if_pos ⟨hjp, hs⟩, if_pos ⟨hjp, hs⟩, if_pos hs]
          rfl
        · rw [if_neg (fun e => hs e.2), if_neg (fun e => hs e.2), if_neg hs]
          rfl
      · rw [List.getElem?_append_right (by rw [mvL_len, List.length_take]; omega), mvL_len, List.length_take, Nat.min_eq_left (by omega), List.getElem?_drop, show p + (j - p) = j by omega, hve j hj, e0, e1, e2, if_neg (fun e => hjp e.1), if_neg (fun e => hjp e.1)]
        rfl
    · rw [List.getElem?_eq_none (by unfold vsL; rw [List.length_map, List.length_range]; omega), List.getElem?_eq_none (by rw [List.length_append, mvL_len, List.length_take, List.length_drop]; omega)]
  refine RE.of ?_
  refine RQ.blk 4 (pc' := 5) (lv' := [(4, .int 0), (3, .int 0), (0, .ref 191), (1, .int bv), (2, .int (nI due))]) (st' := []) (H' := _) (kc' := 0) (ks' := 0) rfl ?_
  refine RQ.while (S := Nat) (pc := 5) (fun p H' => ∃ Q pl1 al1 ac1 lgs1 l1 fr1 ff1 wr1 tp1 us1 c1 gs1, p ≤ sz ∧ VersAt H' N kf kl mo pl1 le al1 od sp sz ss ac1 ∧ VersWf N kf kl mo pl1 le al1 od sp sz ss ac1 ∧ (∀ j, j < sz → pl1 (od j) = (if j < p ∧ (inB blk (verO kf kl mo pl le al (od j)) = true) then Q j else pl (od j)) ∧ al1 (od j) = (if j < p ∧ (inB blk (verO kf kl mo pl le al (od j)) = true) then true else al (od j))) ∧ (∀ j, j < p → (inB blk (verO kf kl mo pl le al (od j)) = true) → Q j < B * 2048 ∧ (Q j / 2048 ∈ l1 ∨ (wr = true ∧ lgs[lgs.length - 1]? = some (Q j / 2048)))) ∧ (wr1 = true → ∀ x, lgs1[lgs1.length - 1]? = some x → (x ∈ l1 ∨ (wr = true ∧ lgs[lgs.length - 1]? = some (x)))) ∧ MvS B bb S rs us lgs wr tp c gs P0 fr0 ff0 lgs0 rs0 base Y (opnN wr tp (mvS blk vs)) (mvS blk (vs.drop p)) (mvX c blk Q 0 (vs.take p)) H' lgs1 l1 fr1 ff1 wr1 tp1 us1 c1 gs1 ∧ ∀ a, ¬ (71 ≤ a ∧ a < 88) → a ≠ 191 → H'[a]? = H[a]?) (fun p => [(4, .int (nI p)), (3, .int (nI ((mvS blk (vs.take p)).sum))), (0, .ref 191), (1, .int bv), (2, .int (nI due))]) (fun p => sz - p) ?_ 0 H ⟨fun _ => 0, pl, al, ac, lgs, [], fr, ff, wr, tp, us, c, gs, Nat.zero_le _, hA, hW, fun j hj => ⟨(if_neg (fun e => Nat.not_lt_zero _ e.1)).symm, (if_neg (fun e => Nat.not_lt_zero _ e.1)).symm⟩, fun j hj _ => absurd hj (Nat.not_lt_zero _), fun e x hx => Or.inr ⟨e, hx⟩, ⟨by rw [List.drop_zero]; exact hI, (List.append_nil _).symm, by rw [List.drop_zero]; exact Nat.zero_add _, (List.append_nil _).symm, fun q hq => ⟨hq, rfl⟩, rfl, fun _ e => e⟩, fun a _ _ => rfl⟩
  rintro p H1 ⟨Q, pl1, al1, ac1, lgs1, l1, fr1, ff1, wr1, tp1, us1, c1, gs1, hp, hA1, hW1, hpa, hQ, hbw1, hS, f1⟩ ih
  obtain ⟨⟨ms1, mt1, sq1, tu1, lg1, hY, hlg, hlc⟩, htp1, -⟩ := hS.lay
  have hG1 := (f1 190 (by decide) (by decide)).trans hG
  by_cases hps : p < sz
  ·
    have hod := hW.1.2.2.2.1 p hps
    have hso := hW.1.2.2.2.2.2 _ hod
    have hvp := hve p hps
    obtain ⟨hpl, hal⟩ := hpa p hps
    rw [if_neg (fun e => Nat.lt_irrefl _ e.1)] at hpl hal
    have hRv := hR _ (List.mem_of_getElem? hvp)
    have htk : (vs.take p).length = p := by rw [List.length_take]; omega
    have hst := mvS_take (blk := blk) hvp
    have hdr := mvS_drop (blk := blk) hvp
    have hte : vs.take (p + 1) = vs.take p ++ [verO kf kl mo pl le al (od p)] := by rw [List.take_add_one, hvp]; rfl
    refine RQ.blk 2 (pc' := 8) (lv' := [(4, .int (nI p)), (3, .int (nI ((mvS blk (vs.take p)).sum))), (0, .ref 191), (1, .int bv), (2, .int (nI due))]) (st' := [.ref 191, .int (nI p)]) (H' := _) (kc' := 0) (ks' := 0) rfl ?_
    refine RQ.get (ci := 4) rfl hG1 rfl rfl ?_
    refine RQ.get (ci := 10) rfl hA1.1 rfl rfl ?_
    refine RQ.brF rfl rfl rfl (cF_ge p sz) ?_
    refine RQ.blk 1 (pc' := 18) (lv' := [(4, .int (nI p)), (3, .int (nI ((mvS blk (vs.take p)).sum))), (0, .ref 191), (1, .int bv), (2, .int (nI due))]) (st' := [.ref 191]) (H' := _) (kc' := 0) (ks' := 0) rfl ?_
    refine RQ.get (ci := 4) rfl hG1 rfl rfl ?_
    refine RQ.get (ci := 10) rfl hA1.1 rfl rfl ?_
    refine RQ.blk 1 (pc' := 26) (lv' := [(4, .int (nI p)), (3, .int (nI ((mvS blk (vs.take p)).sum))), (0, .ref 191), (1, .int bv), (2, .int (nI due))]) (st' := [.int (nI p), .ref 82]) (H' := _) (kc' := 0) (ks' := 0) rfl ?_
    refine RQ.ialdN (j := p) rfl hA1.2.2.2.2.2.2.2.1 (by omega) (by omega) ?_
    refine RQ.blk 2 (pc' := 30) (lv' := [(5, .int (nI (od p))), (4, .int (nI p)), (3, .int (nI ((mvS blk (vs.take p)).sum))), (0, .ref 191), (1, .int bv), (2, .int (nI due))]) (st' := [.ref 191]) (H' := _) (kc' := 0) (ks' := 0) rfl ?_
    refine RQ.get (ci := 4) rfl hG1 rfl rfl ?_
    refine RQ.get (ci := 10) rfl hA1.1 rfl rfl ?_
    refine RQ.blk 1 (pc' := 38) (lv' := [(5, .int (nI (od p))), (4, .int (nI p)), (3, .int (nI ((mvS blk (vs.take p)).sum))), (0, .ref 191), (1, .int bv), (2, .int (nI due))]) (st' := [.int (nI (od p)), .ref 80]) (H' := _) (kc' := 0) (ks' := 0) rfl ?_
    refine RQ.ialdN (j := od p) rfl hA1.2.2.2.2.2.1 (by omega) (by omega) ?_
    cases c8 : le (od p) with
    | none =>
      refine RQ.brT rfl rfl rfl (by decide) ?_
      refine RQ.blk 1 (pc' := 181) (lv' := [(4, .int (nI p + 1)), (5, .int (nI (od p))), (3, .int (nI ((mvS blk (vs.take p)).sum))), (0, .ref 191), (1, .int bv), (2, .int (nI due))]) (st' := []) (H' := _) (kc' := 0) (ks' := 0) rfl ?_
      rw [show (nI p + 1 : Int32) = nI (p + 1) from nI_add p 1]
      refine RQ.blk 1 (pc' := 5) (lv' := [(4, .int (nI (p + 1))), (5, .int (nI (od p))), (3, .int (nI ((mvS blk (vs.take p)).sum))), (0, .ref 191), (1, .int bv), (2, .int (nI due))]) (st' := []) (H' := _) (kc' := 0) (ks' := 0) rfl ?_
      refine RQ.pick (a := [(4, .int (nI (p + 1))), (3, .int (nI ((mvS blk (vs.take p)).sum))), (0, .ref 191), (1, .int bv), (2, .int (nI due))]) [0, 2, 3, 4, 5] [4, 5, 3, 0, 1, 2] rfl rfl (by decide) ?_
      have hsel : ¬ inB blk (verO kf kl mo pl le al (od p)) = true := by
        unfold inB
        rw [decide_eq_true_iff]
        exact fun e => e.1 (show le (od p) = none from c8)
      rw [if_neg hsel] at hdr hst
      rw [hdr] at hS
      have hxs : mvX c blk Q 0 (vs.take p) = mvX c blk Q 0 (vs.take (p + 1)) := by rw [hte, mvX_snoc, if_neg hsel, List.append_nil]
      rw [hxs] at hS
      have ih := ih (p + 1) H1
      rw [hst, Nat.add_zero] at ih
      refine ih ⟨Q, pl1, al1, ac1, lgs1, l1, fr1, ff1, wr1, tp1, us1, c1, gs1, by omega, hA1, hW1, fun j hj => ?_, fun j hj hs => ?_, hbw1, hS, f1⟩ (by omega)
      · by_cases hjp : j = p
        · rw [hjp, hpl, hal, if_neg (fun e => hsel e.2), if_neg (fun e => hsel e.2)]
          exact ⟨rfl, rfl⟩
        · rw [(hpa j hj).1, (hpa j hj).2]
          have hiff : (j < p ∧ (inB blk (verO kf kl mo pl le al (od j)) = true)) ↔ (j < p + 1 ∧ (inB blk (verO kf kl mo pl le al (od j)) = true)) := ⟨fun e => ⟨by omega, e.2⟩, fun e => ⟨by omega, e.2⟩⟩
          exact ⟨ite_iff hiff, ite_iff hiff⟩
      · by_cases hjp : j = p
        · exact absurd hs (by rw [hjp]; exact hsel)
        · exact hQ j (by omega) hs
    | some kc8 =>
      rw [show lI (some kc8) = nI kc8 from rfl]
      have hkb : kc8 < 2 ^ 30 := by have h9 := hso.2.2.2; rw [c8] at h9; exact h9
      refine RQ.brF rfl rfl rfl (cF_lt kc8 0) ?_
      refine RQ.blk 2 (pc' := 44) (lv' := [(5, .int (nI (od p))), (4, .int (nI p)), (3, .int (nI ((mvS blk (vs.take p)).sum))), (0, .ref 191), (1, .int bv), (2, .int (nI due))]) (st' := [.int (-1), .int bv]) (H' := _) (kc' := 0) (ks' := 0) rfl ?_
      by_cases hbn : blk = none
      · have hbv1 : bv = -1 := by
          rcases hbv with ⟨-, e⟩ | ⟨b, e, -⟩
          · exact e
          · rw [hbn] at e; cases e
        have hsel : inB blk (verO kf kl mo pl le al (od p)) = true := by
          unfold inB
          exact decide_eq_true ⟨by show le (od p) ≠ none; rw [c8]; exact Option.some_ne_none _, Or.inl hbn⟩
        refine RQ.brT rfl rfl rfl (by rw [hbv1]; decide) ?_
        refine RQ.blk 1 (pc' := 66) (lv' := [(5, .int (nI (od p))), (4, .int (nI p)), (3, .int (nI ((mvS blk (vs.take p)).sum))), (0, .ref 191), (1, .int bv), (2, .int (nI due))]) (st' := [.ref 191]) (H' := _) (kc' := 0) (ks' := 0) rfl ?_
        refine RQ.get (ci := 4) rfl hG1 rfl rfl ?_
        refine RQ.get (ci := 10) rfl hA1.1 rfl rfl ?_
        refine RQ.blk 1 (pc' := 74) (lv' := [(5, .int (nI (od p))), (4, .int (nI p)), (3, .int (nI ((mvS blk (vs.take p)).sum))), (0, .ref 191), (1, .int bv), (2, .int (nI due))]) (st' := [.int (nI (od p)), .ref 77]) (H' := _) (kc' := 0) (ks' := 0) rfl ?_
        refine RQ.ialdN (j := od p) rfl hA1.2.2.1 (by omega) (by omega) ?_
        refine RQ.blk 1 (pc' := 76) (lv' := [(5, .int (nI (od p))), (4, .int (nI p)), (3, .int (nI ((mvS blk (vs.take p)).sum))), (0, .ref 191), (1, .int bv), (2, .int (nI due))]) (st' := [.ref 191, .int (nI (kl (od p)))]) (H' := _) (kc' := 0) (ks' := 0) rfl ?_
        refine RQ.get (ci := 4) rfl hG1 rfl rfl ?_
        refine RQ.get (ci := 10) rfl hA1.1 rfl rfl ?_
        refine RQ.blk 1 (pc' := 84) (lv' := [(5, .int (nI (od p))), (4, .int (nI p)), (3, .int (nI ((mvS blk (vs.take p)).sum))), (0, .ref 191), (1, .int bv), (2, .int (nI due))]) (st' := [.int (nI (od p)), .ref 80, .int (nI (kl (od p)))]) (H' := _) (kc' := 0) (ks' := 0) rfl ?_
        refine RQ.ialdN (j := od p) rfl hA1.2.2.2.2.2.1 (by omega) (by omega) ?_
        rw [show lI (le (od p)) = nI kc8 by rw [c8]; rfl]
        refine RQ.blk 1 (pc' := 86) (lv' := [(5, .int (nI (od p))), (4, .int (nI p)), (3, .int (nI ((mvS blk (vs.take p)).sum))), (0, .ref 191), (1, .int bv), (2, .int (nI due))]) (st' := [.int (nI (kl (od p)) + nI kc8)]) (H' := _) (kc' := 0) (ks' := 0) rfl ?_
        rw [show (nI (kl (od p)) + nI kc8 : Int32) = nI (kl (od p) + kc8) from nI_add (kl (od p)) kc8]
        refine RQ.blk 2 (pc' := 89) (lv' := [(5, .int (nI (od p))), (4, .int (nI p)), (3, .int (nI ((mvS blk (vs.take p)).sum))), (0, .ref 191), (1, .int bv), (2, .int (nI due))]) (st' := [.int (nI (kl (od p) + kc8) + 9)]) (H' := _) (kc' := 0) (ks' := 0) rfl ?_
        rw [show (nI (kl (od p) + kc8) + 9 : Int32) = nI (kl (od p) + kc8 + 9) from nI_add (kl (od p) + kc8) 9]
        refine RQ.blk 2 (pc' := 92) (lv' := [(6, .int (nI (kl (od p) + kc8 + 9))), (5, .int (nI (od p))), (4, .int (nI p)), (3, .int (nI ((mvS blk (vs.take p)).sum))), (0, .ref 191), (1, .int bv), (2, .int (nI due))]) (st' := [.ref 191]) (H' := _) (kc' := 0) (ks' := 0) rfl ?_
        refine RQ.get (ci := 4) rfl hG1 rfl rfl ?_
        refine RQ.blk 1 (pc' := 97) (lv' := [(6, .int (nI (kl (od p) + kc8 + 9))), (5, .int (nI (od p))), (4, .int (nI p)), (3, .int (nI ((mvS blk (vs.take p)).sum))), (0, .ref 191), (1, .int bv), (2, .int (nI due))]) (st' := [.int (nI (kl (od p) + kc8 + 9)), .ref 84]) (H' := _) (kc' := 0) (ks' := 0) rfl ?_
        rw [if_pos hsel] at hdr hst
        have hszv : szV (verO kf kl mo pl le al (od p)) = 9 + kl (od p) + kc8 := by unfold szV; show 9 + (sl kf (od p * 41) (kl (od p))).length + (le (od p)).getD 0 = _; rw [sl_length, c8]; rfl
        rw [hszv] at hdr hst
        rw [hdr] at hS
        obtain ⟨-, hfitR, -⟩ := hRv.1 kc8 c8
        have hfitR : pl (od p) % 2048 + 9 + (sl kf (od p * 41) (kl (od p))).length + kc8 ≤ 2048 := hfitR
        rw [sl_length] at hfitR
        rw [show kl (od p) + kc8 + 9 = 9 + kl (od p) + kc8 by omega]
        refine RQ.call (v := some (.int (if wr1 = true ∧ 9 + kl (od p) + kc8 ≤ 2048 - tp1 then 1 else 0))) (st' := []) rfl rfl rfl rfl rfl rfl (args_v [.int (nI (9 + kl (od p) + kc8))] [] rfl rfl (Nat.le_of_ble_eq_true rfl) rfl hY.1 (Nat.le_of_ble_eq_true rfl)) (rc_fits (n := 9 + kl (od p) + kc8) hY hB htp1 (by omega)) ?_
        by_cases hft : wr1 = true ∧ 9 + kl (od p) + kc8 ≤ 2048 - tp1
        · rw [if_pos hft]
          refine RQ.brT rfl rfl rfl (by decide) ?_
          have hnn : (verO kf kl mo pl le al (od p)).2.2.2.1 = some kc8 := c8
          have hRF := hRv.1.far2 (c' := c1) (lgs' := lgs1) (v' := verO kf kl mo pl1 le al1 (od p)) rfl rfl hpl rfl (fun n9 hn9 q q1 q2 => (hS.2.2.2.2.1 q (hRv.tlu hO hus hn9 q q1 q2)).2) (fun hx => by rw [hS.2.1]; exact List.mem_append.mpr (Or.inl (hRv.1 _ hnn).2.2))
          have hval := hRF.2 (by rw [hnn]; exact Option.some_ne_none _)
          refine RQ.pick (a := [(6, .int (nI (9 + kl (od p) + kc8))), (5, .int (nI (od p))), (4, .int (nI p)), (3, .int (nI ((mvS blk (vs.take p)).sum))), (0, .ref 191), (1, .int bv), (2, .int (nI due))]) [0, 1, 2, 3, 4, 5, 6] [6, 5, 4, 3, 0, 1, 2] rfl rfl (by decide) ?_
          refine rq_move (d := d + 1) (p := p) (n := kc8) hA1 hW1 hps c8 (by omega) hS hft hRF.1 hG1 hB hbb ?_ ?_
          rotate_left
          · intro H9 z1 z2 z3
            exact Or.inr ⟨_, rfl, ⟨_, _, _, _, _, _, _, _, _, _, _, _, z2, hW1, rfl⟩, z1, fun a a1 a2 => (z3 a (by omega) a2).trans (f1 a a1 a2)⟩
          intro H3 bn c3 gs3 hb2 hbB hbl3 hS3 hA3 hW3 f3
          have f4 : ∀ a, ¬ (71 ≤ a ∧ a < 88) → a ≠ 191 → H3[a]? = H[a]? := fun a a1 a2 => (f3 a (by omega) a2).trans (f1 a a1 a2)
          rw [hval] at hS3
          have hG3 := (f4 190 (by decide) (by decide)).trans hG
          refine RQ.blk 3 (pc' := 177) (lv' := [(7, .int (nI (bn * 2048 + tp1))), (6, .int (nI (9 + kl (od p) + kc8))), (5, .int (nI (od p))), (4, .int (nI p)), (3, .int (nI ((mvS blk (vs.take p)).sum))), (0, .ref 191), (1, .int bv), (2, .int (nI due))]) (st' := [.int (nI ((mvS blk (vs.take p)).sum) + nI (9 + kl (od p) + kc8))]) (H' := _) (kc' := 0) (ks' := 0) rfl ?_
          rw [show (nI ((mvS blk (vs.take p)).sum) + nI (9 + kl (od p) + kc8) : Int32) = nI ((mvS blk (vs.take p)).sum + (9 + kl (od p) + kc8)) from nI_add ((mvS blk (vs.take p)).sum) (9 + kl (od p) + kc8)]
          refine RQ.blk 2 (pc' := 181) (lv' := [(4, .int (nI p + 1)), (3, .int (nI ((mvS blk (vs.take p)).sum + (9 + kl (od p) + kc8)))), (7, .int (nI (bn * 2048 + tp1))), (6, .int (nI (9 + kl (od p) + kc8))), (5, .int (nI (od p))), (0, .ref 191), (1, .int bv), (2, .int (nI due))]) (st' := []) (H' := _) (kc' := 0) (ks' := 0) rfl ?_
          rw [show (nI p + 1 : Int32) = nI (p + 1) from nI_add p 1]
          refine RQ.blk 1 (pc' := 5) (lv' := [(4, .int (nI (p + 1))), (3, .int (nI ((mvS blk (vs.take p)).sum + (9 + kl (od p) + kc8)))), (7, .int (nI (bn * 2048 + tp1))), (6, .int (nI (9 + kl (od p) + kc8))), (5, .int (nI (od p))), (0, .ref 191), (1, .int bv), (2, .int (nI due))]) (st' := []) (H' := _) (kc' := 0) (ks' := 0) rfl ?_
          refine RQ.pick (a := [(4, .int (nI (p + 1))), (3, .int (nI ((mvS blk (vs.take p)).sum + (9 + kl (od p) + kc8)))), (0, .ref 191), (1, .int bv), (2, .int (nI due))]) [0, 1, 5, 6, 7] [4, 3, 7, 6, 5, 0, 1, 2] rfl rfl (by decide) ?_
          have htpB : tp1 + (9 + kl (od p) + kc8) ≤ 2048 := by have := hft.2; omega
          have hxs : mvX c blk Q 0 (vs.take p) ++ [((bn * 2048 + tp1), (4, sl kf (od p * 41) (kl (od p)), kc8, mo (od p), valB c (verO kf kl mo pl le al (od p))))] = mvX c blk (va_up Q p (bn * 2048 + tp1)) 0 (vs.take (p + 1)) := by
            rw [hte, mvX_snoc, mvX_congr (Q' := (va_up Q p (bn * 2048 + tp1))) (Q := Q) (vs.take p) 0 (fun j j1 j2 => up_ne (by rw [htk] at j2; omega)), if_pos hsel, Nat.zero_add, htk, up_at]
            unfold mvR
            show _ = _ ++ [(_, (4, sl kf (od p * 41) (kl (od p)), (le (od p)).getD 0, mo (od p), _))]
            rw [c8]
            rfl
          rw [hxs] at hS3
          have ih := ih (p + 1) H3
          rw [hst] at ih
          refine ih ⟨(va_up Q p (bn * 2048 + tp1)), _, _, _, lgs1, l1, fr1, ff1, wr1, (tp1 + (9 + kl (od p) + kc8)), us1, c3, gs3, by omega, hA3, hW3, fun j hj => ?_, fun j hj hs => ?_, hbw1, hS3, f4⟩ (by omega)
          · by_cases hjp : j = p
            · rw [hjp, up_at, up_at, up_at, if_pos ⟨by omega, hsel⟩, if_pos ⟨by omega, hsel⟩]
              exact ⟨rfl, rfl⟩
            · have hne : ¬ od j = od p := fun e => hjp (hW.2.1 j p hj hps e)
              rw [up_ne hne, up_ne hne, up_ne hjp, (hpa j hj).1, (hpa j hj).2]
              have hiff : (j < p ∧ (inB blk (verO kf kl mo pl le al (od j)) = true)) ↔ (j < p + 1 ∧ (inB blk (verO kf kl mo pl le al (od j)) = true)) := ⟨fun e => ⟨by omega, e.2⟩, fun e => ⟨by omega, e.2⟩⟩
              exact ⟨ite_iff hiff, ite_iff hiff⟩
          · by_cases hjp : j = p
            · rw [hjp, up_at, show (bn * 2048 + tp1) / 2048 = bn by omega]
              exact ⟨by omega, hbw1 hft.1 bn hbl3⟩
            · rw [up_ne hjp]
              exact hQ j (by omega) hs
        · rw [if_neg hft]
          refine RQ.brF rfl rfl rfl (by decide) ?_
          refine RQ.blk 1 (pc' := 104) (lv' := [(6, .int (nI (9 + kl (od p) + kc8))), (5, .int (nI (od p))), (4, .int (nI p)), (3, .int (nI ((mvS blk (vs.take p)).sum))), (0, .ref 191), (1, .int bv), (2, .int (nI due))]) (st' := [.ref 191]) (H' := _) (kc' := 0) (ks' := 0) rfl ?_
          refine RQ.callT (st' := []) rfl rfl rfl rfl rfl rfl (args_v [] [] rfl rfl (Nat.le_of_ble_eq_true rfl) rfl hG1 (Nat.le_of_ble_eq_true rfl)) (re_openM (d := d) (mp := mp) (hv := hv) (n := 9 + kl (od p) + kc8) hS hft (by omega) hG1 hB hB1 hbb) rfl (fun H2 hx2 => ?_) (fun H9 hbad => Or.inr (by obtain ⟨z1, z2⟩ := hbad; exact ⟨_, rfl, ⟨_, _, _, _, _, _, _, _, _, _, _, _, hA1.far (fun a a1 a2 => z2 a (by omega) (by omega)), hW1, rfl⟩, z1, fun a a1 a2 => (z2 a (by omega) (by omega)).trans (f1 a a1 a2)⟩))
          obtain ⟨b2, c2, gs2, hS2, hub2, hbB2, z2⟩ := hx2
          have f2 : ∀ a, ¬ (71 ≤ a ∧ a < 88) → a ≠ 191 → H2[a]? = H[a]? := fun a a1 a2 => (z2 a (by omega) (by omega)).trans (f1 a a1 a2)
          have hA2 := hA1.far (H' := H2) (fun a a1 a2 => z2 a (by omega) (by omega))
          have hG2 := (f2 190 (by decide) (by decide)).trans hG
          have hft2 : true = true ∧ 9 + kl (od p) + kc8 ≤ 2048 - 0 := ⟨rfl, by omega⟩
          have hbw2 : true = true → ∀ x, (lgs1 ++ [b2])[(lgs1 ++ [b2]).length - 1]? = some x → x ∈ l1 ++ [b2] ∨ (wr = true ∧ lgs[lgs.length - 1]? = some x) := fun _ x hx => by
            rw [List.length_append, List.length_singleton, Nat.add_sub_cancel, List.getElem?_append_right (Nat.le_refl _), Nat.sub_self] at hx
            rw [← Option.some.inj hx]
            exact Or.inl (List.mem_append.mpr (Or.inr (List.mem_singleton.mpr rfl)))
          have hnn : (verO kf kl mo pl le al (od p)).2.2.2.1 = some kc8 := c8
          have hRF := hRv.1.far2 (c' := c2) (lgs' := (lgs1 ++ [b2])) (v' := verO kf kl mo pl1 le al1 (od p)) rfl rfl hpl rfl (fun n9 hn9 q q1 q2 => (hS2.2.2.2.2.1 q (hRv.tlu hO hus hn9 q q1 q2)).2) (fun hx => by rw [hS2.2.1]; exact List.mem_append.mpr (Or.inl (hRv.1 _ hnn).2.2))
          have hval := hRF.2 (by rw [hnn]; exact Option.some_ne_none _)
          refine RQ.pick (a := [(6, .int (nI (9 + kl (od p) + kc8))), (5, .int (nI (od p))), (4, .int (nI p)), (3, .int (nI ((mvS blk (vs.take p)).sum))), (0, .ref 191), (1, .int bv), (2, .int (nI due))]) [0, 1, 2, 3, 4, 5, 6] [6, 5, 4, 3, 0, 1, 2] rfl rfl (by decide) ?_
          refine rq_move (d := d + 1) (p := p) (n := kc8) hA2 hW1 hps c8 (by omega) hS2 hft2 hRF.1 hG2 hB hbb ?_ ?_
          rotate_left
          · intro H9 z1 z2 z3
            exact Or.inr ⟨_, rfl, ⟨_, _, _, _, _, _, _, _, _, _, _, _, z2, hW1, rfl⟩, z1, fun a a1 a2 => (z3 a (by omega) a2).trans (f2 a a1 a2)⟩
          intro H3 bn c3 gs3 hb2 hbB hbl3 hS3 hA3 hW3 f3
          have f4 : ∀ a, ¬ (71 ≤ a ∧ a < 88) → a ≠ 191 → H3[a]? = H[a]? := fun a a1 a2 => (f3 a (by omega) a2).trans (f2 a a1 a2)
          rw [hval] at hS3
          have hG3 := (f4 190 (by decide) (by decide)).trans hG
          refine RQ.blk 3 (pc' := 177) (lv' := [(7, .int (nI (bn * 2048 + 0))), (6, .int (nI (9 + kl (od p) + kc8))), (5, .int (nI (od p))), (4, .int (nI p)), (3, .int (nI ((mvS blk (vs.take p)).sum))), (0, .ref 191), (1, .int bv), (2, .int (nI due))]) (st' := [.int (nI ((mvS blk (vs.take p)).sum) + nI (9 + kl (od p) + kc8))]) (H' := _) (kc' := 0) (ks' := 0) rfl ?_
          rw [show (nI ((mvS blk (vs.take p)).sum) + nI (9 + kl (od p) + kc8) : Int32) = nI ((mvS blk (vs.take p)).sum + (9 + kl (od p) + kc8)) from nI_add ((mvS blk (vs.take p)).sum) (9 + kl (od p) + kc8)]
          refine RQ.blk 2 (pc' := 181) (lv' := [(4, .int (nI p + 1)), (3, .int (nI ((mvS blk (vs.take p)).sum + (9 + kl (od p) + kc8)))), (7, .int (nI (bn * 2048 + 0))), (6, .int (nI (9 + kl (od p) + kc8))), (5, .int (nI (od p))), (0, .ref 191), (1, .int bv), (2, .int (nI due))]) (st' := []) (H' := _) (kc' := 0) (ks' := 0) rfl ?_
          rw [show (nI p + 1 : Int32) = nI (p + 1) from nI_add p 1]
          refine RQ.blk 1 (pc' := 5) (lv' := [(4, .int (nI (p + 1))), (3, .int (nI ((mvS blk (vs.take p)).sum + (9 + kl (od p) + kc8)))), (7, .int (nI (bn * 2048 + 0))), (6, .int (nI (9 + kl (od p) + kc8))), (5, .int (nI (od p))), (0, .ref 191), (1, .int bv), (2, .int (nI due))]) (st' := []) (H' := _) (kc' := 0) (ks' := 0) rfl ?_
          refine RQ.pick (a := [(4, .int (nI (p + 1))), (3, .int (nI ((mvS blk (vs.take p)).sum + (9 + kl (od p) + kc8)))), (0, .ref 191), (1, .int bv), (2, .int (nI due))]) [0, 1, 5, 6, 7] [4, 3, 7, 6, 5, 0, 1, 2] rfl rfl (by decide) ?_
          have htpB : 0 + (9 + kl (od p) + kc8) ≤ 2048 := by have := hft2.2; omega
          have hxs : mvX c blk Q 0 (vs.take p) ++ [((bn * 2048 + 0), (4, sl kf (od p * 41) (kl (od p)), kc8, mo (od p), valB c (verO kf kl mo pl le al (od p))))] = mvX c blk (va_up Q p (bn * 2048 + 0)) 0 (vs.take (p + 1)) := by
            rw [hte, mvX_snoc, mvX_congr (Q' := (va_up Q p (bn * 2048 + 0))) (Q := Q) (vs.take p) 0 (fun j j1 j2 => up_ne (by rw [htk] at j2; omega)), if_pos hsel, Nat.zero_add, htk, up_at]
            unfold mvR
            show _ = _ ++ [(_, (4, sl kf (od p * 41) (kl (od p)), (le (od p)).getD 0, mo (od p), _))]
            rw [c8]
            rfl
          rw [hxs] at hS3
          have ih := ih (p + 1) H3
          rw [hst] at ih
          refine ih ⟨(va_up Q p (bn * 2048 + 0)), _, _, _, (lgs1 ++ [b2]), (l1 ++ [b2]), (fr1 + 1), (if fr1 = 0 then 0 else ff1), true, (0 + (9 + kl (od p) + kc8)), (va_up us1 b2 true), c3, gs3, by omega, hA3, hW3, fun j hj => ?_, fun j hj hs => ?_, hbw2, hS3, f4⟩ (by omega)
          · by_cases hjp : j = p
            · rw [hjp, up_at, up_at, up_at, if_pos ⟨by omega, hsel⟩, if_pos ⟨by omega, hsel⟩]
              exact ⟨rfl, rfl⟩
            · have hne : ¬ od j = od p := fun e => hjp (hW.2.1 j p hj hps e)
              rw [up_ne hne, up_ne hne, up_ne hjp, (hpa j hj).1, (hpa j hj).2]
              have hiff : (j < p ∧ (inB blk (verO kf kl mo pl le al (od j)) = true)) ↔ (j < p + 1 ∧ (inB blk (verO kf kl mo pl le al (od j)) = true)) := ⟨fun e => ⟨by omega, e.2⟩, fun e => ⟨by omega, e.2⟩⟩
              exact ⟨ite_iff hiff, ite_iff hiff⟩
          · by_cases hjp : j = p
            · rw [hjp, up_at, show (bn * 2048 + 0) / 2048 = bn by omega]
              exact ⟨by omega, hbw2 hft2.1 bn hbl3⟩
            · rw [up_ne hjp]
              exact ⟨(hQ j (by omega) hs).1, (hQ j (by omega) hs).2.imp (fun e => List.mem_append.mpr (Or.inl e)) id⟩
      · obtain ⟨bk, hbk1, hbk2, hbk3⟩ : ∃ b, blk = some b ∧ bv = nI b ∧ b < 2 ^ 30 := hbv.resolve_left (fun e => hbn e.1)
        refine RQ.brF rfl rfl rfl (by rw [hbk2]; exact decide_eq_false (nI_neg (by omega))) ?_
        refine RQ.blk 1 (pc' := 48) (lv' := [(5, .int (nI (od p))), (4, .int (nI p)), (3, .int (nI ((mvS blk (vs.take p)).sum))), (0, .ref 191), (1, .int bv), (2, .int (nI due))]) (st' := [.ref 191]) (H' := _) (kc' := 0) (ks' := 0) rfl ?_
        refine RQ.get (ci := 4) rfl hG1 rfl rfl ?_
        refine RQ.get (ci := 10) rfl hA1.1 rfl rfl ?_
        refine RQ.blk 1 (pc' := 56) (lv' := [(5, .int (nI (od p))), (4, .int (nI p)), (3, .int (nI ((mvS blk (vs.take p)).sum))), (0, .ref 191), (1, .int bv), (2, .int (nI due))]) (st' := [.int (nI (od p)), .ref 79]) (H' := _) (kc' := 0) (ks' := 0) rfl ?_
        refine RQ.ialdN (j := od p) rfl hA1.2.2.2.2.1 (by omega) (by omega) ?_
        rw [hpl]
        refine RQ.blk 2 (pc' := 61) (lv' := [(5, .int (nI (od p))), (4, .int (nI p)), (3, .int (nI ((mvS blk (vs.take p)).sum))), (0, .ref 191), (1, .int bv), (2, .int (nI due))]) (st' := [.int (nI (pl (od p)) / 2048)]) (H' := _) (kc' := 0) (ks' := 0) rfl ?_
        rw [show (nI (pl (od p)) / 2048 : Int32) = nI ((pl (od p)) / 2048) from pk_div (a := (pl (od p))) (d := 2048) (by omega) (by omega) (by omega)]
        refine RQ.blk 1 (pc' := 62) (lv' := [(5, .int (nI (od p))), (4, .int (nI p)), (3, .int (nI ((mvS blk (vs.take p)).sum))), (0, .ref 191), (1, .int bv), (2, .int (nI due))]) (st' := [.int bv, .int (nI ((pl (od p)) / 2048))]) (H' := _) (kc' := 0) (ks' := 0) rfl ?_
        by_cases hblkE : pl (od p) / 2048 = bk
        · have hsel : inB blk (verO kf kl mo pl le al (od p)) = true := by
            unfold inB
            exact decide_eq_true ⟨by show le (od p) ≠ none; rw [c8]; exact Option.some_ne_none _, Or.inr (by rw [hbk1]; exact congrArg some hblkE.symm)⟩
          refine RQ.brF rfl rfl rfl (cF_ne (pl (od p) / 2048) bk hblkE rfl hbk2) ?_
          refine RQ.blk 1 (pc' := 66) (lv' := [(5, .int (nI (od p))), (4, .int (nI p)), (3, .int (nI ((mvS blk (vs.take p)).sum))), (0, .ref 191), (1, .int bv), (2, .int (nI due))]) (st' := [.ref 191]) (H' := _) (kc' := 0) (ks' := 0) rfl ?_
          refine RQ.get (ci := 4) rfl hG1 rfl rfl ?_
          refine RQ.get (ci := 10) rfl hA1.1 rfl rfl ?_
          refine RQ.blk 1 (pc' := 74) (lv' := [(5, .int (nI (od p))), (4, .int (nI p)), (3, .int (nI ((mvS blk (vs.take p)).sum))), (0, .ref 191), (1, .int bv), (2, .int (nI due))]) (st' := [.int (nI (od p)), .ref 77]) (H' := _) (kc' := 0) (ks' := 0) rfl ?_
          refine RQ.ialdN (j := od p) rfl hA1.2.2.1 (by omega) (by omega) ?_
          refine RQ.blk 1 (pc' := 76) (lv' := [(5, .int (nI (od p))), (4, .int (nI p)), (3, .int (nI ((mvS blk (vs.take p)).sum))), (0, .ref 191), (1, .int bv), (2, .int (nI due))]) (st' := [.ref 191, .int (nI (kl (od p)))]) (H' := _) (kc' := 0) (ks' := 0) rfl ?_
          refine RQ.get (ci := 4) rfl hG1 rfl rfl ?_
          refine RQ.get (ci := 10) rfl hA1.1 rfl rfl ?_
          refine RQ.blk 1 (pc' := 84) (lv' := [(5, .int (nI (od p))), (4, .int (nI p)), (3, .int (nI ((mvS blk (vs.take p)).sum))), (0, .ref 191), (1, .int bv), (2, .int (nI due))]) (st' := [.int (nI (od p)), .ref 80, .int (nI (kl (od p)))]) (H' := _) (kc' := 0) (ks' := 0) rfl ?_
          refine RQ.ialdN (j := od p) rfl hA1.2.2.2.2.2.1 (by omega) (by omega) ?_
          rw [show lI (le (od p)) = nI kc8 by rw [c8]; rfl]
          refine RQ.blk 1 (pc' := 86) (lv' := [(5, .int (nI (od p))), (4, .int (nI p)), (3, .int (nI ((mvS blk (vs.take p)).sum))), (0, .ref 191), (1, .int bv), (2, .int (nI due))]) (st' := [.int (nI (kl (od p)) + nI kc8)]) (H' := _) (kc' := 0) (ks' := 0) rfl ?_
          rw [show (nI (kl (od p)) + nI kc8 : Int32) = nI (kl (od p) + kc8) from nI_add (kl (od p)) kc8]
          refine RQ.blk 2 (pc' := 89) (lv' := [(5, .int (nI (od p))), (4, .int (nI p)), (3, .int (nI ((mvS blk (vs.take p)).sum))), (0, .ref 191), (1, .int bv), (2, .int (nI due))]) (st' := [.int (nI (kl (od p) + kc8) + 9)]) (H' := _) (kc' := 0) (ks' := 0) rfl ?_
          rw [show (nI (kl (od p) + kc8) + 9 : Int32) = nI (kl (od p) + kc8 + 9) from nI_add (kl (od p) + kc8) 9]
          refine RQ.blk 2 (pc' := 92) (lv' := [(6, .int (nI (kl (od p) + kc8 + 9))), (5, .int (nI (od p))), (4, .int (nI p)), (3, .int (nI ((mvS blk (vs.take p)).sum))), (0, .ref 191), (1, .int bv), (2, .int (nI due))]) (st' := [.ref 191]) (H' := _) (kc' := 0) (ks' := 0) rfl ?_
          refine RQ.get (ci := 4) rfl hG1 rfl rfl ?_
          refine RQ.blk 1 (pc' := 97) (lv' := [(6, .int (nI (kl (od p) + kc8 + 9))), (5, .int (nI (od p))), (4, .int (nI p)), (3, .int (nI ((mvS blk (vs.take p)).sum))), (0, .ref 191), (1, .int bv), (2, .int (nI due))]) (st' := [.int (nI (kl (od p) + kc8 + 9)), .ref 84]) (H' := _) (kc' := 0) (ks' := 0) rfl ?_
          rw [if_pos hsel] at hdr hst
          have hszv : szV (verO kf kl mo pl le al (od p)) = 9 + kl (od p) + kc8 := by unfold szV; show 9 + (sl kf (od p * 41) (kl (od p))).length + (le (od p)).getD 0 = _; rw [sl_length, c8]; rfl
          rw [hszv] at hdr hst
          rw [hdr] at hS
          obtain ⟨-, hfitR, -⟩ := hRv.1 kc8 c8
          have hfitR : pl (od p) % 2048 + 9 + (sl kf (od p * 41) (kl (od p))).length + kc8 ≤ 2048 := hfitR
          rw [sl_length] at hfitR
          rw [show kl (od p) + kc8 + 9 = 9 + kl (od p) + kc8 by omega]
          refine RQ.call (v := some (.int (if wr1 = true ∧ 9 + kl (od p) + kc8 ≤ 2048 - tp1 then 1 else 0))) (st' := []) rfl rfl rfl rfl rfl rfl (args_v [.int (nI (9 + kl (od p) + kc8))] [] rfl rfl (Nat.le_of_ble_eq_true rfl) rfl hY.1 (Nat.le_of_ble_eq_true rfl)) (rc_fits (n := 9 + kl (od p) + kc8) hY hB htp1 (by omega)) ?_
          by_cases hft : wr1 = true ∧ 9 + kl (od p) + kc8 ≤ 2048 - tp1
          · rw [if_pos hft]
            refine RQ.brT rfl rfl rfl (by decide) ?_
            have hnn : (verO kf kl mo pl le al (od p)).2.2.2.1 = some kc8 := c8
            have hRF := hRv.1.far2 (c' := c1) (lgs' := lgs1) (v' := verO kf kl mo pl1 le al1 (od p)) rfl rfl hpl rfl (fun n9 hn9 q q1 q2 => (hS.2.2.2.2.1 q (hRv.tlu hO hus hn9 q q1 q2)).2) (fun hx => by rw [hS.2.1]; exact List.mem_append.mpr (Or.inl (hRv.1 _ hnn).2.2))
            have hval := hRF.2 (by rw [hnn]; exact Option.some_ne_none _)
            refine RQ.pick (a := [(6, .int (nI (9 + kl (od p) + kc8))), (5, .int (nI (od p))), (4, .int (nI p)), (3, .int (nI ((mvS blk (vs.take p)).sum))), (0, .ref 191), (1, .int bv), (2, .int (nI due))]) [0, 1, 2, 3, 4, 5, 6] [6, 5, 4, 3, 0, 1, 2] rfl rfl (by decide) ?_
            refine rq_move (d := d + 1) (p := p) (n := kc8) hA1 hW1 hps c8 (by omega) hS hft hRF.1 hG1 hB hbb ?_ ?_
            rotate_left
            · intro H9 z1 z2 z3
              exact Or.inr ⟨_, rfl, ⟨_, _, _, _, _, _, _, _, _, _, _, _, z2, hW1, rfl⟩, z1, fun a a1 a2 => (z3 a (by omega) a2).trans (f1 a a1 a2)⟩
            intro H3 bn c3 gs3 hb2 hbB hbl3 hS3 hA3 hW3 f3
            have f4 : ∀ a, ¬ (71 ≤ a ∧ a < 88) → a ≠ 191 → H3[a]? = H[a]? := fun a a1 a2 => (f3 a (by omega) a2).trans (f1 a a1 a2)
            rw [hval] at hS3
            have hG3 := (f4 190 (by decide) (by decide)).trans hG
            refine RQ.blk 3 (pc' := 177) (lv' := [(7, .int (nI (bn * 2048 + tp1))), (6, .int (nI (9 + kl (od p) + kc8))), (5, .int (nI (od p))), (4, .int (nI p)), (3, .int (nI ((mvS blk (vs.take p)).sum))), (0, .ref 191), (1, .int bv), (2, .int (nI due))]) (st' := [.int (nI ((mvS blk (vs.take p)).sum) + nI (9 + kl (od p) + kc8))]) (H' := _) (kc' := 0) (ks' := 0) rfl ?_
            rw [show (nI ((mvS blk (vs.take p)).sum) + nI (9 + kl (od p) + kc8) : Int32) = nI ((mvS blk (vs.take p)).sum + (9 + kl (od p) + kc8)) from nI_add ((mvS blk (vs.take p)).sum) (9 + kl (od p) + kc8)]
            refine RQ.blk 2 (pc' := 181) (lv' := [(4, .int (nI p + 1)), (3, .int (nI ((mvS blk (vs.take p)).sum + (9 + kl (od p) + kc8)))), (7, .int (nI (bn * 2048 + tp1))), (6, .int (nI (9 + kl (od p) + kc8))), (5, .int (nI (od p))), (0, .ref 191), (1, .int bv), (2, .int (nI due))]) (st' := []) (H' := _) (kc' := 0) (ks' := 0) rfl ?_
            rw [show (nI p + 1 : Int32) = nI (p + 1) from nI_add p 1]
            refine RQ.blk 1 (pc' := 5) (lv' := [(4, .int (nI (p + 1))), (3, .int (nI ((mvS blk (vs.take p)).sum + (9 + kl (od p) + kc8)))), (7, .int (nI (bn * 2048 + tp1))), (6, .int (nI (9 + kl (od p) + kc8))), (5, .int (nI (od p))), (0, .ref 191), (1, .int bv), (2, .int (nI due))]) (st' := []) (H' := _) (kc' := 0) (ks' := 0) rfl ?_
            refine RQ.pick (a := [(4, .int (nI (p + 1))), (3, .int (nI ((mvS blk (vs.take p)).sum + (9 + kl (od p) + kc8)))), (0, .ref 191), (1, .int bv), (2, .int (nI due))]) [0, 1, 5, 6, 7] [4, 3, 7, 6, 5, 0, 1, 2] rfl rfl (by decide) ?_
            have htpB : tp1 + (9 + kl (od p) + kc8) ≤ 2048 := by have := hft.2; omega
            have hxs : mvX c blk Q 0 (vs.take p) ++ [((bn * 2048 + tp1), (4, sl kf (od p * 41) (kl (od p)), kc8, mo (od p), valB c (verO kf kl mo pl le al (od p))))] = mvX c blk (va_up Q p (bn * 2048 + tp1)) 0 (vs.take (p + 1)) := by
              rw [hte, mvX_snoc, mvX_congr (Q' := (va_up Q p (bn * 2048 + tp1))) (Q := Q) (vs.take p) 0 (fun j j1 j2 => up_ne (by rw [htk] at j2; omega)), if_pos hsel, Nat.zero_add, htk, up_at]
              unfold mvR
              show _ = _ ++ [(_, (4, sl kf (od p * 41) (kl (od p)), (le (od p)).getD 0, mo (od p), _))]
              rw [c8]
              rfl
            rw [hxs] at hS3
            have ih := ih (p + 1) H3
            rw [hst] at ih
            refine ih ⟨(va_up Q p (bn * 2048 + tp1)), _, _, _, lgs1, l1, fr1, ff1, wr1, (tp1 + (9 + kl (od p) + kc8)), us1, c3, gs3, by omega, hA3, hW3, fun j hj => ?_, fun j hj hs => ?_, hbw1, hS3, f4⟩ (by omega)
            · by_cases hjp : j = p
              · rw [hjp, up_at, up_at, up_at, if_pos ⟨by omega, hsel⟩, if_pos ⟨by omega, hsel⟩]
                exact ⟨rfl, rfl⟩
              · have hne : ¬ od j = od p := fun e => hjp (hW.2.1 j p hj hps e)
                rw [up_ne hne, up_ne hne, up_ne hjp, (hpa j hj).1, (hpa j hj).2]
                have hiff : (j < p ∧ (inB blk (verO kf kl mo pl le al (od j)) = true)) ↔ (j < p + 1 ∧ (inB blk (verO kf kl mo pl le al (od j)) = true)) := ⟨fun e => ⟨by omega, e.2⟩, fun e => ⟨by omega, e.2⟩⟩
                exact ⟨ite_iff hiff, ite_iff hiff⟩
            · by_cases hjp : j = p
              · rw [hjp, up_at, show (bn * 2048 + tp1) / 2048 = bn by omega]
                exact ⟨by omega, hbw1 hft.1 bn hbl3⟩
              · rw [up_ne hjp]
                exact hQ j (by omega) hs
          · rw [if_neg hft]
            refine RQ.brF rfl rfl rfl (by decide) ?_
            refine RQ.blk 1 (pc' := 104) (lv' := [(6, .int (nI (9 + kl (od p) + kc8))), (5, .int (nI (od p))), (4, .int (nI p)), (3, .int (nI ((mvS blk (vs.take p)).sum))), (0, .ref 191), (1, .int bv), (2, .int (nI due))]) (st' := [.ref 191]) (H' := _) (kc' := 0) (ks' := 0) rfl ?_
            refine RQ.callT (st' := []) rfl rfl rfl rfl rfl rfl (args_v [] [] rfl rfl (Nat.le_of_ble_eq_true rfl) rfl hG1 (Nat.le_of_ble_eq_true rfl)) (re_openM (d := d) (mp := mp) (hv := hv) (n := 9 + kl (od p) + kc8) hS hft (by omega) hG1 hB hB1 hbb) rfl (fun H2 hx2 => ?_) (fun H9 hbad => Or.inr (by obtain ⟨z1, z2⟩ := hbad; exact ⟨_, rfl, ⟨_, _, _, _, _, _, _, _, _, _, _, _, hA1.far (fun a a1 a2 => z2 a (by omega) (by omega)), hW1, rfl⟩, z1, fun a a1 a2 => (z2 a (by omega) (by omega)).trans (f1 a a1 a2)⟩))
            obtain ⟨b2, c2, gs2, hS2, hub2, hbB2, z2⟩ := hx2
            have f2 : ∀ a, ¬ (71 ≤ a ∧ a < 88) → a ≠ 191 → H2[a]? = H[a]? := fun a a1 a2 => (z2 a (by omega) (by omega)).trans (f1 a a1 a2)
            have hA2 := hA1.far (H' := H2) (fun a a1 a2 => z2 a (by omega) (by omega))
            have hG2 := (f2 190 (by decide) (by decide)).trans hG
            have hft2 : true = true ∧ 9 + kl (od p) + kc8 ≤ 2048 - 0 := ⟨rfl, by omega⟩
            have hbw2 : true = true → ∀ x, (lgs1 ++ [b2])[(lgs1 ++ [b2]).length - 1]? = some x → x ∈ l1 ++ [b2] ∨ (wr = true ∧ lgs[lgs.length - 1]? = some x) := fun _ x hx => by
              rw [List.length_append, List.length_singleton, Nat.add_sub_cancel, List.getElem?_append_right (Nat.le_refl _), Nat.sub_self] at hx
              rw [← Option.some.inj hx]
              exact Or.inl (List.mem_append.mpr (Or.inr (List.mem_singleton.mpr rfl)))
            have hnn : (verO kf kl mo pl le al (od p)).2.2.2.1 = some kc8 := c8
            have hRF := hRv.1.far2 (c' := c2) (lgs' := (lgs1 ++ [b2])) (v' := verO kf kl mo pl1 le al1 (od p)) rfl rfl hpl rfl (fun n9 hn9 q q1 q2 => (hS2.2.2.2.2.1 q (hRv.tlu hO hus hn9 q q1 q2)).2) (fun hx => by rw [hS2.2.1]; exact List.mem_append.mpr (Or.inl (hRv.1 _ hnn).2.2))
            have hval := hRF.2 (by rw [hnn]; exact Option.some_ne_none _)
            refine RQ.pick (a := [(6, .int (nI (9 + kl (od p) + kc8))), (5, .int (nI (od p))), (4, .int (nI p)), (3, .int (nI ((mvS blk (vs.take p)).sum))), (0, .ref 191), (1, .int bv), (2, .int (nI due))]) [0, 1, 2, 3, 4, 5, 6] [6, 5, 4, 3, 0, 1, 2] rfl rfl (by decide) ?_
            refine rq_move (d := d + 1) (p := p) (n := kc8) hA2 hW1 hps c8 (by omega) hS2 hft2 hRF.1 hG2 hB hbb ?_ ?_
            rotate_left
            · intro H9 z1 z2 z3
              exact Or.inr ⟨_, rfl, ⟨_, _, _, _, _, _, _, _, _, _, _, _, z2, hW1, rfl⟩, z1, fun a a1 a2 => (z3 a (by omega) a2).trans (f2 a a1 a2)⟩
            intro H3 bn c3 gs3 hb2 hbB hbl3 hS3 hA3 hW3 f3
            have f4 : ∀ a, ¬ (71 ≤ a ∧ a < 88) → a ≠ 191 → H3[a]? = H[a]? := fun a a1 a2 => (f3 a (by omega) a2).trans (f2 a a1 a2)
            rw [hval] at hS3
            have hG3 := (f4 190 (by decide) (by decide)).trans hG
            refine RQ.blk 3 (pc' := 177) (lv' := [(7, .int (nI (bn * 2048 + 0))), (6, .int (nI (9 + kl (od p) + kc8))), (5, .int (nI (od p))), (4, .int (nI p)), (3, .int (nI ((mvS blk (vs.take p)).sum))), (0, .ref 191), (1, .int bv), (2, .int (nI due))]) (st' := [.int (nI ((mvS blk (vs.take p)).sum) + nI (9 + kl (od p) + kc8))]) (H' := _) (kc' := 0) (ks' := 0) rfl ?_
            rw [show (nI ((mvS blk (vs.take p)).sum) + nI (9 + kl (od p) + kc8) : Int32) = nI ((mvS blk (vs.take p)).sum + (9 + kl (od p) + kc8)) from nI_add ((mvS blk (vs.take p)).sum) (9 + kl (od p) + kc8)]
            refine RQ.blk 2 (pc' := 181) (lv' := [(4, .int (nI p + 1)), (3, .int (nI ((mvS blk (vs.take p)).sum + (9 + kl (od p) + kc8)))), (7, .int (nI (bn * 2048 + 0))), (6, .int (nI (9 + kl (od p) + kc8))), (5, .int (nI (od p))), (0, .ref 191), (1, .int bv), (2, .int (nI due))]) (st' := []) (H' := _) (kc' := 0) (ks' := 0) rfl ?_
            rw [show (nI p + 1 : Int32) = nI (p + 1) from nI_add p 1]
            refine RQ.blk 1 (pc' := 5) (lv' := [(4, .int (nI (p + 1))), (3, .int (nI ((mvS blk (vs.take p)).sum + (9 + kl (od p) + kc8)))), (7, .int (nI (bn * 2048 + 0))), (6, .int (nI (9 + kl (od p) + kc8))), (5, .int (nI (od p))), (0, .ref 191), (1, .int bv), (2, .int (nI due))]) (st' := []) (H' := _) (kc' := 0) (ks' := 0) rfl ?_
            refine RQ.pick (a := [(4, .int (nI (p + 1))), (3, .int (nI ((mvS blk (vs.take p)).sum + (9 + kl (od p) + kc8)))), (0, .ref 191), (1, .int bv), (2, .int (nI due))]) [0, 1, 5, 6, 7] [4, 3, 7, 6, 5, 0, 1, 2] rfl rfl (by decide) ?_
            have htpB : 0 + (9 + kl (od p) + kc8) ≤ 2048 := by have := hft2.2; omega
            have hxs : mvX c blk Q 0 (vs.take p) ++ [((bn * 2048 + 0), (4, sl kf (od p * 41) (kl (od p)), kc8, mo (od p), valB c (verO kf kl mo pl le al (od p))))] = mvX c blk (va_up Q p (bn * 2048 + 0)) 0 (vs.take (p + 1)) := by
              rw [hte, mvX_snoc, mvX_congr (Q' := (va_up Q p (bn * 2048 + 0))) (Q := Q) (vs.take p) 0 (fun j j1 j2 => up_ne (by rw [htk] at j2; omega)), if_pos hsel, Nat.zero_add, htk, up_at]
              unfold mvR
              show _ = _ ++ [(_, (4, sl kf (od p * 41) (kl (od p)), (le (od p)).getD 0, mo (od p), _))]
              rw [c8]
              rfl
            rw [hxs] at hS3
            have ih := ih (p + 1) H3
            rw [hst] at ih
            refine ih ⟨(va_up Q p (bn * 2048 + 0)), _, _, _, (lgs1 ++ [b2]), (l1 ++ [b2]), (fr1 + 1), (if fr1 = 0 then 0 else ff1), true, (0 + (9 + kl (od p) + kc8)), (va_up us1 b2 true), c3, gs3, by omega, hA3, hW3, fun j hj => ?_, fun j hj hs => ?_, hbw2, hS3, f4⟩ (by omega)
            · by_cases hjp : j = p
              · rw [hjp, up_at, up_at, up_at, if_pos ⟨by omega, hsel⟩, if_pos ⟨by omega, hsel⟩]
                exact ⟨rfl, rfl⟩
              · have hne : ¬ od j = od p := fun e => hjp (hW.2.1 j p hj hps e)
                rw [up_ne hne, up_ne hne, up_ne hjp, (hpa j hj).1, (hpa j hj).2]
                have hiff : (j < p ∧ (inB blk (verO kf kl mo pl le al (od j)) = true)) ↔ (j < p + 1 ∧ (inB blk (verO kf kl mo pl le al (od j)) = true)) := ⟨fun e => ⟨by omega, e.2⟩, fun e => ⟨by omega, e.2⟩⟩
                exact ⟨ite_iff hiff, ite_iff hiff⟩
            · by_cases hjp : j = p
              · rw [hjp, up_at, show (bn * 2048 + 0) / 2048 = bn by omega]
                exact ⟨by omega, hbw2 hft2.1 bn hbl3⟩
              · rw [up_ne hjp]
                exact ⟨(hQ j (by omega) hs).1, (hQ j (by omega) hs).2.imp (fun e => List.mem_append.mpr (Or.inl e)) id⟩
        · have hsel : ¬ inB blk (verO kf kl mo pl le al (od p)) = true := by
            unfold inB
            rw [decide_eq_true_iff]
            exact fun e => e.2.elim hbn (fun e2 => hblkE (Option.some.inj (hbk1.symm.trans e2)).symm)
          refine RQ.brT rfl rfl rfl (cT_ne (pl (od p) / 2048) bk hblkE (by omega) (by omega) rfl hbk2) ?_
          refine RQ.blk 1 (pc' := 181) (lv' := [(4, .int (nI p + 1)), (5, .int (nI (od p))), (3, .int (nI ((mvS blk (vs.take p)).sum))), (0, .ref 191), (1, .int bv), (2, .int (nI due))]) (st' := []) (H' := _) (kc' := 0) (ks' := 0) rfl ?_
          rw [show (nI p + 1 : Int32) = nI (p + 1) from nI_add p 1]
          refine RQ.blk 1 (pc' := 5) (lv' := [(4, .int (nI (p + 1))), (5, .int (nI (od p))), (3, .int (nI ((mvS blk (vs.take p)).sum))), (0, .ref 191), (1, .int bv), (2, .int (nI due))]) (st' := []) (H' := _) (kc' := 0) (ks' := 0) rfl ?_
          refine RQ.pick (a := [(4, .int (nI (p + 1))), (3, .int (nI ((mvS blk (vs.take p)).sum))), (0, .ref 191), (1, .int bv), (2, .int (nI due))]) [0, 2, 3, 4, 5] [4, 5, 3, 0, 1, 2] rfl rfl (by decide) ?_
          rw [if_neg hsel] at hdr hst
          rw [hdr] at hS
          have hxs : mvX c blk Q 0 (vs.take p) = mvX c blk Q 0 (vs.take (p + 1)) := by rw [hte, mvX_snoc, if_neg hsel, List.append_nil]
          rw [hxs] at hS
          have ih := ih (p + 1) H1
          rw [hst, Nat.add_zero] at ih
          refine ih ⟨Q, pl1, al1, ac1, lgs1, l1, fr1, ff1, wr1, tp1, us1, c1, gs1, by omega, hA1, hW1, fun j hj => ?_, fun j hj hs => ?_, hbw1, hS, f1⟩ (by omega)
          · by_cases hjp : j = p
            · rw [hjp, hpl, hal, if_neg (fun e => hsel e.2), if_neg (fun e => hsel e.2)]
              exact ⟨rfl, rfl⟩
            · rw [(hpa j hj).1, (hpa j hj).2]
              have hiff : (j < p ∧ (inB blk (verO kf kl mo pl le al (od j)) = true)) ↔ (j < p + 1 ∧ (inB blk (verO kf kl mo pl le al (od j)) = true)) := ⟨fun e => ⟨by omega, e.2⟩, fun e => ⟨by omega, e.2⟩⟩
              exact ⟨ite_iff hiff, ite_iff hiff⟩
          · by_cases hjp : j = p
            · exact absurd hs (by rw [hjp]; exact hsel)
            · exact hQ j (by omega) hs
  ·
    have hpe : p = sz := by omega
    rw [hpe, ← hsz, List.take_of_length_le (Nat.le_refl _), List.drop_of_length_le (Nat.le_refl _)] at hS
    have hS : MvS B bb S rs us lgs wr tp c gs P0 fr0 ff0 lgs0 rs0 base Y (opnN wr tp (mvS blk vs)) ([]) (mvX c blk Q 0 vs) H1 lgs1 l1 fr1 ff1 wr1 tp1 us1 c1 gs1 := hS
    have hm := hmix Q pl1 al1 p hp hpa
    rw [hpe, ← hsz, List.take_of_length_le (Nat.le_refl _), List.drop_of_length_le (Nat.le_refl _), List.append_nil, hsz] at hm
    rw [hpe, ← hsz, List.take_of_length_le (Nat.le_refl _), hsz]
    rw [hpe] at hQ
    refine RQ.blk 2 (pc' := 8) (lv' := [(4, .int (nI sz)), (3, .int (nI ((mvS blk vs).sum))), (0, .ref 191), (1, .int bv), (2, .int (nI due))]) (st' := [.ref 191, .int (nI sz)]) (H' := _) (kc' := 0) (ks' := 0) rfl ?_
    refine RQ.get (ci := 4) rfl hG1 rfl rfl ?_
    refine RQ.get (ci := 10) rfl hA1.1 rfl rfl ?_
    refine RQ.brT rfl rfl rfl (cT_ge sz sz) ?_
    refine RQ.blk 2 (pc' := 186) (lv' := [(4, .int (nI sz)), (3, .int (nI ((mvS blk vs).sum))), (0, .ref 191), (1, .int bv), (2, .int (nI due))]) (st' := [.ref 191, .ref 191]) (H' := _) (kc' := 0) (ks' := 0) rfl ?_
    refine RQ.get (ci := 4) rfl hG1 rfl rfl ?_
    refine RQ.blk 2 (pc' := 191) (lv' := [(4, .int (nI sz)), (3, .int (nI ((mvS blk vs).sum))), (0, .ref 191), (1, .int bv), (2, .int (nI due))]) (st' := [.int (nI due), .int (nI ((mvS blk vs).sum)), .int (nI hv), .ref 191]) (H' := _) (kc' := 0) (ks' := 0) rfl ?_
    refine RQ.brT rfl rfl rfl (cT_le ((mvS blk vs).sum) due) ?_
    refine RQ.blk 2 (pc' := 200) (lv' := [(4, .int (nI sz)), (3, .int (nI ((mvS blk vs).sum))), (0, .ref 191), (1, .int bv), (2, .int (nI due))]) (st' := [.int (nI hv + 0), .ref 191]) (H' := _) (kc' := 0) (ks' := 0) rfl ?_
    rw [show (nI hv + 0 : Int32) = nI (hv + 0) from nI_add hv 0]
    refine RQ.put (ci := 4) rfl hG1 rfl rfl (Nat.le_of_ble_eq_true rfl) ?_
    exact RQ.done (c := 0) (s := 0) rfl rfl rfl rfl (Or.inl ⟨H1, congrArg (fun h => ((Sum.inl none : tO), h, 0, 0)) (set_self hG1), Q, _, _, _, _, _, _, _, _, _, ⟨_, _, _, _, _, _, _, _, _, _, _, hA1, hW1, hm.symm⟩, (fun j v hjv hs => by have hjl := get_lt hjv; rw [hve j (by omega)] at hjv; rw [← Option.some.inj hjv] at hs; exact hQ j (by omega) hs), hbw1, hS, f1⟩)
