/-! ===== calls in which the power may fail; a block is taken; a page goes out; class; written by wip/gen/pageout.py ===== -/
/-- the method returns nothing, or the power fails in it -/
def RE (sc : Nat × (Nat → Int32)) (d : Nat) (M : aM) (av : List Value) (H : aH) (ok bad : aH → Prop) : Prop := (∃ H', RC sc d M av H (.inl none) H' 0 0 ∧ ok H') ∨ (∃ H', RC sc d M av H (.inr 1) H' 1 6 ∧ bad H')
/-- the end of such a run -/
def EQ (ok bad : aH → Prop) (r : tO × aH × Nat × Nat) : Prop := (∃ H', r = (.inl none, H', 0, 0) ∧ ok H') ∨ (∃ H', r = (.inr 1, H', 1, 6) ∧ bad H')
theorem RE.of {sc : Nat × (Nat → Int32)} {d : Nat} {M : aM} {av : List Value} {H : aH} {ok bad : aH → Prop} (h : RQ sc d M 0 (lv_args 0 av) [] H 0 0 (EQ ok bad)) : RE sc d M av H ok bad := by
  obtain ⟨r, h1, h2⟩ := h
  rcases h2 with ⟨H', e, h3⟩ | ⟨H', e, h3⟩
  · subst e; exact Or.inl ⟨H', h1, h3⟩
  · subst e; exact Or.inr ⟨H', h1, h3⟩
theorem RE.mono {sc : Nat × (Nat → Int32)} {d : Nat} {M : aM} {av : List Value} {H : aH} {ok bad ok' bad' : aH → Prop} (h : RE sc d M av H ok bad) (h1 : ∀ H', ok H' → ok' H') (h2 : ∀ H', bad H' → bad' H') : RE sc d M av H ok' bad' := by
  rcases h with ⟨H', a, b⟩ | ⟨H', a, b⟩
  · exact Or.inl ⟨H', a, h1 H' b⟩
  · exact Or.inr ⟨H', a, h2 H' b⟩
theorem RQ.callT {sc : Nat × (Nat → Int32)} {d : Nat} {M M' : aM} {pc nx : Nat} {lv : aL} {st : List Value} {H : aH} {kc ks : Nat} {Q : tO × aH × Nat × Nat → Prop} {I : Instr} {m k : Nat} {av st' : List Value} {ok bad : aH → Prop} (hI : lkI pc (mT M) = some (nx, I)) (h0 : stG sc nx lv st H I = none) (h1 : stB st I = none) (h2 : stD st I = none) (hC : stC I = some (m, k)) (hm : mtb[m]? = some M') (ha : argsOf M' k H st = some (av, st')) (hr : RE sc d M' av H ok bad) (hx : mX M = []) (k1 : ∀ H', ok H' → RQ sc (d + 1) M nx lv st' H' kc ks Q) (k2 : ∀ H', bad H' → Q (.inr 1, H', kc + 1, ks + 6)) : RQ sc (d + 1) M pc lv st H kc ks Q := by
  rcases hr with ⟨H', a, b⟩ | ⟨H', a, b⟩
  · exact RQ.call hI h0 h1 h2 hC hm ha a (k1 H' b)
  · exact RQ.callP hI h0 h1 h2 hC hm ha a hx (k2 H' b)
/-- some block is not used -/
theorem turn_ex {B tu : Nat} {us : Nat → Bool} (hB : 1 ≤ B) (h : ∃ b, b < B ∧ us b = false) : ∃ k, k < B ∧ us ((tu + k) % B) = false ∧ ∀ j, j < k → us ((tu + j) % B) = true := by
  obtain ⟨b, hb, hu⟩ := h
  have hm : tu % B < B := Nat.mod_lt _ hB
  have hex : ∃ k, k < B ∧ us ((tu + k) % B) = false := by
    by_cases e : tu % B ≤ b
    · refine ⟨b - tu % B, by omega, ?_⟩
      rw [Nat.add_mod, Nat.mod_eq_of_lt (show b - tu % B < B by omega), show tu % B + (b - tu % B) = b by omega, Nat.mod_eq_of_lt hb]
      exact hu
    · refine ⟨b + B - tu % B, by omega, ?_⟩
      rw [Nat.add_mod, Nat.mod_eq_of_lt (show b + B - tu % B < B by omega), show tu % B + (b + B - tu % B) = b + B by omega, Nat.add_mod_right, Nat.mod_eq_of_lt hb]
      exact hu
  have key : ∀ n, (∃ k, k < n ∧ us ((tu + k) % B) = false) → ∃ k, k < n ∧ us ((tu + k) % B) = false ∧ ∀ j, j < k → us ((tu + j) % B) = true := by
    intro n
    induction n with
    | zero => rintro ⟨k, hk, _⟩; exact absurd hk (Nat.not_lt_zero k)
    | succ n ih =>
      rintro ⟨k, hk, hk2⟩
      by_cases e : ∃ k, k < n ∧ us ((tu + k) % B) = false
      · obtain ⟨k, a, b⟩ := ih e
        exact ⟨k, by omega, b⟩
      · have e2 : ∀ j, j < n → us ((tu + j) % B) = true := fun j hj => by
          cases hc : us ((tu + j) % B) with
          | true => rfl
          | false => exact absurd ⟨j, hj, hc⟩ e
        refine ⟨k, hk, hk2, fun j hj => e2 j ?_⟩
        have : k = n := by
          rcases Nat.lt_or_ge k n with h | h
          · rw [e2 k h] at hk2; cases hk2
          · omega
        omega
  exact key B hex
theorem ri_takeL {sc : Nat × (Nat → Int32)} {d : Nat} {H : aH} {B : Nat} {lgs : List Nat} {fr ff : Nat} {wr : Bool} {tp : Nat} {rs : List aR} {ms mt sq tu : Nat} {us : Nat → Bool} (h : LayIs H B lgs fr ff wr tp rs ms mt sq tu us) (hB : B ≤ 128) (hB1 : 1 ≤ B) (htu : tu ≤ 128) (hl30 : ∀ x ∈ lgs, x < 2 ^ 30) (hi30 : ∀ x ∈ rs, ∀ y ∈ x.2.2.2, y < 2 ^ 30) (hfr : ∀ b, b < B → us b = false → usesL lgs rs b = 0) (hex : ∃ b, b < B ∧ us b = false) : RI sc (d + 1) mr_103 [.ref 84] H (fun x H' => ∃ b, x = nI b ∧ b < B ∧ us b = false ∧ LayIs H' B lgs fr ff wr tp rs ms mt sq (b + 1) (va_up us b true) ∧ ∀ a, a ≠ 83 → a ≠ 86 → H'[a]? = H[a]?) := by
  obtain ⟨k, hk, hk1, hk2⟩ := turn_ex (tu := tu) hB1 hex
  have hmod : (tu + k) % B < B := Nat.mod_lt _ hB1
  have hu := rc_usesL (sc := sc) (d := d) (b := (tu + k) % B) h hB (by omega) hl30 hi30
  rw [hfr _ hmod hk1] at hu
  obtain ⟨lg, pi, hY, hlg, hlc, hRs⟩ := h
  refine ⟨_, _, rc_take hY hB hB1 htu hk hk1 hk2 hu, (tu + k) % B, rfl, hmod, hk1, ?_, fun a h1 h2 => (set_far h1).trans (set_far h2)⟩
  exact ⟨lg, pi, ⟨get_set ((set_far (by decide)).trans hY.1), (set_far (by decide)).trans (get_set hY.2.1), (set_far (by decide)).trans ((set_far (by decide)).trans hY.2.2)⟩, hlg, hlc, hRs.far2 ((set_far (by decide)).trans (set_far (by decide))) (fun a a1 a2 => (set_far (by omega)).trans (set_far (by omega)))⟩
/-- a table that is not in the list yet changes -/
theorem LayIs.draft {H H' : aH} {B : Nat} {lgs : List Nat} {fr ff : Nat} {wr : Bool} {tp : Nat} {rs : List aR} {ms mt sq tu : Nat} {us : Nat → Bool} {Q : Nat → Option Nat} {r : Nat} {x : aR} (h : LayIs H B lgs fr ff wr tp rs ms mt sq tu us) (hQ : H[84]? = some (kQ 5 24 Q)) (hr : Q rs.length = some r) (hl : rs.length < 24) (hx : RunIs H' r x) (hf : ∀ a, a ≠ r → a ≠ r + 1 → H'[a]? = H[a]?) : LayIs H' B lgs fr ff wr tp rs ms mt sq tu us := by
  obtain ⟨lg, pi, hY, hlg, hlc, ⟨Q', h1, h2⟩, h3, h4, h5, h6, h7⟩ := h
  have e : Q' = Q := by
    have := h1.symm.trans hQ
    have := Option.some.inj this
    injection this with this
    injection this with this
    injection this with this
    injection this with this
    injection this with this
    exact (Prod.mk.inj (Prod.mk.inj this).2).2
  rw [e] at h1 h2
  have er : pi rs.length = r := Option.some.inj ((h2 _ hl).symm.trans hr)
  obtain ⟨s, s1, s2⟩ := h3 rs.length hl
  have hfr : ∀ a, 83 ≤ a → a < 88 → H'[a]? = H[a]? := fun a a1 a2 => hf a (by omega) (by omega)
  have hru : ∀ j, j < 24 → j ≠ rs.length → ∀ y, RunIs H (pi j) y → RunIs H' (pi j) y := fun j hj hne y hy => by
    obtain ⟨u, u1, u2⟩ := h3 j hj
    have hne2 : pi j ≠ pi rs.length := fun e2 => hne (h4 j _ hj hl e2)
    exact hy.far (hf _ (by omega) (by omega)) (hf _ (by omega) (by omega))
  refine ⟨lg, pi, ⟨(hfr 83 (by omega) (by omega)).trans hY.1, (hfr 86 (by omega) (by omega)).trans hY.2.1, (hfr 87 (by omega) (by omega)).trans hY.2.2⟩, hlg, hlc, ⟨Q, (hfr 84 (by omega) (by omega)).trans h1, h2⟩, h3, h4, fun j y hy => hru j (by have := get_lt hy; omega) (by have := get_lt hy; omega) y (h5 j y hy), fun j hj => ?_, h7⟩
  by_cases e2 : j = rs.length
  · rw [e2, er]; exact ⟨x, hx⟩
  · obtain ⟨y, hy⟩ := h6 j hj
    exact ⟨y, hru j hj e2 y hy⟩
/-- the block b holds l, and nothing behind it -/
def blkW (c : Nat → Int8) (b : Nat) (f : Nat → Int8) (n : Nat) : Nat → Int8 := cpy f 0 (fun q => if b * 2048 ≤ q ∧ q < b * 2048 + 2048 then -1 else c q) (b * 2048) n
/-- nothing changed but in the block b -/
def AgB (c c' : Nat → Int8) (b : Nat) : Prop := ∀ q, ¬ q / 2048 = b → c' q = c q
theorem AgB.trans {c c' c'' : Nat → Int8} {b : Nat} (h1 : AgB c c' b) (h2 : AgB c' c'' b) : AgB c c'' b := fun q hq => (h2 q hq).trans (h1 q hq)
theorem agB_erase {c : Nat → Int8} {b n : Nat} (hn : n ≤ 2048) : AgB c (fun q => if b * 2048 ≤ q ∧ q < b * 2048 + n then -1 else c q) b := fun q hq => if_neg (by omega)
theorem agB_cpy {f c : Nat → Int8} {b i k n : Nat} (hn : k + n ≤ 2048) : AgB c (cpy f i c (b * 2048 + k) n) b := fun q hq => cpy_out (by omega)
theorem agB_cpy0 {f c : Nat → Int8} {b i n : Nat} (hn : n ≤ 2048) : AgB c (cpy f i c (b * 2048) n) b := fun q hq => cpy_out (by omega)
theorem agB_blkW {c f : Nat → Int8} {b n : Nat} (hn : n ≤ 2048) : AgB c (blkW c b f n) b := (agB_erase (Nat.le_refl _)).trans (agB_cpy0 hn)
theorem pl_none {H : aH} {B bl ov n : Nat} {cf : Nat → Int8} {tf : Nat → Nat} {pl : Option Nat} (g : grN pl bl n < n) (h : ChipAt H B cf tf (plUp pl) bl ov) : ChipAt H B cf tf none bl ov := by
  cases pl with
  | none => exact h
  | some k =>
    cases k with
    | zero => exact h
    | succ k => exact absurd (show n < n from g) (Nat.lt_irrefl n)
theorem re_pageOut {sc : Nat × (Nat → Int32)} {d r lm bf gm n : Nat} {H : aH} {B : Nat} {lgs : List Nat} {fr ff : Nat} {wr : Bool} {tp : Nat} {rs : List aR} {ms mt sq tu : Nat} {us : Nat → Bool} {cf : Nat → Int8} {tf : Nat → Nat} {pq : Option Nat} {bb : Nat} {pg : Nat → Int8} {x : aR} {Q : Nat → Option Nat} (h : LayIs H B lgs fr ff wr tp rs ms mt sq tu us) (hB : B ≤ 128) (h1 : H[136]? = some (kO 8 (tabF lm bf gm))) (h2 : H[140]? = some (kB 2099 pg)) (hC : ChipAt H B cf tf pq bb 0) (hbb : bb % 2 ^ 32 < 2 ^ 31) (hpq : PQ bb pq) (hB1 : 1 ≤ B) (htu : tu ≤ 128) (hl30 : ∀ x ∈ lgs, x < 2 ^ 30) (hi30 : ∀ x ∈ rs, ∀ y ∈ x.2.2.2, y < 2 ^ 30) (hfr : ∀ b, b < B → us b = false → usesL lgs rs b = 0) (hex : ∃ b, b < B ∧ us b = false) (hQ : H[84]? = some (kQ 5 24 Q)) (hQr : Q rs.length = some r) (hrl : rs.length < 24) (hR : RunIs H r x) (hr1 : 88 ≤ r) (hr2 : r < 135) (hl64 : x.2.2.2.length < 64) (hn : min bf 2048 = n) (hn1 : 1 ≤ n) (hbf : bf ≤ 2099) : RE sc (d + 3) mr_102 [.ref 137, .ref (r + 1)] H (fun H' => ∃ b, b < B ∧ us b = false ∧ RunIs H' r (x.1, x.2.1 + n, x.2.2.1, x.2.2.2 ++ [b]) ∧ (∃ tf' pq', ChipAt H' B (blkW cf b pg n) tf' pq' bb 0 ∧ (∀ j, ¬ j = b → tf' j = tf j) ∧ PQ bb pq') ∧ (∃ pg', H'[140]? = some (kB 2099 pg') ∧ sl pg' 0 (bf - n) = sl pg n (bf - n)) ∧ H'[136]? = some (kO 8 (tabF lm (bf - n) gm)) ∧ LayIs H' B lgs fr ff wr tp rs ms mt sq (b + 1) (va_up us b true) ∧ ∀ a, ¬ (71 ≤ a ∧ a < 74) → a ≠ 83 → a ≠ 86 → a ≠ r → a ≠ r + 1 → ¬ (a = 136 ∨ a = 140) → H'[a]? = H[a]?) (fun H' => ∃ b c' tf', b < B ∧ us b = false ∧ AgB cf c' b ∧ ChipDn H' B c' tf' bb ∧ LayIs H' B lgs fr ff wr tp rs ms mt sq (b + 1) (va_up us b true) ∧ ∀ a, ¬ (71 ≤ a ∧ a < 74) → ¬ (a = 83 ∨ a = 86) → H'[a]? = H[a]?) := by
  obtain ⟨yf, hY0⟩ : ∃ yf, H[83]? = some (kO 3 yf) := by obtain ⟨_, _, q1, _⟩ := h; exact ⟨_, q1.1⟩
  have hpq3 : grN pq bb 2048 = 2048 → PQ bb (plUp pq) := fun g => plUp_lt g (by decide) hpq
  refine RE.of ?_
  refine RQ.blk 1 (pc' := 1) (lv' := [(0, .ref 137), (1, .ref (r + 1))]) (st' := [.ref 137]) (H' := _) (kc' := 0) (ks' := 0) rfl ?_
  refine RQ.get (ci := 8) rfl h1 rfl rfl ?_
  refine RQ.blk 2 (pc' := 10) (lv' := [(0, .ref 137), (1, .ref (r + 1))]) (st' := [.int (if 2048 < nI bf then 2048 else nI bf)]) (H' := _) (kc' := 0) (ks' := 0) rfl ?_
  rw [show (if 2048 < nI bf then 2048 else nI bf : Int32) = nI (min bf 2048) from minI (a := bf) (b := 2048) (by omega) (by omega)]
  refine RQ.blk 2 (pc' := 12) (lv' := [(2, .int (nI (min bf 2048))), (0, .ref 137), (1, .ref (r + 1))]) (st' := [.int (nI (min bf 2048))]) (H' := _) (kc' := 0) (ks' := 0) rfl ?_
  refine RQ.brT rfl rfl rfl (by rw [hn]; exact cT_gt n 0) ?_
  refine RQ.blk 1 (pc' := 17) (lv' := [(2, .int (nI (min bf 2048))), (0, .ref 137), (1, .ref (r + 1))]) (st' := [.ref 137]) (H' := _) (kc' := 0) (ks' := 0) rfl ?_
  refine RQ.get (ci := 8) rfl h1 rfl rfl ?_
  rw [show min bf 2048 = n from hn]
  refine RQ.callI (st' := []) rfl rfl rfl rfl rfl rfl (args_v [] [] rfl rfl (Nat.le_of_ble_eq_true rfl) rfl hY0 (Nat.le_of_ble_eq_true rfl)) (ri_takeL h hB hB1 htu hl30 hi30 hfr hex) (fun y H2 hx => ?_)
  obtain ⟨b, ey, hb, hub, hL2, hf2⟩ := hx
  rw [ey]
  have hC2 := hC.far (H' := H2) (fun a a1 a2 => hf2 a (by omega) (by omega))
  refine RQ.blk 2 (pc' := 25) (lv' := [(3, .int (nI b)), (2, .int (nI n)), (0, .ref 137), (1, .ref (r + 1))]) (st' := [.ref 137]) (H' := _) (kc' := 0) (ks' := 0) rfl ?_
  refine RQ.get (ci := 8) rfl ((hf2 136 (by decide) (by decide)).trans h1) rfl rfl ?_
  refine RQ.blk 1 (pc' := 29) (lv' := [(3, .int (nI b)), (2, .int (nI n)), (0, .ref 137), (1, .ref (r + 1))]) (st' := [.int (nI b), .ref 72]) (H' := _) (kc' := 0) (ks' := 0) rfl ?_
  rcases rq_erase (sc := sc) (d := d) (b := b) hC2 hB hb hbb hpq.1 with ⟨g1, H3, g2, hC3, hf3⟩ | ⟨g1, H3, g2, hC3, hf3⟩
  rotate_left
  · exact RQ.callP (st' := []) rfl rfl rfl rfl rfl rfl (args_v [.int (nI b)] [] rfl rfl (Nat.le_of_ble_eq_true rfl) rfl hC2.1 (Nat.le_of_ble_eq_true rfl)) g2 rfl (Or.inr ⟨_, rfl, b, _, _, hb, hub, agB_erase (Nat.le_of_lt g1), pl_dn hpq g1 hC3, hL2.far (fun a a1 a2 a3 => hf3 a (by omega)), fun a a1 a2 => (hf3 a (by omega)).trans (hf2 a (by omega) (by omega))⟩)
  refine RQ.call (v := none) (st' := []) rfl rfl rfl rfl rfl rfl (args_v [.int (nI b)] [] rfl rfl (Nat.le_of_ble_eq_true rfl) rfl hC2.1 (Nat.le_of_ble_eq_true rfl)) g2 ?_
  rw [g1] at hC3
  have far3 : ∀ a, ¬ (71 ≤ a ∧ a < 74) → a ≠ 83 → a ≠ 86 → H3[a]? = H[a]? := fun a a1 a2 a3 => (hf3 a a1).trans (hf2 a a2 a3)
  refine RQ.blk 1 (pc' := 33) (lv' := [(3, .int (nI b)), (2, .int (nI n)), (0, .ref 137), (1, .ref (r + 1))]) (st' := [.ref 137]) (H' := _) (kc' := 0) (ks' := 0) rfl ?_
  refine RQ.get (ci := 8) rfl ((far3 136 (by decide) (by decide) (by decide)).trans h1) rfl rfl ?_
  refine RQ.blk 3 (pc' := 41) (lv' := [(3, .int (nI b)), (2, .int (nI n)), (0, .ref 137), (1, .ref (r + 1))]) (st' := [.int (nI b * 2048), .ref 72]) (H' := _) (kc' := 0) (ks' := 0) rfl ?_
  rw [show (nI b * 2048 : Int32) = nI (b * 2048) from pk_mul b 2048]
  refine RQ.blk 1 (pc' := 42) (lv' := [(3, .int (nI b)), (2, .int (nI n)), (0, .ref 137), (1, .ref (r + 1))]) (st' := [.ref 137, .int (nI (b * 2048)), .ref 72]) (H' := _) (kc' := 0) (ks' := 0) rfl ?_
  refine RQ.get (ci := 8) rfl ((far3 136 (by decide) (by decide) (by decide)).trans h1) rfl rfl ?_
  refine RQ.blk 2 (pc' := 47) (lv' := [(3, .int (nI b)), (2, .int (nI n)), (0, .ref 137), (1, .ref (r + 1))]) (st' := [.int (nI n), .int 0, .ref 141, .int (nI (b * 2048)), .ref 72]) (H' := _) (kc' := 0) (ks' := 0) rfl ?_
  rcases rq_program (sc := sc) (d := d + 1) (a := 140) (A := b * 2048) (i := 0) (n := n) hC3 ((far3 140 (by decide) (by decide) (by decide)).trans h2) (by decide) (by decide) hB (by rw [Nat.mul_div_cancel _ (by decide)]; exact hb) hn1 (by rw [Nat.mul_mod_left]; omega) (by omega) (by rw [Nat.mul_div_cancel _ (by decide), up_at]; exact Nat.zero_le _) hbb (hpq3 g1).1 with ⟨g3, H4, g4, hC4, hf4⟩ | ⟨g3, H4, g4, hC4, hf4⟩
  rotate_left
  · exact RQ.callP (st' := []) rfl rfl rfl rfl rfl rfl (args_v [.int (nI n), .int 0, .ref 141, .int (nI (b * 2048))] [] rfl rfl (Nat.le_of_ble_eq_true rfl) rfl hC3.1 (Nat.le_of_ble_eq_true rfl)) g4 rfl (Or.inr ⟨_, rfl, b, _, _, hb, hub, (agB_erase (Nat.le_refl _)).trans (agB_cpy0 (by omega)), pl_dn (hpq3 g1) g3 hC4, hL2.far (fun a a1 a2 a3 => (hf4 a (by omega)).trans (hf3 a (by omega))), fun a a1 a2 => (hf4 a (by omega)).trans (far3 a (by omega) (by omega) (by omega))⟩)
  refine RQ.call (v := none) (st' := []) rfl rfl rfl rfl rfl rfl (args_v [.int (nI n), .int 0, .ref 141, .int (nI (b * 2048))] [] rfl rfl (Nat.le_of_ble_eq_true rfl) rfl hC3.1 (Nat.le_of_ble_eq_true rfl)) g4 ?_
  rw [g3] at hC4
  have far4 : ∀ a, ¬ (71 ≤ a ∧ a < 74) → a ≠ 83 → a ≠ 86 → H4[a]? = H[a]? := fun a a1 a2 a3 => (hf4 a a1).trans (far3 a a1 a2 a3)
  have hr4 : RunIs H4 r x := hR.far (far4 r (by omega) (by omega) (by omega)) (far4 (r + 1) (by omega) (by omega) (by omega))
  obtain ⟨rf, hr0⟩ : ∃ rf, H4[r]? = some (kO 6 rf) := by obtain ⟨f, q1, _⟩ := hr4; exact ⟨_, q1⟩
  refine RQ.blk 3 (pc' := 53) (lv' := [(3, .int (nI b)), (2, .int (nI n)), (0, .ref 137), (1, .ref (r + 1))]) (st' := [.int (nI n), .int (nI b), .ref (r + 1)]) (H' := _) (kc' := 0) (ks' := 0) rfl ?_
  refine RQ.callN (st' := []) rfl rfl rfl rfl rfl rfl (args_v [.int (nI n), .int (nI b)] [] rfl rfl (Nat.le_of_ble_eq_true rfl) rfl hr0 (Nat.le_of_ble_eq_true rfl)) (rn_runAdd hr4 hl64) (fun H5 hx5 => ?_)
  obtain ⟨hr5, hf5⟩ := hx5
  have hL5 := LayIs.draft (hL2.far (H' := H4) (fun a a1 a2 a3 => (hf4 a (by omega)).trans (hf3 a (by omega)))) ((far4 84 (by decide) (by decide) (by decide)).trans hQ) hQr hrl hr5 hf5
  have far5 : ∀ a, ¬ (71 ≤ a ∧ a < 74) → a ≠ 83 → a ≠ 86 → a ≠ r → a ≠ r + 1 → H5[a]? = H[a]? := fun a a1 a2 a3 a4 a5 => (hf5 a a4 a5).trans (far4 a a1 a2 a3)
  refine RQ.blk 2 (pc' := 58) (lv' := [(3, .int (nI b)), (2, .int (nI n)), (0, .ref 137), (1, .ref (r + 1))]) (st' := [.ref 137, .ref 137]) (H' := _) (kc' := 0) (ks' := 0) rfl ?_
  refine RQ.get (ci := 8) rfl ((far5 136 (by decide) (by decide) (by decide) (by omega) (by omega)).trans h1) rfl rfl ?_
  refine RQ.blk 2 (pc' := 63) (lv' := [(3, .int (nI b)), (2, .int (nI n)), (0, .ref 137), (1, .ref (r + 1))]) (st' := [.int (nI bf - nI n), .ref 137]) (H' := _) (kc' := 0) (ks' := 0) rfl ?_
  rw [show (nI bf - nI n : Int32) = nI (bf - n) from pk_sub (a := bf) (b := n) (by omega)]
  refine RQ.put (ci := 8) rfl ((far5 136 (by decide) (by decide) (by decide) (by omega) (by omega)).trans h1) rfl rfl (Nat.le_of_ble_eq_true rfl) ?_
  refine RQ.blk 1 (pc' := 67) (lv' := [(3, .int (nI b)), (2, .int (nI n)), (0, .ref 137), (1, .ref (r + 1))]) (st' := [.ref 137]) (H' := _) (kc' := 0) (ks' := 0) rfl ?_
  refine RQ.get (ci := 8) rfl (get_set ((far5 136 (by decide) (by decide) (by decide) (by omega) (by omega)).trans h1)) rfl rfl ?_
  refine RQ.blk 2 (pc' := 72) (lv' := [(3, .int (nI b)), (2, .int (nI n)), (0, .ref 137), (1, .ref (r + 1))]) (st' := [.ref 137, .int (nI n), .ref 141]) (H' := _) (kc' := 0) (ks' := 0) rfl ?_
  refine RQ.get (ci := 8) rfl (get_set ((far5 136 (by decide) (by decide) (by decide) (by omega) (by omega)).trans h1)) rfl rfl ?_
  refine RQ.blk 2 (pc' := 77) (lv' := [(3, .int (nI b)), (2, .int (nI n)), (0, .ref 137), (1, .ref (r + 1))]) (st' := [.ref 137, .int 0, .ref 141, .int (nI n), .ref 141]) (H' := _) (kc' := 0) (ks' := 0) rfl ?_
  refine RQ.get (ci := 8) rfl (get_set ((far5 136 (by decide) (by decide) (by decide) (by omega) (by omega)).trans h1)) rfl rfl ?_
  refine RQ.call (v := none) (st' := []) rfl rfl rfl rfl rfl rfl rfl (rc_copy (i := n) (j := 0) (k := bf - n) ((set_far (by decide)).trans ((far5 140 (by decide) (by decide) (by decide) (by omega) (by omega)).trans h2)) ((set_far (by decide)).trans ((far5 140 (by decide) (by decide) (by decide) (by omega) (by omega)).trans h2)) (by decide) (by decide) (by omega) (by omega)) ?_
  exact RQ.done (c := 0) (s := 0) rfl rfl rfl rfl (Or.inl ⟨_, rfl, b, hb, hub, (hr5.far ((set_far (by omega)).trans (set_far (by omega))) ((set_far (by omega)).trans (set_far (by omega)))), ⟨_, _, hC4.far (fun a a1 a2 => (set_far (by omega)).trans ((set_far (by omega)).trans (hf5 a (by omega) (by omega)))), fun j hj => (by rw [up_ne (by rw [Nat.mul_div_cancel _ (by decide)]; exact hj), up_ne hj]), plUp_lt g3 hn1 (hpq3 g1)⟩, ⟨_, get_set ((set_far (by decide)).trans ((far5 140 (by decide) (by decide) (by decide) (by omega) (by omega)).trans h2)), sl_cpy⟩, (set_far (by decide)).trans (get_set ((far5 136 (by decide) (by decide) (by decide) (by omega) (by omega)).trans h1)), hL5.far (fun a a1 a2 a3 => (set_far (by omega)).trans (set_far (by omega))), fun a a1 a2 a3 a4 a5 a6 => (set_far (by omega)).trans ((set_far (by omega)).trans (far5 a a1 a2 a3 a4 a5))⟩)
