/-! ===== calls that answer a number, in which the power may fail; the store's state while it is up; class; by hand ===== -/
def REI (sc : Nat × (Nat → Int32)) (d : Nat) (M : aM) (av : List Value) (H : aH) (ok : Int32 → aH → Prop) (bad : aH → Prop) : Prop := (∃ x H', RC sc d M av H (.inl (some (.int x))) H' 0 0 ∧ ok x H') ∨ (∃ H', RC sc d M av H (.inr 1) H' 1 6 ∧ bad H')
def EQI (ok : Int32 → aH → Prop) (bad : aH → Prop) (r : tO × aH × Nat × Nat) : Prop := (∃ x H', r = (.inl (some (.int x)), H', 0, 0) ∧ ok x H') ∨ (∃ H', r = (.inr 1, H', 1, 6) ∧ bad H')
theorem REI.of {sc : Nat × (Nat → Int32)} {d : Nat} {M : aM} {av : List Value} {H : aH} {ok : Int32 → aH → Prop} {bad : aH → Prop} (h : RQ sc d M 0 (lv_args 0 av) [] H 0 0 (EQI ok bad)) : REI sc d M av H ok bad := by
  obtain ⟨r, h1, h2⟩ := h
  rcases h2 with ⟨x, H', e, h3⟩ | ⟨H', e, h3⟩
  · subst e; exact Or.inl ⟨x, H', h1, h3⟩
  · subst e; exact Or.inr ⟨H', h1, h3⟩
theorem REI.mono {sc : Nat × (Nat → Int32)} {d : Nat} {M : aM} {av : List Value} {H : aH} {ok ok' : Int32 → aH → Prop} {bad bad' : aH → Prop} (h : REI sc d M av H ok bad) (h1 : ∀ x H', ok x H' → ok' x H') (h2 : ∀ H', bad H' → bad' H') : REI sc d M av H ok' bad' := by
  rcases h with ⟨x, H', a, b⟩ | ⟨H', a, b⟩
  · exact Or.inl ⟨x, H', a, h1 x H' b⟩
  · exact Or.inr ⟨H', a, h2 H' b⟩
theorem RQ.callTXI {sc : Nat × (Nat → Int32)} {d : Nat} {M M' : aM} {pc nx : Nat} {lv : aL} {st : List Value} {H : aH} {kc ks : Nat} {Q : tO × aH × Nat × Nat → Prop} {I : Instr} {m k i n : Nat} {av st' : List Value} {ok : Int32 → aH → Prop} {bad : aH → Prop} (hI : lkI pc (mT M) = some (nx, I)) (h0 : stG sc nx lv st H I = none) (h1 : stB st I = none) (h2 : stD st I = none) (hC : stC I = some (m, k)) (hm : mtb[m]? = some M') (ha : argsOf M' k H st = some (av, st')) (hr : REI sc d M' av H ok bad) (hx : lkX pc 1 (mX M) = some (i, n)) (k1 : ∀ x H', ok x H' → RQ sc (d + 1) M nx lv (.int x :: st') H' kc ks Q) (k2 : ∀ H', bad H' → RQ sc (d + 1) M n (lvD lv i) [] H' (kc + 1) (ks + 6) Q) : RQ sc (d + 1) M pc lv st H kc ks Q := by
  rcases hr with ⟨x, H', a, b⟩ | ⟨H', a, b⟩
  · exact RQ.call hI h0 h1 h2 hC hm ha a (k1 x H' b)
  · exact RQ.callX hI h0 h1 h2 hC hm ha a hx (k2 H' b)
/-- what tables and log hold in memory for their work -/
def AuxA (H : aH) (B N : Nat) : Prop := H[190]? = some (kO 4 (logF 0 0)) ∧ (∃ lm bf, lm < 2 ^ 30 ∧ H[136]? = some (kO 8 (tabF lm bf 0))) ∧ (∃ g, H[192]? = some (kB 41 g)) ∧ (∃ pe : Nat → Nat, H[193]? = some (kI 40 (fun j => nI (pe j)))) ∧ (∃ f, H[194]? = some (kI B f)) ∧ (∃ cu, H[137]? = some (kQ 6 24 cu) ∧ ∀ c, c < 24 → cu c = some (142 + 2 * c)) ∧ CursA H ∧ LastA H ∧ ∃ tl, H[141]? = some (kZ N tl)
theorem AuxA.far {H H' : aH} {B N : Nat} (h : AuxA H B N) (hf : ∀ a, 136 ≤ a → a < 195 → a ≠ 140 → a ≠ 191 → H'[a]? = H[a]?) : AuxA H' B N := by
  obtain ⟨h1, ⟨lm, bf, h2, h3⟩, ⟨g, h4⟩, ⟨pe, h5⟩, ⟨f, h6⟩, ⟨cu, h7, h8⟩, h9, h10, ⟨tl, h11⟩⟩ := h
  exact ⟨(hf 190 (by decide) (by decide) (by decide) (by decide)).trans h1, ⟨lm, bf, h2, (hf 136 (by decide) (by decide) (by decide) (by decide)).trans h3⟩, ⟨g, (hf 192 (by decide) (by decide) (by decide) (by decide)).trans h4⟩, ⟨pe, (hf 193 (by decide) (by decide) (by decide) (by decide)).trans h5⟩, ⟨f, (hf 194 (by decide) (by decide) (by decide) (by decide)).trans h6⟩, ⟨cu, (hf 137 (by decide) (by decide) (by decide) (by decide)).trans h7, h8⟩, h9.far (fun a a1 a2 => hf a (by omega) (by omega) (by omega) (by omega)), h10.far (hf 138 (by decide) (by decide) (by decide) (by decide)) (hf 139 (by decide) (by decide) (by decide) (by decide)), ⟨tl, (hf 141 (by decide) (by decide) (by decide) (by decide)).trans h11⟩⟩
/-- the cells of chip, versions, layout, tables and log, and no others -/
def InW (a : Nat) : Prop := 71 ≤ a ∧ a < 195
/-- the store while it is up -/
def UpS (H : aH) (B N bb S : Nat) (op : Nat → Bool) (sm : Nat → Nat) (lgs : List Nat) (fr ff : Nat) (wr : Bool) (tp : Nat) (rs : List aR) (us : Nat → Bool) (c : Nat → Int8) (P1 : Nat) (gs : List aSg) (vs : List aV) : Prop := Dk H B bb S lgs fr ff wr tp rs us c P1 fr ff lgs rs ∧ LsOk B lgs rs ∧ (∀ b, b < B → us b = usedB lgs rs b) ∧ FrW c lgs fr ff wr tp gs ∧ tp ≤ 2048 ∧ ff ≤ 2048 ∧ VersIs H N vs ∧ (∀ v ∈ vs, RecX c lgs wr tp v) ∧ SightAt H op sm ∧ AuxA H B N
/-- the power failed: what the chip holds then -/
def DnS (H : aH) (B N bb S : Nat) (op : Nat → Bool) (sm : Nat → Nat) (c : Nat → Int8) (P0 fr0 ff0 : Nat) (lgs0 : List Nat) (rs0 : List aR) (gs0 : List aSg) : Prop := Dd H B bb S c P0 fr0 ff0 lgs0 rs0 ∧ LsOk B lgs0 rs0 ∧ FrC c lgs0 fr0 ff0 gs0 ∧ ff0 ≤ 2048 ∧ (∃ vs, VersIs H N vs) ∧ SightAt H op sm ∧ AuxA H B N
