/-! ===== what a run of the abstract machine reaches, and what it leaves alone ===== -/
def okV (P : Nat → Prop) : Value → Prop
  | .ref 0 => False
  | .ref (k + 1) => P k
  | _ => True
def okC (P : Nat → Prop) : aC → Prop
  | .inr (.inr (.inr (.inr (.inl (_, _, f))))) => ∀ i k, f i = some k → P k
  | .inr (.inr (.inr (.inr (.inr (_, fs))))) => ∀ v ∈ fs, okV P v
  | _ => True
def okO (P : Nat → Prop) : tO → Prop
  | .inl (some v) => okV P v
  | _ => True
/-- the same cells where P says, and these lead nowhere else -/
def Fr (P : Nat → Prop) (H1 H2 : aH) : Prop := H1.length = H2.length ∧ (∀ a, P a → H1[a]? = H2[a]?) ∧ ∀ a c, P a → H1[a]? = some c → okC P c
def Fs (P : Nat → Prop) (H1 H2 H1' H2' : aH) : Prop := Fr P H1' H2' ∧ (∀ a, ¬ P a → H1'[a]? = H1[a]?) ∧ ∀ a, ¬ P a → H2'[a]? = H2[a]?
theorem Fs.rf {P : Nat → Prop} {H1 H2 : aH} (h : Fr P H1 H2) : Fs P H1 H2 H1 H2 := ⟨h, fun _ _ => rfl, fun _ _ => rfl⟩
theorem Fs.trans {P : Nat → Prop} {A1 A2 B1 B2 C1 C2 : aH} (h : Fs P A1 A2 B1 B2) (g : Fs P B1 B2 C1 C2) : Fs P A1 A2 C1 C2 := ⟨g.1, fun a ha => (g.2.1 a ha).trans (h.2.1 a ha), fun a ha => (g.2.2 a ha).trans (h.2.2 a ha)⟩
theorem Fs.set {P : Nat → Prop} {H1 H2 : aH} {a : Nat} {c : aC} (h : Fr P H1 H2) (ha : P a) (hc : okC P c) : Fs P H1 H2 (H1.set a c) (H2.set a c) := by
  refine ⟨⟨by rw [List.length_set, List.length_set]; exact h.1, fun b hb => ?_, fun b e hb he => ?_⟩, fun b hb => ?_, fun b hb => ?_⟩
  · rw [List.getElem?_set, List.getElem?_set, h.1, h.2.1 b hb]
  · rw [List.getElem?_set] at he
    by_cases hab : a = b
    · rw [if_pos hab] at he
      split at he
      · cases he; exact hc
      · cases he
    · rw [if_neg hab] at he
      exact h.2.2 b e hb he
  · rw [List.getElem?_set, if_neg (fun e : a = b => hb (e ▸ ha))]
  · rw [List.getElem?_set, if_neg (fun e : a = b => hb (e ▸ ha))]
theorem ok_tl {P : Nat → Prop} {v : Value} {st : List Value} (h : ∀ x ∈ v :: st, okV P x) : ∀ x ∈ st, okV P x := fun x hx => h x (List.mem_cons_of_mem _ hx)
theorem ok_hd {P : Nat → Prop} {v : Value} {st : List Value} (h : ∀ x ∈ v :: st, okV P x) : okV P v := h v List.mem_cons_self
theorem ok_cons {P : Nat → Prop} {v : Value} {st : List Value} (hv : okV P v) (h : ∀ x ∈ st, okV P x) : ∀ x ∈ v :: st, okV P x := fun x hx => (List.mem_cons.mp hx).elim (fun e => e ▸ hv) (h x)
theorem lvS_ok {P : Nat → Prop} {lv : aL} {i : Nat} {v : Value} (h : ∀ q ∈ lv, okV P q.2) (hv : okV P v) : ∀ q ∈ lvS lv i v, okV P q.2 := by
  intro q hq
  rcases List.mem_cons.mp hq with e | e
  · rw [e]; exact hv
  · exact h q (List.mem_filter.mp e).1
theorem lvS2_ok {P : Nat → Prop} {lv : aL} {i : Nat} {v : Value} (h : ∀ q ∈ lv, okV P q.2) (hv : okV P v) : ∀ q ∈ lvS2 lv i v, okV P q.2 := by
  intro q hq
  rcases List.mem_cons.mp hq with e | e
  · rw [e]; exact hv
  · exact h q (List.mem_filter.mp e).1
theorem lvG_ok {P : Nat → Prop} {lv : aL} {i : Nat} {v : Value} (h : lvG lv i = some v) (hl : ∀ q ∈ lv, okV P q.2) : okV P v := by
  obtain ⟨j, hj⟩ := lvG_at h
  exact hl _ (List.mem_of_getElem? hj)
section FR
variable {P : Nat → Prop} {sc1 sc2 : Nat × (Nat → Int32)} {nx : Nat} {lv : aL} {st : List Value} {H1 H2 : aH} {pc' : Nat} {lv' : aL} {st' : List Value} {H1' : aH} {c s : Nat}
def FrG (P : Nat → Prop) (H1 H2 H1' : aH) (X : aH → Option aG) (pc' : Nat) (lv' : aL) (st' : List Value) (c s : Nat) : Prop := ∃ H2', X H2 = some (pc', lv', st', H2', c, s) ∧ Fs P H1 H2 H1' H2' ∧ (∀ q ∈ lv', okV P q.2) ∧ ∀ v ∈ st', okV P v
theorem FrG.same {X : aH → Option aG} (F : Fr P H1 H2) (hX : X H2 = some (pc', lv', st', H2, c, s)) (h1 : ∀ q ∈ lv', okV P q.2) (h2 : ∀ v ∈ st', okV P v) : FrG P H1 H2 H1 X pc' lv' st' c s := ⟨H2, hX, Fs.rf F, h1, h2⟩
theorem goL_fr {v : Option Value} {t : Nat} (F : Fr P H1 H2) (hlv : ∀ q ∈ lv, okV P q.2) (hst : ∀ v ∈ st, okV P v) (hv : ∀ w, v = some w → okV P w) (h : goL nx lv st H1 v t = some (pc', lv', st', H1', c, s)) : FrG P H1 H2 H1' (fun H => goL nx lv st H v t) pc' lv' st' c s := by
  unfold goL at h
  split at h
  · cases h; exact FrG.same F rfl hlv (ok_cons trivial hst)
  · cases h; exact FrG.same F rfl hlv (ok_cons trivial hst)
  · cases h; exact FrG.same F rfl hlv (ok_cons (hv _ rfl) hst)
  · cases h
theorem goB_fr {I : Instr} (F : Fr P H1 H2) (hlv : ∀ q ∈ lv, okV P q.2) (hst : ∀ v ∈ st, okV P v) (h : goB I nx lv H1 st = some (pc', lv', st', H1', c, s)) : FrG P H1 H2 H1' (fun H => goB I nx lv H st) pc' lv' st' c s := by
  unfold goB at h
  split at h
  · split at h
    · rename_i v hv
      cases h
      refine FrG.same F ?_ hlv (ok_cons trivial (ok_tl (ok_tl hst)))
      show goB I nx lv H2 (_ :: _ :: _) = _
      unfold goB
      dsimp only
      rw [hv]
    · cases h
  · cases h
theorem goGet_fr {ci k : Nat} (F : Fr P H1 H2) (hlv : ∀ q ∈ lv, okV P q.2) (hst : ∀ v ∈ st, okV P v) (h : goGet ci k nx lv H1 st = some (pc', lv', st', H1', c, s)) : FrG P H1 H2 H1' (fun H => goGet ci k nx lv H st) pc' lv' st' c s := by
  unfold goGet at h
  split at h
  · rename_i a s0
    have ha : P a := ok_hd hst
    split at h
    · rename_i c' fs hc
      obtain ⟨hb, h2⟩ := cond_true h
      split at h2
      · rename_i v hv
        cases h2
        refine FrG.same F ?_ hlv (ok_cons (F.2.2 a _ ha hc v (List.mem_of_getElem? hv)) (ok_tl hst))
        show goGet ci k nx lv H2 (.ref (a + 1) :: _) = _
        unfold goGet
        dsimp only
        rw [← F.2.1 a ha, hc]
        dsimp only
        rw [hb, hv]
        rfl
      · cases h2
    · cases h
  · cases h
theorem goPut_fr {ci k t : Nat} (F : Fr P H1 H2) (hlv : ∀ q ∈ lv, okV P q.2) (hst : ∀ v ∈ st, okV P v) (h : goPut ci k t nx lv H1 st = some (pc', lv', st', H1', c, s)) : FrG P H1 H2 H1' (fun H => goPut ci k t nx lv H st) pc' lv' st' c s := by
  unfold goPut at h
  split at h
  · rename_i v a s0
    have ha : P a := ok_hd (ok_tl hst)
    split at h
    · rename_i c' fs hc
      obtain ⟨hb, h2⟩ := cond_true h
      cases h2
      refine ⟨_, ?_, Fs.set F ha (fun w hw => ?_), hlv, ok_tl (ok_tl hst)⟩
      · show goPut ci k t nx lv H2 (_ :: .ref (a + 1) :: _) = _
        unfold goPut
        dsimp only
        rw [← F.2.1 a ha, hc]
        dsimp only
        rw [hb]
        rfl
      · rcases List.mem_or_eq_of_mem_set hw with g | g
        · exact F.2.2 a _ ha hc w g
        · rw [g]; exact ok_hd hst
    · cases h
  · cases h
theorem goIald_fr (F : Fr P H1 H2) (hlv : ∀ q ∈ lv, okV P q.2) (hst : ∀ v ∈ st, okV P v) (h : goIald sc1 nx lv H1 st = some (pc', lv', st', H1', c, s)) : FrG P H1 H2 H1' (fun H => goIald sc2 nx lv H st) pc' lv' st' c s := by
  unfold goIald at h
  split at h
  · exact absurd (ok_hd (ok_tl hst)) (fun h => h)
  · rename_i i a s0
    have ha : P a := ok_hd (ok_tl hst)
    split at h
    · rename_i n f hc
      obtain ⟨hb, h2⟩ := cond_true h
      cases h2
      refine FrG.same F ?_ hlv (ok_cons trivial (ok_tl (ok_tl hst)))
      show goIald sc2 nx lv H2 (_ :: .ref (a + 1) :: _) = _
      unfold goIald
      dsimp only
      rw [← F.2.1 a ha, hc]
      dsimp only
      rw [hb]
      rfl
    · cases h
  · cases h
theorem goBald_fr (F : Fr P H1 H2) (hlv : ∀ q ∈ lv, okV P q.2) (hst : ∀ v ∈ st, okV P v) (h : goBald nx lv H1 st = some (pc', lv', st', H1', c, s)) : FrG P H1 H2 H1' (fun H => goBald nx lv H st) pc' lv' st' c s := by
  unfold goBald at h
  split at h
  · rename_i i a s0
    have ha : P a := ok_hd (ok_tl hst)
    split at h
    · rename_i n f hc
      obtain ⟨hb, h2⟩ := cond_true h
      cases h2
      refine FrG.same F ?_ hlv (ok_cons trivial (ok_tl (ok_tl hst)))
      show goBald nx lv H2 (_ :: .ref (a + 1) :: _) = _
      unfold goBald
      dsimp only
      rw [← F.2.1 a ha, hc]
      dsimp only
      rw [hb]
      rfl
    · rename_i n f hc
      obtain ⟨hb, h2⟩ := cond_true h
      cases h2
      refine FrG.same F ?_ hlv (ok_cons trivial (ok_tl (ok_tl hst)))
      show goBald nx lv H2 (_ :: .ref (a + 1) :: _) = _
      unfold goBald
      dsimp only
      rw [← F.2.1 a ha, hc]
      dsimp only
      rw [hb]
      rfl
    · cases h
  · cases h
theorem goLald_fr (F : Fr P H1 H2) (hlv : ∀ q ∈ lv, okV P q.2) (hst : ∀ v ∈ st, okV P v) (h : goLald nx lv H1 st = some (pc', lv', st', H1', c, s)) : FrG P H1 H2 H1' (fun H => goLald nx lv H st) pc' lv' st' c s := by
  unfold goLald at h
  split at h
  · rename_i i a s0
    have ha : P a := ok_hd (ok_tl hst)
    split at h
    · rename_i n f hc
      obtain ⟨hb, h2⟩ := cond_true h
      cases h2
      refine FrG.same F ?_ hlv (ok_cons trivial (ok_tl (ok_tl hst)))
      show goLald nx lv H2 (_ :: .ref (a + 1) :: _) = _
      unfold goLald
      dsimp only
      rw [← F.2.1 a ha, hc]
      dsimp only
      rw [hb]
      rfl
    · cases h
  · cases h
theorem goAald_fr (F : Fr P H1 H2) (hlv : ∀ q ∈ lv, okV P q.2) (hst : ∀ v ∈ st, okV P v) (h : goAald nx lv H1 st = some (pc', lv', st', H1', c, s)) : FrG P H1 H2 H1' (fun H => goAald nx lv H st) pc' lv' st' c s := by
  unfold goAald at h
  split at h
  · rename_i i a s0
    have ha : P a := ok_hd (ok_tl hst)
    split at h
    · rename_i t n f hc
      obtain ⟨hb, h2⟩ := cond_true h
      split at h2
      · rename_i b hf
        cases h2
        refine FrG.same F ?_ hlv (ok_cons (F.2.2 a _ ha hc _ _ hf) (ok_tl (ok_tl hst)))
        show goAald nx lv H2 (_ :: .ref (a + 1) :: _) = _
        unfold goAald
        dsimp only
        rw [← F.2.1 a ha, hc]
        dsimp only
        rw [hb, hf]
        rfl
      · cases h2
    · cases h
  · cases h
theorem goIast_fr (F : Fr P H1 H2) (hlv : ∀ q ∈ lv, okV P q.2) (hst : ∀ v ∈ st, okV P v) (h : goIast nx lv H1 st = some (pc', lv', st', H1', c, s)) : FrG P H1 H2 H1' (fun H => goIast nx lv H st) pc' lv' st' c s := by
  unfold goIast at h
  split at h
  · rename_i x i a s0
    have ha : P a := ok_hd (ok_tl (ok_tl hst))
    split at h
    · rename_i n f hc
      obtain ⟨hb, h2⟩ := cond_true h
      cases h2
      refine ⟨_, ?_, Fs.set F ha trivial, hlv, ok_tl (ok_tl (ok_tl hst))⟩
      show goIast nx lv H2 (_ :: _ :: .ref (a + 1) :: _) = _
      unfold goIast
      dsimp only
      rw [← F.2.1 a ha, hc]
      dsimp only
      rw [hb]
      rfl
    · cases h
  · cases h
theorem goBast_fr (F : Fr P H1 H2) (hlv : ∀ q ∈ lv, okV P q.2) (hst : ∀ v ∈ st, okV P v) (h : goBast nx lv H1 st = some (pc', lv', st', H1', c, s)) : FrG P H1 H2 H1' (fun H => goBast nx lv H st) pc' lv' st' c s := by
  unfold goBast at h
  split at h
  · rename_i x i a s0
    have ha : P a := ok_hd (ok_tl (ok_tl hst))
    split at h
    · rename_i n f hc
      obtain ⟨hb, h2⟩ := cond_true h
      cases h2
      refine ⟨_, ?_, Fs.set F ha trivial, hlv, ok_tl (ok_tl (ok_tl hst))⟩
      show goBast nx lv H2 (_ :: _ :: .ref (a + 1) :: _) = _
      unfold goBast
      dsimp only
      rw [← F.2.1 a ha, hc]
      dsimp only
      rw [hb]
      rfl
    · rename_i n f hc
      obtain ⟨hb, h2⟩ := cond_true h
      cases h2
      refine ⟨_, ?_, Fs.set F ha trivial, hlv, ok_tl (ok_tl (ok_tl hst))⟩
      show goBast nx lv H2 (_ :: _ :: .ref (a + 1) :: _) = _
      unfold goBast
      dsimp only
      rw [← F.2.1 a ha, hc]
      dsimp only
      rw [hb]
      rfl
    · cases h
  · cases h
theorem goLast_fr (F : Fr P H1 H2) (hlv : ∀ q ∈ lv, okV P q.2) (hst : ∀ v ∈ st, okV P v) (h : goLast nx lv H1 st = some (pc', lv', st', H1', c, s)) : FrG P H1 H2 H1' (fun H => goLast nx lv H st) pc' lv' st' c s := by
  unfold goLast at h
  split at h
  · rename_i x i a s0
    have ha : P a := ok_hd (ok_tl (ok_tl hst))
    split at h
    · rename_i n f hc
      obtain ⟨hb, h2⟩ := cond_true h
      cases h2
      refine ⟨_, ?_, Fs.set F ha trivial, hlv, ok_tl (ok_tl (ok_tl hst))⟩
      show goLast nx lv H2 (_ :: _ :: .ref (a + 1) :: _) = _
      unfold goLast
      dsimp only
      rw [← F.2.1 a ha, hc]
      dsimp only
      rw [hb]
      rfl
    · cases h
  · cases h
theorem goAast_fr (F : Fr P H1 H2) (hlv : ∀ q ∈ lv, okV P q.2) (hst : ∀ v ∈ st, okV P v) (h : goAast nx lv H1 st = some (pc', lv', st', H1', c, s)) : FrG P H1 H2 H1' (fun H => goAast nx lv H st) pc' lv' st' c s := by
  unfold goAast at h
  split at h
  · rename_i v i a s0
    have ha : P a := ok_hd (ok_tl (ok_tl hst))
    have hv : P v := ok_hd hst
    split at h
    · rename_i t n f c9 fs hc hcv
      obtain ⟨hb, h2⟩ := cond_true h
      cases h2
      refine ⟨_, ?_, Fs.set F ha (fun j q hj => ?_), hlv, ok_tl (ok_tl (ok_tl hst))⟩
      · show goAast nx lv H2 (.ref (v + 1) :: _ :: .ref (a + 1) :: _) = _
        unfold goAast
        dsimp only
        rw [← F.2.1 a ha, hc, ← F.2.1 v hv, hcv]
        dsimp only
        rw [hb]
        rfl
      · unfold va_up at hj
        by_cases g : j = i.toNatClampNeg
        · rw [if_pos g] at hj; cases hj; exact hv
        · rw [if_neg g] at hj; exact F.2.2 a _ ha hc j q hj
    · cases h
  · cases h
theorem goLen_fr (F : Fr P H1 H2) (hlv : ∀ q ∈ lv, okV P q.2) (hst : ∀ v ∈ st, okV P v) (h : goLen sc1 nx lv H1 st = some (pc', lv', st', H1', c, s)) : FrG P H1 H2 H1' (fun H => goLen sc2 nx lv H st) pc' lv' st' c s := by
  unfold goLen at h
  split at h
  · exact absurd (ok_hd hst) (fun h => h)
  · rename_i a s0
    have ha : P a := ok_hd hst
    split at h
    · rename_i c0 hc
      split at h
      · rename_i n hn
        cases h
        refine FrG.same F ?_ hlv (ok_cons trivial (ok_tl hst))
        show goLen sc2 nx lv H2 (.ref (a + 1) :: _) = _
        unfold goLen
        dsimp only
        rw [← F.2.1 a ha, hc]
        dsimp only
        rw [hn]
      · cases h
    · cases h
  · cases h
theorem goCpy_fr (F : Fr P H1 H2) (hlv : ∀ q ∈ lv, okV P q.2) (hst : ∀ v ∈ st, okV P v) (h : goCpy nx lv H1 st = some (pc', lv', st', H1', c, s)) : FrG P H1 H2 H1' (fun H => goCpy nx lv H st) pc' lv' st' c s := by
  unfold goCpy at h
  split at h
  · rename_i n dp a sp a0 s0
    have ha : P a := ok_hd (ok_tl (ok_tl hst))
    have ha0 : P a0 := ok_hd (ok_tl (ok_tl (ok_tl (ok_tl hst))))
    obtain ⟨hb, h2⟩ := cond_true h
    split at h2
    · rename_i n0 f n1 g h0 h1
      obtain ⟨hb3, h3⟩ := cond_true h2
      cases h3
      refine ⟨_, ?_, Fs.set F ha trivial, hlv, ok_tl (ok_tl (ok_tl (ok_tl (ok_tl hst))))⟩
      show goCpy nx lv H2 (_ :: _ :: .ref (a + 1) :: _ :: .ref (a0 + 1) :: _) = _
      unfold goCpy
      dsimp only
      rw [hb, ← F.2.1 a ha, h1, ← F.2.1 a0 ha0, h0]
      dsimp only
      rw [hb3]
      rfl
    · rename_i n0 f n1 g h0 h1
      obtain ⟨hb3, h3⟩ := cond_true h2
      cases h3
      refine ⟨_, ?_, Fs.set F ha trivial, hlv, ok_tl (ok_tl (ok_tl (ok_tl (ok_tl hst))))⟩
      show goCpy nx lv H2 (_ :: _ :: .ref (a + 1) :: _ :: .ref (a0 + 1) :: _) = _
      unfold goCpy
      dsimp only
      rw [hb, ← F.2.1 a ha, h1, ← F.2.1 a0 ha0, h0]
      dsimp only
      rw [hb3]
      rfl
    · cases h2
  · cases h
theorem goTab_fr {dd lo hi : Int} {offs : Array Int} (F : Fr P H1 H2) (hlv : ∀ q ∈ lv, okV P q.2) (hst : ∀ v ∈ st, okV P v) (h : goTab lv H1 dd lo hi offs st = some (pc', lv', st', H1', c, s)) : FrG P H1 H2 H1' (fun H => goTab lv H dd lo hi offs st) pc' lv' st' c s := by
  unfold goTab at h
  split at h
  · rename_i x s0
    split at h
    · rename_i hx
      cases h
      refine FrG.same F ?_ hlv (ok_tl hst)
      show goTab lv H2 dd lo hi offs (_ :: _) = _
      unfold goTab
      dsimp only
      rw [if_pos hx]
    · rename_i hx
      split at h
      · rename_i t ht
        cases h
        refine FrG.same F ?_ hlv (ok_tl hst)
        show goTab lv H2 dd lo hi offs (_ :: _) = _
        unfold goTab
        dsimp only
        rw [if_neg hx, ht]
      · cases h
  · cases h
set_option maxHeartbeats 4000000 in
theorem stG_fr {I : Instr} (F : Fr P H1 H2) (hlv : ∀ q ∈ lv, okV P q.2) (hst : ∀ v ∈ st, okV P v) (h : stG sc1 nx lv st H1 I = some (pc', lv', st', H1', c, s)) (hl : H1'.length = H1.length) : FrG P H1 H2 H1' (fun H => stG sc2 nx lv st H I) pc' lv' st' c s := by
  unfold stG at h
  split at h
  · cases h; exact FrG.same F rfl hlv (ok_cons trivial hst)
  · cases h; exact FrG.same F rfl hlv (ok_cons trivial hst)
  · cases h; exact FrG.same F rfl hlv (ok_cons trivial hst)
  · cases h; exact FrG.same F rfl hlv (ok_cons trivial hst)
  · exact goL_fr F hlv hst (fun w hw => lvG_ok hw hlv) h
  · exact goL_fr F hlv hst (fun w hw => lvG_ok hw hlv) h
  · exact goL_fr F hlv hst (fun w hw => lvG_ok hw hlv) h
  · split at h
    · cases h; exact FrG.same F rfl (lvS_ok hlv trivial) (ok_tl hst)
    · cases h
  · split at h
    · cases h; exact FrG.same F rfl (lvS_ok hlv (ok_hd hst)) (ok_tl hst)
    · cases h
  · split at h
    · cases h; exact FrG.same F rfl (lvS2_ok hlv trivial) (ok_tl hst)
    · cases h
  · rename_i i n
    split at h
    · rename_i x hx
      cases h
      refine FrG.same F ?_ (lvS_ok hlv trivial) hst
      unfold stG
      dsimp only
      rw [hx]
    · cases h
  · exact goB_fr F hlv hst h
  · exact goB_fr F hlv hst h
  · exact goB_fr F hlv hst h
  · exact goB_fr F hlv hst h
  · exact goB_fr F hlv hst h
  · exact goB_fr F hlv hst h
  · exact goB_fr F hlv hst h
  · exact goB_fr F hlv hst h
  · exact goB_fr F hlv hst h
  · exact goB_fr F hlv hst h
  · split at h
    · obtain ⟨hb, h2⟩ := cond_true h
      cases h2
      refine FrG.same F ?_ hlv (ok_cons trivial (ok_tl (ok_tl hst)))
      unfold stG
      dsimp only
      rw [hb]
      rfl
    · cases h
  · split at h
    · obtain ⟨hb, h2⟩ := cond_true h
      cases h2
      refine FrG.same F ?_ hlv (ok_cons trivial (ok_tl (ok_tl hst)))
      unfold stG
      dsimp only
      rw [hb]
      rfl
    · cases h
  · split at h
    · obtain ⟨hb, h2⟩ := cond_true h
      cases h2
      refine FrG.same F ?_ hlv (ok_tl hst)
      unfold stG
      dsimp only
      rw [hb]
      rfl
    · cases h
  · exact goCpy_fr F hlv hst h
  · split at h
    · cases h; exact FrG.same F rfl hlv (ok_cons trivial (ok_tl hst))
    · cases h
  · split at h
    · cases h; exact FrG.same F rfl hlv (ok_cons trivial (ok_tl hst))
    · cases h
  · split at h
    · cases h; exact FrG.same F rfl hlv (ok_cons trivial (ok_tl (ok_tl hst)))
    · cases h
  · split at h
    · cases h; exact FrG.same F rfl hlv (ok_cons trivial (ok_tl (ok_tl hst)))
    · cases h
  · split at h
    · cases h; exact FrG.same F rfl hlv (ok_cons trivial (ok_tl (ok_tl hst)))
    · cases h
  · split at h
    · cases h; exact FrG.same F rfl hlv (ok_cons trivial (ok_tl (ok_tl hst)))
    · cases h
  · split at h
    · cases h; exact FrG.same F rfl hlv (ok_cons trivial (ok_tl (ok_tl hst)))
    · cases h
  · split at h
    · obtain ⟨hb, h2⟩ := cond_true h
      cases h2
      refine FrG.same F ?_ hlv (ok_cons (ok_hd hst) hst)
      unfold stG
      dsimp only
      rw [hb]
      rfl
    · cases h
  · split at h
    · obtain ⟨hb, h2⟩ := cond_true h
      cases h2
      refine FrG.same F ?_ hlv (ok_cons (ok_hd hst) (ok_cons (ok_hd (ok_tl hst)) hst))
      unfold stG
      dsimp only
      rw [hb]
      rfl
    · cases h
  · split at h
    · obtain ⟨hb, h2⟩ := cond_true h
      cases h2
      refine FrG.same F ?_ hlv (ok_tl hst)
      unfold stG
      dsimp only
      rw [hb]
      rfl
    · cases h
  · cases h; exact FrG.same F rfl hlv hst
  · exact goTab_fr F hlv hst h
  · exact goGet_fr F hlv hst h
  · exact goPut_fr F hlv hst h
  · exact goIald_fr F hlv hst h
  · exact goBald_fr F hlv hst h
  · exact goLald_fr F hlv hst h
  · exact goAald_fr F hlv hst h
  · exact goIast_fr F hlv hst h
  · exact goBast_fr F hlv hst h
  · exact goLast_fr F hlv hst h
  · exact goAast_fr F hlv hst h
  · exact goLen_fr F hlv hst h
  · obtain ⟨hb, h2⟩ := cond_true h
    cases h2
    rw [List.length_append] at hl
    exact absurd hl (by show ¬ H1.length + 1 = H1.length; omega)
  · unfold goNewa at h
    split at h
    · obtain ⟨hb, h2⟩ := cond_true h
      split at h2
      · cases h2
        rw [List.length_append] at hl
        exact absurd hl (by show ¬ H1.length + 1 = H1.length; omega)
      · cases h2
    · cases h
  · unfold goNewq at h
    split at h
    · obtain ⟨hb, h2⟩ := cond_true h
      cases h2
      rw [List.length_append] at hl
      exact absurd hl (by show ¬ H1.length + 1 = H1.length; omega)
    · cases h
  · cases h
end FR
section FL
variable {sc : Nat × (Nat → Int32)} {nx : Nat} {lv : aL} {st : List Value} {H : aH} {pc' : Nat} {lv' : aL} {st' : List Value} {H' : aH} {c s : Nat}
set_option maxHeartbeats 8000000 in
theorem stG_len {I : Instr} (h : stG sc nx lv st H I = some (pc', lv', st', H', c, s)) : H.length ≤ H'.length := by
  unfold stG at h
  split at h
  all_goals first
    | (cases h; done)
    | (cases h; exact Nat.le_refl _)
    | (unfold goL at h; split at h <;> first | (cases h; done) | (cases h; exact Nat.le_refl _))
    | (unfold goB at h; split at h <;> first | (cases h; done) | (split at h <;> first | (cases h; done) | (cases h; exact Nat.le_refl _)))
    | (split at h <;> first | (cases h; done) | (cases h; exact Nat.le_refl _) | (obtain ⟨hb, h2⟩ := cond_true h; cases h2; exact Nat.le_refl _))
    | (unfold goTab at h; split at h <;> first | (cases h; done) | (split at h <;> first | (cases h; exact Nat.le_refl _) | (split at h <;> first | (cases h; done) | (cases h; exact Nat.le_refl _))))
    | (unfold goCpy at h; split at h <;> first | (cases h; done) | (obtain ⟨hb, h2⟩ := cond_true h; split at h2 <;> first | (cases h2; done) | (obtain ⟨hb3, h3⟩ := cond_true h2; cases h3; rw [List.length_set]; exact Nat.le_refl _)))
    | (unfold goGet at h; split at h <;> first | (cases h; done) | (split at h <;> first | (cases h; done) | (obtain ⟨hb, h2⟩ := cond_true h; split at h2 <;> first | (cases h2; done) | (cases h2; exact Nat.le_refl _))))
    | (unfold goAald at h; split at h <;> first | (cases h; done) | (split at h <;> first | (cases h; done) | (obtain ⟨hb, h2⟩ := cond_true h; split at h2 <;> first | (cases h2; done) | (cases h2; exact Nat.le_refl _))))
    | (unfold goIald at h; split at h <;> first | (cases h; done) | (obtain ⟨hb, h2⟩ := cond_true h; cases h2; exact Nat.le_refl _) | (split at h <;> first | (cases h; done) | (obtain ⟨hb, h2⟩ := cond_true h; cases h2; exact Nat.le_refl _)))
    | (unfold goLen at h; split at h <;> first | (cases h; done) | (cases h; exact Nat.le_refl _) | (split at h <;> first | (cases h; done) | (split at h <;> first | (cases h; done) | (cases h; exact Nat.le_refl _))))
    | (obtain ⟨hb, h2⟩ := cond_true h; cases h2; rw [List.length_append]; exact Nat.le_add_right _ _)
    | (unfold goNewa at h; split at h <;> first | (cases h; done) | (obtain ⟨hb, h2⟩ := cond_true h; split at h2 <;> first | (cases h2; done) | (cases h2; rw [List.length_append]; exact Nat.le_add_right _ _)))
    | (unfold goNewq at h; split at h <;> first | (cases h; done) | (obtain ⟨hb, h2⟩ := cond_true h; cases h2; rw [List.length_append]; exact Nat.le_add_right _ _))
    | (first | unfold goBald at h | unfold goLald at h | unfold goPut at h | unfold goIast at h | unfold goBast at h | unfold goLast at h | unfold goAast at h) <;> (split at h <;> first | (cases h; done) | (split at h <;> first | (cases h; done) | (obtain ⟨hb, h2⟩ := cond_true h; cases h2; first | exact Nat.le_refl _ | (rw [List.length_set]; exact Nat.le_refl _))))
end FL
set_option maxHeartbeats 4000000 in
theorem stG_excl {sc : Nat × (Nat → Int32)} {nx : Nat} {lv : aL} {st : List Value} {H : aH} {y : aG} {I : Instr} (h : stG sc nx lv st H I = some y) : stB st I = none ∧ stD st I = none ∧ stC I = none := by
  unfold stG at h
  split at h
  all_goals first
    | exact ⟨rfl, rfl, rfl⟩
    | (cases h; done)
theorem run_len {mt : List aM} {sc : Nat × (Nat → Int32)} : ∀ (f d : Nat) (M : aM) (pc : Nat) (lv : aL) (st : List Value) (H : aH) (kc ks : Nat) (r : tO × aH × Nat × Nat), run mt sc f d M pc lv st H kc ks = some r → H.length ≤ r.2.1.length := by
  intro f
  induction f with
  | zero => intro d M pc lv st H kc ks r h; cases h
  | succ f ih =>
    intro d M pc lv st H kc ks r h
    rw [run] at h
    split at h
    · cases h
    · split at h
      · rename_i hg
        exact Nat.le_trans (stG_len hg) (ih _ _ _ _ _ _ _ _ _ h)
      · split at h
        · rename_i b t st' hb
          cases b with
          | true => exact ih _ _ _ _ _ _ _ _ _ h
          | false => exact ih _ _ _ _ _ _ _ _ _ h
        · split at h
          · cases h; exact Nat.le_refl _
          · split at h
            · cases h
            · split at h
              · cases h
              · split at h
                · cases h
                · split at h
                  · cases h
                  · split at h
                    · cases h
                    · rename_i hr
                      exact Nat.le_trans (ih _ _ _ _ _ _ _ _ _ hr) (ih _ _ _ _ _ _ _ _ _ h)
                    · rename_i hr
                      split at h
                      · rename_i x H' c s hx
                        cases hany : (mX M).any (fun q => Nat.ble q.1 pc && Nat.blt pc q.2.1) with
                        | true => rw [hany] at h; cases h
                        | false =>
                          rw [hany] at h
                          cases h
                          have e := ih _ _ _ _ _ _ _ _ _ hr
                          exact e
                      · exact Nat.le_trans (ih _ _ _ _ _ _ _ _ _ hr) (ih _ _ _ _ _ _ _ _ _ h)
theorem stB_ok {P : Nat → Prop} {st : List Value} {I : Instr} {b : Bool} {t : Nat} {st' : List Value} (h : stB st I = some (b, t, st')) (hst : ∀ v ∈ st, okV P v) : ∀ v ∈ st', okV P v := by
  unfold stB at h
  split at h
  · split at h
    · cases h; exact ok_tl hst
    · cases h
  · split at h
    · cases h; exact ok_tl (ok_tl hst)
    · cases h
  · split at h
    · cases h; exact ok_tl hst
    · cases h; exact ok_tl hst
    · cases h
  · split at h
    · cases h; exact ok_tl hst
    · cases h; exact ok_tl hst
    · cases h
  · cases h
theorem stD_ok {P : Nat → Prop} {st : List Value} {I : Instr} {o : tO} {c s : Nat} (h : stD st I = some (o, c, s)) (hst : ∀ v ∈ st, okV P v) : okO P o := by
  unfold stD at h
  split at h
  · split at h
    · cases h; trivial
    · cases h
  · split at h
    · cases h; trivial
    · cases h
  · split at h
    · cases h; exact ok_hd hst
    · cases h
  · split at h
    · cases h; trivial
    · cases h
  · split at h
    · obtain ⟨hb, h2⟩ := cond_true h; cases h2; trivial
    · cases h
  · obtain ⟨hb, h2⟩ := cond_true h; cases h2; trivial
  · cases h
theorem isOb_fr {P : Nat → Prop} {H1 H2 : aH} {c : Nat} {v : Value} (F : Fr P H1 H2) (hv : okV P v) : isOb c H1 v = isOb c H2 v := by
  unfold isOb
  split
  · rename_i a
    rw [F.2.1 a hv]
  · rfl
theorem args_fr {P : Nat → Prop} {H1 H2 : aH} {M : aM} {k : Nat} {st av st' : List Value} (F : Fr P H1 H2) (hst : ∀ v ∈ st, okV P v) (h : argsOf M k H1 st = some (av, st')) : argsOf M k H2 st = some (av, st') ∧ (∀ v ∈ av, okV P v) ∧ ∀ v ∈ st', okV P v := by
  unfold argsOf at h ⊢
  cases hs : (!(mS M == k)) with
  | true => rw [hs] at h; cases h
  | false =>
    rw [hs] at h
    dsimp only [cond_false] at h ⊢
    split at h
    · obtain ⟨hb, h2⟩ := cond_true h
      cases h2
      refine ⟨by rw [hb]; rfl, fun v hv => hst v (List.mem_of_mem_take (List.mem_reverse.mp hv)), fun v hv => hst v (List.mem_of_mem_drop hv)⟩
    · rename_i k0 hk0
      split at h
      · rename_i v s0 hd
        have hv : okV P v := hst v (List.mem_of_mem_drop (by rw [hd]; exact List.mem_cons_self))
        obtain ⟨hb, h2⟩ := cond_true h
        cases h2
        rw [isOb_fr F hv] at hb
        refine ⟨?_, fun w hw => ?_, fun w hw => hst w (List.mem_of_mem_drop (by rw [hd]; exact List.mem_cons_of_mem _ hw))⟩
        · rw [hb]
          rfl
        · rcases List.mem_cons.mp hw with e | e
          · rw [e]; exact hv
          · exact hst w (List.mem_of_mem_take (List.mem_reverse.mp e))
      · cases h
theorem lvArgs_ok {P : Nat → Prop} {av : List Value} (h : ∀ v ∈ av, okV P v) : ∀ q ∈ lv_args 0 av, okV P q.2 := fun q hq => h _ (args_in _ _ q hq)
set_option maxHeartbeats 1000000 in
/-- a run that makes no cell: it reads and writes P's cells alone; it is the same wherever these are the same -/
theorem run_fr {P : Nat → Prop} {mt : List aM} {sc1 sc2 : Nat × (Nat → Int32)} : ∀ (f d : Nat) (M : aM) (pc : Nat) (lv : aL) (st : List Value) (H1 H2 : aH) (kc ks : Nat) (r : tO × aH × Nat × Nat), run mt sc1 f d M pc lv st H1 kc ks = some r → r.2.1.length = H1.length → Fr P H1 H2 → (∀ q ∈ lv, okV P q.2) → (∀ v ∈ st, okV P v) →
    ∃ H2', run mt sc2 f d M pc lv st H2 kc ks = some (r.1, H2', r.2.2.1, r.2.2.2) ∧ Fs P H1 H2 r.2.1 H2' ∧ okO P r.1 := by
  intro f
  induction f with
  | zero => intro d M pc lv st H1 H2 kc ks r h; cases h
  | succ f ih =>
    intro d M pc lv st H1 H2 kc ks r h hl F hlv hst
    rw [run] at h
    rw [run]
    cases hI : lkI pc (mT M) with
    | none => rw [hI] at h; cases h
    | some x =>
      obtain ⟨nx, I⟩ := x
      rw [hI] at h
      dsimp only at h ⊢
      cases hg : stG sc1 nx lv st H1 I with
      | some y =>
        obtain ⟨pc', lv', st', H1', c, s⟩ := y
        rw [hg] at h
        dsimp only at h
        have e1 := stG_len hg
        have e2 := run_len _ _ _ _ _ _ _ _ _ _ h
        have e3 : H1'.length = H1.length := by omega
        obtain ⟨H2', g1, g2, g3, g4⟩ := stG_fr (sc2 := sc2) F hlv hst hg e3
        dsimp only at g1
        rw [g1]
        obtain ⟨H2'', k1, k2, k3⟩ := ih _ _ _ _ _ _ H2' _ _ _ h (by omega) g2.1 g3 g4
        exact ⟨H2'', k1, g2.trans k2, k3⟩
      | none =>
        rw [hg] at h
        dsimp only at h
        have hg2 : stG sc2 nx lv st H2 I = none := by
          cases hg2 : stG sc2 nx lv st H2 I with
          | none => rfl
          | some y =>
            obtain ⟨q1, q2, q3⟩ := stG_excl hg2
            rw [q1] at h
            dsimp only at h
            rw [q2] at h
            dsimp only at h
            rw [q3] at h
            cases h
        rw [hg2]
        dsimp only
        cases hb : stB st I with
        | some y =>
          obtain ⟨b, t, st'⟩ := y
          rw [hb] at h
          have hst' := stB_ok hb hst
          cases b with
          | true => exact ih _ _ _ _ _ _ _ _ _ _ h hl F hlv hst'
          | false => exact ih _ _ _ _ _ _ _ _ _ _ h hl F hlv hst'
        | none =>
          rw [hb] at h
          dsimp only at h ⊢
          cases hD : stD st I with
          | some y =>
            obtain ⟨o, c, s⟩ := y
            rw [hD] at h
            cases h
            exact ⟨H2, rfl, Fs.rf F, stD_ok hD hst⟩
          | none =>
            rw [hD] at h
            dsimp only at h ⊢
            cases hC : stC I with
            | none => rw [hC] at h; cases h
            | some y =>
              obtain ⟨m, k⟩ := y
              rw [hC] at h
              dsimp only at h ⊢
              cases hm : mt[m]? with
              | none => rw [hm] at h; cases h
              | some M' =>
                rw [hm] at h
                dsimp only at h ⊢
                cases ha : argsOf M' k H1 st with
                | none => rw [ha] at h; cases h
                | some y =>
                  obtain ⟨av, st'⟩ := y
                  rw [ha] at h
                  obtain ⟨a1, a2, a3⟩ := args_fr F hst ha
                  rw [a1]
                  dsimp only at h ⊢
                  cases d with
                  | zero => cases h
                  | succ d' =>
                    dsimp only at h ⊢
                    cases hr : run mt sc1 f d' M' 0 (lv_args 0 av) [] H1 0 0 with
                    | none => rw [hr] at h; cases h
                    | some y =>
                      obtain ⟨o, H1', c, s⟩ := y
                      rw [hr] at h
                      have e1 := run_len _ _ _ _ _ _ _ _ _ _ hr
                      have e2 : H1'.length = H1.length := by
                        cases o with
                        | inl v =>
                          have e3 := run_len _ _ _ _ _ _ _ _ _ _ h
                          dsimp only at e1
                          omega
                        | inr x =>
                          dsimp only at h e1
                          cases hx : lkX pc x (mX M) with
                          | none =>
                            rw [hx] at h
                            dsimp only at h
                            cases hany : (mX M).any (fun q => Nat.ble q.1 pc && Nat.blt pc q.2.1) with
                            | true => rw [hany] at h; cases h
                            | false => rw [hany] at h; cases h; exact hl
                          | some y =>
                            rw [hx] at h
                            have e3 := run_len _ _ _ _ _ _ _ _ _ _ h
                            omega
                      obtain ⟨H2', k1, k2, k3⟩ := ih _ _ _ _ _ _ H2 _ _ _ hr e2 F (lvArgs_ok a2) (fun v hv => by cases hv)
                      dsimp only at k1 k2 k3
                      rw [k1]
                      cases o with
                      | inl v =>
                        dsimp only at h ⊢
                        obtain ⟨H2'', j1, j2, j3⟩ := ih _ _ _ _ _ _ H2' _ _ _ h (by omega) k2.1 hlv (fun w hw => by
                          rcases List.mem_append.mp hw with e | e
                          · cases v with
                            | none => cases e
                            | some v' => rw [List.mem_singleton.mp e]; exact k3
                          · exact a3 w e)
                        exact ⟨H2'', j1, k2.trans j2, j3⟩
                      | inr x =>
                        dsimp only at h ⊢
                        cases hx : lkX pc x (mX M) with
                        | none =>
                          rw [hx] at h
                          dsimp only at h ⊢
                          cases hany : (mX M).any (fun q => Nat.ble q.1 pc && Nat.blt pc q.2.1) with
                          | true => rw [hany] at h; cases h
                          | false =>
                            rw [hany] at h
                            cases h
                            exact ⟨H2', rfl, k2, trivial⟩
                        | some y =>
                          obtain ⟨i, n⟩ := y
                          rw [hx] at h
                          dsimp only at h ⊢
                          obtain ⟨H2'', j1, j2, j3⟩ := ih _ _ _ _ _ _ H2' _ _ _ h (by omega) k2.1 (fun q hq => hlv q (List.mem_filter.mp hq).1) (fun v hv => by cases hv)
                          exact ⟨H2'', j1, k2.trans j2, j3⟩
