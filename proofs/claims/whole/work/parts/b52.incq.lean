/-! ===== behind a change: the store's state again; how many versions there are; by hand ===== -/
/-- not many are in memory alone -/
def Xb (X : (Nat → Int8) → List aV → Prop) : (Nat → Int8) → List aV → Prop := fun c vs => X c vs ∧ aloN vs ≤ 135
theorem xc_b {op : Nat → Bool} {sm : Nat → Nat} {P : Nat} {X : (Nat → Int8) → List aV → Prop} (h : XC op sm P X) : XC op sm P (Xb X) := by
  refine ⟨fun c c' vs hv hx => ⟨h.1 c c' vs hv hx.1, hx.2⟩, fun c vs hs hp hx => ⟨h.2.1 c vs hs hp hx.1, ?_⟩, fun c c' vs blk Q hs hp hv hx => ⟨h.2.2 c c' vs blk Q hs hp hv hx.1, ?_⟩⟩
  · rw [aloN_told told_f]
    exact Nat.zero_le _
  · rw [aloN_told told_f]
    exact Nat.zero_le _
/-- so many versions may be in memory -/
def nB (B : Nat) : Nat := B * 256 / 24 + 135
theorem wg_24 {v : aV} (h : KeyW v) : 24 ≤ wgV v := by
  obtain ⟨k1, k2, k3⟩ := h
  unfold wgV wgt
  split
  · omega
  · split <;> omega
theorem len_need {op : Nat → Bool} {sm : Nat → Nat} {pr : Nat} {L : List (List Nat × Nat)} : ∀ (vs : List aV), (∀ v ∈ vs, KeyW v) → (∀ v ∈ vs, keepS op sm pr L v = true) → 24 * vs.length ≤ sumN op sm (-1) pr L vs + 24 * aloN vs
  | [], _, _ => Nat.zero_le _
  | v :: vs, h, hk => by
    have ih := len_need (op := op) (sm := sm) (pr := pr) (L := L) vs (fun w hw => h w (List.mem_cons_of_mem _ hw)) (fun w hw => hk w (List.mem_cons_of_mem _ hw))
    have hw := wg_24 (h v List.mem_cons_self)
    have hkv := hk v List.mem_cons_self
    unfold sumN aloN at ih ⊢
    rw [List.map_cons, List.sum_cons, List.length_cons, List.filter_cons]
    unfold keepS at hkv
    by_cases hn : needS op sm (-1) pr L (usV v) (ouV v) v.1 v.2.1 = true
    · rw [if_pos hn]
      split
      · rw [List.length_cons]; omega
      · omega
    · rw [Bool.or_eq_true] at hkv
      rcases hkv with e | e
      · exact absurd e hn
      · rw [Bool.and_eq_true, Bool.and_eq_true] at e
        rw [if_neg hn, if_pos e.1.2, List.length_cons]
        omega
theorem len_nB {op : Nat → Bool} {sm : Nat → Nat} {B P : Nat} {vs : List aV} (hp : PgV op sm P vs) (hk : ∀ v ∈ vs, KeyW v) (hN : sumN op sm (-1) P (kmV vs) vs ≤ B * 256) (ha : aloN vs ≤ 135) : vs.length ≤ nB B := by
  have := len_need (op := op) (sm := sm) (pr := P) (L := kmV vs) vs hk hp
  unfold nB
  omega
theorem verB_len {m : Nat} {Q : Nat → Nat} : ∀ (ws : List aE) (i : Nat), (verB m Q i ws).length = ws.length
  | [], _ => rfl
  | e :: ws, i => by
    show (verB m Q (i + 1) ws).length + 1 = _
    rw [verB_len ws (i + 1)]
    rfl
theorem aloN_incl {m : Nat} {Q : Nat → Nat} {ws : List aE} {vs : List aV} {p : aV → Bool} : aloN ((inclV m Q 0 ws vs).filter p) ≤ aloN vs + ws.length := by
  have h1 : aloN ((inclV m Q 0 ws vs).filter p) ≤ aloN (inclV m Q 0 ws vs) := (List.filter_sublist.filter _).length_le
  have h2 : aloN (inclV m Q 0 ws vs) = aloN (vs ++ verB m Q 0 ws) := ((inclV_perm ws 0 vs).filter _).length_eq
  have h3 : aloN (vs ++ verB m Q 0 ws) = aloN vs + aloN (verB m Q 0 ws) := by
    unfold aloN
    rw [List.filter_append, List.length_append]
  have h4 : aloN (verB m Q 0 ws) ≤ (verB m Q 0 ws).length := List.length_filter_le _ _
  rw [verB_len] at h4
  omega
theorem inc_Q {ky : List (List Nat)} {M : Nat} {H : aH} {B N bb P : Nat} {op : Nat → Bool} {sm : Nat → Nat} {ws : List aE} {X X' : (Nat → Int8) → List aV → Prop} (h : IncP ky M H B N bb P op sm ws (Xa X)) (hw : ws.length ≤ 40) (hX' : ∀ c c1 vs (Q : Nat → Nat), X c vs → SrtV ((inclV (P + 1) Q 0 ws vs).filter (keepS op sm (P + 1) (kmV (inclV (P + 1) Q 0 ws vs)))) → InV c c1 vs ((inclV (P + 1) Q 0 ws vs).filter (keepS op sm (P + 1) (kmV (inclV (P + 1) Q 0 ws vs)))) ws → (∀ i e l, ws[i]? = some e → e.2 = some l → valB c1 (e.1, P + 1, Q i, e.2.map List.length, true) = l) → (∀ v ∈ vs, v.2.2.2.1 ≠ none → valB c1 v = valB c v) → (∀ v ∈ vs, VOk ky P v) → X' c1 ((inclV (P + 1) Q 0 ws vs).filter (keepS op sm (P + 1) (kmV (inclV (P + 1) Q 0 ws vs))))) (hN' : ∀ c vs, (∀ v ∈ vs, VOk ky (P + 1) v) → X' c vs → sumN op sm (-1) (P + 1) (kmV vs) vs ≤ B * 256) : UpQ ky M H B N bb (P + 1) op sm (nB B) (Xb X') := by
  obtain ⟨S, lgs, fr, ff, tp, rs, us, c, c1, P2, gs1, vs, tss, L, Q, u1, u2, u3, u4, u5, u6, ⟨u7, u8⟩, u9⟩ := h
  have hx := hX' c c1 vs Q u7 u1.2.2.2.2.2.2.1.srtV u3 u4 u5 u6
  have ha : aloN ((inclV (P + 1) Q 0 ws vs).filter (keepS op sm (P + 1) (kmV (inclV (P + 1) Q 0 ws vs)))) ≤ 135 := by
    have := aloN_incl (m := P + 1) (Q := Q) (ws := ws) (vs := vs) (p := keepS op sm (P + 1) (kmV (inclV (P + 1) Q 0 ws vs)))
    omega
  exact ⟨S, lgs, fr, ff, true, tp, rs, us, c1, P2, gs1, _, tss, L, u1, u2, ⟨hx, ha⟩, PgV.purge, u9, len_nB PgV.purge (fun v hv => (u2.2.2.2.2.2.2.1 v hv).2.1.w) (hN' _ _ u2.2.2.2.2.2.2.1 hx) ha⟩
/-- a user's change, on both sides -/
theorem com_rel {op op' : Nat → Bool} {sm : Nat → Nat} {P : Nat} {Q : Nat → Nat} {c c1 : Nat → Int8} {vs : List aV} {ms : List aMV} {kd pa sz nl : Nat → Nat} {nm : Nat → Int8} {ps : List aPc} {ws : List aE} (h : RlX op sm ms kd pa sz nl nm ps c vs) (ho : ∀ t, t < 8 → op' t = true → op t = true) (hs1 : SrtV ((inclV (P + 1) Q 0 (ws.map pfx) vs).filter (keepS op' sm (P + 1) (kmV (inclV (P + 1) Q 0 (ws.map pfx) vs))))) (hI : InV c c1 vs ((inclV (P + 1) Q 0 (ws.map pfx) vs).filter (keepS op' sm (P + 1) (kmV (inclV (P + 1) Q 0 (ws.map pfx) vs)))) (ws.map pfx)) (hnew : ∀ i e l, (ws.map pfx)[i]? = some e → e.2 = some l → valB c1 (e.1, P + 1, Q i, e.2.map List.length, true) = l) (hold : ∀ v ∈ vs, v.2.2.2.1 ≠ none → valB c1 v = valB c v) (hP : ∀ v ∈ vs, v.2.1 ≤ P) : RlX op' sm ((ms ++ addM (P + 1) ws).filter (keepM op' sm (P + 1) (kmM (ms ++ addM (P + 1) ws)))) kd pa sz nl nm ps c1 ((inclV (P + 1) Q 0 (ws.map pfx) vs).filter (keepS op' sm (P + 1) (kmV (inclV (P + 1) Q 0 (ws.map pfx) vs)))) := by
  obtain ⟨h1, h2, h3, h4⟩ := h
  have hlt : ∀ v ∈ vs, v.2.1 < P + 1 := fun v hv => by have := hP v hv; omega
  have r1 := (h2.incl h1.one hlt hold hnew).sight (op' := op') (sm' := sm) (fun t ht e => Or.inl ⟨ho t ht e, rfl⟩)
  have hle : ∀ v ∈ inclV (P + 1) Q 0 (ws.map pfx) vs, v.2.1 ≤ P + 1 := fun v hv => by
    rcases mem_incl.mp hv with r | r
    · have := hP v r; omega
    · rw [(verB_alone r).2]; exact Nat.le_refl _
  have hk : ∀ e ∈ ws.map pfx, e.1.headD 0 = 0 := fun e he => by
    obtain ⟨w, hw, rfl⟩ := List.mem_map.mp he
    rfl
  exact ⟨hs1, rel_prune (pr := P + 1) r1 hle, h3.user hI (fun e he => by rw [hk e he]; decide), h4.user hI (fun e he => by rw [hk e he]; decide)⟩
