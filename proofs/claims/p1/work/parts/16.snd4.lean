/-! ===== the abstract machine stands for the machine: calls, exceptions, and the whole run ===== -/
theorem qV_appL {b : Nat} {A B : List Nat} {v : Value} (h : clV A.length v) : qV b (A ++ B) v = qV b A v := by
  unfold qV
  split
  · rfl
  · rename_i k
    have hk : k < A.length := h
    refine congrArg Value.ref ?_
    simp [List.getD_eq_getElem?_getD, List.getElem?_append_left hk]
  · rfl
theorem map_appL {b : Nat} {A B : List Nat} {st : List Value} (h : ∀ v ∈ st, clV A.length v) : st.map (qV b (A ++ B)) = st.map (qV b A) := List.map_congr_left fun v hv => qV_appL (h v hv)
theorem mapL_appL {b : Nat} {A B : List Nat} {lv : aL} (h : ∀ v ∈ lv, clV A.length v.2) : lv.map (qL b (A ++ B)) = lv.map (qL b A) := List.map_congr_left fun v hv => by
  unfold qL
  rw [qV_appL (h v hv)]
theorem args_q (b : Nat) (A : List Nat) : ∀ (av : List Value) (i : Nat), lv_args i (av.map (qV b A)) = (lv_args i av).map (qL b A)
  | [], _ => rfl
  | v :: vs, i => by
    simp only [List.map_cons, lv_args, cat_qV]
    rw [args_q b A vs]
    rfl
theorem args_in : ∀ (av : List Value) (i : Nat), ∀ q ∈ lv_args i av, q.2 ∈ av
  | [], _, q, h => by cases h
  | v :: vs, i, q, h => by
    rcases List.mem_cons.mp h with e | e
    · rw [e]; exact List.mem_cons_self
    · exact List.mem_cons_of_mem _ (args_in vs _ q e)
theorem sl_len : ∀ (av : List Value), (lg_sl av).length = cats av
  | [] => rfl
  | v :: vs => by
    have e : lg_sl (v :: vs) = (if v.category = 2 then [Slot.val v, Slot.second] else [Slot.val v]) ++ lg_sl vs := rfl
    have e2 : cats (v :: vs) = v.category + cats vs := rfl
    rw [e, e2, List.length_append, sl_len vs]
    congr 1
    cases v <;> rfl
/-- what is claimed where an exception of the class k stands over the frame -/
def PtY (l : Launch) (kd : Nat → ClassId) (D : va_G) (z : tZ) (M : aM) (d pc : Nat) (lv : aL) (k : Nat) (H : aH) (kc ks : Nat) (r : tO × aH × Nat × Nat) : Prop :=
  ∀ (A : List Nat) (S : tS), Rp kd z.2.1 A H S → (∀ q ∈ lv, clV H.length q.2) → ∀ (rm : Room) (Q : tO → tS → Prop), d + 6 ≤ rm.frames → 40 * d + 100 ≤ rm.locals → r.2.2.1 ≤ rm.cells → r.2.2.2 ≤ rm.slots →
    (∀ (A' : List Nat) (S' : tS), (∃ B, A' = A ++ B) → Rp kd z.2.1 A' r.2.1 S' → clO r.2.1.length r.1 → Q (qO z.2.1 A' r.1) S') →
    tY (mC M) (mY M).cls (mL M) (mR M) (mS M == 2) (mH M) rm D (tyl kd) z l Q kc ks pc (lv.map (qL z.2.1 A)) k S
/-- a method that is called -/
def COK (m : Nat) (M : aM) : Prop := nmT[m]? = some (mY M) ∧ ownS (mO M) = (mY M).cls ∧ plainFor (mY M) = true ∧ (mY M).cls ≠ "java/lang/invoke/MethodHandle" ∧ (mY M).cls ≠ "java/lang/invoke/VarHandle" ∧ (parseMethodDescriptor (mY M).desc).map (fun d => d.parameters.length) = some (mP M) ∧ Cond.initialized (mY M).cls ∈ gW ∧ tCw (mY M) (mC M) (mL M) (mR M) (mH M) ∈ gW ∧ mL M ≤ 21 ∧
    ((mS M = 0 ∧ Cond.instanceMethod (mY M) ∈ gW ∧ ∃ C T N, cls[mK M]? = some (C, T, N) ∧ Cond.selects C (mY M) (mY M) ∈ gW) ∨ (mS M = 1 ∧ Cond.static (mY M) ∈ gW) ∨ (mS M = 2 ∧ Cond.instanceMethod (mY M) ∈ gW ∧ (mY M).name = "<init>" ∧ mR M = none ∧ mH M = []))
section CL
variable {l : Launch} {kd : Nat → ClassId} {D : va_G} {z : tZ} {M M' : aM} {d d' pc : Nat} {lv : aL} {st st' : List Value} {H H' : aH} {kc ks : Nat} {r : tO × aH × Nat × Nat} {o' : tO} {c' s' m : Nat} {av : List Value} {A : List Nat} {S : tS}
/-- what the callee leaves -/
def Qc (kd : Nat → ClassId) (b : Nat) (A : List Nat) (H' : aH) (o' : tO) (o : tO) (T : tS) : Prop := ∃ A', (∃ B, A' = A ++ B) ∧ Rp kd b A' H' T ∧ clO H'.length o' ∧ o = qO b A' o'
theorem callee (hk : COK m M') (hR : Rp kd z.2.1 A H S) (hav : ∀ v ∈ av, clV H.length v) (hn : cats av ≤ mL M') (hP : Pt l kd D z M' d' 0 (lv_args 0 av) [] H 0 0 (o', H', c', s')) :
    tM l (mY M') (mC M') (mL M') (mR M') (mH M') { frames := d' + 6, locals := 40 * d' + 100, cells := c', slots := s' } D (tyl kd) z (av.map (qV z.2.1 A)) S (Qc kd z.2.1 A H' o') := by
  have P0 := hP A S hR (fun q hq => hav _ (args_in _ _ q hq)) (fun v hv => by cases hv) { frames := d' + 6, locals := 40 * d' + 100, cells := c', slots := s' } (Qc kd z.2.1 A H' o') (Nat.le_refl _) (Nat.le_refl _) (Nat.le_refl _) (Nat.le_refl _) (fun A' S' hA hRp hO => ⟨A', hA, hRp, hO, rfl⟩)
  rw [← args_q] at P0
  have hn' : (lg_sl (av.map (qV z.2.1 A))).length ≤ mL M' := by
    rw [sl_len]
    have := cats_qV z.2.1 A av
    unfold cats at *
    rw [this]
    exact hn
  obtain ⟨k1, k2, k3, k4, k5, k6, k7, k8, k9, k10⟩ := hk
  by_cases hh : mH M' = []
  · rw [hh] at P0 ⊢
    refine tM.of k3 rfl ?_ hn' rfl P0
    intro h2
    rcases k10 with ⟨e, -⟩ | ⟨e, -⟩ | ⟨e, -, e2, -⟩
    · rw [e] at h2; cases h2
    · rw [e] at h2; cases h2
    · exact e2
  · have hS : (mS M' == 2) = false := by
      rcases k10 with ⟨e, -⟩ | ⟨e, -⟩ | ⟨e, -, -, -, e2⟩
      · rw [e]; rfl
      · rw [e]; rfl
      · exact absurd e2 hh
    rw [hS] at P0
    exact tM.ofW k3 rfl hh hn' rfl P0
/-- behind the call -/
theorem behind {rm : Room} {Q : tO → tS → Prop} (hR : Rp kd z.2.1 A H S) (h1 : ∀ q ∈ lv, clV H.length q.2) (h2 : ∀ v ∈ st', clV H.length v) (f1 : d + 6 ≤ rm.frames) (f2 : 40 * d + 100 ≤ rm.locals) (f3 : r.2.2.1 ≤ rm.cells) (f4 : r.2.2.2 ≤ rm.slots)
    (hQ : ∀ (A' : List Nat) (S' : tS), (∃ B, A' = A ++ B) → Rp kd z.2.1 A' r.2.1 S' → clO r.2.1.length r.1 → Q (qO z.2.1 A' r.1) S')
    (kk : ∀ v, o' = .inl v → Pt l kd D z M d (pc + 3) lv (v.toList ++ st') H' (kc + c') (ks + s') r) (v : Option Value) (S' : tS) (hv : Qc kd z.2.1 A H' o' (.inl v) S') :
    tP (mC M) (mY M).cls (mL M) (mR M) (mS M == 2) (mH M) rm D (tyl kd) z l Q (kc + c') (ks + s') (pc + 3) (lv.map (qL z.2.1 A)) (v.toList ++ st'.map (qV z.2.1 A)) S' := by
  obtain ⟨A', ⟨B, rfl⟩, hR', hO, e⟩ := hv
  have hA : A.length = H.length := hR.2.2.1
  have hle : H.length ≤ H'.length := by
    have h9 := hR'.2.2.1
    rw [List.length_append, hA] at h9
    omega
  cases o' with
  | inr x => cases e
  | inl v' =>
    cases e
    have K := kk v' rfl (A ++ B) S' hR' (fun q hq => (h1 q hq).mono hle) (fun x hx => by
      rcases List.mem_append.mp hx with g | g
      · cases v' with
        | none => cases g
        | some w => rw [List.mem_singleton.mp g]; exact hO
      · exact (h2 x g).mono hle) rm Q f1 f2 f3 f4 (fun A' S' hA' => hQ A' S' (by
        obtain ⟨B', hB'⟩ := hA'
        exact ⟨B ++ B', by rw [hB', List.append_assoc]⟩))
    rw [mapL_appL (by rw [hA]; exact h1), List.map_append, map_appL (st := st') (by rw [hA]; exact h2)] at K
    cases v' with
    | none => exact K
    | some w => exact K
theorem behindY {rm : Room} {Q : tO → tS → Prop} (hR : Rp kd z.2.1 A H S) (h1 : ∀ q ∈ lv, clV H.length q.2) (f1 : d + 6 ≤ rm.frames) (f2 : 40 * d + 100 ≤ rm.locals) (f3 : r.2.2.1 ≤ rm.cells) (f4 : r.2.2.2 ≤ rm.slots)
    (hQ : ∀ (A' : List Nat) (S' : tS), (∃ B, A' = A ++ B) → Rp kd z.2.1 A' r.2.1 S' → clO r.2.1.length r.1 → Q (qO z.2.1 A' r.1) S')
    (kt : ∀ x, o' = .inr x → PtY l kd D z M d pc lv x H' (kc + c') (ks + s') r) (k : Nat) (S' : tS) (hv : Qc kd z.2.1 A H' o' (.inr k) S') :
    tY (mC M) (mY M).cls (mL M) (mR M) (mS M == 2) (mH M) rm D (tyl kd) z l Q (kc + c') (ks + s') pc (lv.map (qL z.2.1 A)) k S' := by
  obtain ⟨A', ⟨B, rfl⟩, hR', hO, e⟩ := hv
  have hA : A.length = H.length := hR.2.2.1
  have hle : H.length ≤ H'.length := by
    have h9 := hR'.2.2.1
    rw [List.length_append, hA] at h9
    omega
  cases o' with
  | inl v => cases e
  | inr x =>
    cases e
    have K := kt k rfl (A ++ B) S' hR' (fun q hq => (h1 q hq).mono hle) rm Q f1 f2 f3 f4 (fun A' S' hA' => hQ A' S' (by
        obtain ⟨B', hB'⟩ := hA'
        exact ⟨B ++ B', by rw [hB', List.append_assoc]⟩))
    rw [mapL_appL (by rw [hA]; exact h1)] at K
    exact K
theorem cats_app (a b : List Value) : cats (a ++ b) = cats a + cats b := by
  unfold cats
  rw [List.map_append, List.sum_append]
theorem cats_rev (a : List Value) : cats a.reverse = cats a := by
  unfold cats
  rw [List.map_reverse, List.sum_reverse]
theorem args_1 (h : argsOf M' 1 H st = some (av, st')) : mS M' = 1 ∧ av = (st.take (mP M')).reverse ∧ st = av.reverse ++ st' ∧ av.length = mP M' ∧ cats st' ≤ 8 ∧ cats av ≤ mL M' := by
  unfold argsOf at h
  cases hs : (!(mS M' == 1)) with
  | true => rw [hs] at h; cases h
  | false =>
    rw [hs] at h
    have h : (bif Nat.ble (mP M') st.length && Nat.ble (cats (st.drop (mP M'))) 8 && Nat.ble (cats (st.take (mP M'))) (mL M') then some ((st.take (mP M')).reverse, st.drop (mP M')) else none) = some (av, st') := h
    obtain ⟨hb, h2⟩ := cond_true h
    simp only [Bool.and_eq_true] at hb
    cases h2
    refine ⟨by simpa using hs, rfl, by rw [List.reverse_reverse, List.take_append_drop], ?_, Nat.le_of_ble_eq_true hb.1.2, ?_⟩
    · rw [List.length_reverse, List.length_take]
      have := Nat.le_of_ble_eq_true hb.1.1
      omega
    · rw [cats_rev]; exact Nat.le_of_ble_eq_true hb.2
theorem args_02 {k : Nat} (hk : k = 0 ∨ k = 2) (h : argsOf M' k H st = some (av, st')) : mS M' = k ∧ ∃ v as, av = v :: as ∧ st = as.reverse ++ v :: st' ∧ as.length = mP M' ∧ cats st' ≤ 8 ∧ cats av ≤ mL M' ∧ (k = 0 → isOb (mK M') H v = true) ∧ ∃ x, v = .ref x := by
  unfold argsOf at h
  cases hs : (!(mS M' == k)) with
  | true => rw [hs] at h; cases h
  | false =>
    rw [hs] at h
    have h : (match st.drop (mP M') with
      | v :: s => bif Nat.ble (mP M') st.length && (bif k == 0 then isOb (mK M') H v else isRf v) && Nat.ble (cats s) 8 && Nat.ble (1 + cats (st.take (mP M'))) (mL M') then some (v :: (st.take (mP M')).reverse, s) else none
      | [] => none) = some (av, st') := by
      rcases hk with rfl | rfl
      · exact h
      · exact h
    split at h
    · rename_i v s0 hd
      obtain ⟨hb, h2⟩ := cond_true h
      simp only [Bool.and_eq_true] at hb
      cases h2
      obtain ⟨⟨⟨b1, b2⟩, b3⟩, b4⟩ := hb
      have b4 := Nat.le_of_ble_eq_true b4
      have hv : ∃ x, v = .ref x := by
        rcases hk with rfl | rfl
        · have b2 : isOb (mK M') H v = true := b2
          unfold isOb at b2
          split at b2
          · exact ⟨_, rfl⟩
          · cases b2
        · have b2 : isRf v = true := b2
          unfold isRf at b2
          split at b2
          · exact ⟨_, rfl⟩
          · cases b2
      refine ⟨by simpa using hs, v, _, rfl, ?_, ?_, Nat.le_of_ble_eq_true b3, ?_, ?_, hv⟩
      · rw [List.reverse_reverse, ← hd, List.take_append_drop]
      · rw [List.length_reverse, List.length_take]
        have := Nat.le_of_ble_eq_true b1
        omega
      · obtain ⟨x, rfl⟩ := hv
        show 1 + cats _ ≤ _
        rw [cats_rev]
        exact b4
      · intro e
        subst e
        exact b2
    · cases h
theorem call_snd {raw : Instr} {i k : Nat} (ho : ownS (mO M) = (mY M).cls) (hk : COK m M') (hd : decode (mC M) pc = .ok (raw, 3)) (hl : lk2 (mO M) i mlT = some (m, k)) (hraw : (k = 0 ∧ raw = .invokevirtual i) ∨ (k = 1 ∧ raw = .invokestatic i) ∨ (k = 2 ∧ raw = .invokespecial i)) (ha : argsOf M' k H st = some (av, st'))
    (hP : Pt l kd D z M' d' 0 (lv_args 0 av) [] H 0 0 (o', H', c', s')) (hc : kc + c' ≤ r.2.2.1) (hs : ks + s' ≤ r.2.2.2)
    (kk : ∀ v, o' = .inl v → Pt l kd D z M (d' + 1) (pc + 3) lv (v.toList ++ st') H' (kc + c') (ks + s') r) (kt : ∀ x, o' = .inr x → PtY l kd D z M (d' + 1) pc lv x H' (kc + c') (ks + s') r) : Pt l kd D z M (d' + 1) pc lv st H kc ks r := by
  intro A S hR h1 h2 rm Q f1 f2 f3 f4 hQ
  have hk0 := hk
  obtain ⟨k1, k2, k3, k4, k5, k6, k7, k8, k9, k10⟩ := hk
  have hR' : (d' + 6) + 1 ≤ rm.frames ∧ 8 + (mL M' + 11) + (40 * d' + 100) ≤ rm.locals ∧ kc + c' ≤ rm.cells ∧ ks + s' ≤ rm.slots := ⟨by omega, by omega, Nat.le_trans hc f3, Nat.le_trans hs f4⟩
  have hml := mlT_ok _ (lk2_mem hl)
  have w1 : Cond.methodLink (mY M).cls i (mY M') ∈ gW := by
    have hml2 : ∃ y, nmT[m]? = some y ∧ Cond.methodLink (ownS (mO M)) i y ∈ gW := by
      rcases hraw with ⟨rfl, -⟩ | ⟨rfl, -⟩ | ⟨rfl, -⟩
      · exact hml
      · exact hml
      · exact hml
    obtain ⟨y, hy, hw⟩ := hml2
    cases k1.symm.trans hy
    rw [← ho]
    exact hw
  rcases hraw with ⟨rfl, rfl⟩ | ⟨rfl, rfl⟩ | ⟨rfl, rfl⟩
  · obtain ⟨a1, v, as, rfl, a3, a4, a5, a6, a7, x, rfl⟩ := args_02 (Or.inl rfl) ha
    have hcl : ∀ q ∈ Value.ref x :: as, clV H.length q := fun q hq => h2 q (by
      rw [a3]
      rcases List.mem_cons.mp hq with e | e
      · rw [e]; exact List.mem_append_right _ List.mem_cons_self
      · exact List.mem_append_left _ (List.mem_reverse.mpr e))
    have hcl' : ∀ q ∈ st', clV H.length q := fun q hq => h2 q (by rw [a3]; exact List.mem_append_right _ (List.mem_cons_of_mem _ hq))
    have hM := callee hk0 hR hcl a6 hP
    have b7 := a7 rfl
    clear a7
    unfold isOb at b7
    split at b7
    · rename_i a ea
      cases ea
      split at b7
      · rename_i ci fs hfs
        have e : ci = mK M' := by simpa using b7
        subst e
        rcases k10 with ⟨-, w2, C, T, N, w3, w4⟩ | ⟨e, -⟩ | ⟨e, -⟩
        · have hG := hR.get hfs
          refine tt_callV (rm' := { frames := d' + 6, locals := 40 * d' + 100, cells := c', slots := s' }) (As := as.map (qV z.2.1 A)) (st := st'.map (qV z.2.1 A)) w1 w2 w4 k7 k8 ⟨k4, k5, by rw [List.length_map, a4]; exact k6⟩ hM hG.1 hG.2 w3 hR' (by rw [cats_qV]; exact a5) hd (st0 := st.map (qV z.2.1 A)) (by rw [a3, List.map_append, List.map_reverse]; rfl) ?_ ?_
          · exact fun v S' hv => behind hR h1 hcl' f1 f2 f3 f4 hQ kk v S' hv
          · exact fun k S' hv => behindY hR h1 f1 f2 f3 f4 hQ kt k S' hv
        · rw [e] at a1; cases a1
        · rw [e] at a1; cases a1
      · cases b7
    · cases b7
  · obtain ⟨a1, a2, a3, a4, a5, a6⟩ := args_1 ha
    have hcl : ∀ q ∈ av, clV H.length q := fun q hq => h2 q (by rw [a3]; exact List.mem_append_left _ (List.mem_reverse.mpr hq))
    have hcl' : ∀ q ∈ st', clV H.length q := fun q hq => h2 q (by rw [a3]; exact List.mem_append_right _ hq)
    have hM := callee hk0 hR hcl a6 hP
    rcases k10 with ⟨e, -⟩ | ⟨-, w2⟩ | ⟨e, -⟩
    · rw [e] at a1; cases a1
    · refine tt_callS (rm' := { frames := d' + 6, locals := 40 * d' + 100, cells := c', slots := s' }) (As := av.map (qV z.2.1 A)) (st := st'.map (qV z.2.1 A)) w1 w2 k7 k8 ⟨k4, k5, by rw [List.length_map, a4]; exact k6⟩ hM hR' (by rw [cats_qV]; exact a5) hd (st0 := st.map (qV z.2.1 A)) (by rw [a3, List.map_append, List.map_reverse]) ?_ ?_
      · exact fun v S' hv => behind hR h1 hcl' f1 f2 f3 f4 hQ kk v S' hv
      · exact fun k S' hv => behindY hR h1 f1 f2 f3 f4 hQ kt k S' hv
    · rw [e] at a1; cases a1
  · obtain ⟨a1, v, as, rfl, a3, a4, a5, a6, a7, x, rfl⟩ := args_02 (Or.inr rfl) ha
    have hcl : ∀ q ∈ Value.ref x :: as, clV H.length q := fun q hq => h2 q (by
      rw [a3]
      rcases List.mem_cons.mp hq with e | e
      · rw [e]; exact List.mem_append_right _ List.mem_cons_self
      · exact List.mem_append_left _ (List.mem_reverse.mpr e))
    have hcl' : ∀ q ∈ st', clV H.length q := fun q hq => h2 q (by rw [a3]; exact List.mem_append_right _ (List.mem_cons_of_mem _ hq))
    have hM := callee hk0 hR hcl a6 hP
    rcases k10 with ⟨e, -⟩ | ⟨e, -⟩ | ⟨-, w2, w3, w4, w5⟩
    · rw [e] at a1; cases a1
    · rw [e] at a1; cases a1
    · rw [w4, w5] at hM k8
      have hx : ∃ y, qV z.2.1 A (.ref x) = .ref y := by
        cases x with
        | zero => exact ⟨_, rfl⟩
        | succ n => exact ⟨_, rfl⟩
      obtain ⟨y, hy⟩ := hx
      rw [List.map_cons, hy] at hM
      refine tt_callI (rm' := { frames := d' + 6, locals := 40 * d' + 100, cells := c', slots := s' }) (As := as.map (qV z.2.1 A)) (st := st'.map (qV z.2.1 A)) w1 w2 k7 k8 w3 ⟨k4, k5, by rw [List.length_map, a4]; exact k6⟩ hM hR' (by rw [cats_qV]; exact a5) hd (st0 := st.map (qV z.2.1 A)) (by rw [a3, List.map_append, List.map_reverse, List.map_cons, hy]) ?_ ?_
      · exact fun v S' hv => behind hR h1 hcl' f1 f2 f3 f4 hQ kk v S' hv
      · exact fun k S' hv => behindY hR h1 f1 f2 f3 f4 hQ kt k S' hv
/-! handlers -/
def xok (cc : ByteArray) (own : String) (nL : Nat) : List (Nat × Nat × Nat × Nat × Nat) → List (Nat × Nat × Nat × Nat) → Prop
  | [], [] => True
  | (a, b, kk, i, n) :: X, (a', b', hp, ct) :: Y => (a' = a ∧ b' = b ∧ ct ≠ 0 ∧ i < nL ∧ (∃ B, excs[kk]? = some B ∧ Cond.classLink own ct B ∈ gW) ∧ ∃ n', n = hp + n' ∧ ((decode cc hp = .ok (.astore i, 2) ∧ n' = 2) ∨ ∃ q : Fin 4, decode cc hp = .ok (.astore_n q, 1) ∧ (q : Nat) = i ∧ n' = 1)) ∧ xok cc own nL X Y
  | _, _ => False
theorem excs_cast : ∀ k < 5, ∀ j < 5, (if k = j then decide (Cond.castable (excs.getD k "") (excs.getD j "") ∈ eW) else decide (Cond.not (Cond.castable (excs.getD k "") (excs.getD j "")) ∈ eW)) = true := by decide +kernel
theorem excs_lt {k : Nat} {C : String} (h : excs[k]? = some C) : k < 5 ∧ excs.getD k "" = C := by
  have h1 : k < 5 := (List.getElem?_eq_some_iff.mp h).1
  exact ⟨h1, by rw [List.getD_eq_getElem?_getD, h]; rfl⟩
theorem xok_find {cc : ByteArray} {own : String} {nL pc k i n : Nat} {C : String} (hC : excs[k]? = some C) : ∀ (X : List (Nat × Nat × Nat × Nat × Nat)) (Y : List (Nat × Nat × Nat × Nat)), xok cc own nL X Y → lkX pc k X = some (i, n) →
    ∃ (pre : List (Nat × Nat × Nat × Nat)) (x : Nat × Nat × Nat × Nat) (post : List (Nat × Nat × Nat × Nat)) (pc' n' : Nat), Y = pre ++ x :: post ∧ (∀ y ∈ pre, ¬ (y.1 ≤ pc ∧ pc < y.2.1) ∨ ((y.1 ≤ pc ∧ pc < y.2.1) ∧ y.2.2.2 ≠ 0 ∧ ∃ B, Cond.classLink own y.2.2.2 B ∈ gW ∧ Cond.not (Cond.castable C B) ∈ eW)) ∧
      ((x.1 ≤ pc ∧ pc < x.2.1) ∧ x.2.2.2 ≠ 0 ∧ x.2.2.1 = pc' ∧ ∃ B, Cond.classLink own x.2.2.2 B ∈ gW ∧ Cond.castable C B ∈ eW) ∧ i < nL ∧ n = pc' + n' ∧ ((decode cc pc' = .ok (.astore i, 2) ∧ n' = 2) ∨ ∃ q : Fin 4, decode cc pc' = .ok (.astore_n q, 1) ∧ (q : Nat) = i ∧ n' = 1)
  | [], _, _, h => by cases h
  | (a, b, kk, i0, n0) :: X, [], h, _ => by cases h
  | (a, b, kk, i0, n0) :: X, (a', b', hp, ct) :: Y, h, hf => by
    obtain ⟨⟨rfl, rfl, h3, h4, ⟨B, h5, h6⟩, n', h7, h8⟩, hr⟩ := h
    unfold lkX at hf
    obtain ⟨k1, k2⟩ := excs_lt hC
    obtain ⟨j1, j2⟩ := excs_lt h5
    have hcast := excs_cast k k1 kk j1
    rw [k2, j2] at hcast
    cases hb : (Nat.ble a' pc && Nat.blt pc b' && (kk == k)) with
    | true =>
      rw [hb] at hf
      cases hf
      simp only [Bool.and_eq_true, beq_iff_eq] at hb
      obtain ⟨⟨b1, b2⟩, rfl⟩ := hb
      rw [if_pos rfl] at hcast
      exact ⟨[], _, Y, hp, n', rfl, (fun y hy => by cases hy), ⟨⟨Nat.le_of_ble_eq_true b1, Nat.le_of_ble_eq_true b2⟩, h3, rfl, B, h6, of_decide_eq_true hcast⟩, h4, h7, h8⟩
    | false =>
      rw [hb] at hf
      obtain ⟨pre, x, post, pc', n9, e1, e2, e3⟩ := xok_find hC X Y hr hf
      refine ⟨(a', b', hp, ct) :: pre, x, post, pc', n9, by rw [e1]; rfl, fun y hy => ?_, e3⟩
      rcases List.mem_cons.mp hy with e | e
      · subst e
        by_cases hcov : a' ≤ pc ∧ pc < b'
        · refine Or.inr ⟨hcov, h3, B, h6, ?_⟩
          have hne : ¬ k = kk := by
            intro e
            subst e
            rw [show Nat.ble a' pc = true from Nat.ble_eq_true_of_le hcov.1, show Nat.blt pc b' = true from Nat.ble_eq_true_of_le hcov.2] at hb
            simp at hb
          rw [if_neg hne] at hcast
          exact of_decide_eq_true hcast
        · exact Or.inl hcov
      · exact e2 y e
theorem xok_none {cc : ByteArray} {own : String} {nL pc : Nat} : ∀ (X : List (Nat × Nat × Nat × Nat × Nat)) (Y : List (Nat × Nat × Nat × Nat)), xok cc own nL X Y → X.any (fun q => Nat.ble q.1 pc && Nat.blt pc q.2.1) = false → ∀ y ∈ Y, ¬ (y.1 ≤ pc ∧ pc < y.2.1)
  | [], [], _, _, y, hy => by cases hy
  | [], _ :: _, h, _, _, _ => by cases h
  | (a, b, kk, i0, n0) :: X, [], h, _, _, _ => by cases h
  | (a, b, kk, i0, n0) :: X, (a', b', hp, ct) :: Y, h, hf, y, hy => by
    obtain ⟨⟨rfl, rfl, -⟩, hr⟩ := h
    rw [List.any_cons, Bool.or_eq_false_iff] at hf
    rcases List.mem_cons.mp hy with e | e
    · subst e
      intro hcov
      have h1 := hf.1
      dsimp only at h1 hcov
      rw [show Nat.ble a' pc = true from Nat.ble_eq_true_of_le hcov.1, show Nat.blt pc b' = true from Nat.ble_eq_true_of_le hcov.2] at h1
      cases h1
    · exact xok_none X Y hr hf.2 y e
theorem pass_snd {x : Nat} (hx : xok (mC M) (mY M).cls (mL M) (mX M) (mH M)) (ha : (mX M).any (fun q => Nat.ble q.1 pc && Nat.blt pc q.2.1) = false) : PtY l kd D z M d pc lv x H kc ks (.inr x, H, kc, ks) := by
  intro A S hR h1 rm Q f1 f2 f3 f4 hQ
  exact tt_pass (xok_none _ _ hx ha) f3 f4 (hQ A S ⟨[], by simp⟩ hR trivial)
theorem catch_snd {x i n : Nat} (hx : xok (mC M) (mY M).cls (mL M) (mX M) (mH M)) (hf : lkX pc x (mX M) = some (i, n)) (kk : Pt l kd D z M d n (lvD lv i) [] H kc ks r) : PtY l kd D z M d pc lv x H kc ks r := by
  intro A S hR h1 rm Q f1 f2 f3 f4 hQ p e s m args below meth c T locs ls st a C cell X hH hl Y hC hcl hcv hcf
  obtain ⟨pre, y, post, pc', n', e1, e2, e3, e4, e5, e6⟩ := xok_find hC _ _ hx hf
  subst e5
  exact tt_catch hC pre y post e1 e2 e3 e4 e6 (lvD_q z.2.1 A lv i) (kk A S hR (lvD_cl h1) (fun v hv => by cases hv) rm Q f1 f2 f3 f4 hQ) p e s m args below meth c T locs ls st a C cell X hH hl Y hC hcl hcv hcf
end CL
/-- an entry of a method's instructions -/
def EOK (M : aM) (x : Nat × Nat × Instr) : Prop := (∃ raw len, decode (mC M) x.1 = .ok (raw, len) ∧ x.2.1 = x.1 + len ∧ rz (mO M) (mL M) (mS M) (mR M) x.1 raw len = some x.2.2) ∨ ∃ k, x.2.2 = .instanceof k ∧ ThrOK M x.1 k
def MOK (M : aM) : Prop := ownS (mO M) = (mY M).cls ∧ (∀ x ∈ mT M, EOK M x) ∧ xok (mC M) (mY M).cls (mL M) (mX M) (mH M)
theorem lkI_mem {pc nx : Nat} {I : Instr} : ∀ {T : List (Nat × Nat × Instr)}, lkI pc T = some (nx, I) → (pc, nx, I) ∈ T
  | (p, x) :: l, h => by
    unfold lkI at h
    cases hc : (p == pc) with
    | true =>
      rw [hc] at h
      have e : p = pc := by simpa using hc
      subst e
      cases h
      exact List.mem_cons_self
    | false =>
      rw [hc] at h
      exact List.mem_cons_of_mem _ (lkI_mem h)
set_option maxHeartbeats 1000000 in
/-- the abstract machine stands for the machine -/
theorem snd {l : Launch} {kd : Nat → ClassId} {D : va_G} {z : tZ} (hl0 : l.stackTraces = false) {mt : List aM} (hmt : ∀ m M, mt[m]? = some M → MOK M ∧ COK m M) :
    ∀ (f d : Nat) (M : aM) (pc : Nat) (lv : aL) (st : List Value) (H : aH) (kc ks : Nat) (r : tO × aH × Nat × Nat), MOK M → run mt (z.2.2.1, z.2.2.2) f d M pc lv st H kc ks = some r → (kc ≤ r.2.2.1 ∧ ks ≤ r.2.2.2) ∧ Pt l kd D z M d pc lv st H kc ks r := by
  intro f
  induction f with
  | zero => intro d M pc lv st H kc ks r _ h; cases h
  | succ f ih =>
    intro d M pc lv st H kc ks r hM h
    unfold run at h
    split at h
    · cases h
    · rename_i nx I hI
      have hE := hM.2.1 _ (lkI_mem hI)
      split at h
      · rename_i pc' lv' st' H' c s hg
        obtain ⟨⟨g1, g2⟩, g3⟩ := ih _ _ _ _ _ _ _ _ _ hM h
        rcases hE with ⟨raw, len, e1, e2, e3⟩ | ⟨k, e1, -⟩
        · dsimp only at e1 e2 e3
          subst e2
          exact ⟨⟨by omega, by omega⟩, go_snd hM.1 e1 e3 hg g1 g2 g3⟩
        · dsimp only at e1
          subst e1
          cases (show (none : Option aG) = _ from hg)
      · split at h
        · rename_i b t st' hb
          rcases hE with ⟨raw, len, e1, e2, e3⟩ | ⟨k, e1, -⟩
          · dsimp only at e1 e2 e3
            subst e2
            cases b with
            | true =>
              obtain ⟨g1, g3⟩ := ih _ _ _ _ _ _ _ _ _ hM h
              exact ⟨g1, br_snd e1 e3 hb (fun _ => g3) (fun h => by cases h)⟩
            | false =>
              obtain ⟨g1, g3⟩ := ih _ _ _ _ _ _ _ _ _ hM h
              exact ⟨g1, br_snd e1 e3 hb (fun h => by cases h) (fun _ => g3)⟩
          · dsimp only at e1
            subst e1
            cases (show (none : Option (Bool × Nat × List Value)) = _ from hb)
        · split at h
          · rename_i o c s hb
            cases h
            refine ⟨⟨Nat.le_add_right _ _, Nat.le_add_right _ _⟩, ?_⟩
            rcases hE with ⟨raw, len, e1, e2, e3⟩ | ⟨k, e1, e2⟩
            · exact done_snd e1 e3 hb
            · dsimp only at e1 e2
              subst e1
              exact thr_snd hl0 e2 hb
          · split at h
            · cases h
            · rename_i m k hb
              split at h
              · cases h
              · rename_i M' hM'
                split at h
                · cases h
                · rename_i av st' ha
                  split at h
                  · cases h
                  · rename_i d'
                    obtain ⟨hMO, hCO⟩ := hmt m M' hM'
                    rcases hE with ⟨raw, len, e1, e2, e3⟩ | ⟨k9, e1, -⟩
                    · dsimp only at e1 e2 e3
                      obtain ⟨i, rfl, hlk, hraw⟩ := rz_C e3 hb
                      subst e2
                      split at h
                      · cases h
                      · rename_i v H' c s hrun
                        obtain ⟨-, p1⟩ := ih _ _ _ _ _ _ _ _ _ hMO hrun
                        obtain ⟨⟨g1, g2⟩, g3⟩ := ih _ _ _ _ _ _ _ _ _ hM h
                        exact ⟨⟨by omega, by omega⟩, call_snd hM.1 hCO e1 hlk hraw ha p1 g1 g2 (fun v' e => by cases e; exact g3) (fun x e => by cases e)⟩
                      · rename_i x H' c s hrun
                        obtain ⟨-, p1⟩ := ih _ _ _ _ _ _ _ _ _ hMO hrun
                        split at h
                        · rename_i hlx
                          cases hany : (mX M).any (fun q => Nat.ble q.1 pc && Nat.blt pc q.2.1) with
                          | true => rw [hany] at h; cases h
                          | false =>
                            rw [hany] at h
                            cases h
                            exact ⟨⟨Nat.le_add_right _ _, Nat.le_add_right _ _⟩, call_snd hM.1 hCO e1 hlk hraw ha p1 (Nat.le_refl _) (Nat.le_refl _) (fun v' e => by cases e) (fun x' e => by cases e; exact pass_snd hM.2.2 hany)⟩
                        · rename_i i' n hlx
                          obtain ⟨⟨g1, g2⟩, g3⟩ := ih _ _ _ _ _ _ _ _ _ hM h
                          exact ⟨⟨by omega, by omega⟩, call_snd hM.1 hCO e1 hlk hraw ha p1 g1 g2 (fun v' e => by cases e) (fun x' e => by cases e; exact catch_snd hM.2.2 hlx g3)⟩
                    · dsimp only at e1
                      subst e1
                      cases (show (none : Option (Nat × Nat)) = _ from hb)
