/-! ===== closed runs by the kernel, carried to the true script; written by wip/gen/p1gen.py ===== -/
def okVb (lo hi : Nat) : Value → Bool
  | .ref 0 => false
  | .ref (k + 1) => Nat.ble lo k && Nat.blt k hi
  | _ => true
theorem okL_of {lo hi : Nat} {fs : List Value} (h : fs.all (okVb lo hi) = true) : ∀ v ∈ fs, okV (fun a => lo ≤ a ∧ a < hi) v := by
  intro v hv
  have h1 := List.all_eq_true.mp h v hv
  unfold okVb at h1
  unfold okV
  split at h1
  · cases h1
  · simp only [Bool.and_eq_true] at h1
    exact ⟨Nat.le_of_ble_eq_true h1.1, Nat.le_of_ble_eq_true h1.2⟩
  · rename_i h2 h3
    split
    · exact absurd rfl h2
    · exact absurd rfl (h3 _)
    · trivial
theorem up_none {P : Nat → Prop} : ∀ (i k : Nat), (fun _ => none : Nat → Option Nat) i = some k → P k := fun _ _ h => by cases h
theorem up_okQ {P : Nat → Prop} {f : Nat → Option Nat} {n j : Nat} (h : ∀ i k, f i = some k → P k) (hj : P j) : ∀ (i k : Nat), va_up f n (some j) i = some k → P k := by
  intro i k hk
  unfold va_up at hk
  by_cases e : i = n
  · rw [if_pos e] at hk; cases hk; exact hj
  · rw [if_neg e] at hk; exact h i k hk
theorem Fr_of {lo hi : Nat} {hp : aH} (h : allP (okC (fun a => lo ≤ a ∧ a < hi)) ((hp.drop lo).take (hi - lo))) : Fr (fun a => lo ≤ a ∧ a < hi) hp hp := by
  refine ⟨rfl, fun _ _ => rfl, fun a c ha hc => allP_mem h c ?_⟩
  have e : ((hp.drop lo).take (hi - lo))[a - lo]? = some c := by
    rw [List.getElem?_take, if_pos (by omega), List.getElem?_drop, show lo + (a - lo) = a by omega]
    exact hc
  exact List.mem_of_getElem? e
/-- a fill of a range of bytes, done at once -/
def fastF (m d : Nat) (av : List Value) (H : aH) : Option aH := bif (m == 108) && Nat.ble 1 d then (match av with
  | [.ref (a + 1), .int i, .int j, .int v] => match H[a]? with
    | some (.inr (.inl (n, f))) => bif !(decide (i < 0)) && !(decide (j < 0)) && Nat.ble i.toNatClampNeg j.toNatClampNeg && Nat.ble j.toNatClampNeg n && Nat.blt n 1073741824 then some (H.set a (kB n (fun q => if i.toNatClampNeg ≤ q ∧ q < j.toNatClampNeg then v.toInt8 else f q))) else none
    | _ => none
  | _ => none) else none
theorem fast_RC {sc : Nat × (Nat → Int32)} {m d : Nat} {av : List Value} {H H' : aH} {M' : aM} (h : fastF m d av H = some H') (hm : mtb[m]? = some M') : RC sc d M' av H (.inl none) H' 0 0 := by
  unfold fastF at h
  cases hb : ((m == 108) && Nat.ble 1 d) with
  | false => rw [hb] at h; cases h
  | true =>
    rw [hb] at h
    simp only [Bool.and_eq_true, beq_iff_eq] at hb
    obtain ⟨rfl, hd⟩ := hb
    have hd := Nat.le_of_ble_eq_true hd
    have e : M' = mr_108 := (Option.some.inj (hm.symm.trans (rfl : mtb[108]? = some mr_108)))
    subst e
    try dsimp only [cond_true] at h
    split at h
    · rename_i a i j v
      split at h
      · rename_i n f hc
        cases hq : (!(decide (i < 0)) && !(decide (j < 0)) && Nat.ble i.toNatClampNeg j.toNatClampNeg && Nat.ble j.toNatClampNeg n && Nat.blt n 1073741824) with
        | false => rw [hq] at h; cases h
        | true =>
          rw [hq] at h
          simp only [Bool.and_eq_true, Bool.not_eq_true', decide_eq_false_iff_not] at hq
          obtain ⟨⟨⟨⟨hi, hj⟩, h1⟩, h2⟩, h3⟩ := hq
          have h1 := Nat.le_of_ble_eq_true h1
          have h2 := Nat.le_of_ble_eq_true h2
          have h3 : n < 1073741824 := Nat.le_of_ble_eq_true h3
          obtain ⟨i', hi', rfl⟩ := nI_of hi
          obtain ⟨j', hj', rfl⟩ := nI_of hj
          rw [nI_clamp hi', nI_clamp hj'] at h1
          rw [nI_clamp hj'] at h2
          obtain ⟨k, rfl⟩ : ∃ k, j' = i' + k := ⟨j' - i', by omega⟩
          obtain ⟨d', rfl⟩ : ∃ d', d = d' + 1 := ⟨d - 1, by omega⟩
          try dsimp only [cond_true] at h
          rw [nI_clamp hi', nI_clamp hj'] at h
          have e := Option.some.inj h
          subst e
          exact rc_fillR hc h3 h2
      · cases h
    · cases h
/-- the abstract machine with fills done at once -/
def runB (sc : Nat × (Nat → Int32)) : Nat → Nat → aM → Nat → aL → List Value → aH → Nat → Nat → Option (tO × aH × Nat × Nat)
  | 0, _, _, _, _, _, _, _, _ => none
  | f + 1, d, M, pc, lv, st, H, kc, ks =>
    match lkI pc (mT M) with
    | none => none
    | some (nx, I) =>
      match stG sc nx lv st H I with
      | some (pc', lv', st', H', c, s) => runB sc f d M pc' lv' st' H' (kc + c) (ks + s)
      | none => match stB st I with
        | some (b, t, st') => bif b then runB sc f d M t lv st' H kc ks else runB sc f d M nx lv st' H kc ks
        | none => match stD st I with
          | some (o, c, s) => some (o, H, kc + c, ks + s)
          | none => match stC I with
            | none => none
            | some (m, k) => match mtb[m]? with
              | none => none
              | some M' => match argsOf M' k H st with
                | none => none
                | some (av, st') => match d with
                  | 0 => none
                  | d' + 1 => match fastF m d' av H with
                    | some H' => runB sc f (d' + 1) M nx lv st' H' kc ks
                    | none => match runB sc f d' M' 0 (lv_args 0 av) [] H 0 0 with
                      | none => none
                      | some (.inl v, H', c, s) => runB sc f (d' + 1) M nx lv (v.toList ++ st') H' (kc + c) (ks + s)
                      | some (.inr x, H', c, s) => match lkX pc x (mX M) with
                        | none => bif (mX M).isEmpty then some (.inr x, H', kc + c, ks + s) else none
                        | some (i, n) => runB sc f (d' + 1) M n (lvD lv i) [] H' (kc + c) (ks + s)
set_option maxHeartbeats 1000000 in
theorem runB_RP {sc : Nat × (Nat → Int32)} : ∀ (f d : Nat) (M : aM) (pc : Nat) (lv : aL) (st : List Value) (H : aH) (kc ks : Nat) (r : tO × aH × Nat × Nat), runB sc f d M pc lv st H kc ks = some r → RP sc d M pc lv st H kc ks r := by
  intro f
  induction f with
  | zero => intro d M pc lv st H kc ks r h; cases h
  | succ f ih =>
    intro d M pc lv st H kc ks r h
    rw [runB] at h
    cases hI : lkI pc (mT M) with
    | none => rw [hI] at h; cases h
    | some x =>
      obtain ⟨nx, I⟩ := x
      rw [hI] at h
      dsimp only at h
      cases hg : stG sc nx lv st H I with
      | some y =>
        obtain ⟨pc', lv', st', H', c, s⟩ := y
        rw [hg] at h
        exact RP.go hI hg (ih _ _ _ _ _ _ _ _ _ h)
      | none =>
        rw [hg] at h
        dsimp only at h
        cases hb : stB st I with
        | some y =>
          obtain ⟨b, t, st'⟩ := y
          rw [hb] at h
          cases b with
          | true => exact RP.br hI hg hb (ih _ _ _ _ _ _ _ _ _ h)
          | false => exact RP.br hI hg hb (ih _ _ _ _ _ _ _ _ _ h)
        | none =>
          rw [hb] at h
          dsimp only at h
          cases hD : stD st I with
          | some y =>
            obtain ⟨o, c, s⟩ := y
            rw [hD] at h
            have e := Option.some.inj h
            subst e
            exact RP.done hI hg hb hD
          | none =>
            rw [hD] at h
            dsimp only at h
            cases hC : stC I with
            | none => rw [hC] at h; cases h
            | some y =>
              obtain ⟨m, k⟩ := y
              rw [hC] at h
              dsimp only at h
              cases hm : mtb[m]? with
              | none => rw [hm] at h; cases h
              | some M' =>
                rw [hm] at h
                dsimp only at h
                cases ha : argsOf M' k H st with
                | none => rw [ha] at h; cases h
                | some y =>
                  obtain ⟨av, st'⟩ := y
                  rw [ha] at h
                  dsimp only at h
                  cases d with
                  | zero => cases h
                  | succ d' =>
                    dsimp only at h
                    cases hf : fastF m d' av H with
                    | some H' =>
                      rw [hf] at h
                      exact RP.call (v := none) hI hg hb hD hC hm ha (fast_RC hf hm) (ih _ _ _ _ _ _ _ _ _ h)
                    | none =>
                      rw [hf] at h
                      dsimp only at h
                      cases hr : runB sc f d' M' 0 (lv_args 0 av) [] H 0 0 with
                      | none => rw [hr] at h; cases h
                      | some y =>
                        obtain ⟨o, H', c, s⟩ := y
                        rw [hr] at h
                        cases o with
                        | inl v => exact RP.call hI hg hb hD hC hm ha (ih _ _ _ _ _ _ _ _ _ hr) (ih _ _ _ _ _ _ _ _ _ h)
                        | inr x =>
                          dsimp only at h
                          cases hx : lkX pc x (mX M) with
                          | none =>
                            rw [hx] at h
                            dsimp only at h
                            cases he : (mX M).isEmpty with
                            | false => rw [he] at h; cases h
                            | true =>
                              rw [he] at h
                              have e := Option.some.inj h
                              subst e
                              exact RP.callP hI hg hb hD hC hm ha (ih _ _ _ _ _ _ _ _ _ hr) (List.isEmpty_iff.mp he)
                          | some y =>
                            obtain ⟨i, n⟩ := y
                            rw [hx] at h
                            exact RP.callX hI hg hb hD hC hm ha (ih _ _ _ _ _ _ _ _ _ hr) hx (ih _ _ _ _ _ _ _ _ _ h)
def chkR (v : Int32) (n : Nat) : Option (tO × aH × Nat × Nat) → Bool
  | some (.inl (some (.int x)), H, c, s) => decide (x = v) && (c == 0) && (s == 0) && (H.length == n)
  | _ => false
def chkF : Option aC → Bool
  | some (.inr (.inr (.inr (.inr (.inr (c, .int y :: _)))))) => (c == 12) && decide (y = 0)
  | _ => false
def chkM (v : Int32) (n : Nat) : Option (tO × aH × Nat × Nat) → Bool
  | some (.inl (some (.int x)), H, c, s) => decide (x = v) && (c == 0) && (s == 0) && (H.length == n) && chkF (H[195]?)
  | _ => false
theorem class_rc {xs : Nat → Int32} {hp : aH} {F n0 : Nat} {v : Int32} {M : aM} {av : List Value} (hF : Fr (fun a => 0 ≤ a ∧ a < 195) hp hp) (hav : ∀ v ∈ av, okV (fun a => 0 ≤ a ∧ a < 195) v) (E : chkR v n0 (runB (0, fun _ => 0) F 1998 M 0 (lv_args 0 av) [] hp 0 0) = true) (hn0 : hp.length = n0 := by rfl) :
    ∃ H', RC (7, xs) 1998 M av hp (.inl (some (.int v))) H' 0 0 ∧ H'.length = hp.length ∧ ∀ a, 195 ≤ a → H'[a]? = hp[a]? := by
  subst hn0
  cases hB : runB (0, fun _ => 0) F 1998 M 0 (lv_args 0 av) [] hp 0 0 with
  | none => rw [hB] at E; cases E
  | some r =>
    obtain ⟨o, H1, c, s⟩ := r
    rw [hB] at E
    obtain ⟨F', hr⟩ := runB_RP _ _ _ _ _ _ _ _ _ _ hB
    unfold chkR at E
    split at E
    · rename_i x H2 c2 s2 e
      cases e
      simp only [Bool.and_eq_true, beq_iff_eq, decide_eq_true_eq] at E
      obtain ⟨⟨⟨rfl, rfl⟩, rfl⟩, hl⟩ := E
      obtain ⟨H', k1, k2, k3⟩ := run_fr (sc2 := (7, xs)) _ _ _ _ _ _ _ hp _ _ _ hr hl hF (lvArgs_ok hav) (fun v hv => by cases hv)
      exact ⟨H', ⟨F', k1⟩, k2.1.1.symm.trans hl, fun a ha => k2.2.2 a (fun h => by omega)⟩
    · cases E
theorem model_rc {xs : Nat → Int32} {hp H2 : aH} {F n0 : Nat} {v : Int32} {M : aM} {av : List Value} (hF : Fr (fun a => 195 ≤ a ∧ a < 224) hp hp) (hl2 : H2.length = hp.length) (h2 : ∀ a, 195 ≤ a → a < 224 → H2[a]? = hp[a]?) (hav : ∀ v ∈ av, okV (fun a => 195 ≤ a ∧ a < 224) v) (E : chkM v n0 (runB (0, fun _ => 0) F 1999 M 0 (lv_args 0 av) [] hp 0 0) = true) (hn0 : hp.length = n0 := by rfl) :
    ∃ H3, RC (7, xs) 1999 M av H2 (.inl (some (.int v))) H3 0 0 ∧ (∃ fs, H3[195]? = some (kO 12 fs) ∧ fs[0]? = some (.int 0)) ∧ H3[224]? = H2[224]? := by
  subst hn0
  cases hB : runB (0, fun _ => 0) F 1999 M 0 (lv_args 0 av) [] hp 0 0 with
  | none => rw [hB] at E; cases E
  | some r =>
    obtain ⟨o, H1, c, s⟩ := r
    rw [hB] at E
    obtain ⟨F', hr⟩ := runB_RP _ _ _ _ _ _ _ _ _ _ hB
    unfold chkM at E
    split at E
    · rename_i x H9 c2 s2 e
      cases e
      simp only [Bool.and_eq_true, beq_iff_eq, decide_eq_true_eq] at E
      obtain ⟨⟨⟨⟨rfl, rfl⟩, rfl⟩, hl⟩, hf⟩ := E
      have F2 : Fr (fun a => 195 ≤ a ∧ a < 224) hp H2 := ⟨hl2.symm, fun a ha => (h2 a ha.1 ha.2).symm, hF.2.2⟩
      obtain ⟨H3, k1, k2, k3⟩ := run_fr (sc2 := (7, xs)) _ _ _ _ _ _ _ H2 _ _ _ hr hl F2 (lvArgs_ok hav) (fun v hv => by cases hv)
      refine ⟨H3, ⟨F', k1⟩, ?_, k2.2.2 224 (fun h => by omega)⟩
      have e1 : H1[195]? = H3[195]? := k2.1.2.1 195 ⟨by decide, by decide⟩
      rw [e1] at hf
      unfold chkF at hf
      split at hf
      · rename_i c y t e
        simp only [Bool.and_eq_true, beq_iff_eq, decide_eq_true_eq] at hf
        obtain ⟨rfl, rfl⟩ := hf
        exact ⟨_, e, rfl⟩
      · cases hf
    · cases E
set_option maxRecDepth 100000 in
theorem fr64_c : Fr (fun a => 0 ≤ a ∧ a < 195) hp64i hp64i := Fr_of (show allP _ _ from ⟨okL_of (by decide), okL_of (by decide), trivial, okL_of (by decide), trivial, okL_of (by decide), trivial, okL_of (by decide), trivial, trivial, up_okQ (up_okQ (up_okQ (up_okQ (up_okQ (up_okQ (up_okQ (up_okQ (up_none) ⟨by decide, by decide⟩) ⟨by decide, by decide⟩) ⟨by decide, by decide⟩) ⟨by decide, by decide⟩) ⟨by decide, by decide⟩) ⟨by decide, by decide⟩) ⟨by decide, by decide⟩) ⟨by decide, by decide⟩, okL_of (by decide), trivial, trivial, trivial, trivial, trivial, okL_of (by decide), trivial, trivial, trivial, trivial, trivial, okL_of (by decide), trivial, trivial, trivial, trivial, trivial, okL_of (by decide), trivial, trivial, trivial, trivial, trivial, okL_of (by decide), trivial, trivial, trivial, trivial, trivial, okL_of (by decide), trivial, trivial, trivial, trivial, trivial, okL_of (by decide), trivial, trivial, trivial, trivial, trivial, okL_of (by decide), trivial, trivial, trivial, trivial, trivial, okL_of (by decide), trivial, trivial, trivial, trivial, trivial, okL_of (by decide), trivial, trivial, trivial, trivial, trivial, okL_of (by decide), trivial, trivial, okL_of (by decide), trivial, trivial, trivial, trivial, trivial, trivial, trivial, trivial, okL_of (by decide), up_okQ (up_okQ (up_okQ (up_okQ (up_okQ (up_okQ (up_okQ (up_okQ (up_okQ (up_okQ (up_okQ (up_okQ (up_okQ (up_okQ (up_okQ (up_okQ (up_okQ (up_okQ (up_okQ (up_okQ (up_okQ (up_okQ (up_okQ (up_okQ (up_none) ⟨by decide, by decide⟩) ⟨by decide, by decide⟩) ⟨by decide, by decide⟩) ⟨by decide, by decide⟩) ⟨by decide, by decide⟩) ⟨by decide, by decide⟩) ⟨by decide, by decide⟩) ⟨by decide, by decide⟩) ⟨by decide, by decide⟩) ⟨by decide, by decide⟩) ⟨by decide, by decide⟩) ⟨by decide, by decide⟩) ⟨by decide, by decide⟩) ⟨by decide, by decide⟩) ⟨by decide, by decide⟩) ⟨by decide, by decide⟩) ⟨by decide, by decide⟩) ⟨by decide, by decide⟩) ⟨by decide, by decide⟩) ⟨by decide, by decide⟩) ⟨by decide, by decide⟩) ⟨by decide, by decide⟩) ⟨by decide, by decide⟩) ⟨by decide, by decide⟩, trivial, trivial, trivial, okL_of (by decide), trivial, okL_of (by decide), trivial, okL_of (by decide), trivial, okL_of (by decide), trivial, okL_of (by decide), trivial, okL_of (by decide), trivial, okL_of (by decide), trivial, okL_of (by decide), trivial, okL_of (by decide), trivial, okL_of (by decide), trivial, okL_of (by decide), trivial, okL_of (by decide), trivial, okL_of (by decide), trivial, okL_of (by decide), trivial, okL_of (by decide), trivial, okL_of (by decide), trivial, okL_of (by decide), trivial, okL_of (by decide), trivial, okL_of (by decide), trivial, okL_of (by decide), trivial, okL_of (by decide), trivial, okL_of (by decide), trivial, okL_of (by decide), trivial, okL_of (by decide), trivial, okL_of (by decide), up_okQ (up_okQ (up_okQ (up_okQ (up_okQ (up_okQ (up_okQ (up_okQ (up_okQ (up_okQ (up_okQ (up_okQ (up_okQ (up_okQ (up_okQ (up_okQ (up_okQ (up_okQ (up_okQ (up_okQ (up_okQ (up_okQ (up_okQ (up_okQ (up_none) ⟨by decide, by decide⟩) ⟨by decide, by decide⟩) ⟨by decide, by decide⟩) ⟨by decide, by decide⟩) ⟨by decide, by decide⟩) ⟨by decide, by decide⟩) ⟨by decide, by decide⟩) ⟨by decide, by decide⟩) ⟨by decide, by decide⟩) ⟨by decide, by decide⟩) ⟨by decide, by decide⟩) ⟨by decide, by decide⟩) ⟨by decide, by decide⟩) ⟨by decide, by decide⟩) ⟨by decide, by decide⟩) ⟨by decide, by decide⟩) ⟨by decide, by decide⟩) ⟨by decide, by decide⟩) ⟨by decide, by decide⟩) ⟨by decide, by decide⟩) ⟨by decide, by decide⟩) ⟨by decide, by decide⟩) ⟨by decide, by decide⟩) ⟨by decide, by decide⟩, okL_of (by decide), trivial, trivial, trivial, okL_of (by decide), trivial, okL_of (by decide), trivial, okL_of (by decide), trivial, okL_of (by decide), trivial, okL_of (by decide), trivial, okL_of (by decide), trivial, okL_of (by decide), trivial, okL_of (by decide), trivial, okL_of (by decide), trivial, okL_of (by decide), trivial, okL_of (by decide), trivial, okL_of (by decide), trivial, okL_of (by decide), trivial, okL_of (by decide), trivial, okL_of (by decide), trivial, okL_of (by decide), trivial, okL_of (by decide), trivial, okL_of (by decide), trivial, okL_of (by decide), trivial, okL_of (by decide), trivial, okL_of (by decide), trivial, okL_of (by decide), trivial, okL_of (by decide), trivial, okL_of (by decide), trivial, okL_of (by decide), trivial, trivial, trivial, trivial, trivial⟩)
set_option maxRecDepth 100000 in
theorem fr64_m : Fr (fun a => 195 ≤ a ∧ a < 224) hp64i hp64i := Fr_of (show allP _ _ from ⟨okL_of (by decide), trivial, trivial, trivial, trivial, trivial, trivial, trivial, trivial, trivial, trivial, trivial, trivial, trivial, trivial, trivial, trivial, trivial, trivial, trivial, trivial, trivial, trivial, trivial, trivial, trivial, trivial, trivial, trivial, trivial⟩)
set_option maxRecDepth 100000 in
theorem fr96_c : Fr (fun a => 0 ≤ a ∧ a < 195) hp96i hp96i := Fr_of (show allP _ _ from ⟨okL_of (by decide), okL_of (by decide), trivial, okL_of (by decide), trivial, okL_of (by decide), trivial, okL_of (by decide), trivial, trivial, up_okQ (up_okQ (up_okQ (up_okQ (up_okQ (up_okQ (up_okQ (up_okQ (up_none) ⟨by decide, by decide⟩) ⟨by decide, by decide⟩) ⟨by decide, by decide⟩) ⟨by decide, by decide⟩) ⟨by decide, by decide⟩) ⟨by decide, by decide⟩) ⟨by decide, by decide⟩) ⟨by decide, by decide⟩, okL_of (by decide), trivial, trivial, trivial, trivial, trivial, okL_of (by decide), trivial, trivial, trivial, trivial, trivial, okL_of (by decide), trivial, trivial, trivial, trivial, trivial, okL_of (by decide), trivial, trivial, trivial, trivial, trivial, okL_of (by decide), trivial, trivial, trivial, trivial, trivial, okL_of (by decide), trivial, trivial, trivial, trivial, trivial, okL_of (by decide), trivial, trivial, trivial, trivial, trivial, okL_of (by decide), trivial, trivial, trivial, trivial, trivial, okL_of (by decide), trivial, trivial, trivial, trivial, trivial, okL_of (by decide), trivial, trivial, trivial, trivial, trivial, okL_of (by decide), trivial, trivial, okL_of (by decide), trivial, trivial, trivial, trivial, trivial, trivial, trivial, trivial, okL_of (by decide), up_okQ (up_okQ (up_okQ (up_okQ (up_okQ (up_okQ (up_okQ (up_okQ (up_okQ (up_okQ (up_okQ (up_okQ (up_okQ (up_okQ (up_okQ (up_okQ (up_okQ (up_okQ (up_okQ (up_okQ (up_okQ (up_okQ (up_okQ (up_okQ (up_none) ⟨by decide, by decide⟩) ⟨by decide, by decide⟩) ⟨by decide, by decide⟩) ⟨by decide, by decide⟩) ⟨by decide, by decide⟩) ⟨by decide, by decide⟩) ⟨by decide, by decide⟩) ⟨by decide, by decide⟩) ⟨by decide, by decide⟩) ⟨by decide, by decide⟩) ⟨by decide, by decide⟩) ⟨by decide, by decide⟩) ⟨by decide, by decide⟩) ⟨by decide, by decide⟩) ⟨by decide, by decide⟩) ⟨by decide, by decide⟩) ⟨by decide, by decide⟩) ⟨by decide, by decide⟩) ⟨by decide, by decide⟩) ⟨by decide, by decide⟩) ⟨by decide, by decide⟩) ⟨by decide, by decide⟩) ⟨by decide, by decide⟩) ⟨by decide, by decide⟩, trivial, trivial, trivial, okL_of (by decide), trivial, okL_of (by decide), trivial, okL_of (by decide), trivial, okL_of (by decide), trivial, okL_of (by decide), trivial, okL_of (by decide), trivial, okL_of (by decide), trivial, okL_of (by decide), trivial, okL_of (by decide), trivial, okL_of (by decide), trivial, okL_of (by decide), trivial, okL_of (by decide), trivial, okL_of (by decide), trivial, okL_of (by decide), trivial, okL_of (by decide), trivial, okL_of (by decide), trivial, okL_of (by decide), trivial, okL_of (by decide), trivial, okL_of (by decide), trivial, okL_of (by decide), trivial, okL_of (by decide), trivial, okL_of (by decide), trivial, okL_of (by decide), trivial, okL_of (by decide), trivial, okL_of (by decide), up_okQ (up_okQ (up_okQ (up_okQ (up_okQ (up_okQ (up_okQ (up_okQ (up_okQ (up_okQ (up_okQ (up_okQ (up_okQ (up_okQ (up_okQ (up_okQ (up_okQ (up_okQ (up_okQ (up_okQ (up_okQ (up_okQ (up_okQ (up_okQ (up_none) ⟨by decide, by decide⟩) ⟨by decide, by decide⟩) ⟨by decide, by decide⟩) ⟨by decide, by decide⟩) ⟨by decide, by decide⟩) ⟨by decide, by decide⟩) ⟨by decide, by decide⟩) ⟨by decide, by decide⟩) ⟨by decide, by decide⟩) ⟨by decide, by decide⟩) ⟨by decide, by decide⟩) ⟨by decide, by decide⟩) ⟨by decide, by decide⟩) ⟨by decide, by decide⟩) ⟨by decide, by decide⟩) ⟨by decide, by decide⟩) ⟨by decide, by decide⟩) ⟨by decide, by decide⟩) ⟨by decide, by decide⟩) ⟨by decide, by decide⟩) ⟨by decide, by decide⟩) ⟨by decide, by decide⟩) ⟨by decide, by decide⟩) ⟨by decide, by decide⟩, okL_of (by decide), trivial, trivial, trivial, okL_of (by decide), trivial, okL_of (by decide), trivial, okL_of (by decide), trivial, okL_of (by decide), trivial, okL_of (by decide), trivial, okL_of (by decide), trivial, okL_of (by decide), trivial, okL_of (by decide), trivial, okL_of (by decide), trivial, okL_of (by decide), trivial, okL_of (by decide), trivial, okL_of (by decide), trivial, okL_of (by decide), trivial, okL_of (by decide), trivial, okL_of (by decide), trivial, okL_of (by decide), trivial, okL_of (by decide), trivial, okL_of (by decide), trivial, okL_of (by decide), trivial, okL_of (by decide), trivial, okL_of (by decide), trivial, okL_of (by decide), trivial, okL_of (by decide), trivial, okL_of (by decide), trivial, okL_of (by decide), trivial, trivial, trivial, trivial, trivial⟩)
set_option maxRecDepth 100000 in
theorem fr96_m : Fr (fun a => 195 ≤ a ∧ a < 224) hp96i hp96i := Fr_of (show allP _ _ from ⟨okL_of (by decide), trivial, trivial, trivial, trivial, trivial, trivial, trivial, trivial, trivial, trivial, trivial, trivial, trivial, trivial, trivial, trivial, trivial, trivial, trivial, trivial, trivial, trivial, trivial, trivial, trivial, trivial, trivial, trivial, trivial⟩)
set_option maxRecDepth 100000 in
theorem fr128_c : Fr (fun a => 0 ≤ a ∧ a < 195) hp128i hp128i := Fr_of (show allP _ _ from ⟨okL_of (by decide), okL_of (by decide), trivial, okL_of (by decide), trivial, okL_of (by decide), trivial, okL_of (by decide), trivial, trivial, up_okQ (up_okQ (up_okQ (up_okQ (up_okQ (up_okQ (up_okQ (up_okQ (up_none) ⟨by decide, by decide⟩) ⟨by decide, by decide⟩) ⟨by decide, by decide⟩) ⟨by decide, by decide⟩) ⟨by decide, by decide⟩) ⟨by decide, by decide⟩) ⟨by decide, by decide⟩) ⟨by decide, by decide⟩, okL_of (by decide), trivial, trivial, trivial, trivial, trivial, okL_of (by decide), trivial, trivial, trivial, trivial, trivial, okL_of (by decide), trivial, trivial, trivial, trivial, trivial, okL_of (by decide), trivial, trivial, trivial, trivial, trivial, okL_of (by decide), trivial, trivial, trivial, trivial, trivial, okL_of (by decide), trivial, trivial, trivial, trivial, trivial, okL_of (by decide), trivial, trivial, trivial, trivial, trivial, okL_of (by decide), trivial, trivial, trivial, trivial, trivial, okL_of (by decide), trivial, trivial, trivial, trivial, trivial, okL_of (by decide), trivial, trivial, trivial, trivial, trivial, okL_of (by decide), trivial, trivial, okL_of (by decide), trivial, trivial, trivial, trivial, trivial, trivial, trivial, trivial, okL_of (by decide), up_okQ (up_okQ (up_okQ (up_okQ (up_okQ (up_okQ (up_okQ (up_okQ (up_okQ (up_okQ (up_okQ (up_okQ (up_okQ (up_okQ (up_okQ (up_okQ (up_okQ (up_okQ (up_okQ (up_okQ (up_okQ (up_okQ (up_okQ (up_okQ (up_none) ⟨by decide, by decide⟩) ⟨by decide, by decide⟩) ⟨by decide, by decide⟩) ⟨by decide, by decide⟩) ⟨by decide, by decide⟩) ⟨by decide, by decide⟩) ⟨by decide, by decide⟩) ⟨by decide, by decide⟩) ⟨by decide, by decide⟩) ⟨by decide, by decide⟩) ⟨by decide, by decide⟩) ⟨by decide, by decide⟩) ⟨by decide, by decide⟩) ⟨by decide, by decide⟩) ⟨by decide, by decide⟩) ⟨by decide, by decide⟩) ⟨by decide, by decide⟩) ⟨by decide, by decide⟩) ⟨by decide, by decide⟩) ⟨by decide, by decide⟩) ⟨by decide, by decide⟩) ⟨by decide, by decide⟩) ⟨by decide, by decide⟩) ⟨by decide, by decide⟩, trivial, trivial, trivial, okL_of (by decide), trivial, okL_of (by decide), trivial, okL_of (by decide), trivial, okL_of (by decide), trivial, okL_of (by decide), trivial, okL_of (by decide), trivial, okL_of (by decide), trivial, okL_of (by decide), trivial, okL_of (by decide), trivial, okL_of (by decide), trivial, okL_of (by decide), trivial, okL_of (by decide), trivial, okL_of (by decide), trivial, okL_of (by decide), trivial, okL_of (by decide), trivial, okL_of (by decide), trivial, okL_of (by decide), trivial, okL_of (by decide), trivial, okL_of (by decide), trivial, okL_of (by decide), trivial, okL_of (by decide), trivial, okL_of (by decide), trivial, okL_of (by decide), trivial, okL_of (by decide), trivial, okL_of (by decide), up_okQ (up_okQ (up_okQ (up_okQ (up_okQ (up_okQ (up_okQ (up_okQ (up_okQ (up_okQ (up_okQ (up_okQ (up_okQ (up_okQ (up_okQ (up_okQ (up_okQ (up_okQ (up_okQ (up_okQ (up_okQ (up_okQ (up_okQ (up_okQ (up_none) ⟨by decide, by decide⟩) ⟨by decide, by decide⟩) ⟨by decide, by decide⟩) ⟨by decide, by decide⟩) ⟨by decide, by decide⟩) ⟨by decide, by decide⟩) ⟨by decide, by decide⟩) ⟨by decide, by decide⟩) ⟨by decide, by decide⟩) ⟨by decide, by decide⟩) ⟨by decide, by decide⟩) ⟨by decide, by decide⟩) ⟨by decide, by decide⟩) ⟨by decide, by decide⟩) ⟨by decide, by decide⟩) ⟨by decide, by decide⟩) ⟨by decide, by decide⟩) ⟨by decide, by decide⟩) ⟨by decide, by decide⟩) ⟨by decide, by decide⟩) ⟨by decide, by decide⟩) ⟨by decide, by decide⟩) ⟨by decide, by decide⟩) ⟨by decide, by decide⟩, okL_of (by decide), trivial, trivial, trivial, okL_of (by decide), trivial, okL_of (by decide), trivial, okL_of (by decide), trivial, okL_of (by decide), trivial, okL_of (by decide), trivial, okL_of (by decide), trivial, okL_of (by decide), trivial, okL_of (by decide), trivial, okL_of (by decide), trivial, okL_of (by decide), trivial, okL_of (by decide), trivial, okL_of (by decide), trivial, okL_of (by decide), trivial, okL_of (by decide), trivial, okL_of (by decide), trivial, okL_of (by decide), trivial, okL_of (by decide), trivial, okL_of (by decide), trivial, okL_of (by decide), trivial, okL_of (by decide), trivial, okL_of (by decide), trivial, okL_of (by decide), trivial, okL_of (by decide), trivial, okL_of (by decide), trivial, okL_of (by decide), trivial, trivial, trivial, trivial, trivial⟩)
set_option maxRecDepth 100000 in
theorem fr128_m : Fr (fun a => 195 ≤ a ∧ a < 224) hp128i hp128i := Fr_of (show allP _ _ from ⟨okL_of (by decide), trivial, trivial, trivial, trivial, trivial, trivial, trivial, trivial, trivial, trivial, trivial, trivial, trivial, trivial, trivial, trivial, trivial, trivial, trivial, trivial, trivial, trivial, trivial, trivial, trivial, trivial, trivial, trivial, trivial⟩)
