/-! ===== runs of the abstract machine, put together ===== -/
section RN
variable {mt : List aM} {sc : Nat × (Nat → Int32)}
set_option maxHeartbeats 1000000 in
theorem run_succ : ∀ (f d : Nat) (M : aM) (pc : Nat) (lv : aL) (st : List Value) (H : aH) (kc ks : Nat) (r : tO × aH × Nat × Nat), run mt sc f d M pc lv st H kc ks = some r → run mt sc (f + 1) d M pc lv st H kc ks = some r := by
  intro f
  induction f with
  | zero => intro d M pc lv st H kc ks r h; cases h
  | succ f ih =>
    intro d M pc lv st H kc ks r h
    rw [run] at h ⊢
    cases hI : lkI pc (mT M) with
    | none => rw [hI] at h; cases h
    | some x =>
      obtain ⟨nx, I⟩ := x
      rw [hI] at h
      dsimp only at h ⊢
      cases hg : stG sc nx lv st H I with
      | some y =>
        obtain ⟨pc', lv', st', H', c, s⟩ := y
        rw [hg] at h
        exact ih _ _ _ _ _ _ _ _ _ h
      | none =>
        rw [hg] at h
        dsimp only at h ⊢
        cases hb : stB st I with
        | some y =>
          obtain ⟨b, t, st'⟩ := y
          rw [hb] at h
          cases b with
          | true => exact ih _ _ _ _ _ _ _ _ _ h
          | false => exact ih _ _ _ _ _ _ _ _ _ h
        | none =>
          rw [hb] at h
          dsimp only at h ⊢
          cases hD : stD st I with
          | some y => rw [hD] at h; exact h
          | none =>
            rw [hD] at h
            dsimp only at h ⊢
            cases hC : stC I with
            | none => rw [hC] at h; cases h
            | some y =>
              obtain ⟨m, k⟩ := y
              rw [hC] at h
              dsimp only at h ⊢
              cases hm : mt[m]? with
              | none => rw [hm] at h; cases h
              | some M' =>
                rw [hm] at h
                dsimp only at h ⊢
                cases ha : argsOf M' k H st with
                | none => rw [ha] at h; cases h
                | some y =>
                  obtain ⟨av, st'⟩ := y
                  rw [ha] at h
                  dsimp only at h ⊢
                  cases d with
                  | zero => cases h
                  | succ d' =>
                    dsimp only at h ⊢
                    cases hr : run mt sc f d' M' 0 (lv_args 0 av) [] H 0 0 with
                    | none => rw [hr] at h; cases h
                    | some y =>
                      obtain ⟨o, H', c, s⟩ := y
                      rw [hr] at h
                      rw [ih _ _ _ _ _ _ _ _ _ hr]
                      cases o with
                      | inl v => exact ih _ _ _ _ _ _ _ _ _ h
                      | inr x =>
                        dsimp only at h ⊢
                        cases hx : lkX pc x (mX M) with
                        | none => rw [hx] at h; exact h
                        | some y =>
                          rw [hx] at h
                          exact ih _ _ _ _ _ _ _ _ _ h
theorem run_le {f g d : Nat} {M : aM} {pc : Nat} {lv : aL} {st : List Value} {H : aH} {kc ks : Nat} {r : tO × aH × Nat × Nat} (h : f ≤ g) (hr : run mt sc f d M pc lv st H kc ks = some r) : run mt sc g d M pc lv st H kc ks = some r := by
  induction h with
  | refl => exact hr
  | step _ ih => exact run_succ _ _ _ _ _ _ _ _ _ _ ih
end RN
/-- from that point the run comes to that end -/
def RP (sc : Nat × (Nat → Int32)) (d : Nat) (M : aM) (pc : Nat) (lv : aL) (st : List Value) (H : aH) (kc ks : Nat) (r : tO × aH × Nat × Nat) : Prop := ∃ f, run mtb sc f d M pc lv st H kc ks = some r
/-- the method comes to that end -/
def RC (sc : Nat × (Nat → Int32)) (d : Nat) (M : aM) (av : List Value) (H : aH) (o : tO) (H' : aH) (c s : Nat) : Prop := RP sc d M 0 (lv_args 0 av) [] H 0 0 (o, H', c, s)
def goN (sc : Nat × (Nat → Int32)) (M : aM) : Nat → Nat → aL → List Value → aH → Nat → Nat → Option aG
  | 0, pc, lv, st, H, kc, ks => some (pc, lv, st, H, kc, ks)
  | n + 1, pc, lv, st, H, kc, ks => match lkI pc (mT M) with
    | none => none
    | some (nx, I) => match stG sc nx lv st H I with
      | none => none
      | some (pc', lv', st', H', c, s) => goN sc M n pc' lv' st' H' (kc + c) (ks + s)
section RR
variable {sc : Nat × (Nat → Int32)} {d : Nat} {M M' : aM} {pc nx : Nat} {I : Instr} {lv : aL} {st : List Value} {H : aH} {kc ks : Nat} {r : tO × aH × Nat × Nat} {pc' : Nat} {lv' : aL} {st' : List Value} {H' : aH} {c s : Nat}
theorem RP.go (hI : lkI pc (mT M) = some (nx, I)) (hg : stG sc nx lv st H I = some (pc', lv', st', H', c, s)) (k : RP sc d M pc' lv' st' H' (kc + c) (ks + s) r) : RP sc d M pc lv st H kc ks r := by
  obtain ⟨f, hf⟩ := k
  exact ⟨f + 1, by rw [run, hI]; dsimp only; rw [hg]; exact hf⟩
theorem RP.blk : ∀ (n : Nat) {pc : Nat} {lv : aL} {st : List Value} {H : aH} {kc ks kc' ks' : Nat}, goN sc M n pc lv st H kc ks = some (pc', lv', st', H', kc', ks') → RP sc d M pc' lv' st' H' kc' ks' r → RP sc d M pc lv st H kc ks r
  | 0, _, _, _, _, _, _, _, _, h, k => by cases h; exact k
  | n + 1, pc, lv, st, H, kc, ks, _, _, h, k => by
    rw [goN] at h
    cases hI : lkI pc (mT M) with
    | none => rw [hI] at h; cases h
    | some x =>
      obtain ⟨nx, I⟩ := x
      rw [hI] at h
      dsimp only at h
      cases hg : stG sc nx lv st H I with
      | none => rw [hg] at h; cases h
      | some y =>
        obtain ⟨pc2, lv2, st2, H2, c2, s2⟩ := y
        rw [hg] at h
        exact RP.go hI hg (RP.blk n h k)
theorem RP.br {b : Bool} {t : Nat} (hI : lkI pc (mT M) = some (nx, I)) (h0 : stG sc nx lv st H I = none) (hb : stB st I = some (b, t, st')) (k : RP sc d M (bif b then t else nx) lv st' H kc ks r) : RP sc d M pc lv st H kc ks r := by
  obtain ⟨f, hf⟩ := k
  refine ⟨f + 1, ?_⟩
  rw [run, hI]
  dsimp only
  rw [h0]
  dsimp only
  rw [hb]
  cases b with
  | true => exact hf
  | false => exact hf
theorem RP.done {o : tO} (hI : lkI pc (mT M) = some (nx, I)) (h0 : stG sc nx lv st H I = none) (h1 : stB st I = none) (hd : stD st I = some (o, c, s)) : RP sc d M pc lv st H kc ks (o, H, kc + c, ks + s) := by
  refine ⟨1, ?_⟩
  rw [run, hI]
  dsimp only
  rw [h0]
  dsimp only
  rw [h1]
  dsimp only
  rw [hd]
theorem RP.call0 {m k : Nat} {av : List Value} {o : tO} (hI : lkI pc (mT M) = some (nx, I)) (h0 : stG sc nx lv st H I = none) (h1 : stB st I = none) (h2 : stD st I = none) (hC : stC I = some (m, k)) (hm : mtb[m]? = some M') (ha : argsOf M' k H st = some (av, st')) {f g : Nat} (hr : run mtb sc f d M' 0 (lv_args 0 av) [] H 0 0 = some (o, H', c, s))
    (hk : (match o with
      | .inl v => run mtb sc g (d + 1) M nx lv (v.toList ++ st') H' (kc + c) (ks + s)
      | .inr x => match lkX pc x (mX M) with
        | none => bif (mX M).any (fun q => Nat.ble q.1 pc && Nat.blt pc q.2.1) then none else some (.inr x, H', kc + c, ks + s)
        | some (i, n) => run mtb sc g (d + 1) M n (lvD lv i) [] H' (kc + c) (ks + s)) = some r) : RP sc (d + 1) M pc lv st H kc ks r := by
  refine ⟨max f g + 1, ?_⟩
  rw [run, hI]
  dsimp only
  rw [h0]
  dsimp only
  rw [h1]
  dsimp only
  rw [h2]
  dsimp only
  rw [hC]
  dsimp only
  rw [hm]
  dsimp only
  rw [ha]
  dsimp only
  rw [run_le (Nat.le_max_left f g) hr]
  cases o with
  | inl v => exact run_le (Nat.le_max_right f g) hk
  | inr x =>
    dsimp only at hk ⊢
    cases hx : lkX pc x (mX M) with
    | none => rw [hx] at hk; exact hk
    | some y =>
      rw [hx] at hk
      exact run_le (Nat.le_max_right f g) hk
theorem RP.call {m k : Nat} {av : List Value} {v : Option Value} (hI : lkI pc (mT M) = some (nx, I)) (h0 : stG sc nx lv st H I = none) (h1 : stB st I = none) (h2 : stD st I = none) (hC : stC I = some (m, k)) (hm : mtb[m]? = some M') (ha : argsOf M' k H st = some (av, st')) (hr : RC sc d M' av H (.inl v) H' c s) (kk : RP sc (d + 1) M nx lv (v.toList ++ st') H' (kc + c) (ks + s) r) : RP sc (d + 1) M pc lv st H kc ks r := by
  obtain ⟨f, hf⟩ := hr
  obtain ⟨g, hg⟩ := kk
  exact RP.call0 hI h0 h1 h2 hC hm ha hf hg
theorem RP.callP {m k x : Nat} {av : List Value} (hI : lkI pc (mT M) = some (nx, I)) (h0 : stG sc nx lv st H I = none) (h1 : stB st I = none) (h2 : stD st I = none) (hC : stC I = some (m, k)) (hm : mtb[m]? = some M') (ha : argsOf M' k H st = some (av, st')) (hr : RC sc d M' av H (.inr x) H' c s) (hx : mX M = []) : RP sc (d + 1) M pc lv st H kc ks (.inr x, H', kc + c, ks + s) := by
  obtain ⟨f, hf⟩ := hr
  refine RP.call0 (g := 0) hI h0 h1 h2 hC hm ha hf ?_
  rw [hx]
  rfl
theorem RP.callX {m k x i n : Nat} {av : List Value} (hI : lkI pc (mT M) = some (nx, I)) (h0 : stG sc nx lv st H I = none) (h1 : stB st I = none) (h2 : stD st I = none) (hC : stC I = some (m, k)) (hm : mtb[m]? = some M') (ha : argsOf M' k H st = some (av, st')) (hr : RC sc d M' av H (.inr x) H' c s) (hx : lkX pc x (mX M) = some (i, n)) (kk : RP sc (d + 1) M n (lvD lv i) [] H' (kc + c) (ks + s) r) : RP sc (d + 1) M pc lv st H kc ks r := by
  obtain ⟨f, hf⟩ := hr
  obtain ⟨g, hg⟩ := kk
  refine RP.call0 hI h0 h1 h2 hC hm ha hf (g := g) ?_
  dsimp only
  rw [hx]
  exact hg
end RR
