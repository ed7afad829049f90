/-! ===== runs of the abstract machine: rules for the heap's instructions, stretches of code with calls, loops ===== -/
theorem inR_n {i n : Nat} (h : i < n) (hn : n < 2 ^ 31) : inR (nI i) n = true := by
  unfold inR
  rw [decide_eq_false (nI_pos (by omega)), nI_clamp (by omega)]
  exact Nat.ble_eq_true_of_le h
section RU
variable {sc : Nat × (Nat → Int32)} {d : Nat} {M : aM} {pc nx : Nat} {lv : aL} {st : List Value} {H : aH} {kc ks : Nat} {r : tO × aH × Nat × Nat}
theorem RP.get {n a ci : Nat} {fs : List Value} {v : Value} (hI : lkI pc (mT M) = some (nx, .getfield n)) (hc : H[a]? = some (kO ci fs)) (hn : n / 64 = ci) (hk : fs[n % 64]? = some v) (k : RP sc d M nx lv (v :: st) H kc ks r) : RP sc d M pc lv (.ref (a + 1) :: st) H kc ks r := by
  refine RP.go hI (pc' := nx) (lv' := lv) (st' := v :: st) (H' := H) (c := 0) (s := 0) ?_ k
  show goGet (n / 64) (n % 64) nx lv H (.ref (a + 1) :: st) = _
  unfold goGet
  dsimp only
  rw [hc, hn]
  dsimp only
  rw [beq_self_eq_true, hk]
  rfl
theorem RP.put {n a ci : Nat} {fs : List Value} {v : Value} (hI : lkI pc (mT M) = some (nx, .putfield n)) (hc : H[a]? = some (kO ci fs)) (hn : n / 4 / 64 = ci) (hf : fitV (n % 4) v = true) (hk : n / 4 % 64 < fs.length) (k : RP sc d M nx lv st (H.set a (kO ci (fs.set (n / 4 % 64) v))) kc ks r) : RP sc d M pc lv (v :: .ref (a + 1) :: st) H kc ks r := by
  refine RP.go hI (pc' := nx) (lv' := lv) (st' := st) (H' := H.set a (kO ci (fs.set (n / 4 % 64) v))) (c := 0) (s := 0) ?_ k
  show goPut (n / 4 / 64) (n / 4 % 64) (n % 4) nx lv H (v :: .ref (a + 1) :: st) = _
  unfold goPut
  dsimp only
  rw [hc, hn]
  dsimp only
  rw [beq_self_eq_true, hf, show Nat.blt (n / 4 % 64) fs.length = true from Nat.ble_eq_true_of_le hk]
  rfl
theorem RP.iald {a n : Nat} {f : Nat → Int32} {i : Int32} (hI : lkI pc (mT M) = some (nx, .iaload)) (hc : H[a]? = some (kI n f)) (hi : inR i n = true) (k : RP sc d M nx lv (.int (f i.toNatClampNeg) :: st) H kc ks r) : RP sc d M pc lv (.int i :: .ref (a + 1) :: st) H kc ks r := by
  refine RP.go hI (pc' := nx) (lv' := lv) (st' := .int (f i.toNatClampNeg) :: st) (H' := H) (c := 0) (s := 0) ?_ k
  show goIald sc nx lv H (.int i :: .ref (a + 1) :: st) = _
  unfold goIald
  dsimp only
  rw [hc]
  dsimp only
  rw [hi]
  rfl
theorem RP.bald {a n : Nat} {f : Nat → Int8} {i : Int32} (hI : lkI pc (mT M) = some (nx, .baload)) (hc : H[a]? = some (kB n f)) (hi : inR i n = true) (k : RP sc d M nx lv (.int (f i.toNatClampNeg).toInt32 :: st) H kc ks r) : RP sc d M pc lv (.int i :: .ref (a + 1) :: st) H kc ks r := by
  refine RP.go hI (pc' := nx) (lv' := lv) (st' := .int (f i.toNatClampNeg).toInt32 :: st) (H' := H) (c := 0) (s := 0) ?_ k
  show goBald nx lv H (.int i :: .ref (a + 1) :: st) = _
  unfold goBald
  dsimp only
  rw [hc]
  dsimp only
  rw [hi]
  rfl
theorem RP.zald {a n : Nat} {f : Nat → Bool} {i : Int32} (hI : lkI pc (mT M) = some (nx, .baload)) (hc : H[a]? = some (kZ n f)) (hi : inR i n = true) (k : RP sc d M nx lv (.int (if f i.toNatClampNeg then 1 else 0) :: st) H kc ks r) : RP sc d M pc lv (.int i :: .ref (a + 1) :: st) H kc ks r := by
  refine RP.go hI (pc' := nx) (lv' := lv) (st' := .int (if f i.toNatClampNeg then 1 else 0) :: st) (H' := H) (c := 0) (s := 0) ?_ k
  show goBald nx lv H (.int i :: .ref (a + 1) :: st) = _
  unfold goBald
  dsimp only
  rw [hc]
  dsimp only
  rw [hi]
  rfl
theorem RP.aald {a t n b : Nat} {f : Nat → Option Nat} {i : Int32} (hI : lkI pc (mT M) = some (nx, .aaload)) (hc : H[a]? = some (kQ t n f)) (hi : inR i n = true) (ht : t < 7 ∧ 4 ≤ t) (hb : f i.toNatClampNeg = some b) (k : RP sc d M nx lv (.ref (b + 1) :: st) H kc ks r) : RP sc d M pc lv (.int i :: .ref (a + 1) :: st) H kc ks r := by
  refine RP.go hI (pc' := nx) (lv' := lv) (st' := .ref (b + 1) :: st) (H' := H) (c := 0) (s := 0) ?_ k
  show goAald nx lv H (.int i :: .ref (a + 1) :: st) = _
  unfold goAald
  dsimp only
  rw [hc]
  dsimp only
  rw [hi, show Nat.blt t 7 = true from Nat.ble_eq_true_of_le ht.1, show Nat.ble 4 t = true from Nat.ble_eq_true_of_le ht.2, hb]
  rfl
theorem RP.iast {a n : Nat} {f : Nat → Int32} {i x : Int32} (hI : lkI pc (mT M) = some (nx, .iastore)) (hc : H[a]? = some (kI n f)) (hi : inR i n = true) (k : RP sc d M nx lv st (H.set a (kI n (va_up f i.toNatClampNeg x))) kc ks r) : RP sc d M pc lv (.int x :: .int i :: .ref (a + 1) :: st) H kc ks r := by
  refine RP.go hI (pc' := nx) (lv' := lv) (st' := st) (H' := H.set a (kI n (va_up f i.toNatClampNeg x))) (c := 0) (s := 0) ?_ k
  show goIast nx lv H (.int x :: .int i :: .ref (a + 1) :: st) = _
  unfold goIast
  dsimp only
  rw [hc]
  dsimp only
  rw [hi]
  rfl
theorem RP.bast {a n : Nat} {f : Nat → Int8} {i x : Int32} (hI : lkI pc (mT M) = some (nx, .bastore)) (hc : H[a]? = some (kB n f)) (hi : inR i n = true) (k : RP sc d M nx lv st (H.set a (kB n (va_up f i.toNatClampNeg x.toInt8))) kc ks r) : RP sc d M pc lv (.int x :: .int i :: .ref (a + 1) :: st) H kc ks r := by
  refine RP.go hI (pc' := nx) (lv' := lv) (st' := st) (H' := H.set a (kB n (va_up f i.toNatClampNeg x.toInt8))) (c := 0) (s := 0) ?_ k
  show goBast nx lv H (.int x :: .int i :: .ref (a + 1) :: st) = _
  unfold goBast
  dsimp only
  rw [hc]
  dsimp only
  rw [hi]
  rfl
theorem RP.zast {a n : Nat} {f : Nat → Bool} {i x : Int32} (hI : lkI pc (mT M) = some (nx, .bastore)) (hc : H[a]? = some (kZ n f)) (hi : inR i n = true) (k : RP sc d M nx lv st (H.set a (kZ n (va_up f i.toNatClampNeg (decide (x &&& 1 = 1))))) kc ks r) : RP sc d M pc lv (.int x :: .int i :: .ref (a + 1) :: st) H kc ks r := by
  refine RP.go hI (pc' := nx) (lv' := lv) (st' := st) (H' := H.set a (kZ n (va_up f i.toNatClampNeg (decide (x &&& 1 = 1))))) (c := 0) (s := 0) ?_ k
  show goBast nx lv H (.int x :: .int i :: .ref (a + 1) :: st) = _
  unfold goBast
  dsimp only
  rw [hc]
  dsimp only
  rw [hi]
  rfl
theorem RP.len {a n : Nat} {c : aC} (hI : lkI pc (mT M) = some (nx, .arraylength)) (hc : H[a]? = some c) (hl : lenC c = some n) (k : RP sc d M nx lv (.int (nI n) :: st) H kc ks r) : RP sc d M pc lv (.ref (a + 1) :: st) H kc ks r := by
  refine RP.go hI (pc' := nx) (lv' := lv) (st' := .int (nI n) :: st) (H' := H) (c := 0) (s := 0) ?_ k
  show goLen sc nx lv H (.ref (a + 1) :: st) = _
  unfold goLen
  dsimp only
  rw [hc]
  dsimp only
  rw [hl]
  rfl
/-- a branch on a condition that is known -/
theorem RP.brT {I : Instr} {b : Bool} {t : Nat} {st' : List Value} (hI : lkI pc (mT M) = some (nx, I)) (h0 : stG sc nx lv st H I = none) (hb : stB st I = some (b, t, st')) (h : b = true) (k : RP sc d M t lv st' H kc ks r) : RP sc d M pc lv st H kc ks r := by
  subst h
  exact RP.br hI h0 hb k
theorem RP.brF {I : Instr} {b : Bool} {t : Nat} {st' : List Value} (hI : lkI pc (mT M) = some (nx, I)) (h0 : stG sc nx lv st H I = none) (hb : stB st I = some (b, t, st')) (h : b = false) (k : RP sc d M nx lv st' H kc ks r) : RP sc d M pc lv st H kc ks r := by
  subst h
  exact RP.br hI h0 hb k
theorem RP.goB {I J : Instr} {x y v : Int32} (hI : lkI pc (mT M) = some (nx, I)) (hg : stG sc nx lv (.int y :: .int x :: st) H I = goB J nx lv H (.int y :: .int x :: st)) (hb : bin J x y = some v) (k : RP sc d M nx lv (.int v :: st) H kc ks r) : RP sc d M pc lv (.int y :: .int x :: st) H kc ks r := by
  refine RP.go hI (pc' := nx) (lv' := lv) (st' := .int v :: st) (H' := H) (c := 0) (s := 0) ?_ k
  rw [hg]
  unfold Jvm.Pilot.CFlashVaultLaw_law_r2828_d98ee8.goB
  dsimp only
  rw [hb]
end RU
/-- n steps of a method's frame at depth d + 1, with what it calls -/
def seg (sc : Nat × (Nat → Int32)) (f d : Nat) (M : aM) : Nat → Nat → aL → List Value → aH → Nat → Nat → Option aG
  | 0, pc, lv, st, H, kc, ks => some (pc, lv, st, H, kc, ks)
  | n + 1, pc, lv, st, H, kc, ks => match lkI pc (mT M) with
    | none => none
    | some (nx, I) => match stG sc nx lv st H I with
      | some (pc', lv', st', H', c, s) => seg sc f d M n pc' lv' st' H' (kc + c) (ks + s)
      | none => match stB st I with
        | some (b, t, st') => bif b then seg sc f d M n t lv st' H kc ks else seg sc f d M n nx lv st' H kc ks
        | none => match stD st I with
          | some _ => none
          | none => match stC I with
            | none => none
            | some (m, k) => match mtb[m]? with
              | none => none
              | some M' => match argsOf M' k H st with
                | none => none
                | some (av, st') => match run mtb sc f d M' 0 (lv_args 0 av) [] H 0 0 with
                  | some (.inl v, H', c, s) => seg sc f d M n nx lv (v.toList ++ st') H' (kc + c) (ks + s)
                  | _ => none
theorem seg_RP {sc : Nat × (Nat → Int32)} {f d : Nat} {M : aM} {r : tO × aH × Nat × Nat} {pc' : Nat} {lv' : aL} {st' : List Value} {H' : aH} {kc' ks' : Nat} : ∀ (n : Nat) {pc : Nat} {lv : aL} {st : List Value} {H : aH} {kc ks : Nat}, seg sc f d M n pc lv st H kc ks = some (pc', lv', st', H', kc', ks') → RP sc (d + 1) M pc' lv' st' H' kc' ks' r → RP sc (d + 1) M pc lv st H kc ks r
  | 0, _, _, _, _, _, _, h, k => by cases h; exact k
  | n + 1, pc, lv, st, H, kc, ks, h, k => by
    rw [seg] at h
    cases hI : lkI pc (mT M) with
    | none => rw [hI] at h; cases h
    | some x =>
      obtain ⟨nx, I⟩ := x
      rw [hI] at h
      dsimp only at h
      cases hg : stG sc nx lv st H I with
      | some y =>
        obtain ⟨pc2, lv2, st2, H2, c2, s2⟩ := y
        rw [hg] at h
        exact RP.go hI hg (seg_RP n h k)
      | none =>
        rw [hg] at h
        dsimp only at h
        cases hb : stB st I with
        | some y =>
          obtain ⟨b, t, st2⟩ := y
          rw [hb] at h
          cases b with
          | true => exact RP.br hI hg hb (seg_RP n h k)
          | false => exact RP.br hI hg hb (seg_RP n h k)
        | none =>
          rw [hb] at h
          dsimp only at h
          cases hD : stD st I with
          | some y => rw [hD] at h; cases h
          | none =>
            rw [hD] at h
            dsimp only at h
            cases hC : stC I with
            | none => rw [hC] at h; cases h
            | some y =>
              obtain ⟨m, k0⟩ := y
              rw [hC] at h
              dsimp only at h
              cases hm : mtb[m]? with
              | none => rw [hm] at h; cases h
              | some M' =>
                rw [hm] at h
                dsimp only at h
                cases ha : argsOf M' k0 H st with
                | none => rw [ha] at h; cases h
                | some y =>
                  obtain ⟨av, st2⟩ := y
                  rw [ha] at h
                  dsimp only at h
                  cases hr : run mtb sc f d M' 0 (lv_args 0 av) [] H 0 0 with
                  | none => rw [hr] at h; cases h
                  | some y =>
                    obtain ⟨o, H2, c2, s2⟩ := y
                    rw [hr] at h
                    cases o with
                    | inl v => exact RP.call hI hg hb hD hC hm ha ⟨f, hr⟩ (seg_RP n h k)
                    | inr x => cases h
/-- a loop of n turns -/
theorem RP.loop {sc : Nat × (Nat → Int32)} {d : Nat} {M : aM} {r : tO × aH × Nat × Nat} (pc : Nat) (lv : Nat → aL) (st : List Value) (H : Nat → aH) (kc ks : Nat) (n : Nat) (h : ∀ i, i < n → RP sc d M pc (lv (i + 1)) st (H (i + 1)) kc ks r → RP sc d M pc (lv i) st (H i) kc ks r) (k : RP sc d M pc (lv n) st (H n) kc ks r) : RP sc d M pc (lv 0) st (H 0) kc ks r := by
  have g : ∀ j, j ≤ n → RP sc d M pc (lv (n - j)) st (H (n - j)) kc ks r := by
    intro j
    induction j with
    | zero => intro _; exact k
    | succ j ih =>
      intro hj
      have e : n - j = n - (j + 1) + 1 := by omega
      have := ih (by omega)
      rw [e] at this
      exact h _ (by omega) this
  have := g n (Nat.le_refl n)
  rw [Nat.sub_self] at this
  exact this
theorem set_set (H : aH) (a : Nat) (c c' : aC) : (H.set a c).set a c' = H.set a c' := by rw [List.set_set]
theorem get_set {H : aH} {a : Nat} {c c' : aC} (h : H[a]? = some c) : (H.set a c')[a]? = some c' := by
  rw [List.getElem?_set, if_pos rfl, if_pos (List.getElem?_eq_some_iff.mp h).1]
theorem set_self {H : aH} {a : Nat} {c : aC} (h : H[a]? = some c) : H.set a c = H := by
  obtain ⟨hl, e⟩ := List.getElem?_eq_some_iff.mp h
  rw [← e]
  exact List.set_getElem_self hl
theorem er_perm {α : Type} : ∀ (l : List α) (k : Nat) (x : α), l[k]? = some x → (x :: l.eraseIdx k).Perm l
  | a :: l, 0, x, h => by cases h; exact .refl _
  | a :: l, k + 1, x, h => (List.Perm.swap a x _).trans ((er_perm l k x h).cons a)
theorem RP.mv {sc : Nat × (Nat → Int32)} {d : Nat} {M : aM} {pc : Nat} {lv : aL} {st : List Value} {H : aH} {kc ks : Nat} {r : tO × aH × Nat × Nat} (k : Nat) {x : Nat × Value} (hx : lv[k]? = some x) (hn : lvN lv) (h : RP sc d M pc (x :: lv.eraseIdx k) st H kc ks r) : RP sc d M pc lv st H kc ks r := by
  obtain ⟨f, hf⟩ := h
  have p : (x :: lv.eraseIdx k).Perm lv := er_perm lv k x hx
  exact ⟨f, run_pm _ _ _ _ _ _ _ _ _ _ _ p (hn.perm p.symm) hf⟩
theorem up_lt {α : Type} (g : Nat → α) (f : Nat → α) (i : Nat) : va_up (fun j => if j < i then g j else f j) i (g i) = fun j => if j < i + 1 then g j else f j := by
  funext j
  unfold va_up
  by_cases h1 : j = i
  · rw [if_pos h1, if_pos (by omega), h1]
  · rw [if_neg h1]
    show (if j < i then g j else f j) = _
    by_cases h2 : j < i
    · rw [if_pos h2, if_pos (by omega)]
    · rw [if_neg h2, if_neg (by omega)]
theorem lt_zero {α : Type} (g f : Nat → α) : (fun j => if j < 0 then g j else f j) = f := by
  funext j
  exact if_neg (Nat.not_lt_zero j)
/-- java.util.Arrays.fill of a row of bytes -/
theorem rc_fillB {sc : Nat × (Nat → Int32)} {d : Nat} {H : aH} {a n : Nat} {f : Nat → Int8} {v : Int32} (h : H[a]? = some (kB n f)) (hn : n < 2 ^ 31) : RC sc d mr_6 [.ref (a + 1), .int v] H (.inl none) (H.set a (kB n (fun j => if j < n then v.toInt8 else f j))) 0 0 := by
  refine RP.blk 3 (lv' := [(2, .int 0), (0, .ref (a + 1)), (1, .int v)]) (st' := [.ref (a + 1)]) (pc' := 3) (H' := H) (kc' := 0) (ks' := 0) rfl ?_
  refine RP.len rfl h rfl ?_
  refine RP.blk 1 (lv' := [(3, .int (nI n)), (2, .int 0), (0, .ref (a + 1)), (1, .int v)]) (st' := []) (pc' := 5) (H' := H) (kc' := 0) (ks' := 0) rfl ?_
  refine RP.mv 1 (x := (2, .int 0)) rfl (show [3, 2, 0, 1].Nodup by decide) ?_
  have start : RP sc d mr_6 5 [(2, .int (nI 0)), (3, .int (nI n)), (0, .ref (a + 1)), (1, .int v)] [] (H.set a (kB n (fun j => if j < 0 then v.toInt8 else f j))) 0 0 (.inl none, H.set a (kB n (fun j => if j < n then v.toInt8 else f j)), 0, 0) := by
    refine RP.loop 5 (fun i => [(2, .int (nI i)), (3, .int (nI n)), (0, .ref (a + 1)), (1, .int v)]) [] (fun i => H.set a (kB n (fun j => if j < i then v.toInt8 else f j))) 0 0 n (fun i hi k => ?_) ?_
    · refine RP.blk 2 (pc' := 7) (lv' := [(2, .int (nI i)), (3, .int (nI n)), (0, .ref (a + 1)), (1, .int v)]) (st' := [.int (nI n), .int (nI i)]) (H' := _) (kc' := 0) (ks' := 0) rfl ?_
      refine RP.brF rfl rfl rfl (decide_eq_false (nI_ge hi hn)) ?_
      refine RP.blk 3 (pc' := 13) (lv' := [(2, .int (nI i)), (3, .int (nI n)), (0, .ref (a + 1)), (1, .int v)]) (st' := [.int v, .int (nI i), .ref (a + 1)]) (H' := _) (kc' := 0) (ks' := 0) rfl ?_
      refine RP.bast rfl (get_set h) (inR_n hi hn) ?_
      rw [set_set, nI_clamp (by omega), up_lt (fun _ => v.toInt8)]
      refine RP.blk 2 (pc' := 5) (lv' := [(2, .int (nI i + 1)), (3, .int (nI n)), (0, .ref (a + 1)), (1, .int v)]) (st' := []) (H' := _) (kc' := 0) (ks' := 0) rfl ?_
      rw [nI_1]
      exact k
    · refine RP.blk 2 (pc' := 7) (lv' := [(2, .int (nI n)), (3, .int (nI n)), (0, .ref (a + 1)), (1, .int v)]) (st' := [.int (nI n), .int (nI n)]) (H' := _) (kc' := 0) (ks' := 0) rfl ?_
      refine RP.brT rfl rfl rfl (decide_eq_true (nI_le (Nat.le_refl n) hn)) ?_
      exact RP.done (c := 0) (s := 0) rfl rfl rfl rfl
  rw [lt_zero (fun _ => v.toInt8), set_self h] at start
  exact start
/-- the loop of Versions' constructor -/
theorem rp_spare {sc : Nat × (Nat → Int32)} {d : Nat} {H : aH} {a sp n : Nat} {fs : List Value} {f : Nat → Int32} {x y : Value} {kc ks : Nat} (ho : H[a]? = some (kO 10 fs)) (hf : fs[8]? = some (.ref (sp + 1))) (h : H[sp]? = some (kI n f)) (hne : sp ≠ a) (hn : n < 2 ^ 31) :
    RP sc d mr_7 97 [(4, .int (nI 0)), (3, .int (nI n)), (0, .ref (a + 1)), (1, x), (2, y)] [] H kc ks (.inl none, H.set sp (kI n (fun j => if j < n then nI n - 1 - nI j else f j)), kc, ks) := by
  have start : RP sc d mr_7 97 [(4, .int (nI 0)), (3, .int (nI n)), (0, .ref (a + 1)), (1, x), (2, y)] [] (H.set sp (kI n (fun j => if j < 0 then nI n - 1 - nI j else f j))) kc ks (.inl none, H.set sp (kI n (fun j => if j < n then nI n - 1 - nI j else f j)), kc, ks) := by
    refine RP.loop 97 (fun i => [(4, .int (nI i)), (3, .int (nI n)), (0, .ref (a + 1)), (1, x), (2, y)]) [] (fun i => H.set sp (kI n (fun j => if j < i then nI n - 1 - nI j else f j))) kc ks n (fun i hi k => ?_) ?_
    · refine RP.blk 2 (pc' := 100) (lv' := [(4, .int (nI i)), (3, .int (nI n)), (0, .ref (a + 1)), (1, x), (2, y)]) (st' := [.int (nI n), .int (nI i)]) (H' := _) (kc' := kc) (ks' := ks) rfl ?_
      refine RP.brF rfl rfl rfl (decide_eq_false (nI_ge hi hn)) ?_
      refine RP.blk 1 (pc' := 104) (lv' := [(4, .int (nI i)), (3, .int (nI n)), (0, .ref (a + 1)), (1, x), (2, y)]) (st' := [.ref (a + 1)]) (H' := _) (kc' := kc) (ks' := ks) rfl ?_
      refine RP.get (ci := 10) (fs := fs) rfl (by rw [List.getElem?_set, if_neg hne]; exact ho) rfl hf ?_
      refine RP.blk 6 (pc' := 115) (lv' := [(4, .int (nI i)), (3, .int (nI n)), (0, .ref (a + 1)), (1, x), (2, y)]) (st' := [.int (nI n - 1 - nI i), .int (nI i), .ref (sp + 1)]) (H' := _) (kc' := kc) (ks' := ks) rfl ?_
      refine RP.iast rfl (get_set h) (inR_n hi hn) ?_
      rw [set_set, nI_clamp (by omega), up_lt (fun j => nI n - 1 - nI j)]
      refine RP.blk 2 (pc' := 97) (lv' := [(4, .int (nI i + 1)), (3, .int (nI n)), (0, .ref (a + 1)), (1, x), (2, y)]) (st' := []) (H' := _) (kc' := kc) (ks' := ks) rfl ?_
      rw [nI_1]
      exact k
    · refine RP.blk 2 (pc' := 100) (lv' := [(4, .int (nI n)), (3, .int (nI n)), (0, .ref (a + 1)), (1, x), (2, y)]) (st' := [.int (nI n), .int (nI n)]) (H' := _) (kc' := kc) (ks' := ks) rfl ?_
      refine RP.brT rfl rfl rfl (decide_eq_true (nI_le (Nat.le_refl n) hn)) ?_
      exact RP.done (c := 0) (s := 0) rfl rfl rfl rfl
  rw [lt_zero (fun j => nI n - 1 - nI j), set_self h] at start
  exact start
/-- Layout.noteUse where there are no logs and no tables -/
theorem rc_noteUse0 {sc : Nat × (Nat → Int32)} {d : Nat} {H : aH} {a u n : Nat} {fs : List Value} {f : Nat → Bool} (ho : H[a]? = some (kO 3 fs)) (hb : fs[1]? = some (.int (nI n))) (hu : fs[2]? = some (.ref (u + 1))) (hl : fs[6]? = some (.int 0)) (hr : fs[11]? = some (.int 0)) (h : H[u]? = some (kZ n f)) (hne : u ≠ a) (hn : n < 2 ^ 31) :
    RC sc d mr_10 [.ref (a + 1)] H (.inl none) (H.set u (kZ n (fun j => if j < n then decide (j < 2) else f j))) 0 0 := by
  have ho' : ∀ c, (H.set u c)[a]? = some (kO 3 fs) := fun c => by rw [List.getElem?_set, if_neg hne]; exact ho
  refine RP.blk 2 (lv' := [(1, .int 0), (0, .ref (a + 1))]) (st' := []) (pc' := 2) (H' := H) (kc' := 0) (ks' := 0) rfl ?_
  have start : RP sc d mr_10 2 [(1, .int (nI 0)), (0, .ref (a + 1))] [] (H.set u (kZ n (fun j => if j < 0 then decide (j < 2) else f j))) 0 0 (.inl none, H.set u (kZ n (fun j => if j < n then decide (j < 2) else f j)), 0, 0) := by
    refine RP.loop 2 (fun i => [(1, .int (nI i)), (0, .ref (a + 1))]) [] (fun i => H.set u (kZ n (fun j => if j < i then decide (j < 2) else f j))) 0 0 n (fun i hi k => ?_) ?_
    · refine RP.blk 2 (pc' := 4) (lv' := [(1, .int (nI i)), (0, .ref (a + 1))]) (st' := [.ref (a + 1), .int (nI i)]) (H' := _) (kc' := 0) (ks' := 0) rfl ?_
      refine RP.get (ci := 3) (fs := fs) rfl (ho' _) rfl hb ?_
      refine RP.brF rfl rfl rfl (decide_eq_false (nI_ge hi hn)) ?_
      refine RP.blk 1 (pc' := 11) (lv' := [(1, .int (nI i)), (0, .ref (a + 1))]) (st' := [.ref (a + 1)]) (H' := _) (kc' := 0) (ks' := 0) rfl ?_
      refine RP.get (ci := 3) (fs := fs) rfl (ho' _) rfl hu ?_
      refine RP.blk 3 (pc' := 17) (lv' := [(1, .int (nI i)), (0, .ref (a + 1))]) (st' := [.int 2, .int (nI i), .int (nI i), .ref (u + 1)]) (H' := _) (kc' := 0) (ks' := 0) rfl ?_
      have fin : ∀ x : Int32, decide (x &&& 1 = 1) = decide (i < 2) → RP sc d mr_10 25 [(1, .int (nI i)), (0, .ref (a + 1))] [.int x, .int (nI i), .ref (u + 1)] (H.set u (kZ n (fun j => if j < i then decide (j < 2) else f j))) 0 0 (.inl none, H.set u (kZ n (fun j => if j < n then decide (j < 2) else f j)), 0, 0) := by
        intro x hx
        refine RP.zast rfl (get_set h) (inR_n hi hn) ?_
        rw [set_set, nI_clamp (by omega), hx, up_lt (fun j => decide (j < 2))]
        refine RP.blk 2 (pc' := 2) (lv' := [(1, .int (nI i + 1)), (0, .ref (a + 1))]) (st' := []) (H' := _) (kc' := 0) (ks' := 0) rfl ?_
        rw [nI_1]
        exact k
      by_cases h2 : i < 2
      · refine RP.brF rfl rfl rfl (decide_eq_false (nI_ge h2 (by decide))) ?_
        refine RP.blk 2 (pc' := 25) (lv' := [(1, .int (nI i)), (0, .ref (a + 1))]) (st' := [.int 1, .int (nI i), .ref (u + 1)]) (H' := _) (kc' := 0) (ks' := 0) rfl ?_
        exact fin 1 (by rw [decide_eq_true h2]; decide)
      · refine RP.brT rfl rfl rfl (decide_eq_true (show (2 : Int32) ≤ nI i from nI_le (a := 2) (b := i) (by omega) (by omega))) ?_
        refine RP.blk 1 (pc' := 25) (lv' := [(1, .int (nI i)), (0, .ref (a + 1))]) (st' := [.int 0, .int (nI i), .ref (u + 1)]) (H' := _) (kc' := 0) (ks' := 0) rfl ?_
        exact fin 0 (by rw [decide_eq_false h2]; decide)
    · refine RP.blk 2 (pc' := 4) (lv' := [(1, .int (nI n)), (0, .ref (a + 1))]) (st' := [.ref (a + 1), .int (nI n)]) (H' := _) (kc' := 0) (ks' := 0) rfl ?_
      refine RP.get (ci := 3) (fs := fs) rfl (ho' _) rfl hb ?_
      refine RP.brT rfl rfl rfl (decide_eq_true (nI_le (Nat.le_refl n) hn)) ?_
      refine RP.blk 4 (pc' := 36) (lv' := [(1, .int 0), (0, .ref (a + 1))]) (st' := [.ref (a + 1), .int 0]) (H' := _) (kc' := 0) (ks' := 0) rfl ?_
      refine RP.get (ci := 3) (fs := fs) rfl (ho' _) rfl hl ?_
      refine RP.brT rfl rfl rfl (by decide) ?_
      refine RP.blk 4 (pc' := 62) (lv' := [(1, .int 0), (0, .ref (a + 1))]) (st' := [.ref (a + 1), .int 0]) (H' := _) (kc' := 0) (ks' := 0) rfl ?_
      refine RP.get (ci := 3) (fs := fs) rfl (ho' _) rfl hr ?_
      refine RP.brT rfl rfl rfl (by decide) ?_
      exact RP.done (c := 0) (s := 0) rfl rfl rfl rfl
  rw [lt_zero (fun j => decide (j < 2)), set_self h] at start
  exact start
