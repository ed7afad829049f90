/-! ===== runs whose end is told by a predicate: rules, calls, loops ===== -/
/-- from that point the run comes to an end that the predicate holds of -/
def RQ (sc : Nat × (Nat → Int32)) (d : Nat) (M : aM) (pc : Nat) (lv : aL) (st : List Value) (H : aH) (kc ks : Nat) (Q : tO × aH × Nat × Nat → Prop) : Prop := ∃ r, RP sc d M pc lv st H kc ks r ∧ Q r
/-- the method returns nothing / an int, and costs nothing -/
def RN (sc : Nat × (Nat → Int32)) (d : Nat) (M : aM) (av : List Value) (H : aH) (P : aH → Prop) : Prop := ∃ H', RC sc d M av H (.inl none) H' 0 0 ∧ P H'
def RI (sc : Nat × (Nat → Int32)) (d : Nat) (M : aM) (av : List Value) (H : aH) (P : Int32 → aH → Prop) : Prop := ∃ x H', RC sc d M av H (.inl (some (.int x))) H' 0 0 ∧ P x H'
theorem RP.drop {sc : Nat × (Nat → Int32)} {d : Nat} {M : aM} {pc : Nat} {a b : aL} {st : List Value} {H : aH} {kc ks : Nat} {r : tO × aH × Nat × Nat} (i : Nat) (ix : List Nat) (he : b.filter (fun q => !(q.1 == i)) = a) (hix : b.map (fun q => q.1) = ix) (hn : ix.Nodup) (h : RP sc d M pc a st H kc ks r) : RP sc d M pc b st H kc ks r := RP.more (fun q hq => by rw [← he] at hq; exact (List.mem_filter.mp hq).1) (show (b.map (fun q => q.1)).Nodup by rw [hix]; exact hn) h
theorem RP.pick {sc : Nat × (Nat → Int32)} {d : Nat} {M : aM} {pc : Nat} {a b : aL} {st : List Value} {H : aH} {kc ks : Nat} {r : tO × aH × Nat × Nat} (ix nx : List Nat) (he : ix.map (fun i => b[i]?) = a.map some) (hnx : b.map (fun q => q.1) = nx) (hn : nx.Nodup) (h : RP sc d M pc a st H kc ks r) : RP sc d M pc b st H kc ks r := RP.more (fun q hq => by
  have h1 : some q ∈ a.map some := List.mem_map.mpr ⟨q, hq, rfl⟩
  rw [← he] at h1
  obtain ⟨i, -, h2⟩ := List.mem_map.mp h1
  exact List.mem_of_getElem? h2) (show (b.map (fun q => q.1)).Nodup by rw [hnx]; exact hn) h
section RQS
variable {sc : Nat × (Nat → Int32)} {d : Nat} {M M' : aM} {pc nx : Nat} {lv : aL} {st : List Value} {H : aH} {kc ks : Nat} {Q : tO × aH × Nat × Nat → Prop}
theorem RQ.of {pc' : Nat} {lv' : aL} {st' : List Value} {H' : aH} {kc' ks' : Nat} (f : ∀ r, RP sc d M pc' lv' st' H' kc' ks' r → RP sc d M pc lv st H kc ks r) (k : RQ sc d M pc' lv' st' H' kc' ks' Q) : RQ sc d M pc lv st H kc ks Q := by
  obtain ⟨r, h1, h2⟩ := k
  exact ⟨r, f r h1, h2⟩
theorem RQ.blk (n : Nat) {pc' : Nat} {lv' : aL} {st' : List Value} {H' : aH} {kc' ks' : Nat} (h : goN sc M n pc lv st H kc ks = some (pc', lv', st', H', kc', ks')) (k : RQ sc d M pc' lv' st' H' kc' ks' Q) : RQ sc d M pc lv st H kc ks Q := RQ.of (fun _ => RP.blk n h) k
theorem RQ.get {n a ci : Nat} {fs : List Value} {v : Value} (hI : lkI pc (mT M) = some (nx, .getfield n)) (hc : H[a]? = some (kO ci fs)) (hn : n / 64 = ci) (hk : fs[n % 64]? = some v) (k : RQ sc d M nx lv (v :: st) H kc ks Q) : RQ sc d M pc lv (.ref (a + 1) :: st) H kc ks Q := RQ.of (fun _ => RP.get hI hc hn hk) k
theorem RQ.put {n a ci : Nat} {fs : List Value} {v : Value} (hI : lkI pc (mT M) = some (nx, .putfield n)) (hc : H[a]? = some (kO ci fs)) (hn : n / 4 / 64 = ci) (hf : fitV (n % 4) v = true) (hk : n / 4 % 64 < fs.length) (k : RQ sc d M nx lv st (H.set a (kO ci (fs.set (n / 4 % 64) v))) kc ks Q) : RQ sc d M pc lv (v :: .ref (a + 1) :: st) H kc ks Q := RQ.of (fun _ => RP.put hI hc hn hf hk) k
theorem RQ.ialdN {a n j : Nat} {f : Nat → Int32} (hI : lkI pc (mT M) = some (nx, .iaload)) (hc : H[a]? = some (kI n f)) (hj : j < n) (hn : n < 2 ^ 31) (k : RQ sc d M nx lv (.int (f j) :: st) H kc ks Q) : RQ sc d M pc lv (.int (nI j) :: .ref (a + 1) :: st) H kc ks Q := RQ.of (fun _ => RP.ialdN hI hc hj hn) k
theorem RQ.baldN {a n j : Nat} {f : Nat → Int8} (hI : lkI pc (mT M) = some (nx, .baload)) (hc : H[a]? = some (kB n f)) (hj : j < n) (hn : n < 2 ^ 31) (k : RQ sc d M nx lv (.int (f j).toInt32 :: st) H kc ks Q) : RQ sc d M pc lv (.int (nI j) :: .ref (a + 1) :: st) H kc ks Q := RQ.of (fun _ => RP.baldN hI hc hj hn) k
theorem RQ.zaldN {a n j : Nat} {f : Nat → Bool} (hI : lkI pc (mT M) = some (nx, .baload)) (hc : H[a]? = some (kZ n f)) (hj : j < n) (hn : n < 2 ^ 31) (k : RQ sc d M nx lv (.int (if f j then 1 else 0) :: st) H kc ks Q) : RQ sc d M pc lv (.int (nI j) :: .ref (a + 1) :: st) H kc ks Q := RQ.of (fun _ => RP.zaldN hI hc hj hn) k
theorem RQ.iastN {a n j : Nat} {f : Nat → Int32} {x : Int32} (hI : lkI pc (mT M) = some (nx, .iastore)) (hc : H[a]? = some (kI n f)) (hj : j < n) (hn : n < 2 ^ 31) (k : RQ sc d M nx lv st (H.set a (kI n (va_up f j x))) kc ks Q) : RQ sc d M pc lv (.int x :: .int (nI j) :: .ref (a + 1) :: st) H kc ks Q := RQ.of (fun _ => RP.iastN hI hc hj hn) k
theorem RQ.bastN {a n j : Nat} {f : Nat → Int8} {x : Int32} (hI : lkI pc (mT M) = some (nx, .bastore)) (hc : H[a]? = some (kB n f)) (hj : j < n) (hn : n < 2 ^ 31) (k : RQ sc d M nx lv st (H.set a (kB n (va_up f j x.toInt8))) kc ks Q) : RQ sc d M pc lv (.int x :: .int (nI j) :: .ref (a + 1) :: st) H kc ks Q := RQ.of (fun _ => RP.bastN hI hc hj hn) k
theorem RQ.zastN {a n j : Nat} {f : Nat → Bool} {x : Int32} (hI : lkI pc (mT M) = some (nx, .bastore)) (hc : H[a]? = some (kZ n f)) (hj : j < n) (hn : n < 2 ^ 31) (k : RQ sc d M nx lv st (H.set a (kZ n (va_up f j (decide (x &&& 1 = 1))))) kc ks Q) : RQ sc d M pc lv (.int x :: .int (nI j) :: .ref (a + 1) :: st) H kc ks Q := RQ.of (fun _ => RP.zastN hI hc hj hn) k
theorem RQ.aaldN {a t n b j : Nat} {f : Nat → Option Nat} (hI : lkI pc (mT M) = some (nx, .aaload)) (hc : H[a]? = some (kQ t n f)) (hj : j < n) (hn : n < 2 ^ 31) (ht : t < 7 ∧ 4 ≤ t) (hb : f j = some b) (k : RQ sc d M nx lv (.ref (b + 1) :: st) H kc ks Q) : RQ sc d M pc lv (.int (nI j) :: .ref (a + 1) :: st) H kc ks Q := RQ.of (fun _ => RP.aald hI hc (inR_n hj hn) ht (by rw [nI_clamp (by omega)]; exact hb)) k
theorem RQ.len {a n : Nat} {c : aC} (hI : lkI pc (mT M) = some (nx, .arraylength)) (hc : H[a]? = some c) (hl : lenC c = some n) (k : RQ sc d M nx lv (.int (nI n) :: st) H kc ks Q) : RQ sc d M pc lv (.ref (a + 1) :: st) H kc ks Q := RQ.of (fun _ => RP.len hI hc hl) k
theorem RQ.brT {I : Instr} {b : Bool} {t : Nat} {st' : List Value} (hI : lkI pc (mT M) = some (nx, I)) (h0 : stG sc nx lv st H I = none) (hb : stB st I = some (b, t, st')) (h : b = true) (k : RQ sc d M t lv st' H kc ks Q) : RQ sc d M pc lv st H kc ks Q := RQ.of (fun _ => RP.brT hI h0 hb h) k
theorem RQ.brF {I : Instr} {b : Bool} {t : Nat} {st' : List Value} (hI : lkI pc (mT M) = some (nx, I)) (h0 : stG sc nx lv st H I = none) (hb : stB st I = some (b, t, st')) (h : b = false) (k : RQ sc d M nx lv st' H kc ks Q) : RQ sc d M pc lv st H kc ks Q := RQ.of (fun _ => RP.brF hI h0 hb h) k
theorem RQ.mv (k : Nat) {x : Nat × Value} (hx : lv[k]? = some x) (hn : lvN lv) (h : RQ sc d M pc (x :: lv.eraseIdx k) st H kc ks Q) : RQ sc d M pc lv st H kc ks Q := RQ.of (fun _ => RP.mv k hx hn) h
theorem RQ.drop {a : aL} (i : Nat) (ix : List Nat) (he : lv.filter (fun q => !(q.1 == i)) = a) (hix : lv.map (fun q => q.1) = ix) (hn : ix.Nodup) (h : RQ sc d M pc a st H kc ks Q) : RQ sc d M pc lv st H kc ks Q := RQ.of (fun _ => RP.drop i ix he hix hn) h
theorem RQ.pick {a : aL} (ix nx : List Nat) (he : ix.map (fun i => lv[i]?) = a.map some) (hnx : lv.map (fun q => q.1) = nx) (hn : nx.Nodup) (h : RQ sc d M pc a st H kc ks Q) : RQ sc d M pc lv st H kc ks Q := RQ.of (fun _ => RP.pick ix nx he hnx hn) h
theorem RQ.done {o : tO} {I : Instr} {c s : Nat} (hI : lkI pc (mT M) = some (nx, I)) (h0 : stG sc nx lv st H I = none) (h1 : stB st I = none) (hd : stD st I = some (o, c, s)) (hQ : Q (o, H, kc + c, ks + s)) : RQ sc d M pc lv st H kc ks Q := ⟨_, RP.done hI h0 h1 hd, hQ⟩
theorem RQ.call {I : Instr} {m k c s : Nat} {av st' : List Value} {v : Option Value} {H' : aH} (hI : lkI pc (mT M) = some (nx, I)) (h0 : stG sc nx lv st H I = none) (h1 : stB st I = none) (h2 : stD st I = none) (hC : stC I = some (m, k)) (hm : mtb[m]? = some M') (ha : argsOf M' k H st = some (av, st')) (hr : RC sc d M' av H (.inl v) H' c s) (kk : RQ sc (d + 1) M nx lv (v.toList ++ st') H' (kc + c) (ks + s) Q) : RQ sc (d + 1) M pc lv st H kc ks Q := RQ.of (fun _ => RP.call hI h0 h1 h2 hC hm ha hr) kk
theorem RQ.callP {I : Instr} {m k x c s : Nat} {av st' : List Value} {H' : aH} (hI : lkI pc (mT M) = some (nx, I)) (h0 : stG sc nx lv st H I = none) (h1 : stB st I = none) (h2 : stD st I = none) (hC : stC I = some (m, k)) (hm : mtb[m]? = some M') (ha : argsOf M' k H st = some (av, st')) (hr : RC sc d M' av H (.inr x) H' c s) (hx : mX M = []) (hQ : Q (.inr x, H', kc + c, ks + s)) : RQ sc (d + 1) M pc lv st H kc ks Q := ⟨_, RP.callP hI h0 h1 h2 hC hm ha hr hx, hQ⟩
theorem RQ.callX {I : Instr} {m k x i n c s : Nat} {av st' : List Value} {H' : aH} (hI : lkI pc (mT M) = some (nx, I)) (h0 : stG sc nx lv st H I = none) (h1 : stB st I = none) (h2 : stD st I = none) (hC : stC I = some (m, k)) (hm : mtb[m]? = some M') (ha : argsOf M' k H st = some (av, st')) (hr : RC sc d M' av H (.inr x) H' c s) (hx : lkX pc x (mX M) = some (i, n)) (kk : RQ sc (d + 1) M n (lvD lv i) [] H' (kc + c) (ks + s) Q) : RQ sc (d + 1) M pc lv st H kc ks Q := RQ.of (fun _ => RP.callX hI h0 h1 h2 hC hm ha hr hx) kk
theorem RQ.callN {I : Instr} {m k : Nat} {av st' : List Value} {P : aH → Prop} (hI : lkI pc (mT M) = some (nx, I)) (h0 : stG sc nx lv st H I = none) (h1 : stB st I = none) (h2 : stD st I = none) (hC : stC I = some (m, k)) (hm : mtb[m]? = some M') (ha : argsOf M' k H st = some (av, st')) (hr : RN sc d M' av H P) (kk : ∀ H', P H' → RQ sc (d + 1) M nx lv st' H' kc ks Q) : RQ sc (d + 1) M pc lv st H kc ks Q := by
  obtain ⟨H', h3, h4⟩ := hr
  exact RQ.call hI h0 h1 h2 hC hm ha h3 (kk H' h4)
theorem RQ.callI {I : Instr} {m k : Nat} {av st' : List Value} {P : Int32 → aH → Prop} (hI : lkI pc (mT M) = some (nx, I)) (h0 : stG sc nx lv st H I = none) (h1 : stB st I = none) (h2 : stD st I = none) (hC : stC I = some (m, k)) (hm : mtb[m]? = some M') (ha : argsOf M' k H st = some (av, st')) (hr : RI sc d M' av H P) (kk : ∀ x H', P x H' → RQ sc (d + 1) M nx lv (.int x :: st') H' kc ks Q) : RQ sc (d + 1) M pc lv st H kc ks Q := by
  obtain ⟨x, H', h3, h4⟩ := hr
  exact RQ.call hI h0 h1 h2 hC hm ha h3 (kk x H' h4)
theorem RN.of {av : List Value} {P : aH → Prop} (h : RQ sc d M 0 (lv_args 0 av) [] H 0 0 (fun r => ∃ H', r = (.inl none, H', 0, 0) ∧ P H')) : RN sc d M av H P := by
  obtain ⟨r, h1, H', rfl, h2⟩ := h
  exact ⟨H', h1, h2⟩
theorem RI.of {av : List Value} {P : Int32 → aH → Prop} (h : RQ sc d M 0 (lv_args 0 av) [] H 0 0 (fun r => ∃ x H', r = (.inl (some (.int x)), H', 0, 0) ∧ P x H')) : RI sc d M av H P := by
  obtain ⟨r, h1, x, H', rfl, h2⟩ := h
  exact ⟨x, H', h1, h2⟩
theorem RC.of {av : List Value} {o : tO} {H' : aH} {c s : Nat} (h : RQ sc d M 0 (lv_args 0 av) [] H 0 0 (fun r => r = (o, H', c, s))) : RC sc d M av H o H' c s := by
  obtain ⟨r, h1, rfl⟩ := h
  exact h1
/-- a loop whose state is told by a predicate; the measure falls -/
theorem RQ.while {S : Type} (Inv : S → aH → Prop) (lv : S → aL) (μ : S → Nat) (step : ∀ s H, Inv s H → (∀ s' H', Inv s' H' → μ s' < μ s → RQ sc d M pc (lv s') st H' kc ks Q) → RQ sc d M pc (lv s) st H kc ks Q) : ∀ s H, Inv s H → RQ sc d M pc (lv s) st H kc ks Q := by
  have key : ∀ n s H, μ s < n → Inv s H → RQ sc d M pc (lv s) st H kc ks Q := by
    intro n
    induction n with
    | zero => intro s H h; exact absurd h (Nat.not_lt_zero _)
    | succ n ih => intro s H h hi; exact step s H hi (fun s' H' h' hm => ih s' H' (by omega) h')
  intro s H hi
  exact key (μ s + 1) s H (Nat.lt_succ_self _) hi
/-- a loop over numbers, the heap as it was; what is known may grow -/
theorem RQ.loopQ (K : Nat → Prop) (lv : Nat → aL) (n : Nat) (step : ∀ i, i < n → K i → (K (i + 1) → RQ sc d M pc (lv (i + 1)) st H kc ks Q) → RQ sc d M pc (lv i) st H kc ks Q) (fin : K n → RQ sc d M pc (lv n) st H kc ks Q) (h0 : K 0) : RQ sc d M pc (lv 0) st H kc ks Q := by
  refine RQ.while (S := Nat) (fun i H' => i ≤ n ∧ K i ∧ H' = H) lv (fun i => n - i) ?_ 0 H ⟨Nat.zero_le _, h0, rfl⟩
  rintro i H' ⟨h1, h2, rfl⟩ k
  by_cases h : i < n
  · exact step i h h2 (fun h3 => k (i + 1) _ ⟨by omega, h3, rfl⟩ (by omega))
  · have e : i = n := by omega
    subst e
    exact fin h2
end RQS
