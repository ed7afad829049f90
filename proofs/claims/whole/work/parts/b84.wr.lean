/-! ===== what a write puts into the store; by hand ===== -/
theorem wrA_eq {c c0 : Nat → Int8} {vs vs0 : List aV} {ps : List aPc} {f off l : Nat} {tb : Nat → Int8} (h0 : PcR c0 vs0 ps) (h : PcR c vs ps) (hp : OneP ps) (hO0 : OneV vs0) (hO : OneV vs) (hM0 : ∀ v ∈ vs0, v.2.1 ≤ 2 ^ 30) (hM : ∀ v ∈ vs, v.2.1 ≤ 2 ^ 30) : ∀ (k : Nat), wrA c0 vs0 f off l tb k = wrA c vs f off l tb k
  | 0 => rfl
  | k + 1 => by
    show wrA c0 vs0 f off l tb k ++ [wrP c0 vs0 f off l tb (off / 512 + k)] = wrA c vs f off l tb k ++ [wrP c vs f off l tb (off / 512 + k)]
    rw [wrA_eq h0 h hp hO0 hO hM0 hM k]
    unfold wrP
    rw [pcV_eq h0 h hp hO0 hO hM0 hM]
theorem wrA_one {c : Nat → Int8} {vs : List aV} {f off l : Nat} {tb : Nat → Int8} : ∀ (k : Nat), OneW (wrA c vs f off l tb k)
  | 0 => fun a b e x ha => by
    have ha : ([] : List aE)[a]? = some e := ha
    rw [List.getElem?_nil] at ha
    cases ha
  | k + 1 => by
    have h := wrA_one (c := c) (vs := vs) (f := f) (off := off) (l := l) (tb := tb) k
    show OneW (wrA c vs f off l tb k ++ [wrP c vs f off l tb (off / 512 + k)])
    refine h.snoc (fun x hx q => ?_)
    obtain ⟨j, hj, hx2⟩ := mem_wrA.mp hx
    rw [hx2] at q
    have := (List.cons.inj (List.cons.inj (List.cons.inj q).2).2).1
    omega
theorem wrA_ent {c : Nat → Int8} {vs : List aV} {f off l : Nat} {tb : Nat → Int8} {e : aE} (hl : ∀ i, (pcV c vs f i).length ≤ 512) (h1 : 1 ≤ l) (h : e ∈ wrA c vs f off l tb ((off + l + 511) / 512 - off / 512)) : ∃ j, j < (off + l + 511) / 512 - off / 512 ∧ e.1 = [2, f, off / 512 + j] ∧ ∃ b, e.2 = some b ∧ 1 ≤ b.length ∧ b.length ≤ 512 := by
  obtain ⟨j, hj, he⟩ := mem_wrA.mp h
  refine ⟨j, hj, by rw [he]; rfl, _, by rw [he]; rfl, ?_⟩
  rw [ovrL_len, sl_length]
  have := hl (off / 512 + j)
  omega
/-- the keys of a write's pieces -/
def wrK (f off l : Nat) : List (List Nat) := (List.range ((off + l + 511) / 512 - off / 512)).map (fun j => [2, f, off / 512 + j])
theorem wrK_len {f off l : Nat} (h : 1 ≤ l) : 512 * (wrK f off l).length ≤ l + 1022 := by
  unfold wrK
  rw [List.length_map, List.length_range]
  omega
theorem wrA_entK {ky : List (List Nat)} {c : Nat → Int8} {vs : List aV} {f off l : Nat} {tb : Nat → Int8} {e : aE} (hl : ∀ i, (pcV c vs f i).length ≤ 512) (h1 : 1 ≤ l) (h2 : off + l ≤ 16384) (hf : f ≤ 200) (h : e ∈ wrA c vs f off l tb ((off + l + 511) / 512 - off / 512)) : EntK (wrK f off l ++ ky) e := by
  obtain ⟨j, hj, e1, b, e2, e3, e4⟩ := wrA_ent hl h1 h
  refine ⟨Or.inr (Or.inr ⟨f, off / 512 + j, e1, hf, by omega, fun m hm => ?_⟩), ?_⟩
  · have hm : e.2.map List.length = some m := hm
    rw [e2] at hm
    have hm : b.length = m := Option.some.inj hm
    omega
  · rw [e1]
    exact List.mem_append.mpr (Or.inl (List.mem_map.mpr ⟨j, List.mem_range.mpr hj, rfl⟩))
theorem wr_rel {ky : List (List Nat)} {c c1 : Nat → Int8} {vs vs' : List aV} {kd pa sz nl : Nat → Nat} {nm : Nat → Int8} {ps : List aPc} {ws : List aE} {f off l P : Nat} {tb : Nat → Int8} (hN : NodR c vs kd pa sz nl nm) (hPc : PcR c vs ps) (hO : OneV vs) (hV : ∀ v ∈ vs, VOk ky P v) (hP : P ≤ 2 ^ 30) (hl : 1 ≤ l) (hgr : ¬ sz f < off + l) (hws : ws = wrA c vs f off l tb ((off + l + 511) / 512 - off / 512)) (h1 : OneW ws) (hp : OneP ps) (hI : InV c c1 vs vs' ws) : NodR c1 vs' kd pa (va_up sz f (max (sz f) (off + l))) nl nm ∧ PcR c1 vs' (layN tb f off (off + l) ps ((off + l - 1) / 512 + 1 - off / 512)) := by
  have hK : (off + l + 511) / 512 - off / 512 = (off + l - 1) / 512 + 1 - off / 512 := by omega
  refine ⟨?_, hPc.lay hI h1 hO hP hV (fun e he => by rw [hws, hK]) hp hl rfl (fun _ _ => rfl)⟩
  have hz : va_up sz f (max (sz f) (off + l)) = sz := funext (fun g => by
    by_cases q : g = f
    · rw [q, up_at]; omega
    · rw [up_ne q])
  rw [hz]
  refine hN.user hI (fun e he q => ?_)
  rw [hws] at he
  obtain ⟨j, -, he2⟩ := mem_wrA.mp he
  rw [he2] at q
  exact absurd q (by show ¬ 2 = 1; decide)
theorem wr_relG {ky : List (List Nat)} {c c1 : Nat → Int8} {vs vs' : List aV} {kd pa sz nl : Nat → Nat} {nm : Nat → Int8} {ps : List aPc} {ws : List aE} {f off l P : Nat} {tb : Nat → Int8} (hN : NodR c vs kd pa sz nl nm) (hPc : PcR c vs ps) (hO : OneV vs) (hV : ∀ v ∈ vs, VOk ky P v) (hP : P ≤ 2 ^ 30) (hl : 1 ≤ l) (hkd : ¬ kd f = 0) (hws : ws = wrA c vs f off l tb ((off + l + 511) / 512 - off / 512) ++ [([1, f], some (nodB kd pa (va_up sz f (max (sz f) (off + l))) nl nm f))]) (h1 : OneW ws) (hp : OneP ps) (hI : InV c c1 vs vs' ws) : NodR c1 vs' kd pa (va_up sz f (max (sz f) (off + l))) nl nm ∧ PcR c1 vs' (layN tb f off (off + l) ps ((off + l - 1) / 512 + 1 - off / 512)) := by
  have hK : (off + l + 511) / 512 - off / 512 = (off + l - 1) / 512 + 1 - off / 512 := by omega
  refine ⟨hN.put hI h1 (by rw [hws]; exact List.mem_append.mpr (Or.inr (List.mem_singleton.mpr rfl))) hkd (fun g g1 g2 g3 => ⟨fun e he q => ?_, rfl, fun _ => ?_⟩), hPc.lay hI h1 hO hP hV (fun e he => ?_) hp hl rfl (fun _ _ => rfl)⟩
  · rw [hws] at he
    rcases List.mem_append.mp he with z | z
    · obtain ⟨j, -, he2⟩ := mem_wrA.mp z
      rw [he2] at q
      exact absurd (List.cons.inj q).1 (by decide)
    · rw [List.mem_singleton.mp z] at q
      exact g3 (List.cons.inj (List.cons.inj q).2).1.symm
  · unfold nodB
    rw [up_ne g3]
  · rw [hws, hK]
    constructor
    · intro z
      rcases List.mem_append.mp z with z | z
      · exact z
      · rw [List.mem_singleton.mp z] at he
        exact absurd he (by show ¬ 1 = 2; decide)
    · exact fun z => List.mem_append.mpr (Or.inl z)
