/-! ===== what a write costs the reference; by hand ===== -/
theorem gr_in {ps : List aPc} {f e i : Nat} {y : List Int8} (h : OneP ps) (hy : ((f, i, y) : aPc) ∈ ps) : grE ps f e i = min 512 (e - 512 * i) - y.length := by
  have key : (pcI ps f i).bind (fun j => ps[j]?) = some (f, i, y) := by
    cases q : pcI ps f i with
    | none => exact absurd hy (pcI_none q y)
    | some p =>
      obtain ⟨b, hb⟩ := pcI_some q
      exact hb.trans (congrArg some (h.eq (List.mem_of_getElem? hb) hy rfl rfl))
  unfold grE
  rw [key]
theorem gr_no {ps : List aPc} {f e i : Nat} (hy : ∀ y : List Int8, ((f, i, y) : aPc) ∉ ps) : grE ps f e i = 27 + min 512 (e - 512 * i) := by
  have key : (pcI ps f i).bind (fun j => ps[j]?) = none := by
    cases q : pcI ps f i with
    | none => rfl
    | some p =>
      obtain ⟨b, hb⟩ := pcI_some q
      exact absurd (List.mem_of_getElem? hb) (hy b)
  unfold grE
  rw [key]
theorem layE_cost {cs : List aPc} {f i a e : Nat} {bs : List Int8} (h : OneP cs) (hn : a + bs.length = min 512 (e - 512 * i)) : 27 * (layE cs f i a bs).length + plen (layE cs f i a bs) = 27 * cs.length + plen cs + grE cs f e i := by
  unfold layE
  cases q : pcI cs f i with
  | none =>
    have hg : grE cs f e i = 27 + min 512 (e - 512 * i) := gr_no (fun y => pcI_none q y)
    show 27 * (cs ++ [(f, i, ovB [] a bs)]).length + plen (cs ++ [(f, i, ovB [] a bs)]) = _
    have hp : plen (cs ++ [(f, i, ovB [] a bs)]) = plen cs + (ovB [] a bs).length := by unfold plen; rw [List.map_append, List.sum_append]; rfl
    have hl : (cs ++ [((f, i, ovB [] a bs) : aPc)]).length = cs.length + 1 := List.length_append
    have ho : (ovB [] a bs).length = max 0 (a + bs.length) := ovB_len
    rw [hp, hl, ho, hg]
    omega
  | some p =>
    obtain ⟨b, hb⟩ := pcI_some q
    have hg := gr_in (e := e) h (List.mem_of_getElem? hb)
    have hB : pcB cs p = b := by unfold pcB; rw [hb]
    show 27 * (cs.set p (f, i, ovB (pcB cs p) a bs)).length + plen (cs.set p (f, i, ovB (pcB cs p) a bs)) = _
    rw [hB]
    have hp : plen (cs.set p (f, i, ovB b a bs)) + b.length = plen cs + (ovB b a bs).length := plen_set (y := (f, i, ovB b a bs)) hb
    rw [ovB_len] at hp
    rw [List.length_set, hg]
    omega
theorem lay_lt {off e k : Nat} (h : off < e) (hk : k < (e - 1) / 512 + 1 - off / 512) : off - 512 * (off / 512 + k) < layK e (off / 512 + k) := by
  unfold layK
  omega
theorem layN_cost {tb : Nat → Int8} {f off e : Nat} {ps : List aPc} (h : OneP ps) : ∀ (m : Nat), (∀ k, k < m → off - 512 * (off / 512 + k) < layK e (off / 512 + k)) → 27 * (layN tb f off e ps m).length + plen (layN tb f off e ps m) = 27 * ps.length + plen ps + grS ps f e (off / 512) m
  | 0, _ => rfl
  | m + 1, hm => by
    have ih := layN_cost (tb := tb) (f := f) (off := off) (e := e) h m (fun k hk => hm k (by omega))
    have h1 := oneP_layN (tb := tb) (f := f) (off := off) (e := e) h m (fun k hk => hm k (by omega))
    have hme := mem_layN (tb := tb) (f := f) (off := off) (e := e) h m (fun k hk => hm k (by omega))
    have hl := hm m (by omega)
    have hg : grE (layN tb f off e ps m) f e (off / 512 + m) = grE ps f e (off / 512 + m) := by
      by_cases q : ∃ y : List Int8, ((f, off / 512 + m, y) : aPc) ∈ ps
      · obtain ⟨y, hy⟩ := q
        rw [gr_in h hy, gr_in h1 ((hme f (off / 512 + m) y).mpr (Or.inl ⟨fun k => by omega, hy⟩))]
      · rw [gr_no (fun y hy => q ⟨y, hy⟩), gr_no (fun y hy => ?_)]
        rcases (hme f (off / 512 + m) y).mp hy with ⟨-, z⟩ | ⟨-, -, z, -⟩
        · exact q ⟨y, z⟩
        · omega
    have hc := layE_cost (f := f) (i := off / 512 + m) (a := off - 512 * (off / 512 + m)) (e := e) (bs := bsI tb (512 * (off / 512 + m) - off) (layK e (off / 512 + m) - (off - 512 * (off / 512 + m)))) h1 (by rw [bsI_len]; unfold layK at hl ⊢; omega)
    rw [hg] at hc
    show 27 * (layE _ _ _ _ _).length + plen (layE _ _ _ _ _) = 27 * ps.length + plen ps + (grS ps f e (off / 512) m + grE ps f e (off / 512 + m))
    rw [hc]
    omega
theorem grS_le {ps : List aPc} {f e a : Nat} {m : Nat} : ∀ (n : Nat), grS ps f e a m ≤ grS ps f e a (m + n)
  | 0 => Nat.le_refl _
  | n + 1 => Nat.le_trans (grS_le n) (Nat.le_add_right _ _)
theorem nd_lay {op : Nat → Bool} {sm : Nat → Nat} {x : Int32} {P f off e m : Nat} {ms : List aMV} {kd nl : Nat → Nat} {tb : Nat → Int8} {ps : List aPc} (h : OneP ps) (hm : ∀ k, k < m → off - 512 * (off / 512 + k) < layK e (off / 512 + k)) : ndR op sm x P ms kd nl (layN tb f off e ps m) = ndR op sm x P ms kd nl ps + grS ps f e (off / 512) m := by
  have h1 := layN_cost (tb := tb) (f := f) h m hm
  unfold ndR
  omega
theorem lay_room {op : Nat → Bool} {sm : Nat → Nat} {x : Int32} {P f off e K m li : Nat} {ms : List aMV} {kd nl : Nat → Nat} {tb : Nat → Int8} {ps : List aPc} (h : OneP ps) (hK : ∀ k, k < K → off - 512 * (off / 512 + k) < layK e (off / 512 + k)) (hm : m ≤ K) (hli : li ≤ 32768) (hfit : ndR op sm x P ms kd nl ps + grS ps f e (off / 512) K ≤ li) : (layN tb f off e ps m).length ≤ 1300 ∧ plen (layN tb f off e ps m) ≤ 40000 := by
  have h1 := nd_lay (op := op) (sm := sm) (x := x) (P := P) (ms := ms) (kd := kd) (nl := nl) (tb := tb) (f := f) h (m := m) (fun k hk => hK k (by omega))
  have h2 := grS_le (ps := ps) (f := f) (e := e) (a := off / 512) (m := m) (K - m)
  rw [show m + (K - m) = K by omega] at h2
  unfold ndR at h1 hfit
  omega
theorem lay_in {tb : Nat → Int8} {f off e m : Nat} {ps : List aPc} {kd sz : Nat → Nat} (h : OneP ps) (hm : ∀ k, k < m → off - 512 * (off / 512 + k) < layK e (off / 512 + k)) (hkd : kd f = 1) (hp : ∀ x ∈ ps, kd x.1 = 1 ∧ 512 * x.2.1 + x.2.2.length ≤ sz x.1) : ∀ x ∈ layN tb f off e ps m, kd x.1 = 1 ∧ 512 * x.2.1 + x.2.2.length ≤ va_up sz f (max (sz f) e) x.1 := by
  rintro ⟨g, j, b8⟩ hx
  rcases (mem_layN h m hm g j b8).mp hx with ⟨-, q⟩ | ⟨q1, q2, q3, q4⟩
  · obtain ⟨a1, a2⟩ := hp _ q
    refine ⟨a1, ?_⟩
    have a2 : 512 * j + b8.length ≤ sz g := a2
    show 512 * j + b8.length ≤ va_up sz f (max (sz f) e) g
    by_cases z : g = f
    · rw [z, up_at]
      rw [z] at a2
      omega
    · rw [up_ne z]
      exact a2
  · have hl := hm (j - off / 512) (by omega)
    rw [show off / 512 + (j - off / 512) = j by omega] at hl
    refine ⟨by show kd g = 1; rw [q1]; exact hkd, ?_⟩
    show 512 * j + b8.length ≤ va_up sz f (max (sz f) e) g
    rw [q1, up_at, q4, ovB_len, bsI_len]
    have ho : (oldP ps f j).length = 0 ∨ 512 * j + (oldP ps f j).length ≤ sz f := by
      by_cases z : ∃ y : List Int8, ((f, j, y) : aPc) ∈ ps
      · obtain ⟨y, hy⟩ := z
        rw [old_in h hy]
        exact Or.inr (hp _ hy).2
      · rw [old_no (fun y hy => z ⟨y, hy⟩)]
        exact Or.inl rfl
    unfold layK at hl ⊢
    omega
