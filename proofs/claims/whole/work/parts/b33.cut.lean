/-! ===== pieces that are cut short; by hand ===== -/
theorem map_ub : ∀ {a b : List Int8}, a.map ub = b.map ub → a = b
  | [], [], _ => rfl
  | [], _ :: _, h => by cases h
  | _ :: _, [], h => by cases h
  | x :: a, y :: b, h => by
    rw [List.map_cons, List.map_cons] at h
    injection h with h1 h2
    rw [ub_inj h1, map_ub h2]
theorem mem_cutF {ps : List aPc} {f n g i : Nat} {b8 : List Int8} : ((g, i, b8) : aPc) ∈ ps.filterMap (cutE f n) ↔ (g ≠ f ∧ (g, i, b8) ∈ ps) ∨ (g = f ∧ ¬ n ≤ 512 * i ∧ ∃ y : List Int8, ((f, i, y) : aPc) ∈ ps ∧ b8 = y.take (n - 512 * i)) := by
  rw [List.mem_filterMap]
  constructor
  · rintro ⟨x, x1, x2⟩
    obtain ⟨xf, xi, xb⟩ := x
    unfold cutE at x2
    by_cases e : xf = f
    · rw [if_pos (show (xf, xi, xb).1 = f from e)] at x2
      by_cases e2 : n ≤ 512 * xi
      · rw [if_pos (show n ≤ 512 * (xf, xi, xb).2.1 from e2)] at x2; exact absurd x2.symm (Option.some_ne_none _)
      · rw [if_neg (show ¬ n ≤ 512 * (xf, xi, xb).2.1 from e2)] at x2
        have x2 : (xf, xi, xb.take (n - 512 * xi)) = (g, i, b8) := Option.some.inj x2
        injection x2 with y1 y2
        injection y2 with y2 y3
        subst y1 y2 e
        exact Or.inr ⟨rfl, e2, xb, x1, y3.symm⟩
    · rw [if_neg (show ¬ (xf, xi, xb).1 = f from e)] at x2
      have x2 : (xf, xi, xb) = (g, i, b8) := Option.some.inj x2
      rw [x2] at x1
      injection x2 with y1 y2
      rw [y1] at e
      exact Or.inl ⟨e, x1⟩
  · rintro (⟨e, x1⟩ | ⟨e, e2, y, x1, x2⟩)
    · refine ⟨_, x1, ?_⟩
      unfold cutE
      rw [if_neg e]
    · refine ⟨_, x1, ?_⟩
      unfold cutE
      rw [if_pos rfl, if_neg (show ¬ n ≤ 512 * (f, i, y).2.1 from e2), e, x2]
theorem mem_shA {c : Nat → Int8} {vs : List aV} {f n i0 : Nat} {e : aE} : ∀ {k : Nat}, e ∈ shA c vs f n i0 k ↔ ∃ j, j < k ∧ e ∈ shW c vs f (i0 + j) n
  | 0 => ⟨fun h => absurd h List.not_mem_nil, fun ⟨i, h, _⟩ => absurd h (Nat.not_lt_zero i)⟩
  | k + 1 => by
    show e ∈ shA c vs f n i0 k ++ shW c vs f (i0 + k) n ↔ _
    rw [List.mem_append, mem_shA]
    constructor
    · rintro (⟨j, h1, h2⟩ | h)
      · exact ⟨j, by omega, h2⟩
      · exact ⟨k, by omega, h⟩
    · rintro ⟨j, h1, h2⟩
      by_cases q : j = k
      · rw [q] at h2; exact Or.inr h2
      · exact Or.inl ⟨j, by omega, h2⟩
theorem shW_key {c : Nat → Int8} {vs : List aV} {f i n : Nat} {e : aE} (h : e ∈ shW c vs f i n) : e.1 = [2, f, i] ∧ pcIn vs f i = true ∧ n - i * 512 < (pcV c vs f i).length := by
  unfold shW at h
  split at h
  · next q => rw [List.mem_singleton.mp h]; exact ⟨rfl, q⟩
  · exact absurd h List.not_mem_nil
theorem PcR.there {c : Nat → Int8} {vs : List aV} {ps : List aPc} {f i : Nat} {y : List Int8} (h : PcR c vs ps) (hO : OneV vs) (hM : ∀ v ∈ vs, v.2.1 ≤ 2 ^ 30) (hy : ((f, i, y) : aPc) ∈ ps) : pcIn vs f i = true ∧ pcV c vs f i = y.map ub := (val_pc hO hM).mp ((h f i _).mpr ⟨y, hy, rfl⟩)
theorem PcR.noth {c : Nat → Int8} {vs : List aV} {ps : List aPc} {f i : Nat} (h : PcR c vs ps) (hO : OneV vs) (hM : ∀ v ∈ vs, v.2.1 ≤ 2 ^ 30) (hp : pcIn vs f i = true) : ∃ y : List Int8, ((f, i, y) : aPc) ∈ ps ∧ pcV c vs f i = y.map ub := (h f i _).mp ((val_pc hO hM).mpr ⟨hp, rfl⟩)
/-- a file's pieces are cut at n -/
theorem PcR.cut {ky : List (List Nat)} {c c' : Nat → Int8} {vs vs' : List aV} {ws : List aE} {ps : List aPc} {f n P : Nat} (h : PcR c vs ps) (hI : InV c c' vs vs' ws) (h1 : OneW ws) (hO : OneV vs) (hP : P ≤ 2 ^ 30) (hV : ∀ v ∈ vs, VOk ky P v) (hw : ∀ e : aE, e.1.headD 0 = 2 → (e ∈ ws ↔ e ∈ shA c vs f n (n / 512) (32 - n / 512))) (hp : OneP ps) (hk : ∀ x ∈ ps, PcOk x) : PcR c' vs' (ps.filterMap (cutE f n)) := fun g i b => by
  have hM : ∀ v ∈ vs, v.2.1 ≤ 2 ^ 30 := fun v hv => Nat.le_trans (hV v hv).1 hP
  have hkey : ∀ x ∈ ws, x.1 = [2, g, i] → g = f ∧ x ∈ shW c vs f i n ∧ n / 512 ≤ i ∧ i < 32 := fun x hx ex => by
    obtain ⟨j, j1, j2⟩ := mem_shA.mp ((hw x (by rw [ex]; rfl)).mp hx)
    have hs := (shW_key j2).1
    rw [ex] at hs
    injection hs with _ hs
    injection hs with e1 hs
    injection hs with e2 _
    rw [← e2] at j2
    exact ⟨e1, j2, by omega, by omega⟩
  by_cases e : g = f
  · subst e
    by_cases hin : pcIn vs g i = true
    · obtain ⟨y, y1, y2⟩ := h.noth hO hM hin
      have hi : i < 32 := pc_lt hV ((val_pc hO hM).mpr ⟨hin, y2⟩)
      have hy1 : 1 ≤ y.length := hp.2 _ y1
      have hy2 : y.length ≤ 512 := (hk _ y1).2.2
      have huniq : ∀ z : List Int8, ((g, i, z) : aPc) ∈ ps → z = y := fun z hz => by
        have := (h.there hO hM hz).2
        rw [y2] at this
        exact (map_ub this).symm
      by_cases hc : n / 512 ≤ i ∧ n - i * 512 < y.length
      · have hsh : shW c vs g i n = [([2, g, i], if n - i * 512 = 0 then none else some ((pcV c vs g i).take (n - i * 512)))] := by
          unfold shW
          rw [if_pos ⟨hin, by rw [y2, List.length_map]; exact hc.2⟩]
        have hmw : (([2, g, i], if n - i * 512 = 0 then none else some ((pcV c vs g i).take (n - i * 512))) : aE) ∈ ws := (hw _ rfl).mpr (mem_shA.mpr ⟨i - n / 512, by omega, by rw [show n / 512 + (i - n / 512) = i by omega, hsh]; exact List.mem_singleton.mpr rfl⟩)
        by_cases hz : n - i * 512 = 0
        · rw [if_pos hz] at hmw
          refine ⟨fun q => absurd q (hI.out h1 hmw), ?_⟩
          rintro ⟨b8, q, -⟩
          rcases mem_cutF.mp q with ⟨q1, -⟩ | ⟨-, q1, -⟩
          · exact absurd rfl q1
          · omega
        · rw [if_neg hz] at hmw
          rw [hI.put h1 hmw, y2]
          constructor
          · intro q
            refine ⟨y.take (n - 512 * i), mem_cutF.mpr (Or.inr ⟨rfl, by omega, y, y1, rfl⟩), ?_⟩
            rw [q, List.map_take, Nat.mul_comm]
          · rintro ⟨b8, q, q2⟩
            rcases mem_cutF.mp q with ⟨q1, -⟩ | ⟨-, -, z, z1, z2⟩
            · exact absurd rfl q1
            · rw [q2, z2, huniq z z1, List.map_take, Nat.mul_comm]
      · have hno : ∀ x ∈ ws, ¬ x.1 = [2, g, i] := fun x hx ex => by
          obtain ⟨-, k1, k2, -⟩ := hkey x hx ex
          have k3 := (shW_key k1).2.2
          rw [y2, List.length_map] at k3
          exact hc ⟨k2, k3⟩
        rw [hI.same hno, h g i b]
        have htk : ∀ z : List Int8, z = y → z.take (n - 512 * i) = z := fun z ez => by
          rw [ez]
          refine List.take_of_length_le ?_
          omega
        constructor
        · rintro ⟨b8, q1, q2⟩
          exact ⟨b8, mem_cutF.mpr (Or.inr ⟨rfl, by omega, b8, q1, (htk b8 (huniq b8 q1)).symm⟩), q2⟩
        · rintro ⟨b8, q, q2⟩
          rcases mem_cutF.mp q with ⟨q1, -⟩ | ⟨-, -, z, z1, z2⟩
          · exact absurd rfl q1
          · rw [htk z (huniq z z1)] at z2
            rw [z2] at q2
            exact ⟨z, z1, q2⟩
    · have hno : ∀ x ∈ ws, ¬ x.1 = [2, g, i] := fun x hx ex => by
        obtain ⟨-, k1, -⟩ := hkey x hx ex
        exact hin (shW_key k1).2.1
      rw [hI.same hno]
      constructor
      · intro q
        exact absurd ((val_pc hO hM).mp q).1 hin
      · rintro ⟨b8, q, -⟩
        rcases mem_cutF.mp q with ⟨q1, -⟩ | ⟨-, -, z, z1, -⟩
        · exact absurd rfl q1
        · exact absurd (h.there hO hM z1).1 hin
  · have hno : ∀ x ∈ ws, ¬ x.1 = [2, g, i] := fun x hx ex => e (hkey x hx ex).1
    rw [hI.same hno, h g i b]
    constructor
    · rintro ⟨b8, q1, q2⟩
      exact ⟨b8, mem_cutF.mpr (Or.inl ⟨e, q1⟩), q2⟩
    · rintro ⟨b8, q, q2⟩
      rcases mem_cutF.mp q with ⟨-, q1⟩ | ⟨q1, -⟩
      · exact ⟨b8, q1, q2⟩
      · exact absurd q1 e
/-- a file that grows loses nothing -/
theorem cut_id {ps : List aPc} {f n : Nat} (hp : ∀ x ∈ ps, 1 ≤ x.2.2.length) (hs : ∀ x ∈ ps, x.1 = f → 512 * x.2.1 + x.2.2.length ≤ n) : ps.filterMap (cutE f n) = ps := by
  induction ps with
  | nil => rfl
  | cons x t ih =>
    have h1 := hp x List.mem_cons_self
    have h2 := hs x List.mem_cons_self
    have hx : cutE f n x = some x := by
      unfold cutE
      by_cases e : x.1 = f
      · have h3 := h2 e
        rw [if_pos e, if_neg (by omega), List.take_of_length_le (by omega)]
      · rw [if_neg e]
    rw [List.filterMap_cons_some hx, ih (fun y hy => hp y (List.mem_cons_of_mem _ hy)) (fun y hy => hs y (List.mem_cons_of_mem _ hy))]
