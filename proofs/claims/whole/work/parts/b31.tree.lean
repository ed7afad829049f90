/-! ===== the tree of the class is the tree of the reference; nodes as versions; by hand ===== -/
/-- t tells what kd pa sz nl nm tell -/
def SameT (t : aTr) (kd pa sz nl : Nat → Nat) (nm : Nat → Int8) : Prop := (∀ f, f ≤ 200 → t.1 f = kd f) ∧ (∀ f, f ≤ 200 → kd f ≠ 0 → t.2.1 f = pa f ∧ t.2.2.1 f = sz f ∧ t.2.2.2.1 f = nl f ∧ sl t.2.2.2.2.1 (f * 30) (nl f) = sl nm (f * 30) (nl f)) ∧ t.2.2.2.2.2 = sumF (fun v => if kd v = 0 then 0 else 1) 200
/-- a node's bytes -/
def nodB (kd pa sz nl : Nat → Nat) (nm : Nat → Int8) (f : Nat) : List Nat := [kd f, pa f] ++ (beB 2 (sz f) ++ sl nm (f * 30) (nl f))
/-- the newest versions of nodes are these nodes -/
def NodR (c : Nat → Int8) (vs : List aV) (kd pa sz nl : Nat → Nat) (nm : Nat → Int8) : Prop := ∀ f, 1 ≤ f → f ≤ 200 → ∀ b, ValAt c vs [1, f] b ↔ kd f ≠ 0 ∧ b = nodB kd pa sz nl nm f
theorem sumF_congr {g h : Nat → Nat} : ∀ (n : Nat), (∀ f, 1 ≤ f → f ≤ n → g f = h f) → sumF g n = sumF h n
  | 0, _ => rfl
  | n + 1, q => by
    show sumF g n + g (n + 1) = sumF h n + h (n + 1)
    rw [sumF_congr n (fun f h1 h2 => q f h1 (by omega)), q (n + 1) (by omega) (by omega)]
theorem sumF_zero : ∀ (n : Nat), sumF (fun _ => 0) n = 0
  | 0 => rfl
  | n + 1 => sumF_zero n
theorem sumF_at {g h : Nat → Nat} {v : Nat} : ∀ (n : Nat), 1 ≤ v → v ≤ n → (∀ f, 1 ≤ f → f ≤ n → f ≠ v → g f = h f) → sumF g n + h v = sumF h n + g v
  | 0, h1, h2, _ => by omega
  | n + 1, h1, h2, q => by
    show sumF g n + g (n + 1) + h v = sumF h n + h (n + 1) + g v
    by_cases e : v = n + 1
    · rw [sumF_congr (h := h) n (fun f k1 k2 => q f k1 (by omega) (by omega)), e]
      omega
    · have := sumF_at n h1 (by omega) (fun f k1 k2 k3 => q f k1 (by omega) k3)
      have := q (n + 1) (by omega) (by omega) (fun k => e k.symm)
      omega
theorem SameT.congr {t : aTr} {kd pa sz nl kd' pa' sz' nl' : Nat → Nat} {nm nm' : Nat → Int8} (h : SameT t kd pa sz nl nm) (h1 : ∀ f, f ≤ 200 → kd' f = kd f) (h2 : ∀ f, f ≤ 200 → kd f ≠ 0 → pa' f = pa f ∧ sz' f = sz f ∧ nl' f = nl f ∧ sl nm' (f * 30) (nl f) = sl nm (f * 30) (nl f)) : SameT t kd' pa' sz' nl' nm' := by
  refine ⟨fun f hf => (h.1 f hf).trans (h1 f hf).symm, fun f hf hn => ?_, ?_⟩
  · rw [h1 f hf] at hn
    obtain ⟨a1, a2, a3, a4⟩ := h.2.1 f hf hn
    obtain ⟨b1, b2, b3, b4⟩ := h2 f hf hn
    exact ⟨a1.trans b1.symm, a2.trans b2.symm, a3.trans b3.symm, by rw [b3, b4]; exact a4⟩
  · rw [h.2.2]
    exact sumF_congr 200 (fun f _ hf => by rw [h1 f hf])
theorem SameT.set {t : aTr} {kd pa sz nl kd' pa' sz' nl' : Nat → Nat} {nm nm' : Nat → Int8} {v k dir s n i : Nat} {g : Nat → Int8} (h : SameT t kd pa sz nl nm) (hv1 : 1 ≤ v) (hv : v ≤ 200) (hk : k ≠ 0) (hn : n ≤ 30) (hnl : ∀ f, f ≤ 200 → nl f ≤ 30) (e1 : ∀ f, f ≤ 200 → kd' f = va_up kd v k f) (e2 : ∀ f, f ≤ 200 → pa' f = va_up pa v dir f) (e3 : ∀ f, f ≤ 200 → sz' f = va_up sz v s f) (e4 : ∀ f, f ≤ 200 → nl' f = va_up nl v n f) (e5 : sl nm' (v * 30) n = sl g i n) (e6 : ∀ f, f ≤ 200 → f ≠ v → kd f ≠ 0 → sl nm' (f * 30) (nl f) = sl nm (f * 30) (nl f)) : SameT (setT v k dir s n g i t) kd' pa' sz' nl' nm' := by
  refine ⟨fun f hf => ?_, fun f hf hn0 => ?_, ?_⟩
  · show va_up t.1 v k f = kd' f
    rw [e1 f hf]
    by_cases e : f = v
    · rw [e, up_at, up_at]
    · rw [up_ne e, up_ne e, h.1 f hf]
  · show va_up t.2.1 v dir f = pa' f ∧ va_up t.2.2.1 v s f = sz' f ∧ va_up t.2.2.2.1 v n f = nl' f ∧ sl (cpy g i t.2.2.2.2.1 (v * 30) n) (f * 30) (nl' f) = sl nm' (f * 30) (nl' f)
    rw [e2 f hf, e3 f hf, e4 f hf]
    by_cases e : f = v
    · rw [e, up_at, up_at, up_at, up_at, up_at, up_at, e5]
      exact ⟨rfl, rfl, rfl, sl_cpy⟩
    · rw [e1 f hf, up_ne e] at hn0
      obtain ⟨a1, a2, a3, a4⟩ := h.2.1 f hf hn0
      rw [up_ne e, up_ne e, up_ne e, up_ne e, up_ne e, up_ne e, e6 f hf e hn0]
      have := hnl f hf
      exact ⟨a1, a2, a3, (sl_cpy_out (by omega)).trans a4⟩
  · show t.2.2.2.2.2 + (if t.1 v = 0 then 1 else 0) = _
    rw [h.2.2, h.1 v hv]
    have := sumF_at (g := fun f => if kd' f = 0 then 0 else 1) (h := fun f => if kd f = 0 then 0 else 1) 200 hv1 hv (fun f _ hf he => by
      show (if kd' f = 0 then 0 else 1) = if kd f = 0 then 0 else 1
      rw [e1 f hf, up_ne he])
    have h2 : (if kd' v = 0 then 0 else 1) = 1 := by rw [e1 v hv, up_at, if_neg hk]
    have this : sumF (fun f => if kd' f = 0 then 0 else 1) 200 + (if kd v = 0 then 0 else 1) = sumF (fun f => if kd f = 0 then 0 else 1) 200 + (if kd' v = 0 then 0 else 1) := this
    rw [h2] at this
    by_cases e : kd v = 0
    · rw [if_pos e] at this ⊢; omega
    · rw [if_neg e] at this ⊢; omega
/-- a number is given back -/
theorem SameT.gone {t t' : aTr} {kd pa sz nl kd' : Nat → Nat} {nm : Nat → Int8} {v : Nat} (h : SameT t kd pa sz nl nm) (hv1 : 1 ≤ v) (hv : v ≤ 200) (hkv : kd v ≠ 0) (f1 : ∀ f, f ≤ 200 → t'.1 f = va_up t.1 v 0 f) (f2 : t'.2.1 = t.2.1) (f3 : t'.2.2.1 = t.2.2.1) (f4 : t'.2.2.2.1 = t.2.2.2.1) (f5 : t'.2.2.2.2.1 = t.2.2.2.2.1) (f6 : t'.2.2.2.2.2 = t.2.2.2.2.2 - 1) (e1 : ∀ f, f ≤ 200 → kd' f = va_up kd v 0 f) : SameT t' kd' pa sz nl nm := by
  refine ⟨fun f hf => ?_, fun f hf hn0 => ?_, ?_⟩
  · rw [e1 f hf, f1 f hf]
    by_cases e : f = v
    · rw [e, up_at, up_at]
    · rw [up_ne e, up_ne e, h.1 f hf]
  · rw [e1 f hf] at hn0
    rw [f2, f3, f4, f5]
    by_cases e : f = v
    · rw [e, up_at] at hn0; exact absurd rfl hn0
    · rw [up_ne e] at hn0
      exact h.2.1 f hf hn0
  · rw [f6, h.2.2]
    have this : sumF (fun f => if kd' f = 0 then 0 else 1) 200 + (if kd v = 0 then 0 else 1) = sumF (fun f => if kd f = 0 then 0 else 1) 200 + (if kd' v = 0 then 0 else 1) := sumF_at (g := fun f => if kd' f = 0 then 0 else 1) (h := fun f => if kd f = 0 then 0 else 1) 200 hv1 hv (fun f _ hf he => by
      show (if kd' f = 0 then 0 else 1) = if kd f = 0 then 0 else 1
      rw [e1 f hf, up_ne he])
    rw [if_neg hkv, if_pos (by rw [e1 v hv, up_at])] at this
    omega
theorem SameT.size {t t' : aTr} {kd pa sz nl sz' : Nat → Nat} {nm : Nat → Int8} {v s : Nat} (h : SameT t kd pa sz nl nm) (f1 : t'.1 = t.1) (f2 : t'.2.1 = t.2.1) (f3 : ∀ f, f ≤ 200 → t'.2.2.1 f = va_up t.2.2.1 v s f) (f4 : t'.2.2.2.1 = t.2.2.2.1) (f5 : t'.2.2.2.2.1 = t.2.2.2.2.1) (f6 : t'.2.2.2.2.2 = t.2.2.2.2.2) (e1 : ∀ f, f ≤ 200 → sz' f = va_up sz v s f) : SameT t' kd pa sz' nl nm := by
  refine ⟨fun f hf => by rw [f1]; exact h.1 f hf, fun f hf hn0 => ?_, by rw [f6]; exact h.2.2⟩
  obtain ⟨a1, a2, a3, a4⟩ := h.2.1 f hf hn0
  rw [f2, f3 f hf, f4, f5, e1 f hf]
  refine ⟨a1, ?_, a3, a4⟩
  by_cases e : f = v
  · rw [e, up_at, up_at]
  · rw [up_ne e, up_ne e, a2]
/-- the bytes of a node, one by one -/
theorem nod_read {c : Nat → Int8} {q n a b s l : Nat} {x : List Nat} (h : sl c q n = [a, b] ++ (beB 2 s ++ x)) (hl : x.length = l) (hs : s < 65536) : n = l + 4 ∧ ub (c q) = a ∧ ub (c (q + 1)) = b ∧ beN 0 (sl c (q + 2) 2) = s ∧ sl c (q + 4) l = x := by
  have hn : n = l + 4 := by
    have := congrArg List.length h
    rw [sl_length, List.length_append, List.length_append, beB_length, hl] at this
    have h2 : ([a, b] : List Nat).length = 2 := rfl
    omega
  subst hn
  have h2 : sl c q (l + 4) = ub (c q) :: ub (c (q + 1)) :: (sl c (q + 2) 2 ++ sl c (q + 4) l) := by
    rw [show l + 4 = (2 + l) + 1 + 1 by omega, sl, sl, show q + 1 + 1 = q + 2 by omega, sl_append 2 l (q + 2)]
  rw [h2] at h
  injection h with i1 h
  injection h with i2 h
  have h : sl c (q + 2) 2 ++ sl c (q + 4) l = beB 2 s ++ x := h
  have i3 := List.append_inj h (by rw [sl_length, beB_length])
  refine ⟨rfl, i1, i2, ?_, i3.2⟩
  rw [i3.1]
  exact beN_beB0 (n := 2) hs
theorem ld_tree {c : Nat → Int8} {kd pa sz nl : Nat → Nat} {nm : Nat → Int8} (hk : TreeOk kd pa sz nl) : ∀ (vs : List aV) (S : Nat → Bool) (t : aTr), SameT t (fun f => if S f then kd f else 0) pa sz nl nm → (∀ v ∈ vs, v.1.headD 0 = 1 → v.2.2.2.1 ≠ none → 1 ≤ v.1.getD 1 0 ∧ v.1.getD 1 0 ≤ 200 ∧ kd (v.1.getD 1 0) ≠ 0 ∧ valB c v = nodB kd pa sz nl nm (v.1.getD 1 0)) → SameT (vs.foldl (ldT c) t) (fun f => if S f || vs.any (fun v => decide (v.1.headD 0 = 1 ∧ v.2.2.2.1 ≠ none ∧ v.1.getD 1 0 = f)) then kd f else 0) pa sz nl nm
  | [], S, t, h, _ => h.congr (fun f _ => by rw [List.any_nil, Bool.or_false]) (fun f _ _ => ⟨rfl, rfl, rfl, rfl⟩)
  | v :: vs, S, t, h, hv => by
    rw [List.foldl_cons]
    by_cases e : v.1.headD 0 = 1 ∧ v.2.2.2.1 ≠ none
    · obtain ⟨q1, q2, q3, q4⟩ := hv v List.mem_cons_self e.1 e.2
      have hkf := hk _ q2
      generalize hf : v.1.getD 1 0 = f at *
      have hval : sl c (v.2.2.1 + 8 + v.1.length) (v.2.2.2.1.getD 0) = nodB kd pa sz nl nm f := by
        rw [← q4]
        unfold valB
        rfl
      unfold nodB at hval
      obtain ⟨r1, r2, r3, r4, r5⟩ := nod_read hval (sl_length nm (nl f) (f * 30)) (by omega)
      have hset : SameT (ldT c t v) (fun g => if S g || decide (g = f) then kd g else 0) pa sz nl nm := by
        unfold ldT
        rw [if_pos e, hf, r2, r3, r4, r1]
        refine h.set q1 q2 q3 (by omega) (fun g hg => (hk g hg).2.2.2) (fun g _ => ?_) (fun g _ => ?_) (fun g _ => ?_) (fun g _ => ?_) ?_ (fun g _ _ _ => rfl)
        · by_cases eg : g = f
          · rw [eg, up_at, decide_eq_true rfl, Bool.or_true]; rfl
          · rw [up_ne eg, decide_eq_false eg, Bool.or_false]
        · by_cases eg : g = f
          · rw [eg, up_at]
          · rw [up_ne eg]
        · by_cases eg : g = f
          · rw [eg, up_at]
          · rw [up_ne eg]
        · by_cases eg : g = f
          · rw [eg, up_at]; omega
          · rw [up_ne eg]
        · rw [show nl f + 4 - 4 = nl f by omega]
          exact r5.symm
      refine (ld_tree hk vs _ _ hset (fun u hu => hv u (List.mem_cons_of_mem _ hu))).congr (fun g _ => ?_) (fun g _ _ => ⟨rfl, rfl, rfl, rfl⟩)
      rw [List.any_cons, Bool.or_assoc]
      have : decide (v.1.headD 0 = 1 ∧ v.2.2.2.1 ≠ none ∧ v.1.getD 1 0 = g) = decide (g = f) := by
        rw [decide_eq_decide, hf]
        exact ⟨fun k => k.2.2.symm, fun k => ⟨e.1, e.2, k.symm⟩⟩
      rw [this]
    · rw [show ldT c t v = t from if_neg e]
      refine (ld_tree hk vs S t h (fun u hu => hv u (List.mem_cons_of_mem _ hu))).congr (fun g _ => ?_) (fun g _ _ => ⟨rfl, rfl, rfl, rfl⟩)
      rw [List.any_cons, decide_eq_false (fun k => e ⟨k.1, k.2.1⟩), Bool.false_or]
/-- the tree that a mount makes is the tree -/
theorem ld_same {ky : List (List Nat)} {c : Nat → Int8} {kd pa sz nl : Nat → Nat} {nm : Nat → Int8} {vs : List aV} {t : aTr} {P : Nat} (hk : TreeOk kd pa sz nl) (hN : NodR c vs kd pa sz nl nm) (hss : SS vs) (hVO : ∀ v ∈ vs, VOk ky P v) (h0 : kd 0 = 2) (hr : t.2.1 0 = pa 0 ∧ t.2.2.1 0 = sz 0 ∧ t.2.2.2.1 0 = nl 0 ∧ sl t.2.2.2.2.1 (0 * 30) (nl 0) = sl nm (0 * 30) (nl 0)) : SameT (vs.foldl (ldT c) (T0 t)) kd pa sz nl nm := by
  have hk1 : ∀ v ∈ vs, v.1.headD 0 = 1 → ∃ f, v.1 = [1, f] ∧ 1 ≤ f ∧ f ≤ 200 := fun v hv hh => by
    rcases (hVO v hv).2.1 with ⟨k, q1, -⟩ | ⟨f, q1, q2, q3, q4⟩ | ⟨f, i, q1, -⟩
    · rw [q1] at hh; exact absurd (show (0 : Nat) = 1 from hh) (by decide)
    · exact ⟨f, q1, q2, q3⟩
    · rw [q1] at hh; exact absurd (show (2 : Nat) = 1 from hh) (by decide)
  have hstart : SameT (T0 t) (fun f => if decide (f = 0) then kd f else 0) pa sz nl nm := by
    refine ⟨fun f hf => ?_, fun f hf hn => ?_, ?_⟩
    · show va_up (fun j => if j < 201 then 0 else t.1 j) 0 2 f = if decide (f = 0) then kd f else 0
      by_cases e : f = 0
      · rw [e, up_at, decide_eq_true rfl, if_pos rfl, h0]
      · rw [up_ne e, decide_eq_false e, if_pos (by omega)]; rfl
    · have e : f = 0 := by
        cases e : decide (f = 0) with
        | true => exact of_decide_eq_true e
        | false =>
          have hn : ¬ (if decide (f = 0) then kd f else 0) = 0 := hn
          rw [e] at hn; exact absurd rfl hn
      rw [e]
      exact hr
    · show 0 = _
      rw [sumF_congr (h := fun _ => 0) 200 (fun f h1 _ => by
        show (if (if decide (f = 0) then kd f else 0) = 0 then 0 else 1) = 0
        rw [decide_eq_false (by omega : ¬ f = 0)]; rfl), sumF_zero]
  refine (ld_tree hk vs _ _ hstart (fun v hv hh hn => ?_)).congr (fun f hf => ?_) (fun f _ _ => ⟨rfl, rfl, rfl, rfl⟩)
  · obtain ⟨f, e1, e2, e3⟩ := hk1 v hv hh
    have hva : ValAt c vs [1, f] (valB c v) := ⟨v, ss_nw hss hv, e1, valV_of hn⟩
    obtain ⟨k1, k2⟩ := (hN f e2 e3 _).mp hva
    rw [e1]
    exact ⟨e2, e3, k1, k2⟩
  · show kd f = if _ then kd f else 0
    by_cases e : kd f = 0
    · rw [e, ite_self]
    · rw [if_pos]
      rw [Bool.or_eq_true]
      by_cases ef : f = 0
      · exact Or.inl (decide_eq_true ef)
      · right
        obtain ⟨v, n1, n2, n3⟩ := (hN f (by omega) hf _).mpr ⟨e, rfl⟩
        refine List.any_eq_true.mpr ⟨v, n1.1, decide_eq_true ⟨by rw [n2]; rfl, (valV_some n3).1, by rw [n2]; rfl⟩⟩
