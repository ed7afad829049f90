/-! ===== runs are moved in their list; a draft is begun, and put in; class; written by wip/gen/mover.py ===== -/
theorem RQ.aastN {sc : Nat × (Nat → Int32)} {d : Nat} {M : aM} {pc nx : Nat} {lv : aL} {st : List Value} {H : aH} {kc ks : Nat} {Q : tO × aH × Nat × Nat → Prop} {a t n b j c : Nat} {fs : List Value} {f : Nat → Option Nat} (hI : lkI pc (mT M) = some (nx, .aastore)) (hc : H[a]? = some (kQ t n f)) (hj : j < n) (hn : n < 2 ^ 31) (ht : t < 7 ∧ 4 ≤ t) (hb : H[b]? = some (kO c fs)) (hq : c = qCl t) (k : RQ sc d M nx lv st (H.set a (kQ t n (va_up f j (some b)))) kc ks Q) : RQ sc d M pc lv (.ref (b + 1) :: .int (nI j) :: .ref (a + 1) :: st) H kc ks Q := by
  refine RQ.of (fun r hr => RP.go hI (pc' := nx) (lv' := lv) (st' := st) (H' := H.set a (kQ t n (va_up f j (some b)))) (c := 0) (s := 0) ?_ hr) k
  show goAast nx lv H (.ref (b + 1) :: .int (nI j) :: .ref (a + 1) :: st) = _
  unfold goAast
  dsimp only
  rw [hc, hb]
  dsimp only
  rw [inR_n hj hn, show Nat.blt t 7 = true from Nat.ble_eq_true_of_le ht.1, show Nat.ble 4 t = true from Nat.ble_eq_true_of_le ht.2, hq, nI_clamp (by omega)]
  simp
theorem nI_dec {i : Nat} (h : 1 ≤ i) : nI i + (-1) = nI (i - 1) := by
  obtain ⟨k, e⟩ : ∃ k, i = k + 1 := ⟨i - 1, by omega⟩
  rw [e, Nat.add_sub_cancel, ← nI_add k 1, Int32.add_assoc]
  show nI k + 0 = nI k
  rw [Int32.add_zero]
/-- where the run at j comes from, when the one at a is moved to b -/
def sg (a b j : Nat) : Nat := if j = b then a else if a ≤ j ∧ j < b then j + 1 else if b < j ∧ j ≤ a then j - 1 else j
theorem sg_lt {a b j n : Nat} (ha : a < n) (hb : b < n) (hj : j < n) : sg a b j < n := by
  unfold sg
  split
  · exact ha
  · split
    · omega
    · split <;> omega
theorem sg_inj {a b i j : Nat} (h : sg a b i = sg a b j) : i = j := by
  unfold sg at h
  split at h <;> split at h <;> (try split at h) <;> (try split at h) <;> (try split at h) <;> (try split at h) <;> omega
theorem rn_moveRun {sc : Nat × (Nat → Int32)} {d a b : Nat} {H : aH} {B lc fr ff : Nat} {wr : Bool} {tp rc ms mt sq tu tn nb : Nat} {Q : Nat → Option Nat} {pi : Nat → Nat} (hY : H[83]? = some (kO 3 (layF B lc fr ff wr tp rc ms mt sq tu tn nb))) (hQ : H[84]? = some (kQ 5 24 Q)) (hQ2 : ∀ j, j < 24 → Q j = some (pi j)) (hrun : ∀ j, j < 24 → ∃ fs, H[pi j]? = some (kO 6 fs)) (hne : ∀ j, j < 24 → pi j ≠ 84) (ha : a < 24) (hb : b < 24) : RN sc d mr_113 [.ref 84, .int (nI a), .int (nI b)] H (fun H' => (∃ Q', H'[84]? = some (kQ 5 24 Q') ∧ ∀ j, j < 24 → Q' j = some (pi (sg a b j))) ∧ ∀ c, c ≠ 84 → H'[c]? = H[c]?) := by
  refine RN.of ?_
  refine RQ.blk 1 (pc' := 1) (lv' := [(0, .ref 84), (1, .int (nI a)), (2, .int (nI b))]) (st' := [.int (nI a)]) (H' := _) (kc' := 0) (ks' := 0) rfl ?_
  refine RQ.brF rfl rfl rfl (cF_lt a 0) ?_
  refine RQ.blk 2 (pc' := 7) (lv' := [(0, .ref 84), (1, .int (nI a)), (2, .int (nI b))]) (st' := [.int 24, .int (nI a)]) (H' := _) (kc' := 0) (ks' := 0) rfl ?_
  refine RQ.brF rfl rfl rfl (cF_ge a 24) ?_
  refine RQ.blk 1 (pc' := 11) (lv' := [(0, .ref 84), (1, .int (nI a)), (2, .int (nI b))]) (st' := [.int (nI b)]) (H' := _) (kc' := 0) (ks' := 0) rfl ?_
  refine RQ.brF rfl rfl rfl (cF_lt b 0) ?_
  refine RQ.blk 2 (pc' := 17) (lv' := [(0, .ref 84), (1, .int (nI a)), (2, .int (nI b))]) (st' := [.int 24, .int (nI b)]) (H' := _) (kc' := 0) (ks' := 0) rfl ?_
  refine RQ.brT rfl rfl rfl (cT_lt b 24) ?_
  refine RQ.blk 1 (pc' := 22) (lv' := [(0, .ref 84), (1, .int (nI a)), (2, .int (nI b))]) (st' := [.ref 84]) (H' := _) (kc' := 0) (ks' := 0) rfl ?_
  refine RQ.get (ci := 3) rfl hY rfl rfl ?_
  refine RQ.blk 1 (pc' := 26) (lv' := [(0, .ref 84), (1, .int (nI a)), (2, .int (nI b))]) (st' := [.int (nI a), .ref 85]) (H' := _) (kc' := 0) (ks' := 0) rfl ?_
  refine RQ.aaldN (j := a) rfl hQ (by omega) (by decide) (by decide) (hQ2 a ha) ?_
  refine RQ.blk 3 (pc' := 31) (lv' := [(4, .int (nI a)), (3, .ref ((pi a) + 1)), (0, .ref 84), (1, .int (nI a)), (2, .int (nI b))]) (st' := []) (H' := _) (kc' := 0) (ks' := 0) rfl ?_
  refine RQ.while (S := Nat) (pc := 31) (fun i H' => a ≤ i ∧ (i ≤ b ∨ i = a) ∧ (∃ Q', H'[84]? = some (kQ 5 24 Q') ∧ ∀ j, j < 24 → Q' j = some (pi (if a ≤ j ∧ j < i then j + 1 else j))) ∧ ∀ c, c ≠ 84 → H'[c]? = H[c]?) (fun i => [(4, .int (nI i)), (3, .ref ((pi a) + 1)), (0, .ref 84), (1, .int (nI a)), (2, .int (nI b))]) (fun i => b - i) ?_ a H ⟨Nat.le_refl _, Or.inr rfl, ⟨Q, hQ, fun j hj => by rw [if_neg (by omega)]; exact hQ2 j hj⟩, fun _ _ => rfl⟩
  rintro i H1 ⟨hi1, hi2, ⟨Q1, hQ1, hQ3⟩, f1⟩ ih
  by_cases hib : i < b
  ·
    refine RQ.blk 2 (pc' := 34) (lv' := [(4, .int (nI i)), (3, .ref ((pi a) + 1)), (0, .ref 84), (1, .int (nI a)), (2, .int (nI b))]) (st' := [.int (nI b), .int (nI i)]) (H' := _) (kc' := 0) (ks' := 0) rfl ?_
    refine RQ.brF rfl rfl rfl (cF_ge i b) ?_
    refine RQ.blk 1 (pc' := 38) (lv' := [(4, .int (nI i)), (3, .ref ((pi a) + 1)), (0, .ref 84), (1, .int (nI a)), (2, .int (nI b))]) (st' := [.ref 84]) (H' := _) (kc' := 0) (ks' := 0) rfl ?_
    refine RQ.get (ci := 3) rfl ((f1 83 (by decide)).trans hY) rfl rfl ?_
    refine RQ.blk 2 (pc' := 44) (lv' := [(4, .int (nI i)), (3, .ref ((pi a) + 1)), (0, .ref 84), (1, .int (nI a)), (2, .int (nI b))]) (st' := [.ref 84, .int (nI i), .ref 85]) (H' := _) (kc' := 0) (ks' := 0) rfl ?_
    refine RQ.get (ci := 3) rfl ((f1 83 (by decide)).trans hY) rfl rfl ?_
    refine RQ.blk 3 (pc' := 51) (lv' := [(4, .int (nI i)), (3, .ref ((pi a) + 1)), (0, .ref 84), (1, .int (nI a)), (2, .int (nI b))]) (st' := [.int (nI i + 1), .ref 85, .int (nI i), .ref 85]) (H' := _) (kc' := 0) (ks' := 0) rfl ?_
    rw [show (nI i + 1 : Int32) = nI (i + 1) from nI_add i 1]
    refine RQ.aaldN (j := i + 1) rfl hQ1 (by omega) (by decide) (by decide) (by have := hQ3 (i + 1) (by omega); rwa [if_neg (by omega)] at this) ?_
    obtain ⟨fs, hfs⟩ := hrun (i + 1) (by omega)
    refine RQ.aastN (j := i) (c := 6) rfl hQ1 (by omega) (by decide) (by decide) ((f1 _ (hne (i + 1) (by omega))).trans hfs) rfl ?_
    refine RQ.blk 1 (pc' := 56) (lv' := [(4, .int (nI i + 1)), (3, .ref ((pi a) + 1)), (0, .ref 84), (1, .int (nI a)), (2, .int (nI b))]) (st' := []) (H' := _) (kc' := 0) (ks' := 0) rfl ?_
    rw [show (nI i + 1 : Int32) = nI (i + 1) from nI_add i 1]
    refine RQ.blk 1 (pc' := 31) (lv' := [(4, .int (nI (i + 1))), (3, .ref ((pi a) + 1)), (0, .ref 84), (1, .int (nI a)), (2, .int (nI b))]) (st' := []) (H' := _) (kc' := 0) (ks' := 0) rfl ?_
    refine ih (i + 1) _ ⟨by omega, Or.inl (by omega), ⟨_, get_set hQ1, fun j hj => ?_⟩, fun c hc => (set_far hc).trans (f1 c hc)⟩ (by omega)
    by_cases e : j = i
    · rw [e, up_at, if_pos (by omega)]
    · rw [up_ne e, hQ3 j hj]
      by_cases e2 : a ≤ j ∧ j < i
      · rw [if_pos e2, if_pos (by omega)]
      · rw [if_neg e2, if_neg (by omega)]
  ·
    refine RQ.blk 2 (pc' := 34) (lv' := [(4, .int (nI i)), (3, .ref ((pi a) + 1)), (0, .ref 84), (1, .int (nI a)), (2, .int (nI b))]) (st' := [.int (nI b), .int (nI i)]) (H' := _) (kc' := 0) (ks' := 0) rfl ?_
    refine RQ.brT rfl rfl rfl (cT_ge i b) ?_
    refine RQ.blk 2 (pc' := 62) (lv' := [(4, .int (nI a)), (3, .ref ((pi a) + 1)), (0, .ref 84), (1, .int (nI a)), (2, .int (nI b))]) (st' := []) (H' := _) (kc' := 0) (ks' := 0) rfl ?_
    refine RQ.pick (a := [(4, .int (nI a)), (3, .ref ((pi a) + 1)), (0, .ref 84), (1, .int (nI a)), (2, .int (nI b))]) [0, 1, 2, 3, 4] [4, 3, 0, 1, 2] rfl rfl (by decide) ?_
    refine RQ.while (S := Nat) (pc := 62) (fun i H' => (b ≤ i ∨ i = a) ∧ i ≤ a ∧ (∃ Q', H'[84]? = some (kQ 5 24 Q') ∧ ∀ j, j < 24 → Q' j = some (pi (if a ≤ j ∧ j < b then j + 1 else if i < j ∧ j ≤ a then j - 1 else j))) ∧ ∀ c, c ≠ 84 → H'[c]? = H[c]?) (fun i => [(4, .int (nI i)), (3, .ref ((pi a) + 1)), (0, .ref 84), (1, .int (nI a)), (2, .int (nI b))]) (fun i => i - b) ?_ a H1 ⟨Or.inr rfl, Nat.le_refl _, ⟨Q1, hQ1, fun j hj => ?_⟩, f1⟩
    rotate_left
    · rw [hQ3 j hj]
      by_cases e : a ≤ j ∧ j < b
      · rw [if_pos e, if_pos (by omega)]
      · rw [if_neg e, if_neg (by omega), if_neg (by omega)]
    rintro k H2 ⟨hk1, hk2, ⟨Q2, hQ4, hQ5⟩, f2⟩ ih2
    by_cases hkb : b < k
    ·
      refine RQ.blk 2 (pc' := 65) (lv' := [(4, .int (nI k)), (3, .ref ((pi a) + 1)), (0, .ref 84), (1, .int (nI a)), (2, .int (nI b))]) (st' := [.int (nI b), .int (nI k)]) (H' := _) (kc' := 0) (ks' := 0) rfl ?_
      refine RQ.brF rfl rfl rfl (cF_le k b) ?_
      refine RQ.blk 1 (pc' := 69) (lv' := [(4, .int (nI k)), (3, .ref ((pi a) + 1)), (0, .ref 84), (1, .int (nI a)), (2, .int (nI b))]) (st' := [.ref 84]) (H' := _) (kc' := 0) (ks' := 0) rfl ?_
      refine RQ.get (ci := 3) rfl ((f2 83 (by decide)).trans hY) rfl rfl ?_
      refine RQ.blk 2 (pc' := 75) (lv' := [(4, .int (nI k)), (3, .ref ((pi a) + 1)), (0, .ref 84), (1, .int (nI a)), (2, .int (nI b))]) (st' := [.ref 84, .int (nI k), .ref 85]) (H' := _) (kc' := 0) (ks' := 0) rfl ?_
      refine RQ.get (ci := 3) rfl ((f2 83 (by decide)).trans hY) rfl rfl ?_
      refine RQ.blk 3 (pc' := 82) (lv' := [(4, .int (nI k)), (3, .ref ((pi a) + 1)), (0, .ref 84), (1, .int (nI a)), (2, .int (nI b))]) (st' := [.int (nI k - 1), .ref 85, .int (nI k), .ref 85]) (H' := _) (kc' := 0) (ks' := 0) rfl ?_
      rw [show (nI k - 1 : Int32) = nI (k - 1) from pk_sub (a := k) (b := 1) (by omega)]
      refine RQ.aaldN (j := k - 1) rfl hQ4 (by omega) (by decide) (by decide) (by have := hQ5 (k - 1) (by omega); rwa [if_neg (by omega), if_neg (by omega)] at this) ?_
      obtain ⟨fs, hfs⟩ := hrun (k - 1) (by omega)
      refine RQ.aastN (j := k) (c := 6) rfl hQ4 (by omega) (by decide) (by decide) ((f2 _ (hne (k - 1) (by omega))).trans hfs) rfl ?_
      refine RQ.blk 2 (pc' := 62) (lv' := [(4, .int ((nI k) + (-1))), (3, .ref ((pi a) + 1)), (0, .ref 84), (1, .int (nI a)), (2, .int (nI b))]) (st' := []) (H' := _) (kc' := 0) (ks' := 0) rfl ?_
      rw [show (nI k) + (-1) = nI (k - 1) from nI_dec (by omega)]
      refine ih2 (k - 1) _ ⟨Or.inl (by omega), by omega, ⟨_, get_set hQ4, fun j hj => ?_⟩, fun c hc => (set_far hc).trans (f2 c hc)⟩ (by omega)
      by_cases e : j = k
      · rw [e, up_at, if_neg (by omega), if_pos (by omega)]
      · rw [up_ne e, hQ5 j hj]
        by_cases e3 : a ≤ j ∧ j < b
        · rw [if_pos e3, if_pos e3]
        · rw [if_neg e3, if_neg e3]
          by_cases e2 : k < j ∧ j ≤ a
          · rw [if_pos e2, if_pos (by omega)]
          · rw [if_neg e2, if_neg (by omega)]
    ·
      refine RQ.blk 2 (pc' := 65) (lv' := [(4, .int (nI k)), (3, .ref ((pi a) + 1)), (0, .ref 84), (1, .int (nI a)), (2, .int (nI b))]) (st' := [.int (nI b), .int (nI k)]) (H' := _) (kc' := 0) (ks' := 0) rfl ?_
      refine RQ.brT rfl rfl rfl (cT_le k b) ?_
      refine RQ.blk 1 (pc' := 91) (lv' := [(4, .int (nI k)), (3, .ref ((pi a) + 1)), (0, .ref 84), (1, .int (nI a)), (2, .int (nI b))]) (st' := [.ref 84]) (H' := _) (kc' := 0) (ks' := 0) rfl ?_
      refine RQ.get (ci := 3) rfl ((f2 83 (by decide)).trans hY) rfl rfl ?_
      refine RQ.blk 2 (pc' := 96) (lv' := [(4, .int (nI k)), (3, .ref ((pi a) + 1)), (0, .ref 84), (1, .int (nI a)), (2, .int (nI b))]) (st' := [.ref ((pi a) + 1), .int (nI b), .ref 85]) (H' := _) (kc' := 0) (ks' := 0) rfl ?_
      obtain ⟨fs, hfs⟩ := hrun a ha
      refine RQ.aastN (j := b) (c := 6) rfl hQ4 (by omega) (by decide) (by decide) ((f2 _ (hne a ha)).trans hfs) rfl ?_
      exact RQ.done (c := 0) (s := 0) rfl rfl rfl rfl ⟨_, rfl, ⟨_, get_set hQ4, fun j hj => by
        unfold sg
        by_cases e : j = b
        · rw [e, up_at, if_pos rfl]
        · rw [up_ne e, hQ5 j hj, if_neg e]
          by_cases e3 : a ≤ j ∧ j < b
          · rw [if_pos e3, if_pos e3]
          · rw [if_neg e3, if_neg e3]
            by_cases e2 : k < j ∧ j ≤ a
            · rw [if_pos e2, if_pos (by omega)]
            · rw [if_neg e2, if_neg (by omega)]⟩, fun c hc => (set_far hc).trans (f2 c hc)⟩
/-- a run comes in -/
theorem RunsAt.ins {H H' : aH} {pi : Nat → Nat} {rs : List aR} {f : Nat} {x : aR} {Q' : Nat → Option Nat} (h : RunsAt H pi rs) (hl : rs.length < 24) (hf : f ≤ rs.length) (hx : RunIs H (pi rs.length) x) (hQ : H'[84]? = some (kQ 5 24 Q')) (hQ2 : ∀ j, j < 24 → Q' j = some (pi (sg rs.length f j))) (hs : ∀ a, 88 ≤ a → a < 136 → H'[a]? = H[a]?) : RunsAt H' (fun j => pi (sg rs.length f j)) (rs.take f ++ x :: rs.drop f) := by
  obtain ⟨-, h3, h4, h5, h6, h7⟩ := h
  have hsg : ∀ j, j < 24 → sg rs.length f j < 24 := fun j hj => sg_lt hl (by omega) hj
  have hr : ∀ j, j < 24 → ∀ x, RunIs H (pi j) x → RunIs H' (pi j) x := fun j hj x hx => by
    obtain ⟨s, s1, s2⟩ := h3 j hj
    exact hx.far (hs _ (by omega) (by omega)) (hs _ (by omega) (by omega))
  refine ⟨⟨Q', hQ, hQ2⟩, fun j hj => h3 _ (hsg j hj), fun i j hi hj e => sg_inj (h4 _ _ (hsg i hi) (hsg j hj) e), fun j y hy => ?_, fun j hj => ?_, ?_⟩
  · have hj := get_lt hy
    rw [List.length_append, List.length_cons, List.length_take, List.length_drop, Nat.min_eq_left hf] at hj
    refine hr _ (hsg j (by omega)) y ?_
    by_cases e : j < f
    · rw [List.getElem?_append_left (by rw [List.length_take]; omega), List.getElem?_take_of_lt e] at hy
      rw [show sg rs.length f j = j by unfold sg; rw [if_neg (by omega), if_neg (by omega), if_neg (by omega)]]
      exact h5 j y hy
    · rw [List.getElem?_append_right (by rw [List.length_take]; omega), List.length_take, Nat.min_eq_left hf] at hy
      by_cases e2 : j = f
      · rw [e2, Nat.sub_self] at hy
        rw [show sg rs.length f j = rs.length by unfold sg; rw [if_pos e2], ← Option.some.inj hy]
        exact hx
      · rw [show j - f = (j - 1 - f) + 1 by omega, List.getElem?_cons_succ, List.getElem?_drop, show f + (j - 1 - f) = j - 1 by omega] at hy
        rw [show sg rs.length f j = j - 1 by unfold sg; rw [if_neg e2, if_neg (by omega), if_pos (by omega)]]
        exact h5 (j - 1) y hy
  · obtain ⟨y, hy⟩ := h6 _ (hsg j hj)
    exact ⟨y, hr _ (hsg j hj) y hy⟩
  · rw [List.length_append, List.length_cons, List.length_take, List.length_drop, Nat.min_eq_left hf]
    omega
/-- a run goes out -/
theorem RunsAt.del {H H' : aH} {pi : Nat → Nat} {rs : List aR} {n : Nat} {Q' : Nat → Option Nat} (h : RunsAt H pi rs) (hn : n < rs.length) (hQ : H'[84]? = some (kQ 5 24 Q')) (hQ2 : ∀ j, j < 24 → Q' j = some (pi (sg n (rs.length - 1) j))) (hs : ∀ a, 88 ≤ a → a < 136 → H'[a]? = H[a]?) : RunsAt H' (fun j => pi (sg n (rs.length - 1) j)) (rs.eraseIdx n) := by
  obtain ⟨-, h3, h4, h5, h6, h7⟩ := h
  have hsg : ∀ j, j < 24 → sg n (rs.length - 1) j < 24 := fun j hj => sg_lt (by omega) (by omega) hj
  have hr : ∀ j, j < 24 → ∀ x, RunIs H (pi j) x → RunIs H' (pi j) x := fun j hj x hx => by
    obtain ⟨s, s1, s2⟩ := h3 j hj
    exact hx.far (hs _ (by omega) (by omega)) (hs _ (by omega) (by omega))
  have hl := List.length_eraseIdx_of_lt hn
  refine ⟨⟨Q', hQ, hQ2⟩, fun j hj => h3 _ (hsg j hj), fun i j hi hj e => sg_inj (h4 _ _ (hsg i hi) (hsg j hj) e), fun j y hy => ?_, fun j hj => ?_, by omega⟩
  · have hj := get_lt hy
    rw [hl] at hj
    refine hr _ (hsg j (by omega)) y ?_
    rw [List.getElem?_eraseIdx] at hy
    by_cases e : j < n
    · rw [if_pos e] at hy
      rw [show sg n (rs.length - 1) j = j by unfold sg; rw [if_neg (by omega), if_neg (by omega), if_neg (by omega)]]
      exact h5 j y hy
    · rw [if_neg e] at hy
      rw [show sg n (rs.length - 1) j = j + 1 by unfold sg; rw [if_neg (by omega), if_pos (by omega)]]
      exact h5 (j + 1) y hy
  · obtain ⟨y, hy⟩ := h6 _ (hsg j hj)
    exact ⟨y, hr _ (hsg j hj) y hy⟩
