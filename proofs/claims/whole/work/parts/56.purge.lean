/-! ===== purge of the versions; class; written by wip/gen/vers6.py ===== -/
theorem SightAt.far {H H' : aH} {op : Nat → Bool} {mo : Nat → Nat} (h : SightAt H op mo) (hs : ∀ a, ¬ (74 ≤ a ∧ a < 83) → H'[a]? = H[a]?) : SightAt H' op mo := ⟨(hs _ (by omega)).trans h.1, (hs _ (by omega)).trans h.2.1, (hs _ (by omega)).trans h.2.2⟩
theorem cntB_mono (op : Nat → Bool) : ∀ (n m : Nat), n ≤ m → cntB op n ≤ cntB op m
  | n, 0, h => by rw [show n = 0 by omega]; exact Nat.le_refl _
  | n, m + 1, h => by
    by_cases e : n = m + 1
    · rw [e]; exact Nat.le_refl _
    · rw [cntB]
      exact Nat.le_trans (cntB_mono op n m (by omega)) (Nat.le_add_right _ _)
/-- the order behind a purge of the first p positions -/
def odK (kp : Nat → Bool) (od : Nat → Nat) : Nat → Nat → Nat
  | 0 => od
  | p + 1 => if kp p then va_up (odK kp od p) (cntB kp p) (od p) else odK kp od p
/-- the spare slots -/
def spK (kp : Nat → Bool) (od sp : Nat → Nat) (ss : Nat) : Nat → Nat → Nat
  | 0 => sp
  | p + 1 => if kp p then spK kp od sp ss p else va_up (spK kp od sp ss p) (ss + (p - cntB kp p)) (od p)
/-- which are alone -/
def alK (kp : Nat → Bool) (od : Nat → Nat) (al : Nat → Bool) : Nat → Nat → Bool
  | 0 => al
  | p + 1 => if kp p then alK kp od al p else va_up (alK kp od al p) (od p) false
/-- how many are alone -/
def acK (kp : Nat → Bool) (od : Nat → Nat) (al : Nat → Bool) (ac : Nat) : Nat → Nat
  | 0 => ac
  | p + 1 => if kp p then acK kp od al ac p else acUp (al (od p)) false (acK kp od al ac p)
theorem odK_ge {kp : Nat → Bool} {od : Nat → Nat} : ∀ (p j : Nat), p ≤ j → odK kp od p j = od j
  | 0, _, _ => rfl
  | p + 1, j, h => by
    rw [odK]
    split
    · unfold va_up
      rw [if_neg (by have := cntB_le kp p; omega)]
      exact odK_ge p j (by omega)
    · exact odK_ge p j (by omega)
theorem odK_lt {kp : Nat → Bool} {od : Nat → Nat} {N sz : Nat} (h : ∀ p, p < sz → od p < N) : ∀ (p j : Nat), p ≤ sz → j < sz → odK kp od p j < N
  | 0, j, _, hj => h j hj
  | p + 1, j, hp, hj => by
    rw [odK]
    split
    · unfold va_up
      split
      · exact h p (by omega)
      · exact odK_lt h p j (by omega) hj
    · exact odK_lt h p j (by omega) hj
theorem spK_lt {kp : Nat → Bool} {od sp : Nat → Nat} {N sz ss : Nat} (h : ∀ p, p < sz → od p < N) (h2 : ∀ i, i < ss → sp i < N) : ∀ (p i : Nat), p ≤ sz → i < ss + (p - cntB kp p) → spK kp od sp ss p i < N
  | 0, i, _, hi => h2 i (by rw [cntB] at hi; omega)
  | p + 1, i, hp, hi => by
    have := cntB_le kp p
    rw [cntB] at hi
    rw [spK]
    by_cases hk : kp p = true
    · rw [if_pos hk]
      rw [if_pos hk] at hi
      exact spK_lt h h2 p i (by omega) (by omega)
    · rw [if_neg hk]
      rw [if_neg hk] at hi
      unfold va_up
      split
      · exact h p (by omega)
      · exact spK_lt h h2 p i (by omega) (by omega)
theorem alK_ge {kp : Nat → Bool} {od : Nat → Nat} {al : Nat → Bool} {sz : Nat} (hi : ∀ p q, p < sz → q < sz → od p = od q → p = q) : ∀ (p j : Nat), p ≤ j → j < sz → alK kp od al p (od j) = al (od j)
  | 0, _, _, _ => rfl
  | p + 1, j, h, hj => by
    rw [alK]
    split
    · exact alK_ge hi p j (by omega) hj
    · unfold va_up
      rw [if_neg (fun e => by have := hi j p hj (by omega) e; omega)]
      exact alK_ge hi p j (by omega) hj
/-- those alone that are still to come are counted -/
theorem acK_ge {kp : Nat → Bool} {od : Nat → Nat} {al : Nat → Bool} {ac : Nat} : ∀ (p n : Nat), cntB (fun j => al (od j)) (p + n) ≤ ac → cntB (fun j => al (od j)) (p + n) ≤ acK kp od al ac p + cntB (fun j => al (od j)) p
  | 0, n, h => by rw [acK, cntB]; omega
  | p + 1, n, h => by
    have e : p + 1 + n = p + (n + 1) := by omega
    rw [e] at h ⊢
    have ih := acK_ge (kp := kp) p (n + 1) h
    rw [acK, show cntB (fun j => al (od j)) (p + 1) = cntB (fun j => al (od j)) p + (if al (od p) = true then 1 else 0) from rfl]
    split
    · omega
    · unfold acUp
      split
      · next e2 => rw [e2]; simp; omega
      · next e2 =>
        have e3 : al (od p) = true := by
          cases h4 : al (od p) with
          | true => rfl
          | false => exact absurd h4 e2
        rw [e3]
        simp
        omega
/-- what purge keeps -/
def kpB (op : Nat → Bool) (sm : Nat → Nat) (kf : Nat → Int8) (kl mo : Nat → Nat) (le : Nat → Option Nat) (al : Nat → Bool) (od : Nat → Nat) (p : Nat) : Bool := ndB op sm kf kl mo le od (-1) p || (nwB kf kl od p && al (od p) && decide (le (od p) = none))
theorem rn_purge {sc : Nat × (Nat → Int32)} {d N : Nat} {H : aH} {kf : Nat → Int8} {kl mo pl : Nat → Nat} {le : Nat → Option Nat} {al : Nat → Bool} {od sp : Nat → Nat} {sz ss ac : Nat} {op : Nat → Bool} {sm : Nat → Nat} (g : SightAt H op sm) (hsm : ∀ t, t < 8 → sm t < 2 ^ 31) (h : VersAt H N kf kl mo pl le al od sp sz ss ac) (hk : VersOk N kl mo pl le od sp sz ss) (hinj : ∀ p q, p < sz → q < sz → od p = od q → p = q) (hroom : ss + sz ≤ N) (hac : cntB (fun j => al (od j)) sz ≤ ac) : RN sc (d + 2) mr_80 [.ref 75] H (fun H' => VersAt H' N kf kl mo pl le (alK (kpB op sm kf kl mo le al od) od al sz) (odK (kpB op sm kf kl mo le al od) od sz) (spK (kpB op sm kf kl mo le al od) od sp ss sz) (cntB (kpB op sm kf kl mo le al od) sz) (ss + (sz - cntB (kpB op sm kf kl mo le al od) sz)) (acK (kpB op sm kf kl mo le al od) od al ac sz) ∧ ∀ a, ¬ (74 ≤ a ∧ a < 83) → H'[a]? = H[a]?) := by
  have hN := hk.1
  have hsz := hk.2.1
  have hss := hk.2.2.1
  refine RN.of ?_
  refine RQ.blk 6 (pc' := 6) (lv' := [(3, .int 0), (2, .int (-1)), (1, .int 0), (0, .ref 75)]) (st' := []) (H' := _) (kc' := 0) (ks' := 0) rfl ?_
  generalize hkp : (kpB op sm kf kl mo le al od) = kp
  refine RQ.while (S := Nat) (pc := 6) (fun p H' => p ≤ sz ∧ VersAt H' N kf kl mo pl le (alK kp od al p) (odK kp od p) (spK kp od sp ss p) sz (ss + (p - cntB kp p)) (acK kp od al ac p) ∧ ∀ a, ¬ (74 ≤ a ∧ a < 83) → H'[a]? = H[a]?) (fun p => [(3, .int (nI p)), (2, .int (bfI od p)), (1, .int (nI (cntB kp p))), (0, .ref 75)]) (fun p => sz - p) ?_ 0 H ⟨Nat.zero_le _, h, fun a _ => rfl⟩
  rintro p H1 ⟨hp, h2, h3⟩ ih
  have hcp := cntB_le kp p
  have hk2 : VersOk N kl mo pl le (odK kp od p) (spK kp od sp ss p) sz (ss + (p - cntB kp p)) := ⟨hN, hsz, by omega, fun j hj => odK_lt hk.2.2.2.1 p j hp hj, fun i hi => spK_lt hk.2.2.2.1 hk.2.2.2.2.1 p i hp hi, hk.2.2.2.2.2⟩
  have g2 := g.far h3
  refine RQ.blk 2 (pc' := 8) (lv' := [(3, .int (nI p)), (2, .int (bfI od p)), (1, .int (nI (cntB kp p))), (0, .ref 75)]) (st' := [.ref 75, .int (nI p)]) (H' := _) (kc' := 0) (ks' := 0) rfl ?_
  refine RQ.get (ci := 10) rfl h2.1 rfl rfl ?_
  by_cases hps : p < sz
  · have hod := hk.2.2.2.1 p hps
    have hk_o := hk.2.2.2.2.2 _ hod
    refine RQ.brF rfl rfl rfl (cF_ge p sz) ?_
    refine RQ.blk 1 (pc' := 15) (lv' := [(3, .int (nI p)), (2, .int (bfI od p)), (1, .int (nI (cntB kp p))), (0, .ref 75)]) (st' := [.ref 75]) (H' := _) (kc' := 0) (ks' := 0) rfl ?_
    refine RQ.get (ci := 10) rfl h2.1 rfl rfl ?_
    refine RQ.blk 1 (pc' := 19) (lv' := [(3, .int (nI p)), (2, .int (bfI od p)), (1, .int (nI (cntB kp p))), (0, .ref 75)]) (st' := [.int (nI p), .ref 82]) (H' := _) (kc' := 0) (ks' := 0) rfl ?_
    refine RQ.ialdN (j := p) rfl h2.2.2.2.2.2.2.2.1 (by omega) (by omega) ?_
    refine RQ.blk 1 (pc' := 22) (lv' := [(4, .int (nI (odK kp od p p))), (3, .int (nI p)), (2, .int (bfI od p)), (1, .int (nI (cntB kp p))), (0, .ref 75)]) (st' := []) (H' := _) (kc' := 0) (ks' := 0) rfl ?_
    rw [odK_ge p p (Nat.le_refl p)]
    have keep : kp p = true → ∀ (nw nr : Int32), RQ sc (d + 2) mr_80 99 [(6, .int nr), (5, .int nw), (4, .int (nI (od p))), (3, .int (nI p)), (2, .int (bfI od p)), (1, .int (nI (cntB kp p))), (0, .ref 75)] [] H1 0 0 (fun r => ∃ H', r = (.inl none, H', 0, 0) ∧ VersAt H' N kf kl mo pl le (alK kp od al sz) (odK kp od sz) (spK kp od sp ss sz) (cntB kp sz) (ss + (sz - cntB kp sz)) (acK kp od al ac sz) ∧ ∀ a, ¬ (74 ≤ a ∧ a < 83) → H'[a]? = H[a]?) := by
      intro hkk nw nr
      have e1 : cntB kp (p + 1) = cntB kp p + 1 := by rw [cntB, if_pos hkk]
      refine RQ.blk 1 (pc' := 100) (lv' := [(6, .int nr), (5, .int nw), (4, .int (nI (od p))), (3, .int (nI p)), (2, .int (bfI od p)), (1, .int (nI (cntB kp p))), (0, .ref 75)]) (st' := [.ref 75]) (H' := _) (kc' := 0) (ks' := 0) rfl ?_
      refine RQ.get (ci := 10) rfl h2.1 rfl rfl ?_
      refine RQ.blk 2 (pc' := 106) (lv' := [(6, .int nr), (5, .int nw), (4, .int (nI (od p))), (3, .int (nI p)), (2, .int (bfI od p)), (1, .int (nI (cntB kp p))), (0, .ref 75)]) (st' := [.int (nI (od p)), .int (nI (cntB kp p)), .ref 82]) (H' := _) (kc' := 0) (ks' := 0) rfl ?_
      refine RQ.iastN (j := cntB kp p) rfl h2.2.2.2.2.2.2.2.1 (by omega) (by omega) ?_
      refine RQ.blk 1 (pc' := 110) (lv' := [(1, .int (nI (cntB kp p) + 1)), (6, .int nr), (5, .int nw), (4, .int (nI (od p))), (3, .int (nI p)), (2, .int (bfI od p)), (0, .ref 75)]) (st' := []) (H' := _) (kc' := 0) (ks' := 0) rfl ?_
      rw [show (nI (cntB kp p) + 1 : Int32) = nI (cntB kp p + 1) from nI_add (cntB kp p) 1]
      refine RQ.blk 4 (pc' := 125) (lv' := [(3, .int (nI p + 1)), (2, .int (nI (od p))), (1, .int (nI (cntB kp p + 1))), (6, .int nr), (5, .int nw), (4, .int (nI (od p))), (0, .ref 75)]) (st' := []) (H' := _) (kc' := 0) (ks' := 0) rfl ?_
      rw [show (nI p + 1 : Int32) = nI (p + 1) from nI_add p 1]
      refine RQ.blk 1 (pc' := 6) (lv' := [(3, .int (nI (p + 1))), (2, .int (nI (od p))), (1, .int (nI (cntB kp p + 1))), (6, .int nr), (5, .int nw), (4, .int (nI (od p))), (0, .ref 75)]) (st' := []) (H' := _) (kc' := 0) (ks' := 0) rfl ?_
      have ea : alK kp od al (p + 1) = alK kp od al p := by rw [alK, if_pos hkk]
      have eo : odK kp od (p + 1) = va_up (odK kp od p) (cntB kp p) (od p) := by rw [odK, if_pos hkk]
      have es : spK kp od sp ss (p + 1) = spK kp od sp ss p := by rw [spK, if_pos hkk]
      have ec : acK kp od al ac (p + 1) = acK kp od al ac p := by rw [acK, if_pos hkk]
      have en : ss + (p + 1 - cntB kp (p + 1)) = ss + (p - cntB kp p) := by omega
      have ih := ih (p + 1)
      rw [ea, eo, es, ec, en, e1] at ih
      exact RQ.pick [0, 1, 2, 6] [3, 2, 1, 6, 5, 4, 0] rfl rfl (by decide) (ih _ ⟨by omega, ⟨(set_far (by decide)).trans h2.1, (set_far (by decide)).trans h2.2.1, (set_far (by decide)).trans h2.2.2.1, (set_far (by decide)).trans h2.2.2.2.1, (set_far (by decide)).trans h2.2.2.2.2.1, (set_far (by decide)).trans h2.2.2.2.2.2.1, (set_far (by decide)).trans h2.2.2.2.2.2.2.1, (get_set h2.2.2.2.2.2.2.2.1).trans (congrArg (fun f => some (kI N f)) up_nI), (set_far (by decide)).trans h2.2.2.2.2.2.2.2.2⟩, fun a ha => (set_far (by omega)).trans (h3 a ha)⟩ (by omega))
    have rel : kp p = false → ∀ (nw nr : Int32), RQ sc (d + 2) mr_80 113 [(6, .int nr), (5, .int nw), (4, .int (nI (od p))), (3, .int (nI p)), (2, .int (bfI od p)), (1, .int (nI (cntB kp p))), (0, .ref 75)] [] H1 0 0 (fun r => ∃ H', r = (.inl none, H', 0, 0) ∧ VersAt H' N kf kl mo pl le (alK kp od al sz) (odK kp od sz) (spK kp od sp ss sz) (cntB kp sz) (ss + (sz - cntB kp sz)) (acK kp od al ac sz) ∧ ∀ a, ¬ (74 ≤ a ∧ a < 83) → H'[a]? = H[a]?) := by
      intro hkk nw nr
      have e1 : cntB kp (p + 1) = cntB kp p := by rw [cntB, hkk]; rfl
      have hal : alK kp od al p (od p) = true → 1 ≤ acK kp od al ac p := by
        intro ha
        rw [alK_ge hinj p p (Nat.le_refl p) hps] at ha
        have h5 := acK_ge (kp := kp) (od := od) (al := al) (ac := ac) p 1 (Nat.le_trans (cntB_mono _ _ _ (by omega)) hac)
        rw [show cntB (fun j => al (od j)) (p + 1) = cntB (fun j => al (od j)) p + (if al (od p) = true then 1 else 0) from rfl, if_pos ha] at h5
        omega
      refine RQ.blk 2 (pc' := 116) (lv' := [(6, .int nr), (5, .int nw), (4, .int (nI (od p))), (3, .int (nI p)), (2, .int (bfI od p)), (1, .int (nI (cntB kp p))), (0, .ref 75)]) (st' := [.int (nI (od p)), .ref 75]) (H' := _) (kc' := 0) (ks' := 0) rfl ?_
      refine RQ.callN (st' := []) rfl rfl rfl rfl rfl rfl (args_v [.int (nI (od p))] [] rfl rfl (Nat.le_of_ble_eq_true rfl) rfl h2.1 (Nat.le_of_ble_eq_true rfl)) (rn_release h2 hk2 hod hal (by omega)) (fun H2 h4 => ?_)
      obtain ⟨h4, h5⟩ := h4
      refine RQ.blk 3 (pc' := 125) (lv' := [(3, .int (nI p + 1)), (2, .int (nI (od p))), (6, .int nr), (5, .int nw), (4, .int (nI (od p))), (1, .int (nI (cntB kp p))), (0, .ref 75)]) (st' := []) (H' := _) (kc' := 0) (ks' := 0) rfl ?_
      rw [show (nI p + 1 : Int32) = nI (p + 1) from nI_add p 1]
      refine RQ.blk 1 (pc' := 6) (lv' := [(3, .int (nI (p + 1))), (2, .int (nI (od p))), (6, .int nr), (5, .int nw), (4, .int (nI (od p))), (1, .int (nI (cntB kp p))), (0, .ref 75)]) (st' := []) (H' := _) (kc' := 0) (ks' := 0) rfl ?_
      have ea : alK kp od al (p + 1) = va_up (alK kp od al p) (od p) false := by rw [alK, if_neg (by rw [hkk]; decide)]
      have eo : odK kp od (p + 1) = odK kp od p := by rw [odK, if_neg (by rw [hkk]; decide)]
      have es : spK kp od sp ss (p + 1) = va_up (spK kp od sp ss p) (ss + (p - cntB kp p)) (od p) := by rw [spK, if_neg (by rw [hkk]; decide)]
      have ec : acK kp od al ac (p + 1) = acUp (alK kp od al p (od p)) false (acK kp od al ac p) := by rw [acK, if_neg (by rw [hkk]; decide), alK_ge hinj p p (Nat.le_refl p) hps]
      have en : ss + (p + 1 - cntB kp (p + 1)) = ss + (p - cntB kp p) + 1 := by omega
      have ih := ih (p + 1)
      rw [ea, eo, es, ec, en, e1] at ih
      exact RQ.pick [0, 1, 5, 6] [3, 2, 6, 5, 4, 1, 0] rfl rfl (by decide) (ih H2 ⟨by omega, h4, fun a ha => (h5 a ha).trans (h3 a ha)⟩ (by omega))
    have dec : ∀ (nr : Int32), RQ sc (d + 2) mr_80 71 [(6, .int nr), (5, .int (if nwB kf kl od p then 1 else 0)), (4, .int (nI (od p))), (3, .int (nI p)), (2, .int (bfI od p)), (1, .int (nI (cntB kp p))), (0, .ref 75)] [.int (if ndB op sm kf kl mo le od (-1) p then 1 else 0)] H1 0 0 (fun r => ∃ H', r = (.inl none, H', 0, 0) ∧ VersAt H' N kf kl mo pl le (alK kp od al sz) (odK kp od sz) (spK kp od sp ss sz) (cntB kp sz) (ss + (sz - cntB kp sz)) (acK kp od al ac sz) ∧ ∀ a, ¬ (74 ≤ a ∧ a < 83) → H'[a]? = H[a]?) := by
      intro nr
      have ek : kp p = (ndB op sm kf kl mo le od (-1) p || (nwB kf kl od p && al (od p) && decide (le (od p) = none))) := by rw [← hkp]; rfl
      cases hn : ndB op sm kf kl mo le od (-1) p with
      | true =>
        refine RQ.brT rfl rfl rfl (by decide) ?_
        exact keep (by rw [ek, hn]; rfl) _ _
      | false =>
        refine RQ.brF rfl rfl rfl (by decide) ?_
        refine RQ.blk 1 (pc' := 76) (lv' := [(6, .int nr), (5, .int (if nwB kf kl od p then 1 else 0)), (4, .int (nI (od p))), (3, .int (nI p)), (2, .int (bfI od p)), (1, .int (nI (cntB kp p))), (0, .ref 75)]) (st' := [.int (if nwB kf kl od p then 1 else 0)]) (H' := _) (kc' := 0) (ks' := 0) rfl ?_
        cases hw : nwB kf kl od p with
        | false =>
          have rel := rel (by rw [ek, hn, hw]; rfl) (if nwB kf kl od p then 1 else 0) nr
          rw [hw] at rel
          refine RQ.brT rfl rfl rfl (by decide) ?_
          exact rel
        | true =>
          have rel := fun e => rel e (if nwB kf kl od p then 1 else 0) nr
          have keep := fun e => keep e (if nwB kf kl od p then 1 else 0) nr
          rw [hw] at rel keep
          refine RQ.brF rfl rfl rfl (by decide) ?_
          refine RQ.blk 1 (pc' := 80) (lv' := [(6, .int nr), (5, .int (if true then 1 else 0)), (4, .int (nI (od p))), (3, .int (nI p)), (2, .int (bfI od p)), (1, .int (nI (cntB kp p))), (0, .ref 75)]) (st' := [.ref 75]) (H' := _) (kc' := 0) (ks' := 0) rfl ?_
          refine RQ.get (ci := 10) rfl h2.1 rfl rfl ?_
          refine RQ.blk 1 (pc' := 85) (lv' := [(6, .int nr), (5, .int (if true then 1 else 0)), (4, .int (nI (od p))), (3, .int (nI p)), (2, .int (bfI od p)), (1, .int (nI (cntB kp p))), (0, .ref 75)]) (st' := [.int (nI (od p)), .ref 81]) (H' := _) (kc' := 0) (ks' := 0) rfl ?_
          refine RQ.zaldN (j := od p) rfl h2.2.2.2.2.2.2.1 (by omega) (by omega) ?_
          rw [alK_ge hinj p p (Nat.le_refl p) hps]
          cases ha : al (od p) with
          | false =>
            refine RQ.brT rfl rfl rfl (by decide) ?_
            exact rel (by rw [ek, hn, hw, ha]; rfl)
          | true =>
            refine RQ.brF rfl rfl rfl (by decide) ?_
            refine RQ.blk 1 (pc' := 90) (lv' := [(6, .int nr), (5, .int (if true then 1 else 0)), (4, .int (nI (od p))), (3, .int (nI p)), (2, .int (bfI od p)), (1, .int (nI (cntB kp p))), (0, .ref 75)]) (st' := [.ref 75]) (H' := _) (kc' := 0) (ks' := 0) rfl ?_
            refine RQ.get (ci := 10) rfl h2.1 rfl rfl ?_
            refine RQ.blk 1 (pc' := 95) (lv' := [(6, .int nr), (5, .int (if true then 1 else 0)), (4, .int (nI (od p))), (3, .int (nI p)), (2, .int (bfI od p)), (1, .int (nI (cntB kp p))), (0, .ref 75)]) (st' := [.int (nI (od p)), .ref 80]) (H' := _) (kc' := 0) (ks' := 0) rfl ?_
            refine RQ.ialdN (j := od p) rfl h2.2.2.2.2.2.1 (by omega) (by omega) ?_
            by_cases hl : le (od p) = none
            ·
              refine RQ.brF rfl rfl rfl (decide_eq_false (Int32.not_le.mpr ((lI_neg (by omega)).mpr hl))) ?_
              exact keep (by rw [ek, hn, hw, ha, decide_eq_true hl]; rfl)
            ·
              refine RQ.brT rfl rfl rfl (decide_eq_true (Int32.not_lt.mp (fun e => hl ((lI_neg (by omega)).mp e)))) ?_
              exact rel (by rw [ek, hn, hw, ha, decide_eq_false hl]; rfl)
    cases p with
    | zero =>
      refine RQ.blk 1 (pc' := 23) (lv' := [(4, .int (nI (od 0))), (3, .int (nI 0)), (2, .int (-1)), (1, .int (nI (cntB kp 0))), (0, .ref 75)]) (st' := [.int (-1)]) (H' := _) (kc' := 0) (ks' := 0) rfl ?_
      refine RQ.brT rfl rfl rfl (by decide) ?_
      refine RQ.blk 4 (pc' := 45) (lv' := [(5, .int 1), (4, .int (nI (od 0))), (3, .int (nI 0)), (2, .int (-1)), (1, .int (nI (cntB kp 0))), (0, .ref 75)]) (st' := [.int 1]) (H' := _) (kc' := 0) (ks' := 0) rfl ?_
      refine RQ.brF rfl rfl rfl (by decide) ?_
      refine RQ.blk 8 (pc' := 68) (lv' := [(6, .int 0), (5, .int 1), (4, .int (nI (od 0))), (3, .int (nI 0)), (2, .int (-1)), (1, .int (nI (cntB kp 0))), (0, .ref 75)]) (st' := [.int (-1), .int 0, .int 1, .int (nI (od 0)), .ref 75]) (H' := _) (kc' := 0) (ks' := 0) rfl ?_
      refine RQ.call (v := some (.int (if ndB op sm kf kl mo le od (-1) 0 then 1 else 0))) (st' := []) rfl rfl rfl rfl rfl rfl (args_v [.int (-1), .int 0, .int 1, .int (nI (od 0))] [] rfl rfl (Nat.le_of_ble_eq_true rfl) rfl h2.1 (Nat.le_of_ble_eq_true rfl)) (rc_isNeeded (nw := true) (nr := 0) g2 hsm h2 hk2 hod (by omega)) ?_
      exact dec 0
    | succ p =>
      have hod1 := hk.2.2.2.1 p (by omega)
      have hk_1 := hk.2.2.2.2.2 _ hod1
      refine RQ.blk 1 (pc' := 23) (lv' := [(4, .int (nI (od (p + 1)))), (3, .int (nI (p + 1))), (2, .int (nI (od p))), (1, .int (nI (cntB kp (p + 1)))), (0, .ref 75)]) (st' := [.int (nI (od p))]) (H' := _) (kc' := 0) (ks' := 0) rfl ?_
      refine RQ.brF rfl rfl rfl (cF_lt (od p) 0) ?_
      refine RQ.blk 3 (pc' := 30) (lv' := [(4, .int (nI (od (p + 1)))), (3, .int (nI (p + 1))), (2, .int (nI (od p))), (1, .int (nI (cntB kp (p + 1)))), (0, .ref 75)]) (st' := [.int (nI (od (p + 1))), .int (nI (od p)), .ref 75]) (H' := _) (kc' := 0) (ks' := 0) rfl ?_
      refine RQ.call (v := some (.int (if sl kf (od p * 41) (kl (od p)) = sl kf (od (p + 1) * 41) (kl (od (p + 1))) then 1 else 0))) (st' := []) rfl rfl rfl rfl rfl rfl (args_v [.int (nI (od (p + 1))), .int (nI (od p))] [] rfl rfl (Nat.le_of_ble_eq_true rfl) rfl h2.1 (Nat.le_of_ble_eq_true rfl)) (rc_sameKey h2 hk2 hod1 hod) ?_
      by_cases he : sl kf (od p * 41) (kl (od p)) = sl kf (od (p + 1) * 41) (kl (od (p + 1)))
      ·
        rw [if_pos he]
        refine RQ.brT rfl rfl rfl (by decide) ?_
        refine RQ.blk 3 (pc' := 45) (lv' := [(5, .int 0), (4, .int (nI (od (p + 1)))), (3, .int (nI (p + 1))), (2, .int (nI (od p))), (1, .int (nI (cntB kp (p + 1)))), (0, .ref 75)]) (st' := [.int 0]) (H' := _) (kc' := 0) (ks' := 0) rfl ?_
        refine RQ.brT rfl rfl rfl (by decide) ?_
        refine RQ.blk 1 (pc' := 53) (lv' := [(5, .int 0), (4, .int (nI (od (p + 1)))), (3, .int (nI (p + 1))), (2, .int (nI (od p))), (1, .int (nI (cntB kp (p + 1)))), (0, .ref 75)]) (st' := [.ref 75]) (H' := _) (kc' := 0) (ks' := 0) rfl ?_
        refine RQ.get (ci := 10) rfl h2.1 rfl rfl ?_
        refine RQ.blk 1 (pc' := 57) (lv' := [(5, .int 0), (4, .int (nI (od (p + 1)))), (3, .int (nI (p + 1))), (2, .int (nI (od p))), (1, .int (nI (cntB kp (p + 1)))), (0, .ref 75)]) (st' := [.int (nI (od p)), .ref 78]) (H' := _) (kc' := 0) (ks' := 0) rfl ?_
        refine RQ.ialdN (j := od p) rfl h2.2.2.2.1 (by omega) (by omega) ?_
        refine RQ.blk 6 (pc' := 68) (lv' := [(6, .int (nI (mo (od p)))), (5, .int 0), (4, .int (nI (od (p + 1)))), (3, .int (nI (p + 1))), (2, .int (nI (od p))), (1, .int (nI (cntB kp (p + 1)))), (0, .ref 75)]) (st' := [.int (-1), .int (nI (mo (od p))), .int 0, .int (nI (od (p + 1))), .ref 75]) (H' := _) (kc' := 0) (ks' := 0) rfl ?_
        have e1 : nwB kf kl od (p + 1) = false := by rw [nwB, decide_eq_true he]; rfl
        have e2 : nrB kf kl mo od (p + 1) = mo (od p) := by rw [nrB, e1]; rfl
        have e3 : ndB op sm kf kl mo le od (-1) (p + 1) = isN op sm (decide (ub (kf (od (p + 1) * 41)) = 0)) (decide (le (od (p + 1)) = none)) (mo (od (p + 1))) false (mo (od p)) (-1) := by unfold ndB; rw [e1, e2]
        have dec := dec (nI (mo (od p)))
        rw [e3, e1] at dec
        refine RQ.call (v := some (.int (if isN op sm (decide (ub (kf (od (p + 1) * 41)) = 0)) (decide (le (od (p + 1)) = none)) (mo (od (p + 1))) false (mo (od p)) (-1) then 1 else 0))) (st' := []) rfl rfl rfl rfl rfl rfl (args_v [.int (-1), .int (nI (mo (od p))), .int 0, .int (nI (od (p + 1)))] [] rfl rfl (Nat.le_of_ble_eq_true rfl) rfl h2.1 (Nat.le_of_ble_eq_true rfl)) (rc_isNeeded (nw := false) (nr := mo (od p)) g2 hsm h2 hk2 hod (by omega)) ?_
        exact dec
      ·
        rw [if_neg he]
        refine RQ.brF rfl rfl rfl (by decide) ?_
        refine RQ.blk 4 (pc' := 45) (lv' := [(5, .int 1), (4, .int (nI (od (p + 1)))), (3, .int (nI (p + 1))), (2, .int (nI (od p))), (1, .int (nI (cntB kp (p + 1)))), (0, .ref 75)]) (st' := [.int 1]) (H' := _) (kc' := 0) (ks' := 0) rfl ?_
        refine RQ.brF rfl rfl rfl (by decide) ?_
        refine RQ.blk 8 (pc' := 68) (lv' := [(6, .int 0), (5, .int 1), (4, .int (nI (od (p + 1)))), (3, .int (nI (p + 1))), (2, .int (nI (od p))), (1, .int (nI (cntB kp (p + 1)))), (0, .ref 75)]) (st' := [.int (-1), .int 0, .int 1, .int (nI (od (p + 1))), .ref 75]) (H' := _) (kc' := 0) (ks' := 0) rfl ?_
        have e1 : nwB kf kl od (p + 1) = true := by rw [nwB, decide_eq_false he]; rfl
        have e2 : nrB kf kl mo od (p + 1) = 0 := by rw [nrB, e1]; rfl
        have e3 : ndB op sm kf kl mo le od (-1) (p + 1) = isN op sm (decide (ub (kf (od (p + 1) * 41)) = 0)) (decide (le (od (p + 1)) = none)) (mo (od (p + 1))) true (0) (-1) := by unfold ndB; rw [e1, e2]
        have dec := dec (nI (0))
        rw [e3, e1] at dec
        refine RQ.call (v := some (.int (if isN op sm (decide (ub (kf (od (p + 1) * 41)) = 0)) (decide (le (od (p + 1)) = none)) (mo (od (p + 1))) true (0) (-1) then 1 else 0))) (st' := []) rfl rfl rfl rfl rfl rfl (args_v [.int (-1), .int 0, .int 1, .int (nI (od (p + 1)))] [] rfl rfl (Nat.le_of_ble_eq_true rfl) rfl h2.1 (Nat.le_of_ble_eq_true rfl)) (rc_isNeeded (nw := true) (nr := 0) g2 hsm h2 hk2 hod (by omega)) ?_
        exact dec
  · have hpe : sz = p := by omega
    subst hpe
    refine RQ.brT rfl rfl rfl (cT_ge sz sz) ?_
    refine RQ.blk 2 (pc' := 130) (lv' := [(3, .int (nI sz)), (2, .int (bfI od sz)), (1, .int (nI (cntB kp sz))), (0, .ref 75)]) (st' := [.int (nI (cntB kp sz)), .ref 75]) (H' := _) (kc' := 0) (ks' := 0) rfl ?_
    refine RQ.put (ci := 10) rfl h2.1 rfl rfl (Nat.le_of_ble_eq_true rfl) ?_
    exact RQ.done (c := 0) (s := 0) rfl rfl rfl rfl ⟨_, rfl, ⟨get_set h2.1, (set_far (by decide)).trans h2.2.1, (set_far (by decide)).trans h2.2.2.1, (set_far (by decide)).trans h2.2.2.2.1, (set_far (by decide)).trans h2.2.2.2.2.1, (set_far (by decide)).trans h2.2.2.2.2.2.1, (set_far (by decide)).trans h2.2.2.2.2.2.2.1, (set_far (by decide)).trans h2.2.2.2.2.2.2.2.1, (set_far (by decide)).trans h2.2.2.2.2.2.2.2.2⟩, fun a ha => (set_far (by omega)).trans (h3 a ha)⟩
