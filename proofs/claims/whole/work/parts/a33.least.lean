/-! ===== the cursor whose entry comes first; class; written by wip/gen/least.py ===== -/
/-- the entry at which a cursor stands, if any -/
def CurH (H : aH) (q : Nat) (z : Option aT) : Prop := ∃ g rn of, H[q + 1]? = some (kB 41 g) ∧ ((∃ e, z = some e ∧ H[q]? = some (kO 2 (curF q rn of (nI e.1.length) (nI e.2.1) (nI e.2.2.1) (lI e.2.2.2) 0)) ∧ sl g 0 e.1.length = e.1) ∨ (z = none ∧ ∃ kl mo pl le, H[q]? = some (kO 2 (curF q rn of kl mo pl le 1))))
theorem CurI.head {H : aH} {q r : Nat} {x : aR} {es : List aT} {i : Nat} (h : CurI H q r x es i) : CurH H q es[i]? := by
  obtain ⟨g, a1, ⟨e, a2, a3, a4⟩ | ⟨a2, kl, mo, pl, le, a3⟩⟩ := h
  · exact ⟨g, _, _, a1, Or.inl ⟨e, a2, a3, a4⟩⟩
  · exact ⟨g, _, _, a1, Or.inr ⟨by rw [a2]; exact List.getElem?_eq_none (Nat.le_refl _), kl, mo, pl, le, a3⟩⟩
/-- of the cursors from f on the one whose entry comes first -/
def leastN (hd : Nat → Option aT) (f : Nat) : Nat → Option (Nat × aT)
  | 0 => none
  | n + 1 => match hd (f + n) with
    | none => leastN hd f n
    | some e => match leastN hd f n with
      | none => some (f + n, e)
      | some p => if befE e p.2 = true then some (f + n, e) else some p
theorem least_mem {hd : Nat → Option aT} {f : Nat} : ∀ {n : Nat} {p : Nat × aT}, leastN hd f n = some p → f ≤ p.1 ∧ p.1 < f + n ∧ hd p.1 = some p.2
  | 0, p, h => by cases h
  | n + 1, p, h => by
    rw [leastN] at h
    cases h1 : hd (f + n) with
    | none => rw [h1] at h; have := least_mem (n := n) h; exact ⟨this.1, by omega, this.2.2⟩
    | some e =>
      rw [h1] at h
      dsimp only at h
      cases h2 : leastN hd f n with
      | none => rw [h2] at h; dsimp only at h; have h := Option.some.inj h; rw [← h]; exact ⟨by omega, by show f + n < f + (n + 1); omega, h1⟩
      | some p2 =>
        rw [h2] at h
        dsimp only at h
        by_cases hb : befE e p2.2 = true
        · rw [if_pos hb] at h; have h := Option.some.inj h; rw [← h]; exact ⟨by omega, by show f + n < f + (n + 1); omega, h1⟩
        · rw [if_neg hb] at h; have h := Option.some.inj h; rw [← h]; have := least_mem (n := n) h2; exact ⟨this.1, by omega, this.2.2⟩
theorem rc_least {sc : Nat × (Nat → Int32)} {d f en lm bf gm : Nat} {H : aH} {cu : Nat → Option Nat} {hd : Nat → Option aT} (hT : H[136]? = some (kO 8 (tabF lm bf gm))) (hCu : H[137]? = some (kQ 6 24 cu)) (hcu : ∀ c, c < 24 → cu c = some (142 + 2 * c)) (hfe : f ≤ en) (he24 : en ≤ 24) (hcs : ∀ c, f ≤ c → c < en → CurH H (142 + 2 * c) (hd c)) (hE : ∀ c e, f ≤ c → c < en → hd c = some e → EOk e) : RC sc (d + 2) mr_125 [.ref 137, .int (nI f), .int (nI en)] H (.inl (some (.int (lI ((leastN hd f (en - f)).map (fun p => p.1)))))) H 0 0 := by
  refine RC.of ?_
  refine RQ.blk 4 (pc' := 5) (lv' := [(4, .int (nI f)), (3, .int (-1)), (0, .ref 137), (1, .int (nI f)), (2, .int (nI en))]) (st' := []) (H' := _) (kc' := 0) (ks' := 0) rfl ?_
  have key : ∀ i H', (f ≤ i ∧ i ≤ en ∧ H' = H) → RQ sc (d + 2) mr_125 5 [(4, .int (nI i)), (3, .int (lI ((leastN hd f (i - f)).map (fun p => p.1)))), (0, .ref 137), (1, .int (nI f)), (2, .int (nI en))] [] H' 0 0 (fun r => r = (.inl (some (.int (lI ((leastN hd f (en - f)).map (fun p => p.1))))), H, 0, 0)) := by
    refine RQ.while (S := Nat) (pc := 5) (fun i H' => f ≤ i ∧ i ≤ en ∧ H' = H) (fun i => [(4, .int (nI i)), (3, .int (lI ((leastN hd f (i - f)).map (fun p => p.1)))), (0, .ref 137), (1, .int (nI f)), (2, .int (nI en))]) (fun i => en - i) ?_
    rintro i H1 ⟨hi1, hi2, eH⟩ ih
    rw [eH]
    by_cases hie : i < en
    ·
      have e1 : i + 1 - f = (i - f) + 1 := by omega
      have e2 : f + (i - f) = i := by omega
      obtain ⟨g, rn, of, hg, hh⟩ := hcs i hi1 hie
      refine RQ.blk 2 (pc' := 8) (lv' := [(4, .int (nI i)), (3, .int (lI ((leastN hd f (i - f)).map (fun p => p.1)))), (0, .ref 137), (1, .int (nI f)), (2, .int (nI en))]) (st' := [.int (nI en), .int (nI i)]) (H' := _) (kc' := 0) (ks' := 0) rfl ?_
      refine RQ.brF rfl rfl rfl (cF_ge i en) ?_
      refine RQ.blk 1 (pc' := 12) (lv' := [(4, .int (nI i)), (3, .int (lI ((leastN hd f (i - f)).map (fun p => p.1)))), (0, .ref 137), (1, .int (nI f)), (2, .int (nI en))]) (st' := [.ref 137]) (H' := _) (kc' := 0) (ks' := 0) rfl ?_
      refine RQ.get (ci := 8) rfl hT rfl rfl ?_
      refine RQ.blk 1 (pc' := 17) (lv' := [(4, .int (nI i)), (3, .int (lI ((leastN hd f (i - f)).map (fun p => p.1)))), (0, .ref 137), (1, .int (nI f)), (2, .int (nI en))]) (st' := [.int (nI i), .ref 138]) (H' := _) (kc' := 0) (ks' := 0) rfl ?_
      refine RQ.aaldN (j := i) rfl hCu (by omega) (by decide) (by decide) (hcu i (by omega)) ?_
      rcases hh with ⟨e, hz, hq, hk⟩ | ⟨hz, kl, mo, pl, le, hq⟩
      ·
        have hEe := hE i e hi1 hie hz
        refine RQ.get (ci := 2) rfl hq rfl rfl ?_
        refine RQ.brF rfl rfl rfl (by decide) ?_
        refine RQ.blk 1 (pc' := 25) (lv' := [(4, .int (nI i)), (3, .int (lI ((leastN hd f (i - f)).map (fun p => p.1)))), (0, .ref 137), (1, .int (nI f)), (2, .int (nI en))]) (st' := [.int (lI ((leastN hd f (i - f)).map (fun p => p.1)))]) (H' := _) (kc' := 0) (ks' := 0) rfl ?_
        cases hl : leastN hd f (i - f) with
        | none =>
          rw [show lI ((none : Option (Nat × aT)).map (fun p => p.1)) = -1 from rfl]
          refine RQ.brT rfl rfl rfl (by decide) ?_
          refine RQ.blk 3 (pc' := 54) (lv' := [(4, .int (nI i + 1)), (3, .int (nI i)), (0, .ref 137), (1, .int (nI f)), (2, .int (nI en))]) (st' := []) (H' := _) (kc' := 0) (ks' := 0) rfl ?_
          rw [show (nI i + 1 : Int32) = nI (i + 1) from nI_add i 1]
          refine RQ.blk 1 (pc' := 5) (lv' := [(4, .int (nI (i + 1))), (3, .int (nI i)), (0, .ref 137), (1, .int (nI f)), (2, .int (nI en))]) (st' := []) (H' := _) (kc' := 0) (ks' := 0) rfl ?_
          refine RQ.pick (a := [(4, .int (nI (i + 1))), (3, .int (nI i)), (0, .ref 137), (1, .int (nI f)), (2, .int (nI en))]) [0, 1, 2, 3, 4] [4, 3, 0, 1, 2] rfl rfl (by decide) ?_
          have hs : leastN hd f (i + 1 - f) = some (i, e) := by rw [e1, leastN, e2, hz]; dsimp only; rw [hl]
          have h9 := ih (i + 1) H ⟨by omega, by omega, rfl⟩ (by omega)
          rw [hs] at h9
          exact h9
        | some p =>
          obtain ⟨m1, m2, m3⟩ := least_mem hl
          have hEp := hE p.1 p.2 m1 (by omega) m3
          obtain ⟨g2, rn2, of2, hg2, hh2⟩ := hcs p.1 m1 (by omega)
          obtain ⟨e', hz', hq2, hk2⟩ := hh2.resolve_right (fun e9 => by rw [m3] at e9; cases e9.1)
          rw [m3] at hz'
          have hz' := Option.some.inj hz'
          subst hz'
          rw [show lI ((some p).map (fun p => p.1)) = nI p.1 from rfl]
          refine RQ.brF rfl rfl rfl (cF_lt p.1 0) ?_
          refine RQ.blk 2 (pc' := 30) (lv' := [(4, .int (nI i)), (3, .int (nI p.1)), (0, .ref 137), (1, .int (nI f)), (2, .int (nI en))]) (st' := [.ref 137, .ref 137]) (H' := _) (kc' := 0) (ks' := 0) rfl ?_
          refine RQ.get (ci := 8) rfl hT rfl rfl ?_
          refine RQ.blk 1 (pc' := 35) (lv' := [(4, .int (nI i)), (3, .int (nI p.1)), (0, .ref 137), (1, .int (nI f)), (2, .int (nI en))]) (st' := [.int (nI i), .ref 138, .ref 137]) (H' := _) (kc' := 0) (ks' := 0) rfl ?_
          refine RQ.aaldN (j := i) rfl hCu (by omega) (by decide) (by decide) (hcu i (by omega)) ?_
          refine RQ.blk 1 (pc' := 37) (lv' := [(4, .int (nI i)), (3, .int (nI p.1)), (0, .ref 137), (1, .int (nI f)), (2, .int (nI en))]) (st' := [.ref 137, .ref ((142 + 2 * i) + 1), .ref 137]) (H' := _) (kc' := 0) (ks' := 0) rfl ?_
          refine RQ.get (ci := 8) rfl hT rfl rfl ?_
          refine RQ.blk 1 (pc' := 41) (lv' := [(4, .int (nI i)), (3, .int (nI p.1)), (0, .ref 137), (1, .int (nI f)), (2, .int (nI en))]) (st' := [.int (nI p.1), .ref 138, .ref ((142 + 2 * i) + 1), .ref 137]) (H' := _) (kc' := 0) (ks' := 0) rfl ?_
          refine RQ.aaldN (j := p.1) rfl hCu (by omega) (by decide) (by decide) (hcu p.1 (by omega)) ?_
          refine RQ.call (v := some (.int (if befE (sl g 0 e.1.length, e.2.1, e.2.2.1, e.2.2.2) (sl g2 0 p.2.1.length, p.2.2.1, p.2.2.2.1, p.2.2.2.2) = true then 1 else 0))) (st' := []) rfl rfl rfl rfl rfl rfl (args_v [.ref ((142 + 2 * p.1) + 1), .ref ((142 + 2 * i) + 1)] [] rfl rfl (Nat.le_of_ble_eq_true rfl) rfl hT (Nat.le_of_ble_eq_true rfl)) (rc_isBefore (m := e.2.1) (m2 := p.2.2.1) (n := e.1.length) (n2 := p.2.1.length) (pp := e.2.2.1) (pp2 := p.2.2.2.1) (l := e.2.2.2) (l2 := p.2.2.2.2) hq hg hEe.2.1 hEe.2.2.1 (by have := hEe.2.2.2.1; omega) (by have := hEe.2.2.2.2.1; omega) hq2 hg2 hEp.2.1 hEp.2.2.1 (by have := hEp.2.2.2.1; omega) (by have := hEp.2.2.2.2.1; omega)) ?_
          rw [hk, hk2, show ((e.1, e.2.1, e.2.2.1, e.2.2.2) : aT) = e from rfl, show ((p.2.1, p.2.2.1, p.2.2.2.1, p.2.2.2.2) : aT) = p.2 from rfl]
          by_cases hb : befE e p.2 = true
          ·
            rw [if_pos hb]
            refine RQ.brF rfl rfl rfl (by decide) ?_
            refine RQ.blk 3 (pc' := 54) (lv' := [(4, .int (nI i + 1)), (3, .int (nI i)), (0, .ref 137), (1, .int (nI f)), (2, .int (nI en))]) (st' := []) (H' := _) (kc' := 0) (ks' := 0) rfl ?_
            rw [show (nI i + 1 : Int32) = nI (i + 1) from nI_add i 1]
            refine RQ.blk 1 (pc' := 5) (lv' := [(4, .int (nI (i + 1))), (3, .int (nI i)), (0, .ref 137), (1, .int (nI f)), (2, .int (nI en))]) (st' := []) (H' := _) (kc' := 0) (ks' := 0) rfl ?_
            refine RQ.pick (a := [(4, .int (nI (i + 1))), (3, .int (nI i)), (0, .ref 137), (1, .int (nI f)), (2, .int (nI en))]) [0, 1, 2, 3, 4] [4, 3, 0, 1, 2] rfl rfl (by decide) ?_
            have hs : leastN hd f (i + 1 - f) = some (i, e) := by rw [e1, leastN, e2, hz]; dsimp only; rw [hl]; dsimp only; rw [if_pos hb]
            have h9 := ih (i + 1) H ⟨by omega, by omega, rfl⟩ (by omega)
            rw [hs] at h9
            exact h9
          ·
            rw [if_neg hb]
            refine RQ.brT rfl rfl rfl (by decide) ?_
            refine RQ.blk 1 (pc' := 54) (lv' := [(4, .int (nI i + 1)), (3, .int (nI p.1)), (0, .ref 137), (1, .int (nI f)), (2, .int (nI en))]) (st' := []) (H' := _) (kc' := 0) (ks' := 0) rfl ?_
            rw [show (nI i + 1 : Int32) = nI (i + 1) from nI_add i 1]
            refine RQ.blk 1 (pc' := 5) (lv' := [(4, .int (nI (i + 1))), (3, .int (nI p.1)), (0, .ref 137), (1, .int (nI f)), (2, .int (nI en))]) (st' := []) (H' := _) (kc' := 0) (ks' := 0) rfl ?_
            refine RQ.pick (a := [(4, .int (nI (i + 1))), (3, .int (nI p.1)), (0, .ref 137), (1, .int (nI f)), (2, .int (nI en))]) [0, 1, 2, 3, 4] [4, 3, 0, 1, 2] rfl rfl (by decide) ?_
            have hs : leastN hd f (i + 1 - f) = some p := by rw [e1, leastN, e2, hz]; dsimp only; rw [hl]; dsimp only; rw [if_neg hb]
            have h9 := ih (i + 1) H ⟨by omega, by omega, rfl⟩ (by omega)
            rw [hs] at h9
            exact h9
      ·
        refine RQ.get (ci := 2) rfl hq rfl rfl ?_
        refine RQ.brT rfl rfl rfl (by decide) ?_
        refine RQ.blk 1 (pc' := 54) (lv' := [(4, .int (nI i + 1)), (3, .int (lI ((leastN hd f (i - f)).map (fun p => p.1)))), (0, .ref 137), (1, .int (nI f)), (2, .int (nI en))]) (st' := []) (H' := _) (kc' := 0) (ks' := 0) rfl ?_
        rw [show (nI i + 1 : Int32) = nI (i + 1) from nI_add i 1]
        refine RQ.blk 1 (pc' := 5) (lv' := [(4, .int (nI (i + 1))), (3, .int (lI ((leastN hd f (i - f)).map (fun p => p.1)))), (0, .ref 137), (1, .int (nI f)), (2, .int (nI en))]) (st' := []) (H' := _) (kc' := 0) (ks' := 0) rfl ?_
        refine RQ.pick (a := [(4, .int (nI (i + 1))), (3, .int (lI ((leastN hd f (i - f)).map (fun p => p.1)))), (0, .ref 137), (1, .int (nI f)), (2, .int (nI en))]) [0, 1, 2, 3, 4] [4, 3, 0, 1, 2] rfl rfl (by decide) ?_
        have hs : leastN hd f (i + 1 - f) = leastN hd f (i - f) := by rw [e1, leastN, e2, hz]
        rw [← hs]
        exact ih (i + 1) H ⟨by omega, by omega, rfl⟩ (by omega)
    ·
      refine RQ.blk 2 (pc' := 8) (lv' := [(4, .int (nI i)), (3, .int (lI ((leastN hd f (i - f)).map (fun p => p.1)))), (0, .ref 137), (1, .int (nI f)), (2, .int (nI en))]) (st' := [.int (nI en), .int (nI i)]) (H' := _) (kc' := 0) (ks' := 0) rfl ?_
      refine RQ.brT rfl rfl rfl (cT_ge i en) ?_
      refine RQ.blk 1 (pc' := 58) (lv' := [(4, .int (nI i)), (3, .int (lI ((leastN hd f (i - f)).map (fun p => p.1)))), (0, .ref 137), (1, .int (nI f)), (2, .int (nI en))]) (st' := [.int (lI ((leastN hd f (i - f)).map (fun p => p.1)))]) (H' := _) (kc' := 0) (ks' := 0) rfl ?_
      have ei : i = en := by omega
      exact RQ.done (c := 0) (s := 0) rfl rfl rfl rfl (by rw [ei])
  have h9 := key f H ⟨Nat.le_refl _, hfe, rfl⟩
  rw [Nat.sub_self] at h9
  exact h9
