/-! ===== the abstract machine stands for the machine: branches, ends, calls, and the whole run ===== -/
section BR
variable {l : Launch} {kd : Nat → ClassId} {D : va_G} {z : tZ} {M : aM} {d pc : Nat} {lv : aL} {st : List Value} {H : aH} {kc ks : Nat} {r : tO × aH × Nat × Nat} {st' : List Value} {oi nL kk0 : Nat} {ret : Option FieldType} {raw I : Instr} {len : Nat}
set_option maxHeartbeats 4000000 in
theorem rz_B {X : Bool × Nat × List Value} (hz : rz oi nL kk0 ret pc raw len = some I) (hb : stB st I = some X) :
    (∃ c o, raw = .ifCond c o ∧ len = 3 ∧ 0 ≤ (pc : Int) + o ∧ I = .ifCond c ((pc : Int) + o)) ∨ (∃ c o, raw = .if_icmp c o ∧ len = 3 ∧ 0 ≤ (pc : Int) + o ∧ I = .if_icmp c ((pc : Int) + o)) ∨
    (∃ o, raw = .ifnull o ∧ len = 3 ∧ 0 ≤ (pc : Int) + o ∧ I = .ifnull ((pc : Int) + o)) ∨ ∃ o, raw = .ifnonnull o ∧ len = 3 ∧ 0 ≤ (pc : Int) + o ∧ I = .ifnonnull ((pc : Int) + o) := by
  unfold rz at hz
  split at hz
  all_goals first
    | (cases hz; done)
    | (cases hz; cases (show (none : Option (Bool × Nat × List Value)) = _ from hb); done)
    | (obtain ⟨h, hz⟩ := cond_true hz; cases hz; first
        | (cases (show (none : Option (Bool × Nat × List Value)) = _ from hb); done)
        | exact Or.inl ⟨_, _, rfl, rfl, of_decide_eq_true h, rfl⟩
        | exact Or.inr (Or.inl ⟨_, _, rfl, rfl, of_decide_eq_true h, rfl⟩)
        | exact Or.inr (Or.inr (Or.inl ⟨_, rfl, rfl, of_decide_eq_true h, rfl⟩))
        | exact Or.inr (Or.inr (Or.inr ⟨_, rfl, rfl, of_decide_eq_true h, rfl⟩)))
    | (obtain ⟨n, h1, h2⟩ := map_some' hz; cases h2; cases (show (none : Option (Bool × Nat × List Value)) = _ from hb); done)
    | (split at hz <;> first | (cases hz; done) | (cases hz; cases (show (none : Option (Bool × Nat × List Value)) = _ from hb); done) | (obtain ⟨h, hz⟩ := cond_true hz; cases hz; cases (show (none : Option (Bool × Nat × List Value)) = _ from hb); done) | (split at hz <;> first | (cases hz; done) | (obtain ⟨h, hz⟩ := cond_true hz; cases hz; cases (show (none : Option (Bool × Nat × List Value)) = _ from hb); done)))
theorem br_snd {b : Bool} {t : Nat} (hd : decode (mC M) pc = .ok (raw, len)) (hz : rz oi nL kk0 ret pc raw len = some I) (hb : stB st I = some (b, t, st'))
    (kt : b = true → Pt l kd D z M d t lv st' H kc ks r) (kf : b = false → Pt l kd D z M d (pc + len) lv st' H kc ks r) : Pt l kd D z M d pc lv st H kc ks r := by
  intro A S hR h1 h2 rm Q f1 f2 f3 f4 hQ
  rcases rz_B hz hb with ⟨c, o, rfl, rfl, h0, rfl⟩ | ⟨c, o, rfl, rfl, h0, rfl⟩ | ⟨o, rfl, rfl, h0, rfl⟩ | ⟨o, rfl, rfl, h0, rfl⟩
  · unfold stB at hb
    dsimp only at hb
    split at hb
    · rename_i x s0
      simp only [Option.some.injEq, Prod.mk.injEq] at hb
      obtain ⟨e1, e2, e3⟩ := hb
      subst e2 e3
      have T : ∀ h : b = true, _ := fun h => kt h A S hR h1 (cl_tl h2) rm Q f1 f2 f3 f4 hQ
      have F : ∀ h : b = false, _ := fun h => kf h A S hR h1 (cl_tl h2) rm Q f1 f2 f3 f4 hQ
      cases c with
      | eq => exact tt_if_eq hd (by omega) (fun h => T (by rw [← e1]; exact decide_eq_true h)) (fun h => F (by rw [← e1]; exact decide_eq_false h))
      | ne => exact tt_if_ne hd (by omega) (fun h => T (by rw [← e1]; show (!decide (x = 0)) = true; rw [decide_eq_false h]; rfl)) (fun h => F (by rw [← e1]; show (!decide (x = 0)) = false; rw [decide_eq_true h]; rfl))
      | lt => exact tt_if_lt hd (by omega) (fun h => T (by rw [← e1]; exact decide_eq_true h)) (fun h => F (by rw [← e1]; exact decide_eq_false h))
      | ge => exact tt_if_ge hd (by omega) (fun h => T (by rw [← e1]; exact decide_eq_true h)) (fun h => F (by rw [← e1]; exact decide_eq_false h))
      | gt => exact tt_if_gt hd (by omega) (fun h => T (by rw [← e1]; exact decide_eq_true h)) (fun h => F (by rw [← e1]; exact decide_eq_false h))
      | le => exact tt_if_le hd (by omega) (fun h => T (by rw [← e1]; exact decide_eq_true h)) (fun h => F (by rw [← e1]; exact decide_eq_false h))
    · cases hb
  · unfold stB at hb
    dsimp only at hb
    split at hb
    · rename_i y x s0
      simp only [Option.some.injEq, Prod.mk.injEq] at hb
      obtain ⟨e1, e2, e3⟩ := hb
      subst e2 e3
      have T : ∀ h : b = true, _ := fun h => kt h A S hR h1 (cl_tl (cl_tl h2)) rm Q f1 f2 f3 f4 hQ
      have F : ∀ h : b = false, _ := fun h => kf h A S hR h1 (cl_tl (cl_tl h2)) rm Q f1 f2 f3 f4 hQ
      cases c with
      | eq => exact tt_icmp_eq hd (by omega) (fun h => T (by rw [← e1]; exact decide_eq_true h)) (fun h => F (by rw [← e1]; exact decide_eq_false h))
      | ne => exact tt_icmp_ne hd (by omega) (fun h => T (by rw [← e1]; show (!decide (x = y)) = true; rw [decide_eq_false h]; rfl)) (fun h => F (by rw [← e1]; show (!decide (x = y)) = false; rw [decide_eq_true h]; rfl))
      | lt => exact tt_icmp_lt hd (by omega) (fun h => T (by rw [← e1]; exact decide_eq_true h)) (fun h => F (by rw [← e1]; exact decide_eq_false h))
      | ge => exact tt_icmp_ge hd (by omega) (fun h => T (by rw [← e1]; exact decide_eq_true h)) (fun h => F (by rw [← e1]; exact decide_eq_false h))
      | gt => exact tt_icmp_gt hd (by omega) (fun h => T (by rw [← e1]; exact decide_eq_true h)) (fun h => F (by rw [← e1]; exact decide_eq_false h))
      | le => exact tt_icmp_le hd (by omega) (fun h => T (by rw [← e1]; exact decide_eq_true h)) (fun h => F (by rw [← e1]; exact decide_eq_false h))
    · cases hb
  · unfold stB at hb
    dsimp only at hb
    split at hb
    · cases hb
      exact tt_ifnull (r := none) hd (by omega) (fun _ => kt rfl A S hR h1 (cl_tl h2) rm Q f1 f2 f3 f4 hQ) (fun x h => by cases h)
    · rename_i x s0
      cases hb
      have e : ∃ y, qV z.2.1 A (.ref x) = va_rf (some y) := by
        cases x with
        | zero => exact ⟨_, rfl⟩
        | succ n => exact ⟨_, rfl⟩
      obtain ⟨y, hy⟩ := e
      rw [List.map_cons, hy]
      exact tt_ifnull (r := some y) (t := ((pc : Int) + o).toNat) hd (by omega) (fun h => by cases h) (fun x _ => kf rfl A S hR h1 (cl_tl h2) rm Q f1 f2 f3 f4 hQ)
    · cases hb
  · unfold stB at hb
    dsimp only at hb
    split at hb
    · cases hb
      exact tt_ifnonnull (r := none) (t := ((pc : Int) + o).toNat) hd (by omega) (fun x h => by cases h) (fun _ => kf rfl A S hR h1 (cl_tl h2) rm Q f1 f2 f3 f4 hQ)
    · rename_i x s0
      cases hb
      have e : ∃ y, qV z.2.1 A (.ref x) = va_rf (some y) := by
        cases x with
        | zero => exact ⟨_, rfl⟩
        | succ n => exact ⟨_, rfl⟩
      obtain ⟨y, hy⟩ := e
      rw [List.map_cons, hy]
      exact tt_ifnonnull (r := some y) hd (by omega) (fun x _ => kt rfl A S hR h1 (cl_tl h2) rm Q f1 f2 f3 f4 hQ) (fun h => by cases h)
    · cases hb
set_option maxHeartbeats 4000000 in
theorem rz_D {X : tO × Nat × Nat} (hz : rz oi nL kk0 ret pc raw len = some I) (hb : stD st I = some X) :
    (raw = .ireturn ∧ len = 1 ∧ ((ret = some .int ∧ I = .ireturn) ∨ (ret = some .boolean ∧ I = .freturn))) ∨ (raw = .lreturn ∧ len = 1 ∧ ret = some .long ∧ I = .lreturn) ∨
    (raw = .areturn ∧ len = 1 ∧ (∃ rt, ret = some rt ∧ ((∃ n, rt = .object n) ∨ ∃ t, rt = .array t)) ∧ I = .areturn) ∨ (raw = .return_ ∧ len = 1 ∧ ret = none ∧ I = .return_) := by
  unfold rz at hz
  split at hz
  all_goals first
    | (cases hz; done)
    | (cases hz; cases (show (none : Option (tO × Nat × Nat)) = _ from hb); done)
    | (obtain ⟨h, hz⟩ := cond_true hz; cases hz; first
        | (cases (show (none : Option (tO × Nat × Nat)) = _ from hb); done)
        | exact Or.inr (Or.inl ⟨rfl, rfl, of_decide_eq_true h, rfl⟩)
        | exact Or.inr (Or.inr (Or.inr ⟨rfl, rfl, of_decide_eq_true h, rfl⟩)))
    | (obtain ⟨n, h1, h2⟩ := map_some' hz; cases h2; cases (show (none : Option (tO × Nat × Nat)) = _ from hb); done)
    | (split at hz <;> first | (cases hz; done) | (cases hz; cases (show (none : Option (tO × Nat × Nat)) = _ from hb); done) | (cases hz; exact Or.inl ⟨rfl, rfl, Or.inl ⟨rfl, rfl⟩⟩) | (cases hz; exact Or.inl ⟨rfl, rfl, Or.inr ⟨rfl, rfl⟩⟩) | (cases hz; exact Or.inr (Or.inr (Or.inl ⟨rfl, rfl, ⟨_, rfl, Or.inl ⟨_, rfl⟩⟩, rfl⟩))) | (cases hz; exact Or.inr (Or.inr (Or.inl ⟨rfl, rfl, ⟨_, rfl, Or.inr ⟨_, rfl⟩⟩, rfl⟩))) | (obtain ⟨h, hz⟩ := cond_true hz; cases hz; cases (show (none : Option (tO × Nat × Nat)) = _ from hb); done) | (split at hz <;> first | (cases hz; done) | (obtain ⟨h, hz⟩ := cond_true hz; cases hz; cases (show (none : Option (tO × Nat × Nat)) = _ from hb); done)))
theorem done_snd {o : tO} {c s : Nat} (hd : decode (mC M) pc = .ok (raw, len)) (hz : rz oi nL kk0 (mR M) pc raw len = some I) (hb : stD st I = some (o, c, s)) : Pt l kd D z M d pc lv st H kc ks (o, H, kc + c, ks + s) := by
  intro A S hR h1 h2 rm Q f1 f2 f3 f4 hQ
  have q := hQ A S ⟨[], by simp⟩ hR
  rcases rz_D hz hb with ⟨rfl, rfl, ⟨hr, rfl⟩ | ⟨hr, rfl⟩⟩ | ⟨rfl, rfl, hr, rfl⟩ | ⟨rfl, rfl, ⟨rt, hr, hrt⟩, rfl⟩ | ⟨rfl, rfl, hr, rfl⟩
  · unfold stD at hb
    dsimp only at hb
    split at hb
    · cases hb
      exact tt_ret hr rfl f3 f4 hd (q trivial)
    · cases hb
  · unfold stD at hb
    dsimp only at hb
    split at hb
    · rename_i x
      obtain ⟨h, hb⟩ := cond_true hb
      cases hb
      refine tt_ret hr ?_ f3 f4 hd (q trivial)
      simp only [Bool.or_eq_true, decide_eq_true_eq] at h
      rcases h with h | h
      · subst h; rfl
      · subst h; rfl
    · cases hb
  · unfold stD at hb
    dsimp only at hb
    split at hb
    · cases hb
      exact tt_lret hr f3 f4 hd (q trivial)
    · cases hb
  · unfold stD at hb
    dsimp only at hb
    split at hb
    · rename_i x
      cases hb
      have q := q (cl_hd h2)
      cases x with
      | zero => exact tt_aret hr hrt f3 f4 hd q
      | succ n => exact tt_aret hr hrt f3 f4 hd q
    · cases hb
  · unfold stD at hb
    dsimp only at hb
    split at hb
    · cases hb
      exact tt_vret hr f3 f4 hd (q trivial)
    · cases hb
/-- a place where an exception is made and thrown -/
def ThrOK (M : aM) (pc k : Nat) : Prop := ∃ (ic is ix i1 n : Nat) (b1 : ByteArray) (C text : String), excs[k]? = some C ∧ Bundle.fit C = true ∧ decode b1 0 = .ok (.aload_n 0, 1) ∧ decode b1 1 = .ok (.aload_n 1, 1) ∧ decode b1 2 = .ok (.invokespecial i1, 3) ∧ decode b1 5 = .ok (.return_, 1) ∧
    (∀ w ∈ xAtoms (mY M).cls ix C i1 b1, w ∈ gW ∨ w ∈ eW) ∧ Cond.classLink (mY M).cls ic C ∈ gW ∧ Cond.instantiable C 6 ∈ gW ∧ Cond.initialized C ∈ gW ∧ Cond.stringRef (mY M).cls is text ∈ eW ∧
    decode (mC M) pc = .ok (.new ic, 3) ∧ decode (mC M) (pc + 3) = .ok (.dup, 1) ∧ xLdc (mC M) (pc + 4) is n ∧ decode (mC M) (pc + 4 + n) = .ok (.invokespecial ix, 3) ∧ decode (mC M) (pc + 4 + n + 3) = .ok (.athrow, 1) ∧ mH M = []
theorem thr_snd {k c s : Nat} {o : tO} (hl0 : l.stackTraces = false) (ht : ThrOK M pc k) (hb : stD st (.instanceof k) = some (o, c, s)) : Pt l kd D z M d pc lv st H kc ks (o, H, kc + c, ks + s) := by
  intro A S hR h1 h2 rm Q f1 f2 f3 f4 hQ
  have q := hQ A S ⟨[], by simp⟩ hR
  unfold stD at hb
  dsimp only at hb
  obtain ⟨h, hb⟩ := cond_true hb
  have h := Nat.le_of_ble_eq_true h
  cases hb
  obtain ⟨ic, is, ix, i1, n, b1, C, text, t1, t2, t3, t4, t5, t6, t7, t8, t9, t10, t11, t12, t13, t14, t15, t16, t17⟩ := ht
  exact tt_throw hl0 t1 t2 t3 t4 t5 t6 t7 t8 t9 t10 t11 t12 t13 t14 t15 t16 (by rw [t17]; intro x hx; cases hx) ⟨by omega, by rw [cats_qV]; omega, f3, f4⟩ (q trivial)
set_option maxHeartbeats 4000000 in
theorem rz_C {m k : Nat} (hz : rz oi nL kk0 ret pc raw len = some I) (hb : stC I = some (m, k)) : ∃ i, len = 3 ∧ lk2 oi i mlT = some (m, k) ∧ ((k = 0 ∧ raw = .invokevirtual i) ∨ (k = 1 ∧ raw = .invokestatic i) ∨ (k = 2 ∧ raw = .invokespecial i)) := by
  unfold rz at hz
  split at hz
  all_goals first
    | (cases hz; done)
    | (cases hz; cases (show (none : Option (Nat × Nat)) = _ from hb); done)
    | (obtain ⟨h, hz⟩ := cond_true hz; cases hz; cases (show (none : Option (Nat × Nat)) = _ from hb); done)
    | (obtain ⟨n, h1, h2⟩ := map_some' hz; cases h2; cases (show (none : Option (Nat × Nat)) = _ from hb); done)
    | (split at hz <;> rename_i hm <;> first | (cases hz; done) | (cases hz; cases (show (none : Option (Nat × Nat)) = _ from hb); done) | (cases hz; cases hb; exact ⟨_, rfl, hm, Or.inl ⟨rfl, rfl⟩⟩) | (cases hz; cases hb; exact ⟨_, rfl, hm, Or.inr (Or.inl ⟨rfl, rfl⟩)⟩) | (cases hz; cases hb; exact ⟨_, rfl, hm, Or.inr (Or.inr ⟨rfl, rfl⟩)⟩) | (obtain ⟨h, hz⟩ := cond_true hz; cases hz; cases (show (none : Option (Nat × Nat)) = _ from hb); done) | (split at hz <;> first | (cases hz; done) | (obtain ⟨h, hz⟩ := cond_true hz; cases hz; cases (show (none : Option (Nat × Nat)) = _ from hb); done)))
    | (split at hz <;> first | (cases hz; done) | (cases hz; cases (show (none : Option (Nat × Nat)) = _ from hb); done) | (obtain ⟨h, hz⟩ := cond_true hz; cases hz; cases (show (none : Option (Nat × Nat)) = _ from hb); done))
end BR
