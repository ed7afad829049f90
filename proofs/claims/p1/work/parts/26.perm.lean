/-! ===== the order in which the locals are listed does not matter ===== -/
def lvN (lv : aL) : Prop := (lv.map (fun q => q.1)).Nodup
theorem lvG_iff {i : Nat} {v : Value} : ∀ {lv : aL}, lvN lv → (lvG lv i = some v ↔ (i, v) ∈ lv)
  | [], _ => by simp [lvG]
  | (j, w) :: l, h => by
    have h2 : lvN l := (List.nodup_cons.mp h).2
    have h1 : j ∉ l.map (fun q => q.1) := (List.nodup_cons.mp h).1
    unfold lvG
    cases hc : (j == i) with
    | true =>
      have e : j = i := by simpa using hc
      subst e
      constructor
      · intro g; cases g; exact List.mem_cons_self
      · intro g
        rcases List.mem_cons.mp g with g | g
        · cases g; rfl
        · exact absurd (List.mem_map.mpr ⟨(j, v), g, rfl⟩) h1
    | false =>
      have ne : ¬ j = i := by simpa using hc
      show lvG l i = some v ↔ _
      rw [lvG_iff h2]
      constructor
      · exact fun g => List.mem_cons_of_mem _ g
      · intro g
        rcases List.mem_cons.mp g with g | g
        · cases g; exact absurd rfl ne
        · exact g
theorem lvN.perm {a b : aL} (h : lvN a) (p : a.Perm b) : lvN b := ((p.map _).nodup_iff).mp h
theorem lvG_perm {a b : aL} (p : a.Perm b) (h : lvN a) (i : Nat) : lvG a i = lvG b i := by
  cases hb : lvG b i with
  | some v => exact (lvG_iff h).mpr (p.mem_iff.mpr ((lvG_iff (h.perm p)).mp hb))
  | none =>
    cases ha : lvG a i with
    | none => rfl
    | some v =>
      have := (lvG_iff (h.perm p)).mpr (p.mem_iff.mp ((lvG_iff h).mp ha))
      rw [hb] at this
      cases this
theorem lvN.filter {a : aL} (h : lvN a) (f : Nat × Value → Bool) : lvN (a.filter f) := List.Nodup.sublist ((List.filter_sublist).map _) h
theorem lvS_pm {a b : aL} (p : a.Perm b) (i : Nat) (v : Value) : (lvS a i v).Perm (lvS b i v) := (p.filter _).cons _
theorem lvS2_pm {a b : aL} (p : a.Perm b) (i : Nat) (v : Value) : (lvS2 a i v).Perm (lvS2 b i v) := (p.filter _).cons _
theorem lvS_N {a : aL} (h : lvN a) (i : Nat) (v : Value) : lvN (lvS a i v) := by
  refine List.nodup_cons.mpr ⟨fun hm => ?_, h.filter _⟩
  obtain ⟨q, hq, e⟩ := List.mem_map.mp hm
  have := (List.mem_filter.mp hq).2
  simp only [Bool.and_eq_true, Bool.not_eq_true', beq_eq_false_iff_ne] at this
  exact this.1 e
theorem lvS2_N {a : aL} (h : lvN a) (i : Nat) (v : Value) : lvN (lvS2 a i v) := by
  refine List.nodup_cons.mpr ⟨fun hm => ?_, h.filter _⟩
  obtain ⟨q, hq, e⟩ := List.mem_map.mp hm
  have := (List.mem_filter.mp hq).2
  simp only [Bool.and_eq_true, Bool.not_eq_true', beq_eq_false_iff_ne] at this
  exact this.1 e
def setL (lv : aL) (r : aG) : aG := (r.1, lv, r.2.2)
theorem cnd_map {α β : Type} (b : Bool) (x : α) (f : α → β) : (bif b then some x else none : Option α).map f = bif b then some (f x) else none := by cases b <;> rfl
section LM
variable {sc : Nat × (Nat → Int32)} {nx : Nat} (lv : aL) {st : List Value} {H : aH}
theorem goL_lv {v : Option Value} {t : Nat} : goL nx lv st H v t = (goL nx [] st H v t).map (setL lv) := by unfold goL; split <;> rfl
theorem goB_lv {I : Instr} : goB I nx lv H st = (goB I nx [] H st).map (setL lv) := by
  unfold goB
  split
  · split <;> rfl
  · rfl
theorem goGet_lv {c k : Nat} : goGet c k nx lv H st = (goGet c k nx [] H st).map (setL lv) := by
  unfold goGet
  split
  · split
    · rename_i c' fs _
      cases (c' == c)
      · rfl
      · dsimp only [cond]
        split <;> rfl
    · rfl
  · rfl
theorem goPut_lv {c k t : Nat} : goPut c k t nx lv H st = (goPut c k t nx [] H st).map (setL lv) := by
  unfold goPut
  split
  · split
    · rw [cnd_map]; rfl
    · rfl
  · rfl
theorem goIald_lv : goIald sc nx lv H st = (goIald sc nx [] H st).map (setL lv) := by
  unfold goIald
  split
  · rw [cnd_map]; rfl
  · split
    · rw [cnd_map]; rfl
    · rfl
  · rfl
theorem goBald_lv : goBald nx lv H st = (goBald nx [] H st).map (setL lv) := by
  unfold goBald
  split
  · split
    · rw [cnd_map]; rfl
    · rw [cnd_map]; rfl
    · rfl
  · rfl
theorem goLald_lv : goLald nx lv H st = (goLald nx [] H st).map (setL lv) := by
  unfold goLald
  split
  · split
    · rw [cnd_map]; rfl
    · rfl
  · rfl
theorem goAald_lv : goAald nx lv H st = (goAald nx [] H st).map (setL lv) := by
  unfold goAald
  split
  · split
    · rename_i t n f _
      cases (inR _ n && Nat.blt t 7 && Nat.ble 4 t)
      · rfl
      · dsimp only [cond]
        split <;> rfl
    · rfl
  · rfl
theorem goIast_lv : goIast nx lv H st = (goIast nx [] H st).map (setL lv) := by
  unfold goIast
  split
  · split
    · rw [cnd_map]; rfl
    · rfl
  · rfl
theorem goBast_lv : goBast nx lv H st = (goBast nx [] H st).map (setL lv) := by
  unfold goBast
  split
  · split
    · rw [cnd_map]; rfl
    · rw [cnd_map]; rfl
    · rfl
  · rfl
theorem goLast_lv : goLast nx lv H st = (goLast nx [] H st).map (setL lv) := by
  unfold goLast
  split
  · split
    · rw [cnd_map]; rfl
    · rfl
  · rfl
theorem goAast_lv : goAast nx lv H st = (goAast nx [] H st).map (setL lv) := by
  unfold goAast
  split
  · split
    · rw [cnd_map]; rfl
    · rfl
  · rfl
theorem goLen_lv : goLen sc nx lv H st = (goLen sc nx [] H st).map (setL lv) := by
  unfold goLen
  split
  · rfl
  · split
    · split <;> rfl
    · rfl
  · rfl
theorem goNewa_lv {t : ArrayType} : goNewa t nx lv H st = (goNewa t nx [] H st).map (setL lv) := by
  unfold goNewa
  split
  · rename_i n s
    cases (!(decide (n < 0)) && Nat.ble n.toNatClampNeg 67108864)
    · rfl
    · dsimp only [cond]
      split <;> rfl
  · rfl
theorem goNewq_lv {t : Nat} : goNewq t nx lv H st = (goNewq t nx [] H st).map (setL lv) := by
  unfold goNewq
  split
  · rw [cnd_map]; rfl
  · rfl
theorem goCpy_lv : goCpy nx lv H st = (goCpy nx [] H st).map (setL lv) := by
  unfold goCpy
  split
  · rename_i n dp a sp a0 s
    cases (!(decide (sp < 0)) && !(decide (dp < 0)) && !(decide (n < 0)) && Nat.ble (cats s) 8)
    · rfl
    · dsimp only [cond]
      split
      · split <;> rfl
      · split <;> rfl
      · rfl
  · rfl
theorem goTab_lv {dd lo hi : Int} {offs : Array Int} : goTab lv H dd lo hi offs st = (goTab [] H dd lo hi offs st).map (setL lv) := by
  unfold goTab
  split
  · split
    · rfl
    · split <;> rfl
  · rfl
end LM
section PM
variable {sc : Nat × (Nat → Int32)} {nx : Nat} {a b : aL} {st : List Value} {H : aH} {pc' : Nat} {lv' : aL} {st' : List Value} {H' : aH} {c s : Nat}
theorem pm_pass {X : aL → Option aG} (hX : ∀ lv, X lv = (X []).map (setL lv)) (p : a.Perm b) (hn : lvN a) (h : X a = some (pc', lv', st', H', c, s)) : ∃ lv2, X b = some (pc', lv2, st', H', c, s) ∧ lv'.Perm lv2 ∧ lvN lv' := by
  rw [hX a] at h
  cases h0 : X [] with
  | none => rw [h0] at h; cases h
  | some y =>
    obtain ⟨y1, y2, y3⟩ := y
    rw [h0] at h
    cases h
    exact ⟨b, by rw [hX b, h0]; rfl, p, hn⟩
theorem pm_same {X : aL → Option aG} (hb : X b = some (pc', b, st', H', c, s)) (p : a.Perm b) (hn : lvN a) : ∃ lv2, X b = some (pc', lv2, st', H', c, s) ∧ a.Perm lv2 ∧ lvN a := ⟨b, hb, p, hn⟩
set_option maxHeartbeats 4000000 in
theorem stG_pm {I : Instr} (p : a.Perm b) (hn : lvN a) (h : stG sc nx a st H I = some (pc', lv', st', H', c, s)) : ∃ lv2, stG sc nx b st H I = some (pc', lv2, st', H', c, s) ∧ lv'.Perm lv2 ∧ lvN lv' := by
  unfold stG at h
  split at h
  · cases h; exact ⟨b, rfl, p, hn⟩
  · cases h; exact ⟨b, rfl, p, hn⟩
  · cases h; exact ⟨b, rfl, p, hn⟩
  · cases h; exact ⟨b, rfl, p, hn⟩
  · rw [lvG_perm p hn] at h; exact pm_pass (X := fun lv => goL nx lv st H _ 0) (fun lv => goL_lv lv) p hn h
  · rw [lvG_perm p hn] at h; exact pm_pass (X := fun lv => goL nx lv st H _ 1) (fun lv => goL_lv lv) p hn h
  · rw [lvG_perm p hn] at h; exact pm_pass (X := fun lv => goL nx lv st H _ 2) (fun lv => goL_lv lv) p hn h
  · split at h
    · cases h; exact ⟨_, rfl, lvS_pm p _ _, lvS_N hn _ _⟩
    · cases h
  · split at h
    · cases h; exact ⟨_, rfl, lvS_pm p _ _, lvS_N hn _ _⟩
    · cases h
  · split at h
    · cases h; exact ⟨_, rfl, lvS2_pm p _ _, lvS2_N hn _ _⟩
    · cases h
  · rename_i i n
    split at h
    · rename_i x hx
      cases h
      refine ⟨lvS b i _, ?_, lvS_pm p _ _, lvS_N hn _ _⟩
      unfold stG
      dsimp only
      rw [← lvG_perm p hn, hx]
    · cases h
  · exact pm_pass (X := fun lv => goB .iadd nx lv H st) (fun lv => goB_lv lv) p hn h
  · exact pm_pass (X := fun lv => goB .isub nx lv H st) (fun lv => goB_lv lv) p hn h
  · exact pm_pass (X := fun lv => goB .imul nx lv H st) (fun lv => goB_lv lv) p hn h
  · exact pm_pass (X := fun lv => goB .iand nx lv H st) (fun lv => goB_lv lv) p hn h
  · exact pm_pass (X := fun lv => goB .ior nx lv H st) (fun lv => goB_lv lv) p hn h
  · exact pm_pass (X := fun lv => goB .ixor nx lv H st) (fun lv => goB_lv lv) p hn h
  · exact pm_pass (X := fun lv => goB .idiv nx lv H st) (fun lv => goB_lv lv) p hn h
  · exact pm_pass (X := fun lv => goB .irem nx lv H st) (fun lv => goB_lv lv) p hn h
  · exact pm_pass (X := fun lv => goB .ishl nx lv H st) (fun lv => goB_lv lv) p hn h
  · exact pm_pass (X := fun lv => goB .ishr nx lv H st) (fun lv => goB_lv lv) p hn h
  · split at h
    · obtain ⟨hb, h2⟩ := cond_true h
      cases h2
      exact ⟨b, by unfold stG; dsimp only; rw [hb]; rfl, p, hn⟩
    · cases h
  · split at h
    · obtain ⟨hb, h2⟩ := cond_true h
      cases h2
      exact ⟨b, by unfold stG; dsimp only; rw [hb]; rfl, p, hn⟩
    · cases h
  · split at h
    · obtain ⟨hb, h2⟩ := cond_true h
      cases h2
      exact ⟨b, by unfold stG; dsimp only; rw [hb]; rfl, p, hn⟩
    · cases h
  · exact pm_pass (X := fun lv => goCpy nx lv H st) (fun lv => goCpy_lv lv) p hn h
  · split at h
    · cases h; exact ⟨b, rfl, p, hn⟩
    · cases h
  · split at h
    · cases h; exact ⟨b, rfl, p, hn⟩
    · cases h
  · split at h
    · cases h; exact ⟨b, rfl, p, hn⟩
    · cases h
  · split at h
    · cases h; exact ⟨b, rfl, p, hn⟩
    · cases h
  · split at h
    · cases h; exact ⟨b, rfl, p, hn⟩
    · cases h
  · split at h
    · cases h; exact ⟨b, rfl, p, hn⟩
    · cases h
  · split at h
    · cases h; exact ⟨b, rfl, p, hn⟩
    · cases h
  · split at h
    · obtain ⟨hb, h2⟩ := cond_true h
      cases h2
      exact ⟨b, by unfold stG; dsimp only; rw [hb]; rfl, p, hn⟩
    · cases h
  · split at h
    · obtain ⟨hb, h2⟩ := cond_true h
      cases h2
      exact ⟨b, by unfold stG; dsimp only; rw [hb]; rfl, p, hn⟩
    · cases h
  · split at h
    · obtain ⟨hb, h2⟩ := cond_true h
      cases h2
      exact ⟨b, by unfold stG; dsimp only; rw [hb]; rfl, p, hn⟩
    · cases h
  · cases h; exact ⟨b, rfl, p, hn⟩
  · exact pm_pass (X := fun lv => goTab lv H _ _ _ _ st) (fun lv => goTab_lv lv) p hn h
  · exact pm_pass (X := fun lv => goGet _ _ nx lv H st) (fun lv => goGet_lv lv) p hn h
  · exact pm_pass (X := fun lv => goPut _ _ _ nx lv H st) (fun lv => goPut_lv lv) p hn h
  · exact pm_pass (X := fun lv => goIald sc nx lv H st) (fun lv => goIald_lv lv) p hn h
  · exact pm_pass (X := fun lv => goBald nx lv H st) (fun lv => goBald_lv lv) p hn h
  · exact pm_pass (X := fun lv => goLald nx lv H st) (fun lv => goLald_lv lv) p hn h
  · exact pm_pass (X := fun lv => goAald nx lv H st) (fun lv => goAald_lv lv) p hn h
  · exact pm_pass (X := fun lv => goIast nx lv H st) (fun lv => goIast_lv lv) p hn h
  · exact pm_pass (X := fun lv => goBast nx lv H st) (fun lv => goBast_lv lv) p hn h
  · exact pm_pass (X := fun lv => goLast nx lv H st) (fun lv => goLast_lv lv) p hn h
  · exact pm_pass (X := fun lv => goAast nx lv H st) (fun lv => goAast_lv lv) p hn h
  · exact pm_pass (X := fun lv => goLen sc nx lv H st) (fun lv => goLen_lv lv) p hn h
  · obtain ⟨hb, h2⟩ := cond_true h
    cases h2
    exact ⟨b, by unfold stG; dsimp only; rw [hb]; rfl, p, hn⟩
  · exact pm_pass (X := fun lv => goNewa _ nx lv H st) (fun lv => goNewa_lv lv) p hn h
  · exact pm_pass (X := fun lv => goNewq _ nx lv H st) (fun lv => goNewq_lv lv) p hn h
  · cases h
end PM
theorem lvD_pm {a b : aL} (p : a.Perm b) (i : Nat) : (lvD a i).Perm (lvD b i) := p.filter _
set_option maxHeartbeats 1000000 in
theorem run_pm {mt : List aM} {sc : Nat × (Nat → Int32)} : ∀ (f d : Nat) (M : aM) (pc : Nat) (a b : aL) (st : List Value) (H : aH) (kc ks : Nat) (r : tO × aH × Nat × Nat), a.Perm b → lvN a → run mt sc f d M pc a st H kc ks = some r → run mt sc f d M pc b st H kc ks = some r := by
  intro f
  induction f with
  | zero => intro d M pc a b st H kc ks r _ _ h; cases h
  | succ f ih =>
    intro d M pc a b st H kc ks r p hn h
    rw [run] at h ⊢
    cases hI : lkI pc (mT M) with
    | none => rw [hI] at h; cases h
    | some x =>
      obtain ⟨nx, I⟩ := x
      rw [hI] at h
      dsimp only at h ⊢
      cases hg : stG sc nx a st H I with
      | some y =>
        obtain ⟨pc', lv', st', H', c, s⟩ := y
        rw [hg] at h
        obtain ⟨lv2, g1, g2, g3⟩ := stG_pm p hn hg
        rw [g1]
        exact ih _ _ _ _ _ _ _ _ _ _ g2 g3 h
      | none =>
        rw [hg] at h
        have hg2 : stG sc nx b st H I = none := by
          cases hg2 : stG sc nx b st H I with
          | none => rfl
          | some y =>
            obtain ⟨pc', lv', st', H', c, s⟩ := y
            obtain ⟨lv2, g1, -, -⟩ := stG_pm p.symm (hn.perm p) hg2
            rw [hg] at g1
            cases g1
        rw [hg2]
        dsimp only at h ⊢
        cases hb : stB st I with
        | some y =>
          obtain ⟨bb, t, st'⟩ := y
          rw [hb] at h
          cases bb with
          | true => exact ih _ _ _ _ _ _ _ _ _ _ p hn h
          | false => exact ih _ _ _ _ _ _ _ _ _ _ p hn h
        | none =>
          rw [hb] at h
          dsimp only at h ⊢
          cases hD : stD st I with
          | some y => rw [hD] at h; exact h
          | none =>
            rw [hD] at h
            dsimp only at h ⊢
            cases hC : stC I with
            | none => rw [hC] at h; cases h
            | some y =>
              obtain ⟨m, k⟩ := y
              rw [hC] at h
              dsimp only at h ⊢
              cases hm : mt[m]? with
              | none => rw [hm] at h; cases h
              | some M' =>
                rw [hm] at h
                dsimp only at h ⊢
                cases ha : argsOf M' k H st with
                | none => rw [ha] at h; cases h
                | some y =>
                  obtain ⟨av, st'⟩ := y
                  rw [ha] at h
                  dsimp only at h ⊢
                  cases d with
                  | zero => cases h
                  | succ d' =>
                    dsimp only at h ⊢
                    cases hr : run mt sc f d' M' 0 (lv_args 0 av) [] H 0 0 with
                    | none => rw [hr] at h; cases h
                    | some y =>
                      obtain ⟨o, H', c, s⟩ := y
                      rw [hr] at h
                      cases o with
                      | inl v => exact ih _ _ _ _ _ _ _ _ _ _ p hn h
                      | inr x =>
                        dsimp only at h ⊢
                        cases hx : lkX pc x (mX M) with
                        | none => rw [hx] at h; exact h
                        | some y =>
                          rw [hx] at h
                          exact ih _ _ _ _ _ _ _ _ _ _ (lvD_pm p _) (hn.filter _) h
