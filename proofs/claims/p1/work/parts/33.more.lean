/-! ===== the order and the number of the locals: more of them do no harm ===== -/
/-! ===== more locals do no harm ===== -/
def lvB (a b : aL) : Prop := (∀ q ∈ a, q ∈ b) ∧ lvN b
theorem lvB.get {a b : aL} (h : lvB a b) {i : Nat} {v : Value} (hv : lvG a i = some v) : lvG b i = some v := by
  obtain ⟨j, hj⟩ := lvG_at hv
  exact (lvG_iff h.2).mpr (h.1 _ (List.mem_of_getElem? hj))
theorem lvB.flt {a b : aL} (h : lvB a b) (f : Nat × Value → Bool) : lvB (a.filter f) (b.filter f) := ⟨fun q hq => List.mem_filter.mpr ⟨h.1 q (List.mem_filter.mp hq).1, (List.mem_filter.mp hq).2⟩, h.2.filter f⟩
theorem lvB.S {a b : aL} (h : lvB a b) (i : Nat) (v : Value) : lvB (lvS a i v) (lvS b i v) := ⟨fun q hq => (List.mem_cons.mp hq).elim (fun e => e ▸ List.mem_cons_self) (fun e => List.mem_cons_of_mem _ ((h.flt _).1 q e)), lvS_N h.2 i v⟩
theorem lvB.S2 {a b : aL} (h : lvB a b) (i : Nat) (v : Value) : lvB (lvS2 a i v) (lvS2 b i v) := ⟨fun q hq => (List.mem_cons.mp hq).elim (fun e => e ▸ List.mem_cons_self) (fun e => List.mem_cons_of_mem _ ((h.flt _).1 q e)), lvS2_N h.2 i v⟩
section PS
variable {sc : Nat × (Nat → Int32)} {nx : Nat} {a b : aL} {st : List Value} {H : aH} {pc' : Nat} {lv' : aL} {st' : List Value} {H' : aH} {c s : Nat}
theorem ps_pass {X : aL → Option aG} (hX : ∀ lv, X lv = (X []).map (setL lv)) (p : lvB a b) (h : X a = some (pc', lv', st', H', c, s)) : ∃ lv2, X b = some (pc', lv2, st', H', c, s) ∧ lvB lv' lv2 := by
  rw [hX a] at h
  cases h0 : X [] with
  | none => rw [h0] at h; cases h
  | some y =>
    obtain ⟨y1, y2, y3⟩ := y
    rw [h0] at h
    cases h
    exact ⟨b, by rw [hX b, h0]; rfl, p⟩
theorem ps_same {X : aL → Option aG} (hb : X b = some (pc', b, st', H', c, s)) (p : lvB a b) : ∃ lv2, X b = some (pc', lv2, st', H', c, s) ∧ lvB a lv2 := ⟨b, hb, p⟩
set_option maxHeartbeats 4000000 in
theorem stG_ps {I : Instr} (p : lvB a b) (h : stG sc nx a st H I = some (pc', lv', st', H', c, s)) : ∃ lv2, stG sc nx b st H I = some (pc', lv2, st', H', c, s) ∧ lvB lv' lv2 := by
  unfold stG at h
  split at h
  · cases h; exact ⟨b, rfl, p⟩
  · cases h; exact ⟨b, rfl, p⟩
  · cases h; exact ⟨b, rfl, p⟩
  · cases h; exact ⟨b, rfl, p⟩
  · obtain ⟨w, e1, e2, -⟩ := goL_inv h
    rw [e1] at h
    obtain ⟨lv2, g1, g2⟩ := ps_pass (X := fun lv => goL nx lv st H (some w) 0) (fun lv => goL_lv lv) p h
    exact ⟨lv2, by unfold stG; dsimp only; rw [p.get e1]; exact g1, g2⟩
  · obtain ⟨w, e1, e2, -⟩ := goL_inv h
    rw [e1] at h
    obtain ⟨lv2, g1, g2⟩ := ps_pass (X := fun lv => goL nx lv st H (some w) 1) (fun lv => goL_lv lv) p h
    exact ⟨lv2, by unfold stG; dsimp only; rw [p.get e1]; exact g1, g2⟩
  · obtain ⟨w, e1, e2, -⟩ := goL_inv h
    rw [e1] at h
    obtain ⟨lv2, g1, g2⟩ := ps_pass (X := fun lv => goL nx lv st H (some w) 2) (fun lv => goL_lv lv) p h
    exact ⟨lv2, by unfold stG; dsimp only; rw [p.get e1]; exact g1, g2⟩
  · split at h
    · cases h; exact ⟨_, rfl, p.S _ _⟩
    · cases h
  · split at h
    · cases h; exact ⟨_, rfl, p.S _ _⟩
    · cases h
  · split at h
    · cases h; exact ⟨_, rfl, p.S2 _ _⟩
    · cases h
  · rename_i i n
    split at h
    · rename_i x hx
      cases h
      refine ⟨lvS b i _, ?_, p.S _ _⟩
      unfold stG
      dsimp only
      rw [p.get hx]
    · cases h
  · exact ps_pass (X := fun lv => goB .iadd nx lv H st) (fun lv => goB_lv lv) p h
  · exact ps_pass (X := fun lv => goB .isub nx lv H st) (fun lv => goB_lv lv) p h
  · exact ps_pass (X := fun lv => goB .imul nx lv H st) (fun lv => goB_lv lv) p h
  · exact ps_pass (X := fun lv => goB .iand nx lv H st) (fun lv => goB_lv lv) p h
  · exact ps_pass (X := fun lv => goB .ior nx lv H st) (fun lv => goB_lv lv) p h
  · exact ps_pass (X := fun lv => goB .ixor nx lv H st) (fun lv => goB_lv lv) p h
  · exact ps_pass (X := fun lv => goB .idiv nx lv H st) (fun lv => goB_lv lv) p h
  · exact ps_pass (X := fun lv => goB .irem nx lv H st) (fun lv => goB_lv lv) p h
  · exact ps_pass (X := fun lv => goB .ishl nx lv H st) (fun lv => goB_lv lv) p h
  · exact ps_pass (X := fun lv => goB .ishr nx lv H st) (fun lv => goB_lv lv) p h
  · split at h
    · obtain ⟨hb, h2⟩ := cond_true h
      cases h2
      exact ⟨b, by unfold stG; dsimp only; rw [hb]; rfl, p⟩
    · cases h
  · split at h
    · obtain ⟨hb, h2⟩ := cond_true h
      cases h2
      exact ⟨b, by unfold stG; dsimp only; rw [hb]; rfl, p⟩
    · cases h
  · split at h
    · obtain ⟨hb, h2⟩ := cond_true h
      cases h2
      exact ⟨b, by unfold stG; dsimp only; rw [hb]; rfl, p⟩
    · cases h
  · exact ps_pass (X := fun lv => goCpy nx lv H st) (fun lv => goCpy_lv lv) p h
  · split at h
    · cases h; exact ⟨b, rfl, p⟩
    · cases h
  · split at h
    · cases h; exact ⟨b, rfl, p⟩
    · cases h
  · split at h
    · cases h; exact ⟨b, rfl, p⟩
    · cases h
  · split at h
    · cases h; exact ⟨b, rfl, p⟩
    · cases h
  · split at h
    · cases h; exact ⟨b, rfl, p⟩
    · cases h
  · split at h
    · cases h; exact ⟨b, rfl, p⟩
    · cases h
  · split at h
    · cases h; exact ⟨b, rfl, p⟩
    · cases h
  · split at h
    · obtain ⟨hb, h2⟩ := cond_true h
      cases h2
      exact ⟨b, by unfold stG; dsimp only; rw [hb]; rfl, p⟩
    · cases h
  · split at h
    · obtain ⟨hb, h2⟩ := cond_true h
      cases h2
      exact ⟨b, by unfold stG; dsimp only; rw [hb]; rfl, p⟩
    · cases h
  · split at h
    · obtain ⟨hb, h2⟩ := cond_true h
      cases h2
      exact ⟨b, by unfold stG; dsimp only; rw [hb]; rfl, p⟩
    · cases h
  · cases h; exact ⟨b, rfl, p⟩
  · exact ps_pass (X := fun lv => goTab lv H _ _ _ _ st) (fun lv => goTab_lv lv) p h
  · exact ps_pass (X := fun lv => goGet _ _ nx lv H st) (fun lv => goGet_lv lv) p h
  · exact ps_pass (X := fun lv => goPut _ _ _ nx lv H st) (fun lv => goPut_lv lv) p h
  · exact ps_pass (X := fun lv => goIald sc nx lv H st) (fun lv => goIald_lv lv) p h
  · exact ps_pass (X := fun lv => goBald nx lv H st) (fun lv => goBald_lv lv) p h
  · exact ps_pass (X := fun lv => goLald nx lv H st) (fun lv => goLald_lv lv) p h
  · exact ps_pass (X := fun lv => goAald nx lv H st) (fun lv => goAald_lv lv) p h
  · exact ps_pass (X := fun lv => goIast nx lv H st) (fun lv => goIast_lv lv) p h
  · exact ps_pass (X := fun lv => goBast nx lv H st) (fun lv => goBast_lv lv) p h
  · exact ps_pass (X := fun lv => goLast nx lv H st) (fun lv => goLast_lv lv) p h
  · exact ps_pass (X := fun lv => goAast nx lv H st) (fun lv => goAast_lv lv) p h
  · exact ps_pass (X := fun lv => goLen sc nx lv H st) (fun lv => goLen_lv lv) p h
  · obtain ⟨hb, h2⟩ := cond_true h
    cases h2
    exact ⟨b, by unfold stG; dsimp only; rw [hb]; rfl, p⟩
  · exact ps_pass (X := fun lv => goNewa _ nx lv H st) (fun lv => goNewa_lv lv) p h
  · exact ps_pass (X := fun lv => goNewq _ nx lv H st) (fun lv => goNewq_lv lv) p h
  · cases h
end PS
set_option maxHeartbeats 1000000 in
theorem run_ps {mt : List aM} {sc : Nat × (Nat → Int32)} : ∀ (f d : Nat) (M : aM) (pc : Nat) (a b : aL) (st : List Value) (H : aH) (kc ks : Nat) (r : tO × aH × Nat × Nat), lvB a b → run mt sc f d M pc a st H kc ks = some r → run mt sc f d M pc b st H kc ks = some r := by
  intro f
  induction f with
  | zero => intro d M pc a b st H kc ks r _ h; cases h
  | succ f ih =>
    intro d M pc a b st H kc ks r p h
    rw [run] at h ⊢
    cases hI : lkI pc (mT M) with
    | none => rw [hI] at h; cases h
    | some x =>
      obtain ⟨nx, I⟩ := x
      rw [hI] at h
      dsimp only at h ⊢
      cases hg : stG sc nx a st H I with
      | some y =>
        obtain ⟨pc', lv', st', H', c, s⟩ := y
        rw [hg] at h
        obtain ⟨lv2, g1, g2⟩ := stG_ps p hg
        rw [g1]
        exact ih _ _ _ _ _ _ _ _ _ _ g2 h
      | none =>
        rw [hg] at h
        have hg2 : stG sc nx b st H I = none := by
          cases hg2 : stG sc nx b st H I with
          | none => rfl
          | some y =>
            obtain ⟨q1, q2, q3⟩ := stG_excl hg2
            dsimp only at h
            rw [q1] at h
            dsimp only at h
            rw [q2] at h
            dsimp only at h
            rw [q3] at h
            cases h
        rw [hg2]
        dsimp only at h ⊢
        cases hb : stB st I with
        | some y =>
          obtain ⟨bb, t, st'⟩ := y
          rw [hb] at h
          cases bb with
          | true => exact ih _ _ _ _ _ _ _ _ _ _ p h
          | false => exact ih _ _ _ _ _ _ _ _ _ _ p h
        | none =>
          rw [hb] at h
          dsimp only at h ⊢
          cases hD : stD st I with
          | some y => rw [hD] at h; exact h
          | none =>
            rw [hD] at h
            dsimp only at h ⊢
            cases hC : stC I with
            | none => rw [hC] at h; cases h
            | some y =>
              obtain ⟨m, k⟩ := y
              rw [hC] at h
              dsimp only at h ⊢
              cases hm : mt[m]? with
              | none => rw [hm] at h; cases h
              | some M' =>
                rw [hm] at h
                dsimp only at h ⊢
                cases ha : argsOf M' k H st with
                | none => rw [ha] at h; cases h
                | some y =>
                  obtain ⟨av, st'⟩ := y
                  rw [ha] at h
                  dsimp only at h ⊢
                  cases d with
                  | zero => cases h
                  | succ d' =>
                    dsimp only at h ⊢
                    cases hr : run mt sc f d' M' 0 (lv_args 0 av) [] H 0 0 with
                    | none => rw [hr] at h; cases h
                    | some y =>
                      obtain ⟨o, H', c, s⟩ := y
                      rw [hr] at h
                      cases o with
                      | inl v => exact ih _ _ _ _ _ _ _ _ _ _ p h
                      | inr x =>
                        dsimp only at h ⊢
                        cases hx : lkX pc x (mX M) with
                        | none => rw [hx] at h; exact h
                        | some y =>
                          rw [hx] at h
                          exact ih _ _ _ _ _ _ _ _ _ _ (p.flt _) h
theorem RP.more {sc : Nat × (Nat → Int32)} {d : Nat} {M : aM} {pc : Nat} {a b : aL} {st : List Value} {H : aH} {kc ks : Nat} {r : tO × aH × Nat × Nat} (hs : ∀ q ∈ a, q ∈ b) (hn : lvN b) (h : RP sc d M pc a st H kc ks r) : RP sc d M pc b st H kc ks r := by
  obtain ⟨f, hf⟩ := h
  exact ⟨f, run_ps _ _ _ _ _ _ _ _ _ _ _ ⟨hs, hn⟩ hf⟩
