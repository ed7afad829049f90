/-! ===== the abstract machine stands for the machine: all its instructions ===== -/
section GS
variable {l : Launch} {kd : Nat → ClassId} {D : va_G} {z : tZ} {M : aM} {d pc : Nat} {lv : aL} {st : List Value} {H : aH} {kc ks : Nat} {r : tO × aH × Nat × Nat} {pc' : Nat} {lv' : aL} {st' : List Value} {H' : aH} {c s : Nat}
theorem map_some' {α β : Type} {f : α → β} {o : Option α} {b : β} (h : o.map f = some b) : ∃ a, o = some a ∧ f a = b := by
  cases o with
  | none => cases h
  | some a => exact ⟨a, rfl, Option.some.inj h⟩
theorem dm (a b m : Nat) (h : b < m) : (a * m + b) / m = a ∧ (a * m + b) % m = b := by
  constructor
  · rw [Nat.mul_comm, Nat.mul_add_div (by omega), Nat.div_eq_of_lt h, Nat.add_zero]
  · rw [Nat.mul_comm, Nat.mul_add_mod, Nat.mod_eq_of_lt h]
set_option maxHeartbeats 4000000 in
theorem go_snd {raw I : Instr} {len : Nat} (ho : ownS (mO M) = (mY M).cls) (hd : decode (mC M) pc = .ok (raw, len)) (hz : rz (mO M) (mL M) (mS M) (mR M) pc raw len = some I)
    (hg : stG (z.2.2.1, z.2.2.2) (pc + len) lv st H I = some (pc', lv', st', H', c, s)) (hc : kc + c ≤ r.2.2.1) (hs : ks + s ≤ r.2.2.2) (kk : Pt l kd D z M d pc' lv' st' H' (kc + c) (ks + s) r) : Pt l kd D z M d pc lv st H kc ks r := by
  unfold rz at hz
  split at hz
  · cases hz; exact go_const (fun A S rm Q k => tt_iconst hd rfl k) hg kk
  · obtain ⟨hb, hz⟩ := cond_true hz; cases hz; exact go_const (fun A S rm Q k => tt_bipush hd (of_decide_eq_true hb) k) hg kk
  · obtain ⟨hb, hz⟩ := cond_true hz; cases hz; exact go_const (fun A S rm Q k => tt_sipush hd (of_decide_eq_true hb) k) hg kk
  · obtain ⟨n, h1, h2⟩ := map_some' hz; cases h2
    have hw := ctT_ok _ (lk2_mem h1)
    dsimp only [ctP] at hw
    rw [ho] at hw
    exact go_const (fun A S rm Q k => tt_ldc hw hd k) hg kk
  · obtain ⟨n, h1, h2⟩ := map_some' hz; cases h2
    have hw := ctT_ok _ (lk2_mem h1)
    dsimp only [ctP] at hw
    rw [ho] at hw
    exact go_const (fun A S rm Q k => tt_ldcw hw hd k) hg kk
  · cases hz; exact go_constL (fun A S rm Q k => tt_lconst hd rfl k) hg kk
  · obtain ⟨n, h1, h2⟩ := map_some' hz; cases h2
    have hw := cjT_ok _ (lk2_mem h1)
    dsimp only [cjP] at hw
    rw [ho] at hw
    exact go_constL (fun A S rm Q k => tt_ldc2 hw hd k) hg kk
  · cases hz; exact go_null hd hg kk
  · cases hz; exact go_load (t := 0) (fun A S rm Q v j hv hj k => by obtain ⟨x, rfl⟩ := ld0 hv; exact tt_iload hd j hj k) hg kk
  · cases hz; exact go_load (t := 0) (fun A S rm Q v j hv hj k => by obtain ⟨x, rfl⟩ := ld0 hv; exact tt_iload_n hd rfl j hj k) hg kk
  · cases hz; exact go_load (t := 1) (fun A S rm Q v j hv hj k => by obtain ⟨x, rfl⟩ := ld1 hv; exact tt_lload hd j hj k) hg kk
  · cases hz; exact go_load (t := 1) (fun A S rm Q v j hv hj k => by obtain ⟨x, rfl⟩ := ld1 hv; exact tt_lload_n hd rfl j hj k) hg kk
  · cases hz; exact go_load (t := 2) (fun A S rm Q v j hv hj k => by obtain ⟨x, rfl⟩ := ld2 hv; exact tt_aload hd j hj k) hg kk
  · cases hz; exact go_load (t := 2) (fun A S rm Q v j hv hj k => by obtain ⟨x, rfl⟩ := ld2 hv; exact tt_aload_n hd rfl j hj k) hg kk
  · obtain ⟨hb, hz⟩ := cond_true hz; cases hz; exact go_store (fun A S rm Q x st0 k => tt_istore hd (Nat.le_of_ble_eq_true hb) (lvS_q z.2.1 A lv _ (.int x)) k) hg kk
  · obtain ⟨hb, hz⟩ := cond_true hz; cases hz; exact go_store (fun A S rm Q x st0 k => tt_istore_n hd rfl (Nat.le_of_ble_eq_true hb) (lvS_q z.2.1 A lv _ (.int x)) k) hg kk
  · obtain ⟨hb, hz⟩ := cond_true hz; cases hz; exact go_storeL (fun A S rm Q x st0 k => tt_lstore hd (Nat.le_of_ble_eq_true hb) (lvS2_q z.2.1 A lv _ (.long x)) k) hg kk
  · obtain ⟨hb, hz⟩ := cond_true hz; cases hz; exact go_storeL (fun A S rm Q x st0 k => tt_lstore_n hd rfl (Nat.le_of_ble_eq_true hb) (lvS2_q z.2.1 A lv _ (.long x)) k) hg kk
  · obtain ⟨hb, hz⟩ := cond_true hz; cases hz; exact go_storeA (fun A S rm Q x y st0 hy k => tt_astore hd (Nat.le_of_ble_eq_true hb) (by rw [← hy]; exact lvS_q z.2.1 A lv _ (.ref x)) k) hg kk
  · obtain ⟨hb, hz⟩ := cond_true hz; cases hz; exact go_storeA (fun A S rm Q x y st0 hy k => tt_astore_n hd rfl (Nat.le_of_ble_eq_true hb) (by rw [← hy]; exact lvS_q z.2.1 A lv _ (.ref x)) k) hg kk
  · obtain ⟨hb, hz⟩ := cond_true hz; cases hz; exact go_iinc hd (Nat.le_of_ble_eq_true hb) hg kk
  · cases hz; exact go_bin (I := .iadd) (fun A S rm Q x y v st0 h k => by cases h; exact tt_iadd hd k) hg kk
  · cases hz; exact go_bin (I := .isub) (fun A S rm Q x y v st0 h k => by cases h; exact tt_isub hd k) hg kk
  · cases hz; exact go_bin (I := .imul) (fun A S rm Q x y v st0 h k => by cases h; exact tt_imul hd k) hg kk
  · cases hz; exact go_bin (I := .iand) (fun A S rm Q x y v st0 h k => by cases h; exact tt_iand hd k) hg kk
  · cases hz; exact go_bin (I := .ior) (fun A S rm Q x y v st0 h k => by cases h; exact tt_ior hd k) hg kk
  · cases hz; exact go_bin (I := .ixor) (fun A S rm Q x y v st0 h k => by cases h; exact tt_ixor hd k) hg kk
  · cases hz
    refine go_bin (I := .idiv) (fun A S rm Q x y v st0 h k => ?_) hg kk
    by_cases hy : y = 0
    · rw [show bin .idiv x y = none from by show (bif decide (y = 0) then none else some (x / y)) = none; rw [decide_eq_true hy]; rfl] at h; cases h
    · rw [show bin .idiv x y = some (x / y) from by show (bif decide (y = 0) then none else some (x / y)) = _; rw [decide_eq_false hy]; rfl] at h; cases h; exact tt_idiv hd hy k
  · cases hz
    refine go_bin (I := .irem) (fun A S rm Q x y v st0 h k => ?_) hg kk
    by_cases hy : y = 0
    · rw [show bin .irem x y = none from by show (bif decide (y = 0) then none else some (x - x / y * y)) = none; rw [decide_eq_true hy]; rfl] at h; cases h
    · rw [show bin .irem x y = some (x - x / y * y) from by show (bif decide (y = 0) then none else some (x - x / y * y)) = _; rw [decide_eq_false hy]; rfl] at h; cases h; exact tt_irem hd hy k
  · cases hz; exact go_bin (I := .ishl) (fun A S rm Q x y v st0 h k => by cases h; exact tt_ishl hd k) hg kk
  · cases hz; exact go_bin (I := .ishr) (fun A S rm Q x y v st0 h k => by cases h; exact tt_ishr hd k) hg kk
  · cases hz; exact go_i2b hd hg kk
  · cases hz; exact go_i2l hd hg kk
  · cases hz; exact go_lcmp hd hg kk
  · cases hz; exact go_ladd hd hg kk
  · cases hz; exact go_lmul hd hg kk
  · cases hz; exact go_lor hd hg kk
  · cases hz; exact go_lshl hd hg kk
  · cases hz; exact go_dup hd hg kk
  · cases hz; exact go_dup2 hd hg kk
  · cases hz; exact go_pop hd hg kk
  · obtain ⟨hb, hz⟩ := cond_true hz; cases hz; exact go_goto hd (of_decide_eq_true hb) hg kk
  · obtain ⟨hb, hz⟩ := cond_true hz; cases hz; cases (show (none : Option aG) = _ from hg)
  · obtain ⟨hb, hz⟩ := cond_true hz; cases hz; cases (show (none : Option aG) = _ from hg)
  · obtain ⟨hb, hz⟩ := cond_true hz; cases hz; cases (show (none : Option aG) = _ from hg)
  · obtain ⟨hb, hz⟩ := cond_true hz; cases hz; cases (show (none : Option aG) = _ from hg)
  · obtain ⟨hb, hz⟩ := cond_true hz; cases hz
    simp only [Bool.and_eq_true, decide_eq_true_eq, List.all_eq_true] at hb
    exact go_table hd hb.1 hb.2 hg kk
  · split at hz
    · rename_i ci k fin t h1
      obtain ⟨hb, hz⟩ := cond_true hz; cases hz
      obtain ⟨C, T, N, ty, F, -⟩ := flT_ok _ (lk2_mem h1)
      dsimp only at F
      rw [ho] at F
      have e := dm ci k 64 (Nat.le_of_ble_eq_true hb)
      have hg : goGet ((ci * 64 + k) / 64) ((ci * 64 + k) % 64) (pc + 3) lv H st = _ := hg
      rw [e.1, e.2] at hg
      exact go_get F hd hg kk
    · split at hz
      · rename_i ci k h1
        obtain ⟨hb, hz⟩ := cond_true hz; cases hz
        obtain ⟨C, T, N, ty, F⟩ := frT_ok _ (lk2_mem h1)
        dsimp only at F
        rw [ho] at F
        have e := dm ci k 64 (Nat.le_of_ble_eq_true hb)
        have hg : goGet ((ci * 64 + k) / 64) ((ci * 64 + k) % 64) (pc + 3) lv H st = _ := hg
        rw [e.1, e.2] at hg
        exact go_get F hd hg kk
      · cases hz
  · split at hz
    · rename_i ci k fin t h1
      obtain ⟨hb, hz⟩ := cond_true hz; cases hz
      simp only [Bool.and_eq_true] at hb
      obtain ⟨C, T, N, ty, F, g1, g2, g3⟩ := flT_ok _ (lk2_mem h1)
      dsimp only at F g1 g2 g3
      rw [ho] at F g2
      have e := dm ci k 64 (Nat.le_of_ble_eq_true hb.1.1)
      have e2 := dm (ci * 64 + k) t 4 (Nat.le_of_ble_eq_true hb.1.2)
      have hg : goPut (((ci * 64 + k) * 4 + t) / 4 / 64) (((ci * 64 + k) * 4 + t) / 4 % 64) (((ci * 64 + k) * 4 + t) % 4) (pc + 3) lv H st = _ := hg
      rw [e2.1, e2.2, e.1, e.2] at hg
      refine go_put F ?_ g3 hd hg kk
      cases fin with
      | false => exact Or.inl g1
      | true => exact Or.inr ⟨g1, hb.2, g2 rfl⟩
    · cases hz
  · cases hz; exact go_iald hd hg kk
  · cases hz; exact go_bald hd hg kk
  · cases hz; exact go_lald hd hg kk
  · cases hz; exact go_aald hd hg kk
  · cases hz; exact go_iast hd hg kk
  · cases hz; exact go_bast hd hg kk
  · cases hz; exact go_last hd hg kk
  · cases hz; exact go_aast hd hg kk
  · cases hz; exact go_len hd hg kk
  · obtain ⟨n, h1, h2⟩ := map_some' hz; cases h2; exact go_new (cnT_ok _ (lk2_mem h1)) ho hd hg hc hs kk
  · cases hz; exact go_newa hd hg hc hs kk
  · obtain ⟨n, h1, h2⟩ := map_some' hz; cases h2; exact go_newq (cqT_ok _ (lk2_mem h1)) ho hd hg hc hs kk
  · split at hz
    · cases hz; cases (show (none : Option aG) = _ from hg)
    · cases hz
  · split at hz
    · cases hz; cases (show (none : Option aG) = _ from hg)
    · rename_i m h1
      cases hz
      have hw : Cond.methodLink (ownS (mO M)) _ Lib.Math.max.name ∈ gW := mlT_ok _ (lk2_mem h1)
      rw [ho] at hw
      exact go_mmax hw hd hg hc hs kk
    · rename_i m h1
      cases hz
      have hw : Cond.methodLink (ownS (mO M)) _ Lib.Math.min.name ∈ gW := mlT_ok _ (lk2_mem h1)
      rw [ho] at hw
      exact go_mmin hw hd hg hc hs kk
    · rename_i m h1
      cases hz
      have hw : Cond.methodLink (ownS (mO M)) _ arraycopyName ∈ gW := mlT_ok _ (lk2_mem h1)
      rw [ho] at hw
      exact go_cpy hw hd hg kk
    · cases hz
  · split at hz
    · cases hz; cases (show (none : Option aG) = _ from hg)
    · rename_i m h1
      cases hz
      have hw : Cond.methodLink (ownS (mO M)) _ Lib.objectInit ∈ gW := mlT_ok _ (lk2_mem h1)
      rw [ho] at hw
      exact go_obj hw hd hg kk
    · cases hz
  · split at hz
    · cases hz; cases (show (none : Option aG) = _ from hg)
    · cases hz; cases (show (none : Option aG) = _ from hg)
    · cases hz
  · obtain ⟨hb, hz⟩ := cond_true hz; cases hz; cases (show (none : Option aG) = _ from hg)
  · split at hz
    · cases hz; cases (show (none : Option aG) = _ from hg)
    · cases hz; cases (show (none : Option aG) = _ from hg)
    · cases hz
  · obtain ⟨hb, hz⟩ := cond_true hz; cases hz; cases (show (none : Option aG) = _ from hg)
  · cases hz
end GS
