/-! ===== the abstract machine stands for the machine: an instruction that goes on; written by wip/gen/go.py out of go.tmpl ===== -/
theorem w_1_49 : (Cond.static ({ cls := "java/lang/Math", name := "max", desc := "(II)I" } : MethodName)) ∈ gW := gW_1 49 rfl rfl
theorem w_4_10 : (Cond.static ({ cls := "java/lang/Math", name := "min", desc := "(II)I" } : MethodName)) ∈ gW := gW_4 10 rfl rfl
theorem w_1_3 : (Cond.initialized "java/lang/Math") ∈ gW := gW_1 3 rfl rfl
theorem w_1_50 : (Cond.code ({ cls := "java/lang/Math", name := "max", desc := "(II)I" } : MethodName) prog_23_method_65_code (2 : Nat) (Option.some FieldType.int)) ∈ gW := gW_1 50 rfl rfl
theorem w_4_11 : (Cond.code ({ cls := "java/lang/Math", name := "min", desc := "(II)I" } : MethodName) prog_23_method_69_code (2 : Nat) (Option.some FieldType.int)) ∈ gW := gW_4 11 rfl rfl
theorem w_1_40 : (Cond.instanceMethod ({ cls := "java/lang/Object", name := "<init>", desc := "()V" } : MethodName)) ∈ gW := gW_1 40 rfl rfl
theorem w_1_41 : (Cond.code ({ cls := "java/lang/Object", name := "<init>", desc := "()V" } : MethodName) object_method_1_code (1 : Nat) (Option.none : Option FieldType)) ∈ gW := gW_1 41 rfl rfl
theorem w_4_57 : (Cond.native ({ cls := "java/lang/System", name := "arraycopy", desc := "(Ljava/lang/Object;ILjava/lang/Object;II)V" } : MethodName)) ∈ gW := gW_4 57 rfl rfl
theorem w_4_56 : (Cond.static ({ cls := "java/lang/System", name := "arraycopy", desc := "(Ljava/lang/Object;ILjava/lang/Object;II)V" } : MethodName)) ∈ gW := gW_4 56 rfl rfl
theorem w_1_23 : (Cond.initialized "java/lang/System") ∈ gW := gW_1 23 rfl rfl
theorem w_1_116 : (Cond.arrayClass FieldType.int) ∈ gW := gW_1 116 rfl rfl
theorem w_1_62 : (Cond.arrayClass FieldType.byte) ∈ gW := gW_1 62 rfl rfl
theorem w_1_115 : (Cond.arrayClass FieldType.boolean) ∈ gW := gW_1 115 rfl rfl
theorem w_11_4 : (Cond.arrayClass FieldType.long) ∈ gW := gW_11 4 rfl rfl
theorem cat_qV (b : Nat) (A : List Nat) (v : Value) : (qV b A v).category = v.category := by
  unfold qV
  split <;> rfl
theorem cats_qV (b : Nat) (A : List Nat) (st : List Value) : ((st.map (qV b A)).map fun v => v.category).sum = cats st := by
  unfold cats
  rw [List.map_map]
  congr 1
  exact List.map_congr_left fun v _ => cat_qV b A v
theorem lvG_at {i : Nat} {v : Value} : ∀ {lv : aL}, lvG lv i = some v → ∃ j : Nat, lv[j]? = some (i, v)
  | (j, w) :: l, h => by
    unfold lvG at h
    cases hc : (j == i) with
    | true =>
      rw [hc] at h
      have e : j = i := by simpa using hc
      subst e
      cases h
      exact ⟨0, rfl⟩
    | false =>
      rw [hc] at h
      obtain ⟨k, hk⟩ := lvG_at h
      exact ⟨k + 1, hk⟩
theorem lvG_q {lv : aL} {i : Nat} {v : Value} (b : Nat) (A : List Nat) (h : lvG lv i = some v) : ∃ j : Nat, (lv.map (qL b A))[j]? = some (i, qV b A v) := by
  obtain ⟨j, hj⟩ := lvG_at h
  exact ⟨j, by rw [List.getElem?_map, hj]; rfl⟩
theorem lvG_cl {lv : aL} {i n : Nat} {v : Value} (h : lvG lv i = some v) (hl : ∀ q ∈ lv, clV n q.2) : clV n v := by
  obtain ⟨j, hj⟩ := lvG_at h
  exact hl _ (List.mem_of_getElem? hj)
theorem inR_in {i : Int32} {n : Nat} (h : inR i n = true) : vp_in i n := by
  unfold inR at h
  simp only [Bool.and_eq_true, Bool.not_eq_true', decide_eq_false_iff_not] at h
  have h2 : i.toNatClampNeg < n := Nat.le_of_ble_eq_true h.2
  intro h3
  rcases h3 with h3 | h3
  · exact h.1 h3
  · omega
theorem lvS_q (b : Nat) (A : List Nat) (lv : aL) (i : Nat) (v : Value) : (i, qV b A v) :: (lv.map (qL b A)).filter (fun q => !(q.1 == i) && !(q.1 + 1 == i && q.2.category == 2)) = (lvS lv i v).map (qL b A) := by
  unfold lvS
  rw [List.filter_map, List.map_cons]
  congr 2
  refine List.filter_congr fun q _ => ?_
  simp [qL, cat_qV]
theorem lvD_q (b : Nat) (A : List Nat) (lv : aL) (i : Nat) : (lv.map (qL b A)).filter (fun q => !(q.1 == i) && !(q.1 + 1 == i && q.2.category == 2)) = (lvD lv i).map (qL b A) := by
  unfold lvD
  rw [List.filter_map]
  congr 1
  refine List.filter_congr fun q _ => ?_
  simp [qL, cat_qV]
theorem lvS2_q (b : Nat) (A : List Nat) (lv : aL) (i : Nat) (v : Value) : (i, qV b A v) :: (lv.map (qL b A)).filter (fun q => !(q.1 == i) && (!(q.1 == i + 1) && !(q.1 + 1 == i && q.2.category == 2))) = (lvS2 lv i v).map (qL b A) := by
  unfold lvS2
  rw [List.filter_map, List.map_cons]
  congr 2
  refine List.filter_congr fun q _ => ?_
  simp [qL, cat_qV]
theorem lvS_cl {lv : aL} {i n : Nat} {v : Value} (h : ∀ q ∈ lv, clV n q.2) (hv : clV n v) : ∀ q ∈ lvS lv i v, clV n q.2 := by
  intro q hq
  rcases List.mem_cons.mp hq with e | e
  · rw [e]; exact hv
  · exact h q (List.mem_filter.mp e).1
theorem lvD_cl {lv : aL} {i n : Nat} (h : ∀ q ∈ lv, clV n q.2) : ∀ q ∈ lvD lv i, clV n q.2 := fun q hq => h q (List.mem_filter.mp hq).1
theorem lvS2_cl {lv : aL} {i n : Nat} {v : Value} (h : ∀ q ∈ lv, clV n q.2) (hv : clV n v) : ∀ q ∈ lvS2 lv i v, clV n q.2 := by
  intro q hq
  rcases List.mem_cons.mp hq with e | e
  · rw [e]; exact hv
  · exact h q (List.mem_filter.mp e).1
theorem cl_tl {n : Nat} {v : Value} {st : List Value} (h : ∀ x ∈ v :: st, clV n x) : ∀ x ∈ st, clV n x := fun x hx => h x (List.mem_cons_of_mem _ hx)
theorem cl_hd {n : Nat} {v : Value} {st : List Value} (h : ∀ x ∈ v :: st, clV n x) : clV n v := h v List.mem_cons_self
theorem cl_cons {n : Nat} {v : Value} {st : List Value} (hv : clV n v) (h : ∀ x ∈ st, clV n x) : ∀ x ∈ v :: st, clV n x := fun x hx => (List.mem_cons.mp hx).elim (fun e => e ▸ hv) (h x)
section GO
variable {l : Launch} {kd : Nat → ClassId} {D : va_G} {z : tZ} {M : aM} {d pc : Nat} {lv : aL} {st : List Value} {H : aH} {kc ks : Nat} {r : tO × aH × Nat × Nat} {pc' : Nat} {lv' : aL} {st' : List Value} {H' : aH} {c s : Nat} {sc : Nat × (Nat → Int32)}
/-- on, with the same cells -/
theorem Pt.same (kk : Pt l kd D z M d pc' lv' st' H kc ks r)
    (h : ∀ (A : List Nat) (S : tS), Rp kd z.2.1 A H S → (∀ q ∈ lv, clV H.length q.2) → (∀ v ∈ st, clV H.length v) → ((∀ q ∈ lv', clV H.length q.2) ∧ ∀ v ∈ st', clV H.length v) ∧ ∀ (rm : Room) (Q : tO → tS → Prop), d + 6 ≤ rm.frames → 40 * d + 100 ≤ rm.locals → r.2.2.1 ≤ rm.cells → r.2.2.2 ≤ rm.slots →
      tP (mC M) (mY M).cls (mL M) (mR M) (mS M == 2) (mH M) rm D (tyl kd) z l Q kc ks pc' (lv'.map (qL z.2.1 A)) (st'.map (qV z.2.1 A)) S →
      tP (mC M) (mY M).cls (mL M) (mR M) (mS M == 2) (mH M) rm D (tyl kd) z l Q kc ks pc (lv.map (qL z.2.1 A)) (st.map (qV z.2.1 A)) S) : Pt l kd D z M d pc lv st H kc ks r := by
  intro A S hR h1 h2 rm Q f1 f2 f3 f4 hQ
  obtain ⟨⟨g1, g2⟩, g3⟩ := h A S hR h1 h2
  exact g3 rm Q f1 f2 f3 f4 (kk A S hR g1 g2 rm Q f1 f2 f3 f4 hQ)
/-- on, with a cell written -/
theorem Pt.wr {a : Nat} {c0 c1 : aC} (kk : Pt l kd D z M d pc' lv st' (H.set a c1) kc ks r) (ha : H[a]? = some c0)
    (h : ∀ (A : List Nat) (S : tS), Rp kd z.2.1 A H S → (∀ v ∈ st, clV H.length v) → (∀ v ∈ st', clV H.length v) ∧ clC H.length c1 ∧ ∀ (rm : Room) (Q : tO → tS → Prop), d + 6 ≤ rm.frames → 40 * d + 100 ≤ rm.locals → 
      tP (mC M) (mY M).cls (mL M) (mR M) (mS M == 2) (mH M) rm D (tyl kd) z l Q kc ks pc' (lv.map (qL z.2.1 A)) (st'.map (qV z.2.1 A)) (tset S (A.getD a 0) (qC kd z.2.1 A c1)) →
      tP (mC M) (mY M).cls (mL M) (mR M) (mS M == 2) (mH M) rm D (tyl kd) z l Q kc ks pc (lv.map (qL z.2.1 A)) (st.map (qV z.2.1 A)) S) : Pt l kd D z M d pc lv st H kc ks r := by
  intro A S hR h1 h2 rm Q f1 f2 f3 f4 hQ
  obtain ⟨g2, g3, g4⟩ := h A S hR h2
  refine g4 rm Q f1 f2 (kk A _ (hR.set ha g3) ?_ ?_ rm Q f1 f2 f3 f4 hQ)
  · rw [List.length_set]; exact h1
  · rw [List.length_set]; exact g2
theorem map_app {q b : Nat} {A : List Nat} {st : List Value} (h : ∀ v ∈ st, clV A.length v) : st.map (qV b (A ++ [q])) = st.map (qV b A) := List.map_congr_left fun v hv => qV_app (h v hv)
theorem mapL_app {q b : Nat} {A : List Nat} {lv : aL} (h : ∀ v ∈ lv, clV A.length v.2) : lv.map (qL b (A ++ [q])) = lv.map (qL b A) := List.map_congr_left fun v hv => by
  unfold qL
  rw [qV_app (h v hv)]
/-- on, with a new cell -/
theorem Pt.nw {c1 : aC} {n : Nat} (kk : Pt l kd D z M d pc' lv (.ref (H.length + 1) :: st') (H ++ [c1]) (kc + 1) (ks + n) r) (hc : kc + 1 ≤ r.2.2.1) (hs : ks + n ≤ r.2.2.2)
    (h : ∀ (A : List Nat) (S : tS), Rp kd z.2.1 A H S → (∀ v ∈ st, clV H.length v) → (∀ v ∈ st', clV H.length v) ∧ clC H.length c1 ∧ ∀ (rm : Room) (Q : tO → tS → Prop), kc + 1 ≤ rm.cells → ks + n ≤ rm.slots →
      (∀ q, q ∉ S.1 → z.1 ≤ q → tP (mC M) (mY M).cls (mL M) (mR M) (mS M == 2) (mH M) rm D (tyl kd) z l Q (kc + 1) (ks + n) pc' (lv.map (qL z.2.1 A)) (.ref q :: st'.map (qV z.2.1 A)) (tnew S q (qC kd z.2.1 A c1))) →
      tP (mC M) (mY M).cls (mL M) (mR M) (mS M == 2) (mH M) rm D (tyl kd) z l Q kc ks pc (lv.map (qL z.2.1 A)) (st.map (qV z.2.1 A)) S) : Pt l kd D z M d pc lv st H kc ks r := by
  intro A S hR h1 h2 rm Q f1 f2 f3 f4 hQ
  obtain ⟨g2, g3, g4⟩ := h A S hR h2
  have hlen : A.length = H.length := hR.2.2.1
  refine g4 rm Q (Nat.le_trans hc f3) (Nat.le_trans hs f4) (fun q hq _ => ?_)
  have K := kk (A ++ [q]) _ (hR.new hq g3) (fun x hx => (h1 x hx).mono (by rw [List.length_append]; exact Nat.le_add_right _ _)) (fun x hx => by
    rcases List.mem_cons.mp hx with e | e
    · rw [e]; show H.length < _; rw [List.length_append]; exact Nat.lt_succ_self _
    · exact (g2 x e).mono (by rw [List.length_append]; exact Nat.le_add_right _ _)) rm Q f1 f2 f3 f4 (fun A' S' hA => hQ A' S' (by
    obtain ⟨B, hB⟩ := hA
    exact ⟨[q] ++ B, by rw [hB, List.append_assoc]⟩))
  rw [mapL_app (by rw [hlen]; exact h1), List.map_cons, map_app (by rw [hlen]; exact g2)] at K
  have e : qV z.2.1 (A ++ [q]) (.ref (H.length + 1)) = .ref q := by
    show Value.ref ((A ++ [q]).getD H.length 0) = _
    rw [← hlen, gD_new]
  rw [e] at K
  exact K
/-! constants and locals -/
theorem go_const {n : Int} {len : Nat} (hrow : ∀ (A : List Nat) (S : tS) (rm : Room) (Q : tO → tS → Prop), tP (mC M) (mY M).cls (mL M) (mR M) (mS M == 2) (mH M) rm D (tyl kd) z l Q kc ks (pc + len) (lv.map (qL z.2.1 A)) (.int (Int32.ofInt n) :: st.map (qV z.2.1 A)) S → tP (mC M) (mY M).cls (mL M) (mR M) (mS M == 2) (mH M) rm D (tyl kd) z l Q kc ks pc (lv.map (qL z.2.1 A)) (st.map (qV z.2.1 A)) S)
    (hg : stG sc (pc + len) lv st H (.iconst n) = some (pc', lv', st', H', c, s)) (kk : Pt l kd D z M d pc' lv' st' H' (kc + c) (ks + s) r) : Pt l kd D z M d pc lv st H kc ks r := by
  cases (show some (pc + len, lv, Value.int (Int32.ofInt n) :: st, H, 0, 0) = _ from hg)
  exact kk.same fun A S hR h1 h2 => ⟨⟨h1, cl_cons trivial h2⟩, fun rm Q _ _ _ _ k => hrow A S rm Q k⟩
theorem go_constL {n : Nat} {len : Nat} (hrow : ∀ (A : List Nat) (S : tS) (rm : Room) (Q : tO → tS → Prop), tP (mC M) (mY M).cls (mL M) (mR M) (mS M == 2) (mH M) rm D (tyl kd) z l Q kc ks (pc + len) (lv.map (qL z.2.1 A)) (.long (Int64.ofNat n) :: st.map (qV z.2.1 A)) S → tP (mC M) (mY M).cls (mL M) (mR M) (mS M == 2) (mH M) rm D (tyl kd) z l Q kc ks pc (lv.map (qL z.2.1 A)) (st.map (qV z.2.1 A)) S)
    (hg : some (pc + len, lv, Value.long (Int64.ofNat n) :: st, H, 0, 0) = some (pc', lv', st', H', c, s)) (kk : Pt l kd D z M d pc' lv' st' H' (kc + c) (ks + s) r) : Pt l kd D z M d pc lv st H kc ks r := by
  cases hg
  exact kk.same fun A S hR h1 h2 => ⟨⟨h1, cl_cons trivial h2⟩, fun rm Q _ _ _ _ k => hrow A S rm Q k⟩
theorem go_null (hd : decode (mC M) pc = .ok (.aconst_null, 1)) (hg : stG sc (pc + 1) lv st H .aconst_null = some (pc', lv', st', H', c, s)) (kk : Pt l kd D z M d pc' lv' st' H' (kc + c) (ks + s) r) : Pt l kd D z M d pc lv st H kc ks r := by
  cases (show some (pc + 1, lv, Value.null :: st, H, 0, 0) = _ from hg)
  exact kk.same fun A S hR h1 h2 => ⟨⟨h1, cl_cons trivial h2⟩, fun rm Q _ _ _ _ k => tt_null hd k⟩
theorem goL_inv {nx : Nat} {v : Option Value} {t : Nat} {X : aG} (h : goL nx lv st H v t = some X) : ∃ w, v = some w ∧ X = (nx, lv, w :: st, H, 0, 0) ∧ ((t = 0 ∧ ∃ x, w = .int x) ∨ (t = 1 ∧ ∃ x, w = .long x) ∨ (t = 2 ∧ ∃ x, w = .ref x)) := by
  unfold goL at h
  split at h
  · cases h; exact ⟨_, rfl, rfl, Or.inl ⟨rfl, _, rfl⟩⟩
  · cases h; exact ⟨_, rfl, rfl, Or.inr (Or.inl ⟨rfl, _, rfl⟩)⟩
  · cases h; exact ⟨_, rfl, rfl, Or.inr (Or.inr ⟨rfl, _, rfl⟩)⟩
  · cases h
theorem go_load {i len t : Nat} (hrow : ∀ (A : List Nat) (S : tS) (rm : Room) (Q : tO → tS → Prop) (v : Value) (j : Nat), ((t = 0 ∧ ∃ x, v = .int x) ∨ (t = 1 ∧ ∃ x, v = .long x) ∨ (t = 2 ∧ ∃ x, v = .ref x)) → (lv.map (qL z.2.1 A))[j]? = some (i, v) → tP (mC M) (mY M).cls (mL M) (mR M) (mS M == 2) (mH M) rm D (tyl kd) z l Q kc ks (pc + len) (lv.map (qL z.2.1 A)) (v :: st.map (qV z.2.1 A)) S → tP (mC M) (mY M).cls (mL M) (mR M) (mS M == 2) (mH M) rm D (tyl kd) z l Q kc ks pc (lv.map (qL z.2.1 A)) (st.map (qV z.2.1 A)) S)
    (hg : goL (pc + len) lv st H (lvG lv i) t = some (pc', lv', st', H', c, s)) (kk : Pt l kd D z M d pc' lv' st' H' (kc + c) (ks + s) r) : Pt l kd D z M d pc lv st H kc ks r := by
  obtain ⟨w, h1, h2, h3⟩ := goL_inv hg
  cases h2
  refine kk.same fun A S hR c1 c2 => ⟨⟨c1, cl_cons (lvG_cl h1 c1) c2⟩, fun rm Q _ _ _ _ k => ?_⟩
  obtain ⟨j, hj⟩ := lvG_q z.2.1 A h1
  refine hrow A S rm Q _ j ?_ hj k
  rcases h3 with ⟨e, x, rfl⟩ | ⟨e, x, rfl⟩ | ⟨e, x, rfl⟩
  · exact Or.inl ⟨e, x, rfl⟩
  · exact Or.inr (Or.inl ⟨e, x, rfl⟩)
  · refine Or.inr (Or.inr ⟨e, ?_⟩)
    cases x with
    | zero => exact ⟨_, rfl⟩
    | succ n => exact ⟨_, rfl⟩
theorem ld0 {v : Value} (h : (0 = 0 ∧ ∃ x, v = .int x) ∨ (0 = 1 ∧ ∃ x, v = .long x) ∨ (0 = 2 ∧ ∃ x, v = .ref x)) : ∃ x, v = .int x := by
  rcases h with ⟨_, h⟩ | ⟨h, _⟩ | ⟨h, _⟩
  · exact h
  · cases h
  · cases h
theorem ld1 {v : Value} (h : (1 = 0 ∧ ∃ x, v = .int x) ∨ (1 = 1 ∧ ∃ x, v = .long x) ∨ (1 = 2 ∧ ∃ x, v = .ref x)) : ∃ x, v = .long x := by
  rcases h with ⟨h, _⟩ | ⟨_, h⟩ | ⟨h, _⟩
  · cases h
  · exact h
  · cases h
theorem ld2 {v : Value} (h : (2 = 0 ∧ ∃ x, v = .int x) ∨ (2 = 1 ∧ ∃ x, v = .long x) ∨ (2 = 2 ∧ ∃ x, v = .ref x)) : ∃ x, v = .ref x := by
  rcases h with ⟨h, _⟩ | ⟨h, _⟩ | ⟨_, h⟩
  · cases h
  · cases h
  · exact h
theorem go_store {i len : Nat} (hrow : ∀ (A : List Nat) (S : tS) (rm : Room) (Q : tO → tS → Prop) (x : Int32) (st0 : List Value), tP (mC M) (mY M).cls (mL M) (mR M) (mS M == 2) (mH M) rm D (tyl kd) z l Q kc ks (pc + len) ((lvS lv i (.int x)).map (qL z.2.1 A)) (st0.map (qV z.2.1 A)) S → tP (mC M) (mY M).cls (mL M) (mR M) (mS M == 2) (mH M) rm D (tyl kd) z l Q kc ks pc (lv.map (qL z.2.1 A)) (.int x :: st0.map (qV z.2.1 A)) S)
    (hg : stG sc (pc + len) lv st H (.istore i) = some (pc', lv', st', H', c, s)) (kk : Pt l kd D z M d pc' lv' st' H' (kc + c) (ks + s) r) : Pt l kd D z M d pc lv st H kc ks r := by
  unfold stG at hg
  dsimp only at hg
  split at hg
  · cases hg
    exact kk.same fun A S hR h1 h2 => ⟨⟨lvS_cl h1 trivial, cl_tl h2⟩, fun rm Q _ _ _ _ k => hrow A S rm Q _ _ k⟩
  · cases hg
theorem go_storeA {i len : Nat} (hrow : ∀ (A : List Nat) (S : tS) (rm : Room) (Q : tO → tS → Prop) (x : Nat) (y : Nat) (st0 : List Value), qV z.2.1 A (.ref x) = .ref y → tP (mC M) (mY M).cls (mL M) (mR M) (mS M == 2) (mH M) rm D (tyl kd) z l Q kc ks (pc + len) ((lvS lv i (.ref x)).map (qL z.2.1 A)) (st0.map (qV z.2.1 A)) S → tP (mC M) (mY M).cls (mL M) (mR M) (mS M == 2) (mH M) rm D (tyl kd) z l Q kc ks pc (lv.map (qL z.2.1 A)) (.ref y :: st0.map (qV z.2.1 A)) S)
    (hg : stG sc (pc + len) lv st H (.astore i) = some (pc', lv', st', H', c, s)) (kk : Pt l kd D z M d pc' lv' st' H' (kc + c) (ks + s) r) : Pt l kd D z M d pc lv st H kc ks r := by
  unfold stG at hg
  dsimp only at hg
  split at hg
  · rename_i x s0
    cases hg
    refine kk.same fun A S hR h1 h2 => ⟨⟨lvS_cl h1 (cl_hd h2), cl_tl h2⟩, fun rm Q _ _ _ _ k => ?_⟩
    cases x with
    | zero => exact hrow A S rm Q 0 _ _ rfl k
    | succ n => exact hrow A S rm Q (n + 1) _ _ rfl k
  · cases hg
theorem go_storeL {i len : Nat} (hrow : ∀ (A : List Nat) (S : tS) (rm : Room) (Q : tO → tS → Prop) (x : Int64) (st0 : List Value), tP (mC M) (mY M).cls (mL M) (mR M) (mS M == 2) (mH M) rm D (tyl kd) z l Q kc ks (pc + len) ((lvS2 lv i (.long x)).map (qL z.2.1 A)) (st0.map (qV z.2.1 A)) S → tP (mC M) (mY M).cls (mL M) (mR M) (mS M == 2) (mH M) rm D (tyl kd) z l Q kc ks pc (lv.map (qL z.2.1 A)) (.long x :: st0.map (qV z.2.1 A)) S)
    (hg : stG sc (pc + len) lv st H (.lstore i) = some (pc', lv', st', H', c, s)) (kk : Pt l kd D z M d pc' lv' st' H' (kc + c) (ks + s) r) : Pt l kd D z M d pc lv st H kc ks r := by
  unfold stG at hg
  dsimp only at hg
  split at hg
  · cases hg
    exact kk.same fun A S hR h1 h2 => ⟨⟨lvS2_cl h1 trivial, cl_tl h2⟩, fun rm Q _ _ _ _ k => hrow A S rm Q _ _ k⟩
  · cases hg
theorem go_iinc {i : Nat} {n : Int} (hd : decode (mC M) pc = .ok (.iinc i n, 3)) (hn : i < mL M) (hg : stG sc (pc + 3) lv st H (.iinc i n) = some (pc', lv', st', H', c, s)) (kk : Pt l kd D z M d pc' lv' st' H' (kc + c) (ks + s) r) : Pt l kd D z M d pc lv st H kc ks r := by
  unfold stG at hg
  dsimp only at hg
  split at hg
  · rename_i x hx
    cases hg
    refine kk.same fun A S hR h1 h2 => ⟨⟨lvS_cl h1 trivial, h2⟩, fun rm Q _ _ _ _ k => ?_⟩
    obtain ⟨j, hj⟩ := lvG_q z.2.1 A hx
    exact tt_iinc hd j hj rfl hn (lvS_q z.2.1 A lv i (.int _)) k
  · cases hg
/-! arithmetic -/
theorem go_bin {I : Instr} (hrow : ∀ (A : List Nat) (S : tS) (rm : Room) (Q : tO → tS → Prop) (x y v : Int32) (st0 : List Value), bin I x y = some v → tP (mC M) (mY M).cls (mL M) (mR M) (mS M == 2) (mH M) rm D (tyl kd) z l Q kc ks (pc + 1) (lv.map (qL z.2.1 A)) (.int v :: st0.map (qV z.2.1 A)) S → tP (mC M) (mY M).cls (mL M) (mR M) (mS M == 2) (mH M) rm D (tyl kd) z l Q kc ks pc (lv.map (qL z.2.1 A)) (.int y :: .int x :: st0.map (qV z.2.1 A)) S)
    (hg : goB I (pc + 1) lv H st = some (pc', lv', st', H', c, s)) (kk : Pt l kd D z M d pc' lv' st' H' (kc + c) (ks + s) r) : Pt l kd D z M d pc lv st H kc ks r := by
  unfold goB at hg
  split at hg
  · split at hg
    · rename_i v hv
      cases hg
      exact kk.same fun A S hR h1 h2 => ⟨⟨h1, cl_cons trivial (cl_tl (cl_tl h2))⟩, fun rm Q _ _ _ _ k => hrow A S rm Q _ _ _ _ hv k⟩
    · cases hg
  · cases hg
theorem go_i2b (hd : decode (mC M) pc = .ok (.i2b, 1)) (hg : stG sc (pc + 1) lv st H .i2b = some (pc', lv', st', H', c, s)) (kk : Pt l kd D z M d pc' lv' st' H' (kc + c) (ks + s) r) : Pt l kd D z M d pc lv st H kc ks r := by
  unfold stG at hg
  dsimp only at hg
  split at hg
  · cases hg
    exact kk.same fun A S hR h1 h2 => ⟨⟨h1, cl_cons trivial (cl_tl h2)⟩, fun rm Q _ _ _ _ k => tt_i2b hd k⟩
  · cases hg
theorem go_i2l (hd : decode (mC M) pc = .ok (.i2l, 1)) (hg : stG sc (pc + 1) lv st H .i2l = some (pc', lv', st', H', c, s)) (kk : Pt l kd D z M d pc' lv' st' H' (kc + c) (ks + s) r) : Pt l kd D z M d pc lv st H kc ks r := by
  unfold stG at hg
  dsimp only at hg
  split at hg
  · cases hg
    exact kk.same fun A S hR h1 h2 => ⟨⟨h1, cl_cons trivial (cl_tl h2)⟩, fun rm Q _ _ _ _ k => tt_i2l hd k⟩
  · cases hg
theorem go_lcmp (hd : decode (mC M) pc = .ok (.lcmp, 1)) (hg : stG sc (pc + 1) lv st H .lcmp = some (pc', lv', st', H', c, s)) (kk : Pt l kd D z M d pc' lv' st' H' (kc + c) (ks + s) r) : Pt l kd D z M d pc lv st H kc ks r := by
  unfold stG at hg
  dsimp only at hg
  split at hg
  · cases hg
    exact kk.same fun A S hR h1 h2 => ⟨⟨h1, cl_cons trivial (cl_tl (cl_tl h2))⟩, fun rm Q _ _ _ _ k => tt_lcmp hd k⟩
  · cases hg
theorem go_ladd (hd : decode (mC M) pc = .ok (.ladd, 1)) (hg : stG sc (pc + 1) lv st H .ladd = some (pc', lv', st', H', c, s)) (kk : Pt l kd D z M d pc' lv' st' H' (kc + c) (ks + s) r) : Pt l kd D z M d pc lv st H kc ks r := by
  unfold stG at hg
  dsimp only at hg
  split at hg
  · cases hg
    exact kk.same fun A S hR h1 h2 => ⟨⟨h1, cl_cons trivial (cl_tl (cl_tl h2))⟩, fun rm Q _ _ _ _ k => tt_ladd hd k⟩
  · cases hg
theorem go_lmul (hd : decode (mC M) pc = .ok (.lmul, 1)) (hg : stG sc (pc + 1) lv st H .lmul = some (pc', lv', st', H', c, s)) (kk : Pt l kd D z M d pc' lv' st' H' (kc + c) (ks + s) r) : Pt l kd D z M d pc lv st H kc ks r := by
  unfold stG at hg
  dsimp only at hg
  split at hg
  · cases hg
    exact kk.same fun A S hR h1 h2 => ⟨⟨h1, cl_cons trivial (cl_tl (cl_tl h2))⟩, fun rm Q _ _ _ _ k => tt_lmul hd k⟩
  · cases hg
theorem go_lor (hd : decode (mC M) pc = .ok (.lor, 1)) (hg : stG sc (pc + 1) lv st H .lor = some (pc', lv', st', H', c, s)) (kk : Pt l kd D z M d pc' lv' st' H' (kc + c) (ks + s) r) : Pt l kd D z M d pc lv st H kc ks r := by
  unfold stG at hg
  dsimp only at hg
  split at hg
  · cases hg
    exact kk.same fun A S hR h1 h2 => ⟨⟨h1, cl_cons trivial (cl_tl (cl_tl h2))⟩, fun rm Q _ _ _ _ k => tt_lor hd k⟩
  · cases hg
theorem go_lshl (hd : decode (mC M) pc = .ok (.lshl, 1)) (hg : stG sc (pc + 1) lv st H .lshl = some (pc', lv', st', H', c, s)) (kk : Pt l kd D z M d pc' lv' st' H' (kc + c) (ks + s) r) : Pt l kd D z M d pc lv st H kc ks r := by
  unfold stG at hg
  dsimp only at hg
  split at hg
  · cases hg
    exact kk.same fun A S hR h1 h2 => ⟨⟨h1, cl_cons trivial (cl_tl (cl_tl h2))⟩, fun rm Q _ _ _ _ k => tt_lshl hd k⟩
  · cases hg
theorem cond_true {α : Type} {b : Bool} {x : α} {y : Option α} (h : (bif b then y else none) = some x) : b = true ∧ y = some x := by
  cases b with
  | true => exact ⟨rfl, h⟩
  | false => cases h
theorem go_dup (hd : decode (mC M) pc = .ok (.dup, 1)) (hg : stG sc (pc + 1) lv st H .dup = some (pc', lv', st', H', c, s)) (kk : Pt l kd D z M d pc' lv' st' H' (kc + c) (ks + s) r) : Pt l kd D z M d pc lv st H kc ks r := by
  unfold stG at hg
  dsimp only at hg
  split at hg
  · obtain ⟨hb, hg⟩ := cond_true hg
    cases hg
    exact kk.same fun A S hR h1 h2 => ⟨⟨h1, cl_cons (cl_hd h2) h2⟩, fun rm Q _ _ _ _ k => tt_dup hd (by rw [cat_qV]; simpa using hb) k⟩
  · cases hg
theorem go_dup2 (hd : decode (mC M) pc = .ok (.dup2, 1)) (hg : stG sc (pc + 1) lv st H .dup2 = some (pc', lv', st', H', c, s)) (kk : Pt l kd D z M d pc' lv' st' H' (kc + c) (ks + s) r) : Pt l kd D z M d pc lv st H kc ks r := by
  unfold stG at hg
  dsimp only at hg
  split at hg
  · obtain ⟨hb, hg⟩ := cond_true hg
    cases hg
    simp only [Bool.and_eq_true, beq_iff_eq] at hb
    exact kk.same fun A S hR h1 h2 => ⟨⟨h1, cl_cons (cl_hd h2) (cl_cons (cl_hd (cl_tl h2)) h2)⟩, fun rm Q _ _ _ _ k => tt_dup2 hd (by rw [cat_qV]; exact hb.1) (by rw [cat_qV]; exact hb.2) k⟩
  · cases hg
theorem go_pop (hd : decode (mC M) pc = .ok (.pop, 1)) (hg : stG sc (pc + 1) lv st H .pop = some (pc', lv', st', H', c, s)) (kk : Pt l kd D z M d pc' lv' st' H' (kc + c) (ks + s) r) : Pt l kd D z M d pc lv st H kc ks r := by
  unfold stG at hg
  dsimp only at hg
  split at hg
  · obtain ⟨hb, hg⟩ := cond_true hg
    cases hg
    exact kk.same fun A S hR h1 h2 => ⟨⟨h1, cl_tl h2⟩, fun rm Q _ _ _ _ k => tt_pop hd (by rw [cat_qV]; simpa using hb) k⟩
  · cases hg
theorem go_goto {o : Int} (hd : decode (mC M) pc = .ok (.goto o, 3)) (ho : 0 ≤ (pc : Int) + o) (hg : stG sc (pc + 3) lv st H (.goto ((pc : Int) + o)) = some (pc', lv', st', H', c, s)) (kk : Pt l kd D z M d pc' lv' st' H' (kc + c) (ks + s) r) : Pt l kd D z M d pc lv st H kc ks r := by
  cases (show some (((pc : Int) + o).toNat, lv, st, H, 0, 0) = _ from hg)
  exact kk.same fun A S hR h1 h2 => ⟨⟨h1, h2⟩, fun rm Q _ _ _ _ k => tt_goto hd (by omega) k⟩
theorem go_table {dd lo hi : Int} {offs : Array Int} {len : Nat} (hd : decode (mC M) pc = .ok (.tableswitch dd lo hi offs, len)) (ho : 0 ≤ (pc : Int) + dd) (ho2 : ∀ o ∈ offs.toList, 0 ≤ (pc : Int) + o)
    (hg : stG sc (pc + len) lv st H (.tableswitch ((pc : Int) + dd) lo hi (offs.map (fun o => (pc : Int) + o))) = some (pc', lv', st', H', c, s)) (kk : Pt l kd D z M d pc' lv' st' H' (kc + c) (ks + s) r) : Pt l kd D z M d pc lv st H kc ks r := by
  unfold stG goTab at hg
  dsimp only at hg
  split at hg
  · rename_i x s0
    split at hg
    · rename_i hx
      cases hg
      exact kk.same fun A S hR h1 h2 => ⟨⟨h1, cl_tl h2⟩, fun rm Q _ _ _ _ k => tt_tableOut hd hx (by omega) k⟩
    · rename_i hx
      split at hg
      · rename_i t ht
        cases hg
        rw [Array.getElem?_map] at ht
        cases hoo : offs[(x.toInt - lo).toNat]? with
        | none => rw [hoo] at ht; cases ht
        | some off =>
          rw [hoo] at ht
          cases ht
          have h0 := ho2 off (Array.mem_toList_iff.mpr (Array.mem_of_getElem? hoo))
          exact kk.same fun A S hR h1 h2 => ⟨⟨h1, cl_tl h2⟩, fun rm Q _ _ _ _ k => tt_tableIn hd (fun h => hx (Or.inl h)) (fun h => hx (Or.inr h)) hoo (by show (pc : Int) + off = ((((pc : Int) + off).toNat : Nat) : Int); omega) k⟩
      · cases hg
  · cases hg
theorem go_mmax {i : Nat} (w1 : Cond.methodLink (mY M).cls i Lib.Math.max.name ∈ gW) (hd : decode (mC M) pc = .ok (.invokestatic i, 3)) (hg : stG sc (pc + 3) lv st H .dadd = some (pc', lv', st', H', c, s)) (hc : kc + c ≤ r.2.2.1) (hs : ks + s ≤ r.2.2.2) (kk : Pt l kd D z M d pc' lv' st' H' (kc + c) (ks + s) r) : Pt l kd D z M d pc lv st H kc ks r := by
  unfold stG at hg
  dsimp only at hg
  split at hg
  · obtain ⟨hb, hg⟩ := cond_true hg
    cases hg
    have hb := Nat.le_of_ble_eq_true hb
    exact kk.same fun A S hR h1 h2 => ⟨⟨h1, cl_cons trivial (cl_tl (cl_tl h2))⟩, fun rm Q f1 f2 f3 f4 k => tt_mmax w1 w_1_49 w_1_3 w_1_50 ⟨by omega, by rw [cats_qV]; omega, Nat.le_trans hc f3, Nat.le_trans hs f4⟩ hd k⟩
  · cases hg
theorem go_mmin {i : Nat} (w1 : Cond.methodLink (mY M).cls i Lib.Math.min.name ∈ gW) (hd : decode (mC M) pc = .ok (.invokestatic i, 3)) (hg : stG sc (pc + 3) lv st H .dsub = some (pc', lv', st', H', c, s)) (hc : kc + c ≤ r.2.2.1) (hs : ks + s ≤ r.2.2.2) (kk : Pt l kd D z M d pc' lv' st' H' (kc + c) (ks + s) r) : Pt l kd D z M d pc lv st H kc ks r := by
  unfold stG at hg
  dsimp only at hg
  split at hg
  · obtain ⟨hb, hg⟩ := cond_true hg
    cases hg
    have hb := Nat.le_of_ble_eq_true hb
    exact kk.same fun A S hR h1 h2 => ⟨⟨h1, cl_cons trivial (cl_tl (cl_tl h2))⟩, fun rm Q f1 f2 f3 f4 k => tt_mmin w1 w_4_10 w_1_3 w_4_11 ⟨by omega, by rw [cats_qV]; omega, Nat.le_trans hc f3, Nat.le_trans hs f4⟩ hd k⟩
  · cases hg
theorem go_obj {i : Nat} (w1 : Cond.methodLink (mY M).cls i Lib.objectInit ∈ gW) (hd : decode (mC M) pc = .ok (.invokespecial i, 3)) (hg : stG sc (pc + 3) lv st H .dmul = some (pc', lv', st', H', c, s)) (kk : Pt l kd D z M d pc' lv' st' H' (kc + c) (ks + s) r) : Pt l kd D z M d pc lv st H kc ks r := by
  unfold stG at hg
  dsimp only at hg
  split at hg
  · rename_i x s0
    obtain ⟨hb, hg⟩ := cond_true hg
    cases hg
    have hb := Nat.le_of_ble_eq_true hb
    refine kk.same fun A S hR h1 h2 => ⟨⟨h1, cl_tl h2⟩, fun rm Q f1 f2 f3 f4 k => ?_⟩
    cases x with
    | zero => exact tt_objInit w1 w_1_40 w_1_41 ⟨by omega, by rw [cats_qV]; omega⟩ hd k
    | succ n => exact tt_objInit w1 w_1_40 w_1_41 ⟨by omega, by rw [cats_qV]; omega⟩ hd k
  · cases hg
/-! the heap -/
theorem mem_cl {n : Nat} {fs : List Value} {k : Nat} {v : Value} (h : ∀ x ∈ fs, clV n x) (hk : fs[k]? = some v) : clV n v := h v (List.mem_of_getElem? hk)
theorem go_get {i ci k : Nat} {C : String} {T : u_T} {N : Nat} {ty : Nat → FieldType} (F : tF (mY M).cls i ci k C T N ty) (hd : decode (mC M) pc = .ok (.getfield i, 3)) (hg : goGet ci k (pc + 3) lv H st = some (pc', lv', st', H', c, s)) (kk : Pt l kd D z M d pc' lv' st' H' (kc + c) (ks + s) r) : Pt l kd D z M d pc lv st H kc ks r := by
  unfold goGet at hg
  split at hg
  · rename_i a s0
    split at hg
    · rename_i c' fs ha
      obtain ⟨hb, hg2⟩ := cond_true hg
      have e : c' = ci := by simpa using hb
      subst e
      split at hg2
      · rename_i v hv
        cases hg2
        refine kk.same fun A S hR h1 h2 => ⟨⟨h1, cl_cons (mem_cl (hR.2.2.2.2 a _ ha) hv) (cl_tl h2)⟩, fun rm Q f1 f2 f3 f4 k => ?_⟩
        have hG := hR.get ha
        exact tt_get F hd hG.1 hG.2 (by rw [List.getElem?_map, hv]; rfl) k
      · cases hg2
    · cases hg
  · cases hg
theorem fit_qV {b : Nat} {A : List Nat} {t : Nat} {v : Value} {ty : FieldType} (h : fitV t v = true) (ht : (t = 0 ∧ ty = .int) ∨ (t = 1 ∧ ty = .boolean) ∨ (t = 2 ∧ ((∃ n, ty = .object n) ∨ ∃ t, ty = .array t))) : narrow ty (qV b A v) = qV b A v ∧ fits ty (qV b A v) = true := by
  unfold fitV at h
  rcases ht with ⟨e1, e2⟩ | ⟨e1, e2⟩ | ⟨e1, e2⟩
  · subst e1 e2
    split at h
    · exact ⟨rfl, rfl⟩
    · cases h
    · cases h
    · cases h
  · subst e1 e2
    split at h
    · rename_i x
      simp only [Bool.or_eq_true, Bool.and_eq_true, decide_eq_true_eq] at h
      rcases h with h | ⟨-, h | h⟩
      · cases h
      · subst h; exact ⟨rfl, rfl⟩
      · subst h; exact ⟨rfl, rfl⟩
    · cases h
    · cases h
    · cases h
  · subst e1
    have key : ∀ w, (w = Value.null ∨ ∃ a, w = Value.ref a) → narrow ty w = w ∧ fits ty w = true := by
      intro w hw
      rcases e2 with ⟨n, rfl⟩ | ⟨n, rfl⟩ <;> rcases hw with rfl | ⟨a, rfl⟩ <;> exact ⟨rfl, rfl⟩
    apply key
    split at h
    · simp at h
    · rename_i x
      cases x with
      | zero => exact Or.inr ⟨_, rfl⟩
      | succ n => exact Or.inr ⟨_, rfl⟩
    · exact Or.inl rfl
    · cases h
theorem go_put {i ci k t : Nat} {C : String} {T : u_T} {N : Nat} {ty : Nat → FieldType} (F : tF (mY M).cls i ci k C T N ty) (hfin : (T k).2.2.2 = false ∨ ((T k).2.2.2 = true ∧ (mS M == 2) = true ∧ C = (mY M).cls)) (ht : (t = 0 ∧ ty k = .int) ∨ (t = 1 ∧ ty k = .boolean) ∨ (t = 2 ∧ ((∃ n, ty k = .object n) ∨ ∃ t, ty k = .array t))) (hd : decode (mC M) pc = .ok (.putfield i, 3)) (hg : goPut ci k t (pc + 3) lv H st = some (pc', lv', st', H', c, s)) (kk : Pt l kd D z M d pc' lv' st' H' (kc + c) (ks + s) r) : Pt l kd D z M d pc lv st H kc ks r := by
  unfold goPut at hg
  split at hg
  · rename_i v a s0
    split at hg
    · rename_i c' fs ha
      obtain ⟨hb, hg⟩ := cond_true hg
      simp only [Bool.and_eq_true, beq_iff_eq] at hb
      obtain ⟨⟨e, hfv⟩, hk⟩ := hb
      subst e
      cases hg
      have hk : k < fs.length := Nat.le_of_ble_eq_true hk
      refine kk.wr ha fun A S hR h2 => ⟨cl_tl (cl_tl h2), ?_, fun rm Q f1 f2 kx => ?_⟩
      · intro w hw
        rcases List.mem_or_eq_of_mem_set hw with h | h
        · exact hR.2.2.2.2 a _ ha w h
        · rw [h]; exact cl_hd h2
      · have hG := hR.get ha
        have hf := fit_qV (b := z.2.1) (A := A) hfv ht
        refine tt_put F hd hG.1 hG.2 hfin hf.1 hf.2 (by rw [List.length_map]; exact hk) ?_
        rw [← List.map_set]
        exact kx
    · cases hg
  · cases hg
theorem go_iald (hd : decode (mC M) pc = .ok (.iaload, 1)) (hg : goIald (z.2.2.1, z.2.2.2) (pc + 1) lv H st = some (pc', lv', st', H', c, s)) (kk : Pt l kd D z M d pc' lv' st' H' (kc + c) (ks + s) r) : Pt l kd D z M d pc lv st H kc ks r := by
  unfold goIald at hg
  split at hg
  · obtain ⟨hb, hg⟩ := cond_true hg
    cases hg
    exact kk.same fun A S hR h1 h2 => ⟨⟨h1, cl_cons trivial (cl_tl (cl_tl h2))⟩, fun rm Q f1 f2 f3 f4 k => tt_sld hd (inR_in hb) k⟩
  · rename_i i a s0
    split at hg
    · rename_i n f ha
      obtain ⟨hb, hg⟩ := cond_true hg
      cases hg
      refine kk.same fun A S hR h1 h2 => ⟨⟨h1, cl_cons trivial (cl_tl (cl_tl h2))⟩, fun rm Q f1 f2 f3 f4 k => ?_⟩
      have hG := hR.get ha
      exact tt_iald 0 hd rfl hG.1 hG.2 (inR_in hb) k
    · cases hg
  · cases hg
theorem go_bald (hd : decode (mC M) pc = .ok (.baload, 1)) (hg : goBald (pc + 1) lv H st = some (pc', lv', st', H', c, s)) (kk : Pt l kd D z M d pc' lv' st' H' (kc + c) (ks + s) r) : Pt l kd D z M d pc lv st H kc ks r := by
  unfold goBald at hg
  split at hg
  · rename_i i a s0
    split at hg
    · rename_i n f ha
      obtain ⟨hb, hg⟩ := cond_true hg
      cases hg
      refine kk.same fun A S hR h1 h2 => ⟨⟨h1, cl_cons trivial (cl_tl (cl_tl h2))⟩, fun rm Q f1 f2 f3 f4 k => ?_⟩
      have hG := hR.get ha
      exact tt_bald 1 hd rfl hG.1 hG.2 (inR_in hb) k
    · rename_i n f ha
      obtain ⟨hb, hg⟩ := cond_true hg
      cases hg
      refine kk.same fun A S hR h1 h2 => ⟨⟨h1, cl_cons trivial (cl_tl (cl_tl h2))⟩, fun rm Q f1 f2 f3 f4 k => ?_⟩
      have hG := hR.get ha
      exact tt_zald 2 hd rfl hG.1 hG.2 (inR_in hb) k
    · cases hg
  · cases hg
theorem go_lald (hd : decode (mC M) pc = .ok (.laload, 1)) (hg : goLald (pc + 1) lv H st = some (pc', lv', st', H', c, s)) (kk : Pt l kd D z M d pc' lv' st' H' (kc + c) (ks + s) r) : Pt l kd D z M d pc lv st H kc ks r := by
  unfold goLald at hg
  split at hg
  · rename_i i a s0
    split at hg
    · rename_i n f ha
      obtain ⟨hb, hg⟩ := cond_true hg
      cases hg
      refine kk.same fun A S hR h1 h2 => ⟨⟨h1, cl_cons trivial (cl_tl (cl_tl h2))⟩, fun rm Q f1 f2 f3 f4 k => ?_⟩
      have hG := hR.get ha
      exact tt_lald 3 hd rfl hG.1 hG.2 (inR_in hb) k
    · cases hg
  · cases hg
theorem ty_q (kd : Nat → ClassId) {t : Nat} (h1 : Nat.blt t 7 = true) (h2 : Nat.ble 4 t = true) : ∃ C T N, (tyl kd)[t]? = some (kd t, .object C) ∧ cls[qCl t]? = some (C, T, N) := by
  have a : t < 7 := Nat.le_of_ble_eq_true h1
  have b : 4 ≤ t := Nat.le_of_ble_eq_true h2
  obtain rfl | rfl | rfl : t = 4 ∨ t = 5 ∨ t = 6 := by omega
  · exact ⟨_, _, _, rfl, rfl⟩
  · exact ⟨_, _, _, rfl, rfl⟩
  · exact ⟨_, _, _, rfl, rfl⟩
theorem go_aald (hd : decode (mC M) pc = .ok (.aaload, 1)) (hg : goAald (pc + 1) lv H st = some (pc', lv', st', H', c, s)) (kk : Pt l kd D z M d pc' lv' st' H' (kc + c) (ks + s) r) : Pt l kd D z M d pc lv st H kc ks r := by
  unfold goAald at hg
  split at hg
  · rename_i i a s0
    split at hg
    · rename_i t n f ha
      obtain ⟨hb, hg⟩ := cond_true hg
      simp only [Bool.and_eq_true] at hb
      obtain ⟨C, T, N, ht, -⟩ := ty_q kd hb.1.2 hb.2
      split at hg
      · rename_i b hf
        cases hg
        refine kk.same fun A S hR h1 h2 => ⟨⟨h1, cl_cons (hR.2.2.2.2 a _ ha _ _ hf) (cl_tl (cl_tl h2))⟩, fun rm Q f1 f2 f3 f4 k => ?_⟩
        have hG := hR.get ha
        exact tt_aald t hd ht hG.1 hG.2 (inR_in hb.1.1) (by show Option.map _ (f _) = _; rw [hf]; rfl) k
      · cases hg
    · cases hg
  · cases hg
theorem go_iast (hd : decode (mC M) pc = .ok (.iastore, 1)) (hg : goIast (pc + 1) lv H st = some (pc', lv', st', H', c, s)) (kk : Pt l kd D z M d pc' lv' st' H' (kc + c) (ks + s) r) : Pt l kd D z M d pc lv st H kc ks r := by
  unfold goIast at hg
  split at hg
  · rename_i x i a s0
    split at hg
    · rename_i n f ha
      obtain ⟨hb, hg⟩ := cond_true hg
      cases hg
      refine kk.wr ha fun A S hR h2 => ⟨cl_tl (cl_tl (cl_tl h2)), trivial, fun rm Q f1 f2 kx => ?_⟩
      have hG := hR.get ha
      exact tt_iast 0 hd rfl hG.1 hG.2 (inR_in hb) kx
    · cases hg
  · cases hg
theorem nar_z (x : Int32) : vp_nar .boolean x = if decide (x &&& 1 = 1) then 1 else 0 := by
  have h : x &&& 1 = 0 ∨ x &&& 1 = 1 := by
    have h1 : (x &&& 1).toBitVec = x.toBitVec &&& 1#32 := rfl
    have h2 : x.toBitVec &&& 1#32 = 0#32 ∨ x.toBitVec &&& 1#32 = 1#32 := by
      cases hb : x.toBitVec.getLsbD 0 with
      | false =>
        left
        apply BitVec.eq_of_getLsbD_eq
        intro i hi
        by_cases h0 : i = 0
        · subst h0; rw [BitVec.getLsbD_and, hb]; simp
        · simp [BitVec.getLsbD_one, h0]
      | true =>
        right
        apply BitVec.eq_of_getLsbD_eq
        intro i hi
        by_cases h0 : i = 0
        · subst h0; simp [hb]
        · simp [BitVec.getLsbD_one, h0]
    rcases h2 with h2 | h2
    · left; exact Int32.toBitVec_inj.mp (h1.trans h2)
    · right; exact Int32.toBitVec_inj.mp (h1.trans h2)
  show x &&& 1 = _
  rcases h with h | h
  · rw [h]; rfl
  · rw [h]; rfl
theorem go_bast (hd : decode (mC M) pc = .ok (.bastore, 1)) (hg : goBast (pc + 1) lv H st = some (pc', lv', st', H', c, s)) (kk : Pt l kd D z M d pc' lv' st' H' (kc + c) (ks + s) r) : Pt l kd D z M d pc lv st H kc ks r := by
  unfold goBast at hg
  split at hg
  · rename_i x i a s0
    split at hg
    · rename_i n f ha
      obtain ⟨hb, hg⟩ := cond_true hg
      cases hg
      refine kk.wr ha fun A S hR h2 => ⟨cl_tl (cl_tl (cl_tl h2)), trivial, fun rm Q f1 f2 kx => ?_⟩
      have hG := hR.get ha
      refine tt_bast 1 hd rfl hG.1 hG.2 (inR_in hb) ?_
      have e : upd (fun i => (f i).toInt32) i.toNatClampNeg (vp_nar .byte x) = fun j => (va_up f i.toNatClampNeg x.toInt8 j).toInt32 := by
        funext j
        unfold upd va_up
        by_cases h : j = i.toNatClampNeg
        · rw [if_pos h, if_pos h]; rfl
        · rw [if_neg h, if_neg h]
      rw [e]
      exact kx
    · rename_i n f ha
      obtain ⟨hb, hg⟩ := cond_true hg
      cases hg
      refine kk.wr ha fun A S hR h2 => ⟨cl_tl (cl_tl (cl_tl h2)), trivial, fun rm Q f1 f2 kx => ?_⟩
      have hG := hR.get ha
      refine tt_zast 2 hd rfl hG.1 hG.2 (inR_in hb) ?_
      have e : upd (fun i => if f i then (1 : Int32) else 0) i.toNatClampNeg (vp_nar .boolean x) = fun j => if va_up f i.toNatClampNeg (decide (x &&& 1 = 1)) j then 1 else 0 := by
        funext j
        unfold upd va_up
        by_cases h : j = i.toNatClampNeg
        · rw [if_pos h, if_pos h, nar_z]
        · rw [if_neg h, if_neg h]
      rw [e]
      exact kx
    · cases hg
  · cases hg
theorem go_last (hd : decode (mC M) pc = .ok (.lastore, 1)) (hg : goLast (pc + 1) lv H st = some (pc', lv', st', H', c, s)) (kk : Pt l kd D z M d pc' lv' st' H' (kc + c) (ks + s) r) : Pt l kd D z M d pc lv st H kc ks r := by
  unfold goLast at hg
  split at hg
  · rename_i x i a s0
    split at hg
    · rename_i n f ha
      obtain ⟨hb, hg⟩ := cond_true hg
      cases hg
      refine kk.wr ha fun A S hR h2 => ⟨cl_tl (cl_tl (cl_tl h2)), trivial, fun rm Q f1 f2 kx => ?_⟩
      have hG := hR.get ha
      exact tt_last 3 hd rfl hG.1 hG.2 (inR_in hb) kx
    · cases hg
  · cases hg
theorem go_aast (hd : decode (mC M) pc = .ok (.aastore, 1)) (hg : goAast (pc + 1) lv H st = some (pc', lv', st', H', c, s)) (kk : Pt l kd D z M d pc' lv' st' H' (kc + c) (ks + s) r) : Pt l kd D z M d pc lv st H kc ks r := by
  unfold goAast at hg
  split at hg
  · rename_i v i a s0
    split at hg
    · rename_i t n f c9 fs ha hv
      obtain ⟨hb, hg2⟩ := cond_true hg
      simp only [Bool.and_eq_true, beq_iff_eq] at hb
      obtain ⟨⟨⟨b1, b2⟩, b3⟩, b4⟩ := hb
      obtain ⟨C, T, N, ht, hC⟩ := ty_q kd b2 b3
      subst b4
      cases hg2
      refine kk.wr ha fun A S hR h2 => ⟨cl_tl (cl_tl (cl_tl h2)), ?_, fun rm Q f1 f2 kx => ?_⟩
      · intro j q hj
        unfold va_up at hj
        by_cases h : j = i.toNatClampNeg
        · rw [if_pos h] at hj; cases hj; exact cl_hd h2
        · rw [if_neg h] at hj; exact hR.2.2.2.2 a _ ha j q hj
      · have hG := hR.get ha
        have hG2 := hR.get hv
        refine tt_aast t hd hC ht hG.1 hG.2 hG2.1 hG2.2 (inR_in b1) ?_
        have e : va_up (fun i => (f i).map (fun k => A.getD k 0)) i.toNatClampNeg (some (A.getD v 0)) = fun j => (va_up f i.toNatClampNeg (some v) j).map (fun k => A.getD k 0) := by
          funext j
          unfold va_up
          by_cases h : j = i.toNatClampNeg
          · rw [if_pos h, if_pos h]; rfl
          · rw [if_neg h, if_neg h]
        rw [e]
        exact kx
    · cases hg
  · cases hg
theorem go_len (hd : decode (mC M) pc = .ok (.arraylength, 1)) (hg : goLen (z.2.2.1, z.2.2.2) (pc + 1) lv H st = some (pc', lv', st', H', c, s)) (kk : Pt l kd D z M d pc' lv' st' H' (kc + c) (ks + s) r) : Pt l kd D z M d pc lv st H kc ks r := by
  unfold goLen at hg
  split at hg
  · cases hg
    exact kk.same fun A S hR h1 h2 => ⟨⟨h1, cl_cons trivial (cl_tl h2)⟩, fun rm Q f1 f2 f3 f4 k => tt_slen hd k⟩
  · rename_i a s0
    split at hg
    · rename_i c0 ha
      split at hg
      · rename_i n hn
        cases hg
        refine kk.same fun A S hR h1 h2 => ⟨⟨h1, cl_cons trivial (cl_tl h2)⟩, fun rm Q f1 f2 f3 f4 k => ?_⟩
        have hG := hR.get ha
        unfold lenC at hn
        split at hn
        · cases hn; exact tt_alen 0 hd rfl hG.1 hG.2 rfl k
        · cases hn; exact tt_alen 1 hd rfl hG.1 hG.2 rfl k
        · cases hn; exact tt_alen 2 hd rfl hG.1 hG.2 rfl k
        · cases hn; exact tt_alen 3 hd rfl hG.1 hG.2 rfl k
        · rename_i t n0 f
          obtain ⟨hb, hn⟩ := cond_true hn
          simp only [Bool.and_eq_true] at hb
          obtain ⟨C, T, N, ht, -⟩ := ty_q kd hb.1 hb.2
          cases hn
          exact tt_alen t hd ht hG.1 hG.2 rfl k
        · cases hn
      · cases hg
    · cases hg
  · cases hg
theorem go_new {i ci : Nat} (hP : cnP (mO M, i, ci)) (ho : ownS (mO M) = (mY M).cls) (hd : decode (mC M) pc = .ok (.new i, 3)) (hg : stG sc (pc + 3) lv st H (.new ci) = some (pc', lv', st', H', c, s)) (hc : kc + c ≤ r.2.2.1) (hs : ks + s ≤ r.2.2.2) (kk : Pt l kd D z M d pc' lv' st' H' (kc + c) (ks + s) r) : Pt l kd D z M d pc lv st H kc ks r := by
  unfold stG at hg
  dsimp only at hg
  obtain ⟨hb, hg⟩ := cond_true hg
  cases hg
  obtain ⟨C, T, N, ty, p1, p2, p3, p4, p5, p6, p7, p8⟩ := hP
  dsimp only at p1 p4 p7 p8
  rw [ho] at p4
  refine kk.nw hc hs fun A S hR h2 => ⟨h2, ?_, fun rm Q f3 f4 kx => ?_⟩
  · intro v hv
    have hd0 : ∀ v ∈ aDef ci, clV 0 v := by
      have : ci < 13 := Nat.le_of_ble_eq_true hb
      have e : ∀ k < 13, ∀ v ∈ aDef k, v = .null ∨ v = .int 0 := by decide
      intro v hv
      rcases e ci this v hv with h | h
      · rw [h]; trivial
      · rw [h]; trivial
    exact (hd0 v hv).mono (Nat.zero_le _)
  · have e2 : (aDef ci).map (qV z.2.1 A) = aDef ci := by
      have : ci < 13 := Nat.le_of_ble_eq_true hb
      have e : ∀ k < 13, ∀ v ∈ aDef k, v = .null ∨ v = .int 0 := by decide
      calc (aDef ci).map (qV z.2.1 A) = (aDef ci).map id := List.map_congr_left (fun v hv => by
            rcases e ci this v hv with h | h
            · rw [h]; rfl
            · rw [h]; rfl)
        _ = aDef ci := List.map_id _
    rw [p8] at f4 kx
    refine tt_new p1 p2 p3 p4 p5 p6 p7 ⟨f3, f4⟩ hd (fun q hq hz => ?_)
    have := kx q hq hz
    unfold qC at this
    dsimp only at this
    rw [e2] at this
    exact this
theorem go_newa {t : ArrayType} (hd : decode (mC M) pc = .ok (.newarray t, 2)) (hg : goNewa t (pc + 2) lv H st = some (pc', lv', st', H', c, s)) (hc : kc + c ≤ r.2.2.1) (hs : ks + s ≤ r.2.2.2) (kk : Pt l kd D z M d pc' lv' st' H' (kc + c) (ks + s) r) : Pt l kd D z M d pc lv st H kc ks r := by
  unfold goNewa at hg
  split at hg
  · rename_i n s0
    obtain ⟨hb, hg⟩ := cond_true hg
    simp only [Bool.and_eq_true, Bool.not_eq_true', decide_eq_false_iff_not] at hb
    have hbl : n.toNatClampNeg ≤ 67108864 := Nat.le_of_ble_eq_true hb.2
    split at hg
    · rename_i c0 hc0
      cases hg
      unfold freshA at hc0
      split at hc0
      · cases hc0
        refine kk.nw hc hs fun A S hR h2 => ⟨cl_tl h2, trivial, fun rm Q f3 f4 kx => ?_⟩
        exact tt_newa (ty := .int) 0 rfl (fun C h => by cases h) w_1_116 rfl (fun cA => rfl) hb.1 rfl (by show _ * 4 ≤ _; omega) ⟨f3, f4⟩ hd kx
      · cases hc0
        refine kk.nw hc hs fun A S hR h2 => ⟨cl_tl h2, trivial, fun rm Q f3 f4 kx => ?_⟩
        exact tt_newa (ty := .byte) 1 rfl (fun C h => by cases h) w_1_62 rfl (fun cA => rfl) hb.1 rfl (by show _ * 1 ≤ _; omega) ⟨f3, f4⟩ hd kx
      · cases hc0
        refine kk.nw hc hs fun A S hR h2 => ⟨cl_tl h2, trivial, fun rm Q f3 f4 kx => ?_⟩
        exact tt_newa (ty := .boolean) 2 rfl (fun C h => by cases h) w_1_115 rfl (fun cA => rfl) hb.1 rfl (by show _ * 1 ≤ _; omega) ⟨f3, f4⟩ hd kx
      · cases hc0
        refine kk.nw hc hs fun A S hR h2 => ⟨cl_tl h2, trivial, fun rm Q f3 f4 kx => ?_⟩
        exact tt_newa (ty := .long) 3 rfl (fun C h => by cases h) w_11_4 rfl (fun cA => rfl) hb.1 rfl (by show _ * 8 ≤ _; omega) ⟨f3, f4⟩ hd kx
      · cases hc0
    · cases hg
  · cases hg
theorem go_newq {i t : Nat} (hP : cqP (mO M, i, t)) (ho : ownS (mO M) = (mY M).cls) (hd : decode (mC M) pc = .ok (.anewarray i, 3)) (hg : goNewq t (pc + 3) lv H st = some (pc', lv', st', H', c, s)) (hc : kc + c ≤ r.2.2.1) (hs : ks + s ≤ r.2.2.2) (kk : Pt l kd D z M d pc' lv' st' H' (kc + c) (ks + s) r) : Pt l kd D z M d pc lv st H kc ks r := by
  unfold goNewq at hg
  split at hg
  · rename_i n s0
    obtain ⟨hb, hg⟩ := cond_true hg
    simp only [Bool.and_eq_true, Bool.not_eq_true', decide_eq_false_iff_not] at hb
    have hbl : n.toNatClampNeg ≤ 67108864 := Nat.le_of_ble_eq_true hb.1.1.2
    cases hg
    obtain ⟨C, p1, p2, p3⟩ := hP
    dsimp only at p1 p3
    rw [ho] at p1
    refine kk.nw hc hs fun A S hR h2 => ⟨cl_tl h2, (fun _ _ h => by cases h), fun rm Q f3 f4 kx => ?_⟩
    exact tt_newq t p1 p2 (p3 kd) hb.1.1.1 rfl (by omega) ⟨f3, f4⟩ hd kx
  · cases hg
theorem fit_b (x : Int8) : fits .byte (.int x.toInt32) = true := by
  show (decide ((-128 : Int32) ≤ x.toInt32) && decide (x.toInt32 ≤ 127)) = true
  rw [Bool.and_eq_true, decide_eq_true_eq, decide_eq_true_eq, Int32.le_iff_toInt_le, Int32.le_iff_toInt_le, Int8.toInt_toInt32]
  exact ⟨x.le_toInt, Int.le_of_lt_add_one x.toInt_lt⟩
theorem go_cpy {i : Nat} (w1 : Cond.methodLink (mY M).cls i arraycopyName ∈ gW) (hd : decode (mC M) pc = .ok (.invokestatic i, 3)) (hg : goCpy (pc + 3) lv H st = some (pc', lv', st', H', c, s)) (kk : Pt l kd D z M d pc' lv' st' H' (kc + c) (ks + s) r) : Pt l kd D z M d pc lv st H kc ks r := by
  unfold goCpy at hg
  split at hg
  · rename_i n dp a sp a0 s0
    obtain ⟨hb, hg⟩ := cond_true hg
    simp only [Bool.and_eq_true, Bool.not_eq_true', decide_eq_false_iff_not] at hb
    obtain ⟨⟨⟨b1, b2⟩, b3⟩, b4⟩ := hb
    have b4 := Nat.le_of_ble_eq_true b4
    split at hg
    · rename_i n0 f n1 g h0 h1
      obtain ⟨hb, hg⟩ := cond_true hg
      simp only [Bool.and_eq_true] at hb
      have b5 := Nat.le_of_ble_eq_true hb.1
      have b6 := Nat.le_of_ble_eq_true hb.2
      cases hg
      refine kk.wr h1 fun A S hR h2 => ⟨cl_tl (cl_tl (cl_tl (cl_tl (cl_tl h2)))), trivial, fun rm Q f1 f2 kx => ?_⟩
      have hG := hR.get h0
      have hG2 := hR.get h1
      exact tt_copy 0 0 w1 w_4_57 w_4_56 w_1_23 hG.1 hG.2 hG2.1 hG2.2 rfl rfl rfl b1 b2 b3 b5 b6 (fun _ _ => rfl) ⟨by omega, by rw [cats_qV]; show cats _ + 18 ≤ _; omega⟩ hd kx
    · rename_i n0 f n1 g h0 h1
      obtain ⟨hb, hg⟩ := cond_true hg
      simp only [Bool.and_eq_true] at hb
      have b5 := Nat.le_of_ble_eq_true hb.1
      have b6 := Nat.le_of_ble_eq_true hb.2
      cases hg
      refine kk.wr h1 fun A S hR h2 => ⟨cl_tl (cl_tl (cl_tl (cl_tl (cl_tl h2)))), trivial, fun rm Q f1 f2 kx => ?_⟩
      have hG := hR.get h0
      have hG2 := hR.get h1
      refine tt_copy 1 1 w1 w_4_57 w_4_56 w_1_23 hG.1 hG.2 hG2.1 hG2.2 rfl rfl rfl b1 b2 b3 b5 b6 (fun _ _ => fit_b _) ⟨by omega, by rw [cats_qV]; show cats _ + 18 ≤ _; omega⟩ hd ?_
      have e : va_cpy (fun i => (f i).toInt32) (fun i => (g i).toInt32) sp.toNatClampNeg dp.toNatClampNeg n.toNatClampNeg = fun j => (if dp.toNatClampNeg ≤ j ∧ j < dp.toNatClampNeg + n.toNatClampNeg then f (sp.toNatClampNeg + (j - dp.toNatClampNeg)) else g j).toInt32 := by
        funext j
        unfold va_cpy
        by_cases h : dp.toNatClampNeg ≤ j ∧ j < dp.toNatClampNeg + n.toNatClampNeg
        · rw [if_pos h, if_pos h]
        · rw [if_neg h, if_neg h]
      rw [e]
      exact kx
    · cases hg
  · cases hg
end GO
