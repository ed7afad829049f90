/-! ===== the abstract machine stands for the machine: what one instruction does ===== -/
def rz (oi nL kd : Nat) (ret : Option FieldType) (pc : Nat) (raw : Instr) (len : Nat) : Option Instr := match raw, len with
  | .iconst n, 1 => some (.iconst n)
  | .bipush n, 2 => bif decide ((Int8.ofInt n).toInt32 = Int32.ofInt n) then some (.iconst n) else none
  | .sipush n, 3 => bif decide ((Int16.ofInt n).toInt32 = Int32.ofInt n) then some (.iconst n) else none
  | .ldc i, 2 => (lk2 oi i ctT).map .iconst
  | .ldc_w i, 3 => (lk2 oi i ctT).map .iconst
  | .lconst n, 1 => some (.lconst n)
  | .ldc2_w i, 3 => (lk2 oi i cjT).map .ldc2_w
  | .aconst_null, 1 => some .aconst_null
  | .iload i, 2 => some (.iload i)
  | .iload_n i, 1 => some (.iload i)
  | .lload i, 2 => some (.lload i)
  | .lload_n i, 1 => some (.lload i)
  | .aload i, 2 => some (.aload i)
  | .aload_n i, 1 => some (.aload i)
  | .istore i, 2 => bif Nat.blt i nL then some (.istore i) else none
  | .istore_n i, 1 => bif Nat.blt i nL then some (.istore i) else none
  | .lstore i, 2 => bif Nat.blt (i + 1) nL then some (.lstore i) else none
  | .lstore_n i, 1 => bif Nat.blt (i + 1) nL then some (.lstore i) else none
  | .astore i, 2 => bif Nat.blt i nL then some (.astore i) else none
  | .astore_n i, 1 => bif Nat.blt i nL then some (.astore i) else none
  | .iinc i n, 3 => bif Nat.blt i nL then some (.iinc i n) else none
  | .iadd, 1 => some .iadd
  | .isub, 1 => some .isub
  | .imul, 1 => some .imul
  | .iand, 1 => some .iand
  | .ior, 1 => some .ior
  | .ixor, 1 => some .ixor
  | .idiv, 1 => some .idiv
  | .irem, 1 => some .irem
  | .ishl, 1 => some .ishl
  | .ishr, 1 => some .ishr
  | .i2b, 1 => some .i2b
  | .i2l, 1 => some .i2l
  | .lcmp, 1 => some .lcmp
  | .ladd, 1 => some .ladd
  | .lmul, 1 => some .lmul
  | .lor, 1 => some .lor
  | .lshl, 1 => some .lshl
  | .dup, 1 => some .dup
  | .dup2, 1 => some .dup2
  | .pop, 1 => some .pop
  | .goto o, 3 => bif decide (0 ≤ (pc : Int) + o) then some (.goto ((pc : Int) + o)) else none
  | .ifCond c o, 3 => bif decide (0 ≤ (pc : Int) + o) then some (.ifCond c ((pc : Int) + o)) else none
  | .if_icmp c o, 3 => bif decide (0 ≤ (pc : Int) + o) then some (.if_icmp c ((pc : Int) + o)) else none
  | .ifnull o, 3 => bif decide (0 ≤ (pc : Int) + o) then some (.ifnull ((pc : Int) + o)) else none
  | .ifnonnull o, 3 => bif decide (0 ≤ (pc : Int) + o) then some (.ifnonnull ((pc : Int) + o)) else none
  | .tableswitch d lo hi offs, _ => bif decide (0 ≤ (pc : Int) + d) && offs.toList.all (fun o => decide (0 ≤ (pc : Int) + o)) then some (.tableswitch ((pc : Int) + d) lo hi (offs.map (fun o => (pc : Int) + o))) else none
  | .getfield i, 3 => match lk2 oi i flT with
    | some (c, k, _, _) => bif Nat.blt k 64 then some (.getfield (c * 64 + k)) else none
    | none => match lk2 oi i frT with
      | some (c, k) => bif Nat.blt k 64 then some (.getfield (c * 64 + k)) else none
      | none => none
  | .putfield i, 3 => match lk2 oi i flT with
    | some (c, k, fin, t) => bif Nat.blt k 64 && Nat.blt t 4 && (!fin || (kd == 2)) then some (.putfield ((c * 64 + k) * 4 + t)) else none
    | none => none
  | .iaload, 1 => some .iaload
  | .baload, 1 => some .baload
  | .laload, 1 => some .laload
  | .aaload, 1 => some .aaload
  | .iastore, 1 => some .iastore
  | .bastore, 1 => some .bastore
  | .lastore, 1 => some .lastore
  | .aastore, 1 => some .aastore
  | .arraylength, 1 => some .arraylength
  | .new i, 3 => (lk2 oi i cnT).map .new
  | .newarray t, 2 => some (.newarray t)
  | .anewarray i, 3 => (lk2 oi i cqT).map .anewarray
  | .invokevirtual i, 3 => match lk2 oi i mlT with
    | some (m, 0) => some (.invokevirtual m)
    | _ => none
  | .invokestatic i, 3 => match lk2 oi i mlT with
    | some (m, 1) => some (.invokestatic m)
    | some (_, 3) => some .dadd
    | some (_, 4) => some .dsub
    | some (_, 6) => some .ddiv
    | _ => none
  | .invokespecial i, 3 => match lk2 oi i mlT with
    | some (m, 2) => some (.invokespecial m)
    | some (_, 5) => some .dmul
    | _ => none
  | .ireturn, 1 => match ret with
    | some .int => some .ireturn
    | some .boolean => some .freturn
    | _ => none
  | .lreturn, 1 => bif decide (ret = some .long) then some .lreturn else none
  | .areturn, 1 => match ret with
    | some (.object _) => some .areturn
    | some (.array _) => some .areturn
    | _ => none
  | .return_, 1 => bif decide (ret = none) then some .return_ else none
  | _, _ => none
/-! what the abstract cells are -/
def qV (b : Nat) (A : List Nat) : Value → Value
  | .ref 0 => .ref b
  | .ref (k + 1) => .ref (A.getD k 0)
  | v => v
def qC (kd : Nat → ClassId) (b : Nat) (A : List Nat) : aC → va_E
  | .inl (n, f) => .inl (kd 0, n, .inl f)
  | .inr (.inl (n, f)) => .inl (kd 1, n, .inl (fun i => (f i).toInt32))
  | .inr (.inr (.inl (n, f))) => .inl (kd 2, n, .inl (fun i => if f i then 1 else 0))
  | .inr (.inr (.inr (.inl (n, f)))) => .inl (kd 3, n, .inr (.inl f))
  | .inr (.inr (.inr (.inr (.inl (t, n, f))))) => .inl (kd t, n, .inr (.inr (.inr (.inr (fun i => (f i).map (fun k => A.getD k 0))))))
  | .inr (.inr (.inr (.inr (.inr (c, fs))))) => .inr (c, fs.map (qV b A))
def clV (n : Nat) : Value → Prop
  | .ref (k + 1) => k < n
  | _ => True
def clC (n : Nat) : aC → Prop
  | .inr (.inr (.inr (.inr (.inl (_, _, f))))) => ∀ i k, f i = some k → k < n
  | .inr (.inr (.inr (.inr (.inr (_, fs))))) => ∀ v ∈ fs, clV n v
  | _ => True
def qO (b : Nat) (A : List Nat) : tO → tO
  | .inl v => .inl (v.map (qV b A))
  | .inr k => .inr k
def clO (n : Nat) : tO → Prop
  | .inl (some v) => clV n v
  | _ => True
def Rp (kd : Nat → ClassId) (b : Nat) (A : List Nat) (H : aH) (S : tS) : Prop := S.1 = A ∧ A.Nodup ∧ A.length = H.length ∧ (∀ (k : Nat) (c : aC), H[k]? = some c → S.2 (A.getD k 0) = qC kd b A c) ∧ ∀ (k : Nat) (c : aC), H[k]? = some c → clC H.length c
theorem clV.mono {n m : Nat} (h : n ≤ m) {v : Value} (hv : clV n v) : clV m v := by
  unfold clV at *
  split at hv
  · exact Nat.lt_of_lt_of_le hv h
  · trivial
theorem clC.mono {n m : Nat} (h : n ≤ m) {c : aC} (hc : clC n c) : clC m c := by
  unfold clC at *
  split at hc
  · exact fun i k hk => Nat.lt_of_lt_of_le (hc i k hk) h
  · exact fun v hv => (hc v hv).mono h
  · trivial
theorem gD_app {A : List Nat} {k q : Nat} (h : k < A.length) : (A ++ [q]).getD k 0 = A.getD k 0 := by
  simp [List.getD_eq_getElem?_getD, List.getElem?_append_left h]
theorem gD_new {A : List Nat} {q : Nat} : (A ++ [q]).getD A.length 0 = q := by
  simp [List.getD_eq_getElem?_getD]
theorem qV_app {b q : Nat} {A : List Nat} {v : Value} (h : clV A.length v) : qV b (A ++ [q]) v = qV b A v := by
  unfold qV
  split
  · rfl
  · exact congrArg Value.ref (gD_app h)
  · rfl
theorem qC_app {kd : Nat → ClassId} {b q : Nat} {A : List Nat} {c : aC} (h : clC A.length c) : qC kd b (A ++ [q]) c = qC kd b A c := by
  unfold qC
  split
  · rfl
  · rfl
  · rfl
  · rfl
  · rename_i t n f
    have e : (fun i => (f i).map (fun k => (A ++ [q]).getD k 0)) = fun i => (f i).map (fun k => A.getD k 0) := by
      funext i
      cases hf : f i with
      | none => rfl
      | some k => exact congrArg some (gD_app (h i k hf))
    rw [e]
  · rename_i c fs
    have e : fs.map (qV b (A ++ [q])) = fs.map (qV b A) := List.map_congr_left fun v hv => qV_app (h v hv)
    rw [e]
theorem Rp.get {kd : Nat → ClassId} {b : Nat} {A : List Nat} {H : aH} {S : tS} (h : Rp kd b A H S) {k : Nat} {c : aC} (hk : H[k]? = some c) : A.getD k 0 ∈ S.1 ∧ S.2 (A.getD k 0) = qC kd b A c := by
  refine ⟨?_, h.2.2.2.1 k c hk⟩
  have hl : k < A.length := by rw [h.2.2.1]; exact (List.getElem?_eq_some_iff.mp hk).1
  rw [h.1, List.getD_eq_getElem?_getD, List.getElem?_eq_getElem hl]
  exact List.getElem_mem hl
theorem gD_inj {A : List Nat} (h : A.Nodup) {i j : Nat} (hi : i < A.length) (hj : j < A.length) (e : A.getD i 0 = A.getD j 0) : i = j := by
  simp only [List.getD_eq_getElem?_getD, List.getElem?_eq_getElem hi, List.getElem?_eq_getElem hj, Option.getD_some] at e
  have hp := List.pairwise_iff_getElem.mp h
  rcases Nat.lt_trichotomy i j with h1 | h1 | h1
  · exact absurd e (hp i j hi hj h1)
  · exact h1
  · exact absurd e.symm (hp j i hj hi h1)
theorem Rp.set {kd : Nat → ClassId} {b : Nat} {A : List Nat} {H : aH} {S : tS} (h : Rp kd b A H S) {k : Nat} {c c' : aC} (hk : H[k]? = some c) (hc : clC H.length c') : Rp kd b A (H.set k c') (tset S (A.getD k 0) (qC kd b A c')) := by
  have hkl : k < H.length := (List.getElem?_eq_some_iff.mp hk).1
  refine ⟨h.1, h.2.1, by rw [List.length_set]; exact h.2.2.1, fun j e hj => ?_, fun j e hj => ?_⟩
  · rw [List.getElem?_set] at hj
    by_cases hjk : k = j
    · subst hjk
      simp only [if_true, hkl] at hj
      cases hj
      exact va_up_self _ _ _
    · rw [if_neg hjk] at hj
      have hjl : j < H.length := (List.getElem?_eq_some_iff.mp hj).1
      refine (va_up_ne _ _ ?_).trans (h.2.2.2.1 j e hj)
      intro e2
      exact hjk (gD_inj h.2.1 (by rw [h.2.2.1]; exact hkl) (by rw [h.2.2.1]; exact hjl) e2.symm)
  · rw [List.length_set]
    rw [List.getElem?_set] at hj
    by_cases hjk : k = j
    · subst hjk
      simp only [if_true, hkl] at hj
      cases hj
      exact hc
    · rw [if_neg hjk] at hj
      exact h.2.2.2.2 j e hj
theorem Rp.new {kd : Nat → ClassId} {b : Nat} {A : List Nat} {H : aH} {S : tS} (h : Rp kd b A H S) {q : Nat} (hq : q ∉ S.1) {c : aC} (hc : clC H.length c) : Rp kd b (A ++ [q]) (H ++ [c]) (tnew S q (qC kd b A c)) := by
  have hqA : q ∉ A := by rw [← h.1]; exact hq
  refine ⟨by show S.1 ++ [q] = _; rw [h.1], ?_, by simp [h.2.2.1], fun j e hj => ?_, fun j e hj => ?_⟩
  · rw [List.nodup_append]
    refine ⟨h.2.1, by simp, ?_⟩
    intro a ha x hx
    rw [List.mem_singleton.mp hx]
    exact fun e => hqA (e ▸ ha)
  · by_cases hjl : j < H.length
    · rw [List.getElem?_append_left hjl] at hj
      have hjA : j < A.length := by rw [h.2.2.1]; exact hjl
      rw [gD_app hjA, qC_app (by rw [h.2.2.1]; exact h.2.2.2.2 j e hj)]
      refine (va_up_ne _ _ ?_).trans (h.2.2.2.1 j e hj)
      intro e2
      have := (h.get hj).1
      rw [e2] at this
      exact hq this
    · rw [List.getElem?_append_right (Nat.le_of_not_lt hjl)] at hj
      have hj0 : j - H.length = 0 := by
        have := (List.getElem?_eq_some_iff.mp hj).1
        simp at this
        omega
      have hje : j = A.length := by rw [h.2.2.1]; omega
      subst hje
      rw [hj0] at hj
      simp only [List.getElem?_cons_zero, Option.some.injEq] at hj
      subst hj
      rw [gD_new, qC_app (by rw [h.2.2.1]; exact hc)]
      exact va_up_self _ _ _
  · rw [List.length_append]
    by_cases hjl : j < H.length
    · rw [List.getElem?_append_left hjl] at hj
      exact (h.2.2.2.2 j e hj).mono (Nat.le_add_right _ _)
    · rw [List.getElem?_append_right (Nat.le_of_not_lt hjl)] at hj
      have hj0 : j - H.length = 0 := by
        have := (List.getElem?_eq_some_iff.mp hj).1
        simp at this
        omega
      rw [hj0] at hj
      simp only [List.getElem?_cons_zero, Option.some.injEq] at hj
      subst hj
      exact hc.mono (Nat.le_add_right _ _)
def qL (b : Nat) (A : List Nat) (q : Nat × Value) : Nat × Value := (q.1, qV b A q.2)
/-- what is claimed of a point of the abstract machine's run that ends as r says -/
def Pt (l : Launch) (kd : Nat → ClassId) (D : va_G) (z : tZ) (M : aM) (d pc : Nat) (lv : aL) (st : List Value) (H : aH) (kc ks : Nat) (r : tO × aH × Nat × Nat) : Prop :=
  ∀ (A : List Nat) (S : tS), Rp kd z.2.1 A H S → (∀ q ∈ lv, clV H.length q.2) → (∀ v ∈ st, clV H.length v) → ∀ (rm : Room) (Q : tO → tS → Prop), d + 6 ≤ rm.frames → 40 * d + 100 ≤ rm.locals → r.2.2.1 ≤ rm.cells → r.2.2.2 ≤ rm.slots →
    (∀ (A' : List Nat) (S' : tS), (∃ B, A' = A ++ B) → Rp kd z.2.1 A' r.2.1 S' → clO r.2.1.length r.1 → Q (qO z.2.1 A' r.1) S') →
    tP (mC M) (mY M).cls (mL M) (mR M) (mS M == 2) (mH M) rm D (tyl kd) z l Q kc ks pc (lv.map (qL z.2.1 A)) (st.map (qV z.2.1 A)) S
section AR
variable {cc : ByteArray} {own : String} {nL : Nat} {ret : Option FieldType} {ini : Bool} {hh : List (Nat × Nat × Nat × Nat)} {rm : Room} {D : va_G} {tys : List (ClassId × FieldType)} {z : tZ} {l : Launch} {Q : tO → tS → Prop} {kc ks : Nat} {pc : Nat} {lv : List (Nat × Value)} {st : List Value} {S : tS}
theorem tt_ldcw {i : Nat} {v : Int32} (hw : Cond.constant own i v ∈ gW) (hd : decode cc pc = .ok (.ldc_w i, 3)) (k : tP cc own nL ret ini hh rm D tys z l Q kc ks (pc + 3) lv (.int v :: st) S) : tP cc own nL ret ini hh rm D tys z l Q kc ks pc lv st S :=
  fun p e s m args below meth c H locs ls X hH hl => lv_ldcw X.1 X.2.1 X.2.2.2.1 (X.2.2.2.2.1.1 _ hw args) hd (k p e s m args below meth c H locs ls X hH hl)
theorem tt_ixor {x y : Int32} (hd : decode cc pc = .ok (.ixor, 1)) (k : tP cc own nL ret ini hh rm D tys z l Q kc ks (pc + 1) lv (.int (x ^^^ y) :: st) S) : tP cc own nL ret ini hh rm D tys z l Q kc ks pc lv (.int y :: .int x :: st) S :=
  fun p e s m args below meth c H locs ls X hH hl => lv_ixor X.1 X.2.1 hd (k p e s m args below meth c H locs ls X hH hl)
theorem tt_lload {i : Nat} {x : Int64} (hd : decode cc pc = .ok (.lload i, 2)) (j : Nat) (hj : lv[j]? = some (i, .long x)) (kk : tP cc own nL ret ini hh rm D tys z l Q kc ks (pc + 2) lv (.long x :: st) S) : tP cc own nL ret ini hh rm D tys z l Q kc ks pc lv st S :=
  fun p e s m args below meth c H locs ls X hH hl => lv_lload X.1 X.2.1 hd (lv_at hl j hj) (kk p e s m args below meth c H locs ls X hH hl)
theorem tt_lstore {i : Nat} {x : Int64} {lv' : List (Nat × Value)} (hd : decode cc pc = .ok (.lstore i, 2)) (hn : i + 1 < nL) (he : (i, Value.long x) :: lv.filter (fun q => !(q.1 == i) && (!(q.1 == i + 1) && !(q.1 + 1 == i && q.2.category == 2))) = lv') (kk : tP cc own nL ret ini hh rm D tys z l Q kc ks (pc + 2) lv' st S) : tP cc own nL ret ini hh rm D tys z l Q kc ks pc lv (.long x :: st) S :=
  fun p e s m args below meth c H locs ls X hH hl => lv_lstore X.1 X.2.1 hd hl hn he (fun ls' hl' => kk p e s m args below meth c H locs ls' X hH hl')
theorem tt_sld {i : Int32} (hd : decode cc pc = .ok (.iaload, 1)) (hin : vp_in i z.2.2.1) (kk : tP cc own nL ret ini hh rm D tys z l Q kc ks (pc + 1) lv (.int (z.2.2.2 i.toNatClampNeg) :: st) S) : tP cc own nL ret ini hh rm D tys z l Q kc ks pc lv (.int i :: .ref z.2.1 :: st) S :=
  fun p e s m args below meth c H locs ls X hH hl => va_sld X.1 X.2.1 X.2.2.2.2.1.2.2.1 (Nat.lt_of_lt_of_le X.2.2.2.2.1.2.2.2 hH.2.2.2) (Nat.not_le.mpr X.2.2.2.2.1.2.2.2) hH.2.2.1 hin hd (kk p e s m args below meth c H locs ls X hH hl)
theorem tt_slen (hd : decode cc pc = .ok (.arraylength, 1)) (kk : tP cc own nL ret ini hh rm D tys z l Q kc ks (pc + 1) lv (.int (Int32.ofNat z.2.2.1) :: st) S) : tP cc own nL ret ini hh rm D tys z l Q kc ks pc lv (.ref z.2.1 :: st) S :=
  fun p e s m args below meth c H locs ls X hH hl => va_slen X.1 X.2.1 X.2.2.2.2.1.2.2.1 (Nat.lt_of_lt_of_le X.2.2.2.2.1.2.2.2 hH.2.2.2) (Nat.not_le.mpr X.2.2.2.2.1.2.2.2) hH.2.2.1 hd (kk p e s m args below meth c H locs ls X hH hl)
end AR
