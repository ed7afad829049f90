/-! ===== a node that moves: what the store and the reference tell of it; by hand ===== -/
theorem nd_mv {op : Nat → Bool} {sm : Nat → Nat} {x : Int32} {P r n : Nat} {ms : List aMV} {kd nl : Nat → Nat} {ps : List aPc} (hr1 : 1 ≤ r) (hr2 : r ≤ 200) (hr : ¬ kd r = 0) : ndR op sm x P ms kd (va_up nl r n) ps + nl r = ndR op sm x P ms kd nl ps + n := by
  have h1 := sumF_at (g := fun f => if kd f = 0 then 0 else 62 + va_up nl r n f) (h := fun f => if kd f = 0 then 0 else 62 + nl f) (v := r) 200 hr1 hr2 (fun f _ _ e => by
    show (if kd f = 0 then 0 else 62 + va_up nl r n f) = (if kd f = 0 then 0 else 62 + nl f)
    rw [up_ne e])
  have h2 : (if kd r = 0 then 0 else 62 + va_up nl r n r) = 62 + n := by rw [up_at, if_neg hr]
  have h3 : (if kd r = 0 then 0 else 62 + nl r) = 62 + nl r := if_neg hr
  have h1 : sumF (fun f => if kd f = 0 then 0 else 62 + va_up nl r n f) 200 + (if kd r = 0 then 0 else 62 + nl r) = sumF (fun f => if kd f = 0 then 0 else 62 + nl f) 200 + (if kd r = 0 then 0 else 62 + va_up nl r n r) := h1
  rw [h2, h3] at h1
  unfold ndR
  omega
theorem mv_rel {c c1 : Nat → Int8} {vs vs' : List aV} {kd pa sz nl : Nat → Nat} {nm tb : Nat → Int8} {ps : List aPc} {r u k n : Nat} (hN : NodR c vs kd pa sz nl nm) (hP : PcR c vs ps) (hT : TreeOk kd pa sz nl) (hK : ¬ kd r = 0) (hl : n ≤ 30) (hI : InV c c1 vs vs' [([1, r], some ([kd r, u] ++ (beB 2 (sz r) ++ sl tb k n)))]) : NodR c1 vs' kd (va_up pa r u) sz (va_up nl r n) (cpy tb k nm (30 * r) n) ∧ PcR c1 vs' ps := by
  refine ⟨hN.put hI one_w ?_ hK (fun f f1 f2 f3 => ⟨fun e he q => ?_, rfl, fun f4 => ?_⟩), hP.user hI (fun e he q => ?_)⟩
  · refine List.mem_singleton.mpr ?_
    unfold nodB
    rw [up_at, up_at, Nat.mul_comm r 30, sl_cpy]
  · rw [List.mem_singleton.mp he] at q
    exact f3 ((List.cons.inj (List.cons.inj q).2).1).symm
  · unfold nodB
    have := (hT f f2).2.2.2
    rw [up_ne f3, up_ne f3, sl_cpy_out (by omega)]
  · rw [List.mem_singleton.mp he] at q
    exact absurd q (by show ¬ 1 = 2; decide)
