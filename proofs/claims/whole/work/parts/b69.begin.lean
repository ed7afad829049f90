/-! ===== begin: the case of the law, from every state of the invariant; written by wip/gen/begin3.py ===== -/
theorem first_closed (op : Nat → Bool) : ∀ n, (∀ s, s < n → op s = true) ∨ ∃ t, t < n ∧ op t = false ∧ ∀ s, s < t → op s = true
  | 0 => Or.inl (fun s hs => absurd hs (Nat.not_lt_zero s))
  | n + 1 => by
    rcases first_closed op n with h | ⟨t, h1, h2, h3⟩
    · cases e : op n with
      | true =>
        refine Or.inl (fun s hs => ?_)
        rcases Nat.lt_or_eq_of_le (Nat.le_of_lt_succ hs) with q | q
        · exact h s q
        · rw [q]; exact e
      | false => exact Or.inr ⟨n, Nat.lt_succ_self n, e, h⟩
    · exact Or.inr ⟨t, by omega, h2, h3⟩
theorem opA_open {op : Nat → Bool} {sm : Nat → Nat} {t P : Nat} {p : Nat → Bool} (ht : t < 8) (hop : op t = false) : opA (va_up op t true) (-1) (fun j => p (va_up sm t P j)) 8 = (opA op (-1) (fun j => p (sm j)) 8 || p P) := by
  rw [Bool.eq_iff_iff, Bool.or_eq_true, opA_ex, opA_ex]
  constructor
  · rintro ⟨j, h1, h2, h3, h4⟩
    by_cases e : j = t
    · rw [e, up_at] at h4
      exact Or.inr h4
    · rw [up_ne e] at h2 h4
      exact Or.inl ⟨j, h1, h2, h3, h4⟩
  · rintro (⟨j, h1, h2, h3, h4⟩ | h)
    · have e : ¬ j = t := fun q => by rw [q, hop] at h2; exact Bool.noConfusion h2
      exact ⟨j, h1, by rw [up_ne e]; exact h2, h3, by rw [up_ne e]; exact h4⟩
    · refine ⟨t, ht, up_at, ?_, by rw [up_at]; exact h⟩
      rcases (show t = 0 ∨ t = 1 ∨ t = 2 ∨ t = 3 ∨ t = 4 ∨ t = 5 ∨ t = 6 ∨ t = 7 by omega) with r | r | r | r | r | r | r | r <;> rw [r] <;> decide
/-- who begins now sees what is the newest: nothing more is needed -/
theorem need_open {op : Nat → Bool} {sm : Nat → Nat} {t P m : Nat} {L : List (List Nat × Nat)} {us ou : Bool} {k : List Nat} (ht : t < 8) (hop : op t = false) (hm : m ≤ P) : needS (va_up op t true) (va_up sm t P) (-1) P L us ou k m = needS op sm (-1) P L us ou k m := by
  unfold needS
  rw [opA_open (p := fun q => decide (q < m)) ht hop, opA_open (p := fun q => stK L k m q) ht hop, decide_eq_false (show ¬ P < m by omega), Bool.or_false]
  cases stK L k m P <;> simp
theorem wM_open {op : Nat → Bool} {sm : Nat → Nat} {t P : Nat} {L : List (List Nat × Nat)} {w : aMV} (ht : t < 8) (hop : op t = false) (hm : w.2.1 ≤ P) : wM (va_up op t true) (va_up sm t P) (-1) P L w = wM op sm (-1) P L w := by
  unfold wM
  rw [opA_open (p := fun q => decide (q < w.2.1)) ht hop, opA_open (p := fun q => stK L w.1 w.2.1 q) ht hop, decide_eq_false (show ¬ P < w.2.1 by omega), Bool.or_false]
  cases stK L w.1 w.2.1 P <;> simp
theorem rel_le {op : Nat → Bool} {sm : Nat → Nat} {c : Nat → Int8} {vs : List aV} {ms : List aMV} {P : Nat} (h : RelU op sm c vs ms) (hv : ∀ v ∈ vs, v.2.1 ≤ P) : ∀ w ∈ ms, w.2.1 ≤ P := fun w hw => by
  obtain ⟨zb, hp, -⟩ := h
  obtain ⟨v, hm, rfl⟩ := List.mem_map.mp (hp.mem_iff.mpr hw)
  exact hv v (List.mem_filter.mp hm).1
theorem ClsA.beg {H H' : aH} {B P : Nat} {up cw cl : Int32} {cp cb : Nat} {tb : Nat → Int8} {l : Nat} {g : Nat → Int8} {rl : Nat} {wss : Nat → List aE} {t : aTr} (h : ClsA H B P up cw cl cp cb tb l g rl wss t) {t1 : Nat} (ht : t1 < 8) (hB : BatchIs H' (11 + 6 * t1) []) (hf : ∀ a, a ≠ 11 + 6 * t1 → ¬ (7 ≤ a ∧ a < 10) → a < 71 → H'[a]? = H[a]?) : ClsA H' B P up cw cl cp cb tb l g rl (va_up wss t1 []) t := by
  obtain ⟨h0, h1, h2, h3, h4, ⟨q, p, h5, h6⟩, ⟨wq, h10, hwq⟩, hW, ⟨⟨ws, hC⟩, hQ⟩, hT⟩ := h
  refine ⟨(hf 0 (by omega) (by decide) (by decide)).trans h0, (hf 1 (by omega) (by decide) (by decide)).trans h1, (hf 2 (by omega) (by decide) (by decide)).trans h2, (hf 3 (by omega) (by decide) (by decide)).trans h3, (hf 4 (by omega) (by decide) (by decide)).trans h4, ⟨q, p, (hf 5 (by omega) (by decide) (by decide)).trans h5, (hf 6 (by omega) (by decide) (by decide)).trans h6⟩, ⟨wq, (hf 10 (by omega) (by decide) (by decide)).trans h10, hwq⟩, fun t' ht' => ?_, ⟨⟨ws, hC.keep (fun a a1 a2 => hf a (by omega) (by omega) (by omega))⟩, hQ.imp (fun Q hQ => (hf _ (by omega) (by decide) (by decide)).trans hQ)⟩, hT.far (fun a a1 a2 => hf a (by omega) (by omega) (by omega))⟩
  by_cases e : t' = t1
  · rw [e, up_at]
    exact ⟨hB, (hW t1 ht).2.imp (fun Q hQ => (hf _ (by omega) (by omega) (by omega)).trans hQ)⟩
  · rw [up_ne e]
    exact ⟨(hW t' ht').1.keep (fun a a1 a2 => hf a (by omega) (by omega) (by omega)), (hW t' ht').2.imp (fun Q hQ => (hf _ (by omega) (by omega) (by omega)).trans hQ)⟩
theorem UpJ.begin {ky : List (List Nat)} {k : Nat} {H H' : aH} {B N P bb : Nat} {cw cl : Int32} {cp cb : Nat} {tb : Nat → Int8} {l : Nat} {g : Nat → Int8} {rl : Nat} {wss : Nat → List aE} {t0 : aTr} {op : Nat → Bool} {sm : Nat → Nat} {ms : List aMV} {kd pa sz nl : Nat → Nat} {nm : Nat → Int8} {ps : List aPc} {fa rs : Int32} {g0 : Nat → Int8} {t us ba bo : Nat} (hJ : UpJ ky k H B N P bb cw cl cp cb tb l g rl wss t0 op sm ms kd pa sz nl nm ps fa rs g0) (hk : k < 512) (ht : t < 8) (hop : op t = false) (q2 : MVIs H ba bo us ms) (h7 : H'[7]? = H[7]?) (h8 : H'[8]? = some (kZ 8 (va_up op t true))) (h9 : H'[9]? = some (kI 8 (fun j => nI (va_up sm t P j)))) (hB : BatchIs H' (11 + 6 * t) []) (m2 : H'[195]? = some (kO 12 (mfs 0 (nI (B * 256)) 0 cw cl (nI l) rs (nI P) (nI ms.length) (nI us) (nI ps.length) (nI (plen ps)) ba bo))) (h205 : H'[205]? = some (kZ 8 (va_up op t true))) (h206 : H'[206]? = some (kI 8 (fun j => nI (va_up sm t P j)))) (hM : MRIs H' (va_up wss t [])) (he : ∃ e', H'[224]? = some (kJ 1 e')) (hf : ∀ a, ¬ (7 ≤ a ∧ a < 10) → a ≠ 11 + 6 * t → a ≠ 195 → ¬ (205 ≤ a ∧ a < 209) → a ≠ 224 → H'[a]? = H[a]?) : UpI (k + 1) H' := by
  obtain ⟨j1, j2, j3, j4, j5, j6, j7, j8, j9, j10, j11, j12, j13, j14, j15, j16, j17, j18, j19, ⟨e1, e0, e2, e3, e4, e5, e6, e7, e8⟩, j20⟩ := hJ
  obtain ⟨us', ba', bo', -, -, -, -, -, q6, q7, q8, q9⟩ := j10
  have hR : RefI H' 0 (B * 256) 0 cw cl tb l rs g0 P ms (va_up op t true) (va_up sm t P) (va_up wss t []) kd pa sz nl nm ps := ⟨us, ba, bo, m2, q2.far (fun a a1 a2 => hf a (by omega) (by omega) (by omega) (by omega) (by omega)) (hf 223 (by decide) (by omega) (by decide) (by decide) (by decide)), h205, h206, hM, q6.far (fun a a1 a2 => hf a (by omega) (by omega) (by omega) (by omega) (by omega)), q7.far (fun a a1 a2 => hf a (by omega) (by omega) (by omega) (by omega) (by omega)), (hf 196 (by decide) (by omega) (by decide) (by decide) (by decide)).trans q8, (hf 197 (by decide) (by omega) (by decide) (by decide) (by decide)).trans q9⟩
  obtain ⟨S, lgs, fr, ff, wr, tp, rs9, us9, c, P1, gs, vs, tss, Lc, u1, u2, ⟨⟨r1, r2, r3, r4⟩, u3⟩, u4, ⟨k1, k2, k3, k4⟩, u6⟩ := j9
  have hvP : ∀ v ∈ vs, v.2.1 ≤ P := fun v hv => (u2.2.2.2.2.2.2.1 v hv).1
  have hmP := rel_le r2 hvP
  have hs : SightAt H' (va_up op t true) (va_up sm t P) := ⟨h7.trans u1.2.2.2.2.2.2.2.2.1.1, h8, h9⟩
  have r2' : RelU (va_up op t true) (va_up sm t P) c vs ms := r2.sight (fun j hj q => by
    by_cases e : j = t
    · rw [e, up_at]
      exact Or.inr hvP
    · rw [up_ne e] at q
      rw [up_ne e]
      exact Or.inl ⟨q, rfl⟩)
  have hPg : PgV (va_up op t true) (va_up sm t P) P vs := fun v hv => by
    have := u4 v hv
    unfold keepS at this ⊢
    rw [need_open ht hop (hvP v hv)]
    exact this
  have hPm : PrM (va_up op t true) (va_up sm t P) P ms := fun w hw => by
    have := j12 w hw
    unfold keepM at this ⊢
    rw [wM_open ht hop (hmP w hw)]
    exact this
  have hnd : ndR (va_up op t true) (va_up sm t P) (-1) P ms kd nl ps = ndR op sm (-1) P ms kd nl ps := by
    unfold ndR
    congr 2
    exact List.map_congr_left (fun w hw => wM_open ht hop (hmP w hw))
  have hQ : UpQ ky (48 * (k + 1)) H' B N bb P (va_up op t true) (va_up sm t P) (nB B) (Xb (RlX (va_up op t true) (va_up sm t P) ms kd pa sz nl nm ps)) := ⟨S, lgs, fr, ff, wr, tp, rs9, us9, c, P1, gs, vs, tss, Lc, u1.sight hs (fun a a1 a2 => hf a (by omega) (by omega) (by omega) (by omega) (by omega)), u2, ⟨⟨r1, r2', r3, r4⟩, u3⟩, hPg, ⟨k1, k2, by omega, k4⟩, u6⟩
  refine ⟨ky, B, N, P, bb, cw, cl, cp, cb, tb, l, g, rl, va_up wss t [], t0, va_up op t true, va_up sm t P, ms, kd, pa, sz, nl, nm, ps, 0, rs, g0, j1, j2, by omega, by omega, j5, j6, j7, j8.beg ht hB (fun a a1 a2 a3 => hf a a2 a1 (by omega) (by omega) (by omega)), hQ, hR, ⟨j11.1, j11.2.1, j11.2.2.1, fun j hj => ?_, j11.2.2.2.2⟩, hPm, j13, by rw [hnd]; exact j14, fun j hj => ?_, fun j hj => ?_, j17, j18, j19, ⟨e1, e0, e2, e3, fun j hj => ?_, e5, fun j hj q => ?_, by omega, e8⟩, he⟩
  · by_cases e : j = t
    · rw [e, up_at]; omega
    · rw [up_ne e]; exact j11.2.2.2.1 j hj
  · by_cases e : j = t
    · rw [e, up_at]; omega
    · rw [up_ne e]; exact j15 j hj
  · by_cases e : j = t
    · rw [e, up_at]
      exact ⟨fun a b x y ha => (by rw [List.map_nil, List.getElem?_nil] at ha; cases ha), fun x hx => absurd hx List.not_mem_nil, fun x hx => absurd hx List.not_mem_nil⟩
    · rw [up_ne e]; exact j16 j hj
  · by_cases e : j = t
    · rw [e, up_at]
      exact ⟨Nat.zero_le _, Nat.zero_le _⟩
    · rw [up_ne e]; exact e4 j hj
  · by_cases e : j = t
    · rw [e, up_at]
      exact Nat.le_refl _
    · rw [up_ne e] at q ⊢
      exact e6 j hj q
section S69
variable {L i k kc ks : Nat} {xs : Nat → Int32} {Q : tO × aH × Nat × Nat → Prop} {H : aH}
theorem iv_begin (hL : L < 2 ^ 30) (h : i + 6 ≤ L) (hI : InvI k H) (hk : k < 512) (kq : Hd L xs i kc ks Q (k + 1)) : RQ (L, xs) 2000 mr_law 404 [(4, .int (nI i)), (3, .ref 225), (2, .ref 196), (1, .ref 1), (0, .ref 0)] [] H kc ks Q := by
  rcases hI with ⟨ky, B, N, P, bb, cw, cl, cp, cb, tb, l, g, rl, wss, t0, op, sm, ms, kd, pa, sz, nl, nm, ps, fa, rs, g0, hJ⟩ | ⟨ky, B, N, P, cw, cl, cp, cb, tb, l, g, rl, wss, t0, op, sm, ms, kd, pa, sz, nl, nm, ps, fa, rs, g0, hJ⟩
  · obtain ⟨j1, j2, j3, j4, j5, j6, j7, j8, j9, j10, j11, j12, j13, j14, j15, j16, j17, j18, j19, jE, e, j20⟩ := id hJ
    obtain ⟨us, ba, bo, m1, hF, hG, qV, hR⟩ := hJ.fld hk
    obtain ⟨-, -, -, -, -, q5, q6, qR, qT, q8, q9, -⟩ := j10.cells
    obtain ⟨S, lgs, fr, ff, wr, tp, rs9, us9, c, P1, gs, vs, tss, Lc, u1, -⟩ := id j9
    have hs := u1.2.2.2.2.2.2.2.2.1
    obtain ⟨ro, fi, wk, wn, wz, wb, hA, hT⟩ := id qR
    rcases first_closed op 8 with hall | ⟨t, ht, hop, hb⟩
    · exact RQ.of (fun r kk => step_begin_full hL h j8.1 hs m1 q5 q6 hA.1 hA.2.1 hall kk) (kq.go1 (Or.inl (hF 2)))
    · obtain ⟨wq, h10, hwq⟩ := j8.2.2.2.2.2.2.1
      obtain ⟨D, Sx, K, E, hBA, -⟩ := (j8.2.2.2.2.2.2.2.1 t ht).1
      refine RQ.of (fun r kk => step_begin_ok (b := 11 + 6 * t) hL h j8.1 hs h10 (hwq t ht) hBA.1 rfl (by omega) (by omega) m1 q5 q6 hA.1 hA.2.1 j20 ht hop hb kk) ?_
      have hro : va_up (fun j => nI (ro j)) t (0 : Int32) = fun j => nI (va_up ro t 0 j) := up_nI
      have hfi : va_up (fun j => nI (fi j)) t (0 : Int32) = fun j => nI (va_up fi t 0 j) := up_nI
      rw [up_nI (mo := sm), hro, hfi]
      refine kq.go0 (Or.inl (hJ.begin (us := us) (ba := ba) (bo := bo) hk ht hop qV ?_ ?_ ?_ ?_ ?_ ?_ ?_ ?_ ?_ ?_))
      · exact ((set_far (by omega)).trans ((set_far (by omega)).trans ((set_far (by omega)).trans ((set_far (by omega)).trans ((set_far (by omega)).trans ((set_far (by omega)).trans ((set_far (by omega)).trans ((set_far (by omega)).trans (set_far (by omega))))))))))
      · exact ((set_far (by omega)).trans ((set_far (by omega)).trans ((set_far (by omega)).trans ((set_far (by omega)).trans ((set_far (by omega)).trans ((set_far (by omega)).trans ((set_far (by omega)).trans ((set_far (by omega)).trans (get_set hs.2.1)))))))))
      · exact ((set_far (by omega)).trans ((set_far (by omega)).trans ((set_far (by omega)).trans ((set_far (by omega)).trans ((set_far (by omega)).trans ((set_far (by omega)).trans ((set_far (by omega)).trans (get_set ((set_far (by omega)).trans hs.2.2)))))))))
      · exact ⟨D, Sx, K, E, ⟨((set_far (by omega)).trans ((set_far (by omega)).trans ((set_far (by omega)).trans ((set_far (by omega)).trans ((set_far (by omega)).trans ((set_far (by omega)).trans (get_set ((set_far (by omega)).trans ((set_far (by omega)).trans hBA.1))))))))), ((set_far (by omega)).trans ((set_far (by omega)).trans ((set_far (by omega)).trans ((set_far (by omega)).trans ((set_far (by omega)).trans ((set_far (by omega)).trans ((set_far (by omega)).trans ((set_far (by omega)).trans ((set_far (by omega)).trans hBA.2.1))))))))), ((set_far (by omega)).trans ((set_far (by omega)).trans ((set_far (by omega)).trans ((set_far (by omega)).trans ((set_far (by omega)).trans ((set_far (by omega)).trans ((set_far (by omega)).trans ((set_far (by omega)).trans ((set_far (by omega)).trans hBA.2.2.1))))))))), ((set_far (by omega)).trans ((set_far (by omega)).trans ((set_far (by omega)).trans ((set_far (by omega)).trans ((set_far (by omega)).trans ((set_far (by omega)).trans ((set_far (by omega)).trans ((set_far (by omega)).trans ((set_far (by omega)).trans hBA.2.2.2.1))))))))), ((set_far (by omega)).trans ((set_far (by omega)).trans ((set_far (by omega)).trans ((set_far (by omega)).trans ((set_far (by omega)).trans ((set_far (by omega)).trans ((set_far (by omega)).trans ((set_far (by omega)).trans ((set_far (by omega)).trans hBA.2.2.2.2)))))))))⟩, fun a x hx => (by rw [List.getElem?_nil] at hx; cases hx), Nat.zero_le _, Nat.zero_le _⟩
      · exact ((set_far (by omega)).trans ((set_far (by omega)).trans ((set_far (by omega)).trans ((set_far (by omega)).trans (get_set ((set_far (by omega)).trans ((set_far (by omega)).trans ((set_far (by omega)).trans ((set_far (by omega)).trans m1)))))))))
      · exact ((set_far (by omega)).trans ((set_far (by omega)).trans ((set_far (by omega)).trans (get_set ((set_far (by omega)).trans ((set_far (by omega)).trans ((set_far (by omega)).trans ((set_far (by omega)).trans ((set_far (by omega)).trans q5)))))))))
      · exact ((set_far (by omega)).trans ((set_far (by omega)).trans (get_set ((set_far (by omega)).trans ((set_far (by omega)).trans ((set_far (by omega)).trans ((set_far (by omega)).trans ((set_far (by omega)).trans ((set_far (by omega)).trans q6)))))))))
      · refine ⟨va_up ro t 0, va_up fi t 0, wk, wn, wz, wb, ⟨((set_far (by omega)).trans (get_set ((set_far (by omega)).trans ((set_far (by omega)).trans ((set_far (by omega)).trans ((set_far (by omega)).trans ((set_far (by omega)).trans ((set_far (by omega)).trans ((set_far (by omega)).trans hA.1))))))))), (get_set ((set_far (by omega)).trans ((set_far (by omega)).trans ((set_far (by omega)).trans ((set_far (by omega)).trans ((set_far (by omega)).trans ((set_far (by omega)).trans ((set_far (by omega)).trans ((set_far (by omega)).trans hA.2.1))))))))), ((set_far (by omega)).trans ((set_far (by omega)).trans ((set_far (by omega)).trans ((set_far (by omega)).trans ((set_far (by omega)).trans ((set_far (by omega)).trans ((set_far (by omega)).trans ((set_far (by omega)).trans ((set_far (by omega)).trans hA.2.2.1))))))))), ((set_far (by omega)).trans ((set_far (by omega)).trans ((set_far (by omega)).trans ((set_far (by omega)).trans ((set_far (by omega)).trans ((set_far (by omega)).trans ((set_far (by omega)).trans ((set_far (by omega)).trans ((set_far (by omega)).trans hA.2.2.2.1))))))))), ((set_far (by omega)).trans ((set_far (by omega)).trans ((set_far (by omega)).trans ((set_far (by omega)).trans ((set_far (by omega)).trans ((set_far (by omega)).trans ((set_far (by omega)).trans ((set_far (by omega)).trans ((set_far (by omega)).trans hA.2.2.2.2.1))))))))), ((set_far (by omega)).trans ((set_far (by omega)).trans ((set_far (by omega)).trans ((set_far (by omega)).trans ((set_far (by omega)).trans ((set_far (by omega)).trans ((set_far (by omega)).trans ((set_far (by omega)).trans ((set_far (by omega)).trans hA.2.2.2.2.2)))))))))⟩, fun j hj => ?_⟩
        by_cases e9 : j = t
        · rw [e9, up_at]
          exact ⟨up_at, up_at, Nat.zero_le _, Nat.zero_le _, fun a x hx => (by rw [List.getElem?_nil] at hx; cases hx)⟩
        · rw [up_ne e9]
          obtain ⟨t1, t2, t3⟩ := hT j hj
          exact ⟨by rw [up_ne e9]; exact t1, by rw [up_ne e9]; exact t2, t3⟩
      · exact ⟨_, ((set_far (by omega)).trans ((set_far (by omega)).trans ((set_far (by omega)).trans ((set_far (by omega)).trans ((set_far (by omega)).trans (get_set ((set_far (by omega)).trans ((set_far (by omega)).trans ((set_far (by omega)).trans j20)))))))))⟩
      · exact fun a a1 a2 a3 a4 a5 => ((set_far (by omega)).trans ((set_far (by omega)).trans ((set_far (by omega)).trans ((set_far (by omega)).trans ((set_far (by omega)).trans ((set_far (by omega)).trans ((set_far (by omega)).trans ((set_far (by omega)).trans (set_far (by omega))))))))))
  · obtain ⟨d1, d2, d3, d4, d5, d6, d7, d8, d9, d10, d11, d12, d13, d14, d15, d16, d17, jE, e, d19⟩ := id hJ
    obtain ⟨us, ba, bo, m1, hF, hG, qV, hR⟩ := hJ.fld hk
    obtain ⟨-, -, -, -, -, q5, q6, qR, qT, q8, q9, -⟩ := d9.cells
    exact RQ.of (fun r kk => step_begin_down hL h d7.1 m1 kk) (kq.go1 (Or.inr (hF 1)))
end S69
