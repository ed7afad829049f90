/-! ===== put and delete: each case of the law, from every state of the invariant; the keys grow by one; written by wip/gen/put3.py ===== -/
theorem VOk.ky {ky ky' : List (List Nat)} {P : Nat} {v : aV} (h : VOk ky P v) (hs : ∀ x ∈ ky, x ∈ ky') : VOk ky' P v := ⟨h.1, h.2.1, h.2.2.1, hs _ h.2.2.2⟩
theorem StW.ky {ky ky' : List (List Nat)} {B P P1 : Nat} {rs : List aR} {gs : List aSg} {c : Nat → Int8} {vs : List aV} {tss : List (List aT)} {L : List aCh} (h : StW ky B P P1 rs gs c vs tss L) (hs : ∀ x ∈ ky, x ∈ ky') : StW ky' B P P1 rs gs c vs tss L := by
  obtain ⟨w1, w2, w3, w4, w5, w6, w7, w8, w9⟩ := h
  exact ⟨w1, w2, w3, w4, w5, w6, fun v hv => (w7 v hv).ky hs, fun e he => ⟨(w8 e he).1, hs _ (w8 e he).2⟩, fun x hx => ⟨(w9 x hx).1, (w9 x hx).2.1, fun e he => ⟨((w9 x hx).2.2 e he).1, hs _ ((w9 x hx).2.2 e he).2⟩⟩⟩
theorem UpQ.ky {ky ky' : List (List Nat)} {M : Nat} {H : aH} {B N bb P n : Nat} {op : Nat → Bool} {sm : Nat → Nat} {X : (Nat → Int8) → List aV → Prop} (h : UpQ ky M H B N bb P op sm n X) (hs : ∀ x ∈ ky, x ∈ ky') : UpQ ky' M H B N bb P op sm n X := by
  obtain ⟨S, lgs, fr, ff, wr, tp, rs, us, c, P1, gs, vs, tss, L, h1, h2, h3⟩ := h
  exact ⟨S, lgs, fr, ff, wr, tp, rs, us, c, P1, gs, vs, tss, L, h1, h2.ky hs, h3⟩
theorem BOk.ky {ky ky' : List (List Nat)} {ws : List aE} (h : BOk ky ws) (hs : ∀ x ∈ ky, x ∈ ky') : BOk ky' ws := ⟨h.1, fun e he => ⟨(h.2.1 e he).1, hs _ (h.2.1 e he).2⟩, h.2.2⟩
theorem OneW.erase {ws : List aE} (h : OneW ws) (i : Nat) : OneW (ws.eraseIdx i) := fun a b e f ha hb hk => by
  rw [List.getElem?_eraseIdx] at ha hb
  split at ha <;> split at hb
  · exact h a b e f ha hb hk
  · have := h a (b + 1) e f ha hb hk; omega
  · have := h (a + 1) b e f ha hb hk; omega
  · have := h (a + 1) (b + 1) e f ha hb hk; omega
theorem snoc_get {ws : List aE} {x e : aE} {a : Nat} (h : (ws ++ [x])[a]? = some e) : (a < ws.length ∧ ws[a]? = some e) ∨ (a = ws.length ∧ e = x) := by
  rw [List.getElem?_append] at h
  by_cases hn : a < ws.length
  · rw [if_pos hn] at h
    exact Or.inl ⟨hn, h⟩
  · rw [if_neg hn] at h
    have h1 : a - ws.length < 1 := get_lt h
    have h3 : a - ws.length = 0 := by omega
    rw [h3] at h
    exact Or.inr ⟨by omega, (Option.some.inj h).symm⟩
theorem OneW.snoc {ws : List aE} {x : aE} (h : OneW ws) (hn : ∀ e ∈ ws, ¬ e.1 = x.1) : OneW (ws ++ [x]) := fun a b e f ha hb hk => by
  rcases snoc_get ha with ⟨a1, a2⟩ | ⟨a1, a2⟩ <;> rcases snoc_get hb with ⟨b1, b2⟩ | ⟨b1, b2⟩
  · exact h a b e f a2 b2 hk
  · exact absurd (by rw [hk, b2]) (hn e (List.mem_of_getElem? a2))
  · exact absurd (by rw [← hk, a2]) (hn f (List.mem_of_getElem? b2))
  · omega
theorem OneW.unp {ws : List aE} (h : OneW (ws.map pfx)) : OneW ws := fun a b e f ha hb hk => h a b (pfx e) (pfx f) (by rw [List.getElem?_map, ha]; rfl) (by rw [List.getElem?_map, hb]; rfl) (by show 0 :: e.1 = 0 :: f.1; rw [hk])
theorem OneW.p {ws : List aE} (h : OneW ws) : OneW (ws.map pfx) := fun a b e f ha hb hk => by
  rw [List.getElem?_map] at ha hb
  cases h1 : ws[a]? with
  | none => rw [h1] at ha; cases ha
  | some e' =>
    cases h2 : ws[b]? with
    | none => rw [h2] at hb; cases hb
    | some f' =>
      rw [h1] at ha
      rw [h2] at hb
      have ea : pfx e' = e := Option.some.inj ha
      have eb : pfx f' = f := Option.some.inj hb
      rw [← ea, ← eb] at hk
      exact h a b e' f' h1 h2 (List.cons.inj hk).2
theorem dropK_mem {ws : List aE} {k : List Nat} {e : aE} (h : e ∈ dropK ws k) : e ∈ ws := by
  unfold dropK at h
  cases hi : ixK ws k with
  | none => rw [hi] at h; exact h
  | some i => rw [hi] at h; exact List.mem_of_mem_eraseIdx h
theorem dropK_one {ws : List aE} {k : List Nat} (h : OneW ws) : OneW (dropK ws k) := by
  unfold dropK
  cases hi : ixK ws k with
  | none => exact h
  | some i => exact h.erase i
theorem dropK_no {ws : List aE} {k : List Nat} {e : aE} (h1 : OneW ws) (h : e ∈ dropK ws k) : ¬ e.1 = k := fun hk => by
  unfold dropK at h
  cases hi : ixK ws k with
  | none =>
    rw [hi] at h
    obtain ⟨j, hj⟩ := List.getElem?_of_mem h
    exact ixK_none hi j e hj hk
  | some i =>
    rw [hi] at h
    obtain ⟨⟨e0, q1, q2⟩, -⟩ := ixK_some hi
    obtain ⟨j, hj⟩ := List.getElem?_of_mem h
    have hj : (ws.eraseIdx i)[j]? = some e := hj
    rw [List.getElem?_eraseIdx] at hj
    split at hj
    · have := h1 j i e e0 hj q1 (hk.trans q2.symm); omega
    · have := h1 (j + 1) i e e0 hj q1 (hk.trans q2.symm); omega
theorem BOk.put {ky : List (List Nat)} {ws : List aE} {K : List Nat} {v : Option (List Nat)} (h : BOk ky ws) (hK1 : 1 ≤ K.length) (hK2 : K.length ≤ 40) (hv : ∀ l, v = some l → l.length ≤ 1000 ∧ ∀ b ∈ l, b < 256) : BOk ((0 :: K) :: ky) (dropK ws K ++ [(K, v)]) := by
  obtain ⟨h1, h2, h3⟩ := h
  refine ⟨(OneW.snoc (x := (K, v)) (dropK_one (k := K) h1.unp) (fun e he => dropK_no h1.unp he)).p, fun e he => ?_, fun e he l hl => ?_⟩
  · obtain ⟨w, hw, rfl⟩ := List.mem_map.mp he
    rcases List.mem_append.mp hw with q | q
    · have := h2 _ (List.mem_map.mpr ⟨w, dropK_mem q, rfl⟩)
      exact ⟨this.1, List.mem_cons_of_mem _ this.2⟩
    · rw [List.mem_singleton.mp q]
      refine ⟨Or.inl ⟨K, rfl, hK1, hK2, fun n hn => ?_⟩, List.mem_cons_self⟩
      cases hv1 : v with
      | none => rw [hv1] at hn; cases hn
      | some l =>
        rw [hv1] at hn
        have hn : l.length = n := Option.some.inj hn
        rw [← hn]
        exact (hv l hv1).1
  · rcases List.mem_append.mp he with q | q
    · exact h3 e (dropK_mem q) l hl
    · rw [List.mem_singleton.mp q] at hl
      exact (hv l hl).2
theorem ClsA.put {H H' : aH} {B P : Nat} {up cw cl : Int32} {cp cb : Nat} {tb : Nat → Int8} {l : Nat} {g : Nat → Int8} {rl : Nat} {wss : Nat → List aE} {t : aTr} (h : ClsA H B P up cw cl cp cb tb l g rl wss t) {t1 : Nat} (ht : t1 < 8) {ws1 : List aE} {q : Nat} {p : Nat → Int8} (hB : BatchIs H' (11 + 6 * t1) (ws1.map pfx)) (h5 : H'[5]? = some (kO 5 [.ref 7, .int (nI q)])) (h6 : H'[6]? = some (kB 41 p)) (h1 : H'[1]? = some (kO 5 [.ref 3, .int (nI 0)])) (hf : ∀ a, ¬ (11 + 6 * t1 ≤ a ∧ a < 11 + 6 * t1 + 5) → a ≠ 5 → a ≠ 6 → a ≠ 1 → a < 71 → H'[a]? = H[a]?) : ClsA H' B P up cw cl cp cb tb 0 g rl (va_up wss t1 ws1) t := by
  obtain ⟨h0, -, h2, h3, h4, -, ⟨wq, h10, hwq⟩, hW, ⟨⟨ws, hC⟩, hQ⟩, hT⟩ := h
  refine ⟨(hf 0 (by omega) (by decide) (by decide) (by decide) (by decide)).trans h0, h1, (hf 2 (by omega) (by decide) (by decide) (by decide) (by decide)).trans h2, (hf 3 (by omega) (by decide) (by decide) (by decide) (by decide)).trans h3, (hf 4 (by omega) (by decide) (by decide) (by decide) (by decide)).trans h4, ⟨q, p, h5, h6⟩, ⟨wq, (hf 10 (by omega) (by decide) (by decide) (by decide) (by decide)).trans h10, hwq⟩, fun t' ht' => ?_, ⟨⟨ws, hC.keep (fun a a1 a2 => hf a (by omega) (by omega) (by omega) (by omega) (by omega))⟩, hQ.imp (fun Q hQ => (hf _ (by omega) (by decide) (by decide) (by decide) (by decide)).trans hQ)⟩, hT.far (fun a a1 a2 => hf a (by omega) (by omega) (by omega) (by omega) (by omega))⟩
  by_cases e : t' = t1
  · rw [e, up_at]
    exact ⟨hB, (hW t1 ht).2.imp (fun Q hQ => (hf _ (by omega) (by omega) (by omega) (by omega) (by omega)).trans hQ)⟩
  · rw [up_ne e]
    exact ⟨(hW t' ht').1.keep (fun a a1 a2 => hf a (by omega) (by omega) (by omega) (by omega) (by omega)), (hW t' ht').2.imp (fun Q hQ => (hf _ (by omega) (by omega) (by omega) (by omega) (by omega)).trans hQ)⟩
/-- a change is intended: the state behind it -/
theorem UpJ.put {ky : List (List Nat)} {k : Nat} {H H' : aH} {B N P bb : Nat} {cw cl : Int32} {cp cb : Nat} {tb : Nat → Int8} {l : Nat} {g : Nat → Int8} {rl : Nat} {wss : Nat → List aE} {t0 : aTr} {op : Nat → Bool} {sm : Nat → Nat} {ms : List aMV} {kd pa sz nl : Nat → Nat} {nm : Nat → Int8} {ps : List aPc} {fa rs : Int32} {g0 : Nat → Int8} {t q us ba bo : Nat} {p : Nat → Int8} {K : List Nat} {v : Option (List Nat)} (hJ : UpJ ky k H B N P bb cw cl cp cb tb l g rl wss t0 op sm ms kd pa sz nl nm ps fa rs g0) (hk : k < 512) (ht : t < 8) (hK1 : 1 ≤ K.length) (hK2 : K.length ≤ 40) (hv : ∀ l, v = some l → l.length ≤ 1000 ∧ ∀ b ∈ l, b < 256) (hf1 : (dropK (wss t) K).length + 1 ≤ 32) (hf2 : eOff (dropK (wss t) K) (dropK (wss t) K).length + eLen (K, v) ≤ 4000) (q2 : MVIs H ba bo us ms) (hB : BatchIs H' (11 + 6 * t) ((dropK (wss t) K ++ [(K, v)]).map pfx)) (hM : MRIs H' (va_up wss t (dropK (wss t) K ++ [(K, v)]))) (h5 : H'[5]? = some (kO 5 [.ref 7, .int (nI q)])) (h6 : H'[6]? = some (kB 41 p)) (h1 : H'[1]? = some (kO 5 [.ref 3, .int (nI 0)])) (m2 : H'[195]? = some (kO 12 (mfs 0 (nI (B * 256)) 0 cw cl (nI 0) rs (nI P) (nI ms.length) (nI us) (nI ps.length) (nI (plen ps)) ba bo))) (he : ∃ e', H'[224]? = some (kJ 1 e')) (hf : ∀ a, ¬ (11 + 6 * t ≤ a ∧ a < 11 + 6 * t + 5) → a ≠ 5 → a ≠ 6 → a ≠ 1 → a ≠ 195 → ¬ (207 ≤ a ∧ a < 213) → a ≠ 224 → H'[a]? = H[a]?) : UpI (k + 1) H' := by
  obtain ⟨j1, j2, j3, j4, j5, j6, j7, j8, j9, j10, j11, j12, j13, j14, j15, j16, j17, j18, j19, ⟨e1, e0, e2, e3, e4, e5, e6, e7, e8⟩, j20⟩ := hJ
  obtain ⟨us', ba', bo', -, -, q3, q4, -, q6, q7, q8, q9⟩ := j10
  have hR : RefI H' 0 (B * 256) 0 cw cl tb 0 rs g0 P ms op sm (va_up wss t (dropK (wss t) K ++ [(K, v)])) kd pa sz nl nm ps := ⟨us, ba, bo, m2, q2.far (fun a a1 a2 => hf a (by omega) (by omega) (by omega) (by omega) (by omega) (by omega) (by omega)) (hf 223 (by omega) (by decide) (by decide) (by decide) (by decide) (by decide) (by decide)), (hf 205 (by omega) (by decide) (by decide) (by decide) (by decide) (by decide) (by decide)).trans q3, (hf 206 (by omega) (by decide) (by decide) (by decide) (by decide) (by decide) (by decide)).trans q4, hM, q6.far (fun a a1 a2 => hf a (by omega) (by omega) (by omega) (by omega) (by omega) (by omega) (by omega)), q7.far (fun a a1 a2 => hf a (by omega) (by omega) (by omega) (by omega) (by omega) (by omega) (by omega)), (hf 196 (by omega) (by decide) (by decide) (by decide) (by decide) (by decide) (by decide)).trans q8, (hf 197 (by omega) (by decide) (by decide) (by decide) (by decide) (by decide) (by decide)).trans q9⟩
  have hsub : ∀ x ∈ ky, x ∈ (0 :: K) :: ky := fun x hx => List.mem_cons_of_mem _ hx
  refine ⟨(0 :: K) :: ky, B, N, P, bb, cw, cl, cp, cb, tb, 0, g, rl, va_up wss t (dropK (wss t) K ++ [(K, v)]), t0, op, sm, ms, kd, pa, sz, nl, nm, ps, 0, rs, g0, j1, j2, by omega, by omega, j5, j6, j7, j8.put ht hB h5 h6 h1 (fun a a1 a2 a3 a4 a5 => hf a a1 a2 a3 a4 (by omega) (by omega) (by omega)), (j9.ky hsub).low (by omega) (fun a ha => hf a (by omega) (by omega) (by omega) (by omega) (by omega) (by omega) (by omega)), hR, ⟨Nat.zero_le _, j11.2⟩, j12, j13, j14, j15, fun t' ht' => ?_, j17, j18, j19, ⟨e1, e0, e2, e3, fun t' ht' => ?_, e5, e6, ?_, e8⟩, he⟩
  · by_cases e : t' = t
    · rw [e, up_at]
      exact (j16 t ht).put hK1 hK2 hv
    · rw [up_ne e]
      exact (j16 t' ht').ky hsub
  · by_cases e : t' = t
    · rw [e, up_at]
      have hlen : (dropK (wss t) K ++ [(K, v)]).length = (dropK (wss t) K).length + 1 := by rw [List.length_append, List.length_singleton]
      rw [hlen, eOff_end]
      exact ⟨hf1, hf2⟩
    · rw [up_ne e]
      exact e4 t' ht'
  · rw [List.length_cons]
    omega
theorem sl_b {f : Nat → Int8} {i n : Nat} : ∀ b ∈ sl f i n, b < 256 := fun b hb => by
  obtain ⟨j, hj⟩ := List.getElem?_of_mem hb
  have hjn : j < n := by have := get_lt hj; rwa [sl_length] at this
  rw [sl_get _ _ _ hjn] at hj
  rw [← Option.some.inj hj]
  exact ub_lt _
section S68
variable {L i k kc ks : Nat} {xs : Nat → Int32} {Q : tO × aH × Nat × Nat → Prop} {H : aH}
theorem iv_put (hL : L < 2 ^ 30) (h : i + 6 ≤ L) (hI : InvI k H) (hk : k < 512) (kq : Hd L xs i kc ks Q (k + 1)) : RQ (L, xs) 2000 mr_law 448 [(4, .int (nI i)), (3, .ref 225), (2, .ref 196), (1, .ref 1), (0, .ref 0)] [] H kc ks Q := by
  rcases hI with ⟨ky, B, N, P, bb, cw, cl, cp, cb, tb, l, g, rl, wss, t0, op, sm, ms, kd, pa, sz, nl, nm, ps, fa, rs, g0, hJ⟩ | ⟨ky, B, N, P, cw, cl, cp, cb, tb, l, g, rl, wss, t0, op, sm, ms, kd, pa, sz, nl, nm, ps, fa, rs, g0, hJ⟩
  · obtain ⟨j1, j2, j3, j4, j5, j6, j7, j8, j9, j10, j11, j12, j13, j14, j15, j16, j17, j18, j19, jE, e, j20⟩ := id hJ
    obtain ⟨us, ba, bo, m1, hF, hG, qV, hR⟩ := hJ.fld hk
    obtain ⟨-, -, -, -, -, q5, q6, qR, qT, q8, q9, -⟩ := j10.cells
    have hl := j11.1
    obtain ⟨S, lgs, fr, ff, wr, tp, rs9, us9, c, P1, gs, vs, tss, Lc, u1, -⟩ := id j9
    have hs := u1.2.2.2.2.2.2.2.2.1
    by_cases hb : putOk (xs (i + 1)) (xs (i + 2)) l
    · obtain ⟨t, kk, e1, ht, e2, hk1, hk2, hk3, hk4⟩ := hb
      cases hop : op t with
      | false =>
        refine step_put_closed hL h j8.1 j8.2.1 m1 e1 e2 ht hk1 hk2 hk3 hk4 hl hs q5 hop (kq.go1 (Or.inl (hJ.row (cw' := cw) (cl' := cl) (cp' := cp) (cb' := cb) (fa' := 3) (tb' := tb) (l' := 0) hk ?_ ?_ jE.1 jE.2.1 (Nat.zero_le _) (Nat.zero_le _) j6 j7 ?_ ⟨e, ?_⟩)))
        · obtain ⟨q, p, h5, h6⟩ := j8.2.2.2.2.2.1
          exact j8.small ((set_far (by decide)).trans ((set_far (by decide)).trans j8.1)) ((set_far (by decide)).trans (get_set j8.2.1)) ((set_far (by decide)).trans ((set_far (by decide)).trans j8.2.2.1)) ((set_far (by decide)).trans ((set_far (by decide)).trans j8.2.2.2.1)) ((set_far (by decide)).trans ((set_far (by decide)).trans j8.2.2.2.2.1)) ⟨q, p, (set_far (by decide)).trans ((set_far (by decide)).trans h5), (set_far (by decide)).trans ((set_far (by decide)).trans h6)⟩ (fun a a1 a2 => (set_far (by omega)).trans (set_far (by omega)))
        · exact hR _ 3 0 cw cl tb 0 rs g0 (get_set ((set_far (by decide)).trans m1)) ((set_far (by decide)).trans ((set_far (by decide)).trans q8)) ((set_far (by decide)).trans ((set_far (by decide)).trans q9)) (fun a a1 a2 => (set_far (by omega)).trans (set_far (by omega)))
        · exact fun a ha => (set_far (by omega)).trans (set_far (by omega))
        · exact (set_far (by decide)).trans ((set_far (by decide)).trans j20)
      | true =>
        obtain ⟨q, p, h5, h6⟩ := j8.2.2.2.2.2.1
        obtain ⟨wq, h10, hwq⟩ := j8.2.2.2.2.2.2.1
        obtain ⟨w1, w2, w3⟩ := j16 t ht
        have hks : ∀ e ∈ wss t, 1 ≤ e.1.length := fun e he => by
          have h9 := (w2 (pfx e) (List.mem_map.mpr ⟨e, he, rfl⟩)).1
          rcases h9 with ⟨k9, a1, a2, -⟩ | ⟨f9, a1, -⟩ | ⟨f9, i9, a1, -⟩
          · have : e.1 = k9 := (List.cons.inj a1).2
            rw [this]
            exact a2
          · exact absurd (List.cons.inj a1).1 (by decide)
          · exact absurd (List.cons.inj a1).1 (by decide)
        have h32 := jE.2.2.2.2.1 t ht
        by_cases hfit : (dropK (wss t) (sl tb 0 kk)).length + 1 ≤ 32 ∧ eOff (dropK (wss t) (sl tb 0 kk)) (dropK (wss t) (sl tb 0 kk)).length + kk + (some (l - kk)).getD 0 ≤ 4000
        · refine step_put_ok (b := 11 + 6 * t) hL h j8.1 j8.2.1 m1 e1 e2 ht hk1 hk2 hk3 hk4 hl hs hop h10 (hwq t ht) j8.2.2.1 h5 h6 (j8.2.2.2.2.2.2.2.1 t ht).1 (by omega) (by omega) h32.1 h32.2 hks qR q5 q8 (fun j _ => rfl) j20 hfit (fun H' hh => kq.go0 (Or.inl ?_))
          obtain ⟨y1, y2, y3, y4, y5, y6, y7, y8⟩ := hh
          exact hJ.put hk ht (by rw [sl_length]; omega) (by rw [sl_length]; omega) (fun x hx => by rw [← Option.some.inj hx]; exact ⟨by rw [sl_length]; exact hk4, sl_b⟩) hfit.1 (by show eOff _ _ + ((sl tb 0 kk).length + (sl tb kk (l - kk)).length) ≤ 4000; rw [sl_length, sl_length, ← Nat.add_assoc]; exact hfit.2) qV y1 y2 y3 y4 y5 y6 y7 y8
        · refine step_put_full (b := 11 + 6 * t) hL h j8.1 j8.2.1 m1 e1 e2 ht hk1 hk2 hk3 hk4 hl hs hop h10 (hwq t ht) j8.2.2.1 h5 h6 (j8.2.2.2.2.2.2.2.1 t ht).1 (by omega) (by omega) h32.1 h32.2 hks qR q5 q8 (fun j _ => rfl) hfit (kq.go1 (Or.inl (hJ.row (cw' := cw) (cl' := cl) (cp' := cp) (cb' := cb) (fa' := 4) (tb' := tb) (l' := 0) hk ?_ ?_ jE.1 jE.2.1 (Nat.zero_le _) (Nat.zero_le _) j6 j7 ?_ ⟨e, ?_⟩)))
          · exact j8.small ((set_far (by decide)).trans ((set_far (by decide)).trans ((set_far (by decide)).trans ((set_far (by decide)).trans j8.1)))) ((set_far (by decide)).trans ((set_far (by decide)).trans ((set_far (by decide)).trans (get_set j8.2.1)))) ((set_far (by decide)).trans ((set_far (by decide)).trans ((set_far (by decide)).trans ((set_far (by decide)).trans j8.2.2.1)))) ((set_far (by decide)).trans ((set_far (by decide)).trans ((set_far (by decide)).trans ((set_far (by decide)).trans j8.2.2.2.1)))) ((set_far (by decide)).trans ((set_far (by decide)).trans ((set_far (by decide)).trans ((set_far (by decide)).trans j8.2.2.2.2.1)))) ⟨_, _, (set_far (by decide)).trans (get_set ((set_far (by decide)).trans ((set_far (by decide)).trans h5))), (set_far (by decide)).trans ((set_far (by decide)).trans (get_set ((set_far (by decide)).trans h6)))⟩ (fun a a1 a2 => (set_far (by omega)).trans ((set_far (by omega)).trans ((set_far (by omega)).trans (set_far (by omega)))))
          · exact hR _ 4 0 cw cl tb 0 rs g0 (get_set ((set_far (by decide)).trans ((set_far (by decide)).trans ((set_far (by decide)).trans m1)))) ((set_far (by decide)).trans ((set_far (by decide)).trans ((set_far (by decide)).trans ((set_far (by decide)).trans q8)))) ((set_far (by decide)).trans ((set_far (by decide)).trans ((set_far (by decide)).trans ((set_far (by decide)).trans q9)))) (fun a a1 a2 => (set_far (by omega)).trans ((set_far (by omega)).trans ((set_far (by omega)).trans (set_far (by omega)))))
          · exact fun a ha => (set_far (by omega)).trans ((set_far (by omega)).trans ((set_far (by omega)).trans (set_far (by omega))))
          · exact (set_far (by decide)).trans ((set_far (by decide)).trans ((set_far (by decide)).trans ((set_far (by decide)).trans j20)))
    · exact step_put_bad hL h j8.1 j8.2.1 m1 hl hb (kq.go1 (Or.inl (hF 1)))
  · obtain ⟨d1, d2, d3, d4, d5, d6, d7, d8, d9, d10, d11, d12, d13, d14, d15, d16, d17, jE, e, d19⟩ := id hJ
    obtain ⟨us, ba, bo, m1, hF, hG, qV, hR⟩ := hJ.fld hk
    obtain ⟨-, -, -, -, -, q5, q6, qR, qT, q8, q9, -⟩ := d9.cells
    have hl := d10.1
    by_cases hb : putOk (xs (i + 1)) (xs (i + 2)) l
    · obtain ⟨t, kk, e1, ht, e2, hk1, hk2, hk3, hk4⟩ := hb
      exact step_put_down hL h d7.1 d7.2.1 m1 e1 e2 ht hk1 hk2 hk3 hk4 hl (kq.go1 (Or.inr (hF 2)))
    · exact step_put_bad hL h d7.1 d7.2.1 m1 hl hb (kq.go1 (Or.inr (hF 1)))
theorem iv_delete (hL : L < 2 ^ 30) (h : i + 6 ≤ L) (hI : InvI k H) (hk : k < 512) (kq : Hd L xs i kc ks Q (k + 1)) : RQ (L, xs) 2000 mr_law 516 [(4, .int (nI i)), (3, .ref 225), (2, .ref 196), (1, .ref 1), (0, .ref 0)] [] H kc ks Q := by
  rcases hI with ⟨ky, B, N, P, bb, cw, cl, cp, cb, tb, l, g, rl, wss, t0, op, sm, ms, kd, pa, sz, nl, nm, ps, fa, rs, g0, hJ⟩ | ⟨ky, B, N, P, cw, cl, cp, cb, tb, l, g, rl, wss, t0, op, sm, ms, kd, pa, sz, nl, nm, ps, fa, rs, g0, hJ⟩
  · obtain ⟨j1, j2, j3, j4, j5, j6, j7, j8, j9, j10, j11, j12, j13, j14, j15, j16, j17, j18, j19, jE, e, j20⟩ := id hJ
    obtain ⟨us, ba, bo, m1, hF, hG, qV, hR⟩ := hJ.fld hk
    obtain ⟨-, -, -, -, -, q5, q6, qR, qT, q8, q9, -⟩ := j10.cells
    have hl := j11.1
    obtain ⟨S, lgs, fr, ff, wr, tp, rs9, us9, c, P1, gs, vs, tss, Lc, u1, -⟩ := id j9
    have hs := u1.2.2.2.2.2.2.2.2.1
    by_cases hb : ((∃ t, xs (i + 1) = nI t ∧ t < 8) ∧ 1 ≤ l ∧ l ≤ 40)
    · obtain ⟨⟨t, e1, ht⟩, hl1, hl2⟩ := hb
      cases hop : op t with
      | false =>
        refine step_delete_closed hL h j8.1 j8.2.1 m1 e1 ht hl1 hl2 hs q5 hop (kq.go1 (Or.inl (hJ.row (cw' := cw) (cl' := cl) (cp' := cp) (cb' := cb) (fa' := 3) (tb' := tb) (l' := 0) hk ?_ ?_ jE.1 jE.2.1 (Nat.zero_le _) (Nat.zero_le _) j6 j7 ?_ ⟨e, ?_⟩)))
        · obtain ⟨q, p, h5, h6⟩ := j8.2.2.2.2.2.1
          exact j8.small ((set_far (by decide)).trans ((set_far (by decide)).trans j8.1)) ((set_far (by decide)).trans (get_set j8.2.1)) ((set_far (by decide)).trans ((set_far (by decide)).trans j8.2.2.1)) ((set_far (by decide)).trans ((set_far (by decide)).trans j8.2.2.2.1)) ((set_far (by decide)).trans ((set_far (by decide)).trans j8.2.2.2.2.1)) ⟨q, p, (set_far (by decide)).trans ((set_far (by decide)).trans h5), (set_far (by decide)).trans ((set_far (by decide)).trans h6)⟩ (fun a a1 a2 => (set_far (by omega)).trans (set_far (by omega)))
        · exact hR _ 3 0 cw cl tb 0 rs g0 (get_set ((set_far (by decide)).trans m1)) ((set_far (by decide)).trans ((set_far (by decide)).trans q8)) ((set_far (by decide)).trans ((set_far (by decide)).trans q9)) (fun a a1 a2 => (set_far (by omega)).trans (set_far (by omega)))
        · exact fun a ha => (set_far (by omega)).trans (set_far (by omega))
        · exact (set_far (by decide)).trans ((set_far (by decide)).trans j20)
      | true =>
        obtain ⟨q, p, h5, h6⟩ := j8.2.2.2.2.2.1
        obtain ⟨wq, h10, hwq⟩ := j8.2.2.2.2.2.2.1
        obtain ⟨w1, w2, w3⟩ := j16 t ht
        have hks : ∀ e ∈ wss t, 1 ≤ e.1.length := fun e he => by
          have h9 := (w2 (pfx e) (List.mem_map.mpr ⟨e, he, rfl⟩)).1
          rcases h9 with ⟨k9, a1, a2, -⟩ | ⟨f9, a1, -⟩ | ⟨f9, i9, a1, -⟩
          · have : e.1 = k9 := (List.cons.inj a1).2
            rw [this]
            exact a2
          · exact absurd (List.cons.inj a1).1 (by decide)
          · exact absurd (List.cons.inj a1).1 (by decide)
        have h32 := jE.2.2.2.2.1 t ht
        by_cases hfit : (dropK (wss t) (sl tb 0 l)).length + 1 ≤ 32 ∧ eOff (dropK (wss t) (sl tb 0 l)) (dropK (wss t) (sl tb 0 l)).length + l + (none : Option Nat).getD 0 ≤ 4000
        · refine step_delete_ok (b := 11 + 6 * t) hL h j8.1 j8.2.1 m1 e1 ht hl1 hl2 hs hop h10 (hwq t ht) j8.2.2.1 h5 h6 (j8.2.2.2.2.2.2.2.1 t ht).1 (by omega) (by omega) h32.1 h32.2 hks qR q5 q8 (fun j _ => rfl) j20 hfit (fun H' hh => kq.go0 (Or.inl ?_))
          obtain ⟨y1, y2, y3, y4, y5, y6, y7, y8⟩ := hh
          exact hJ.put hk ht (by rw [sl_length]; omega) (by rw [sl_length]; omega) (fun x hx => by cases hx) hfit.1 (by show eOff _ _ + ((sl tb 0 l).length + 0) ≤ 4000; rw [sl_length]; exact hfit.2) qV y1 y2 y3 y4 y5 y6 y7 y8
        · refine step_delete_full (b := 11 + 6 * t) hL h j8.1 j8.2.1 m1 e1 ht hl1 hl2 hs hop h10 (hwq t ht) j8.2.2.1 h5 h6 (j8.2.2.2.2.2.2.2.1 t ht).1 (by omega) (by omega) h32.1 h32.2 hks qR q5 q8 (fun j _ => rfl) hfit (kq.go1 (Or.inl (hJ.row (cw' := cw) (cl' := cl) (cp' := cp) (cb' := cb) (fa' := 4) (tb' := tb) (l' := 0) hk ?_ ?_ jE.1 jE.2.1 (Nat.zero_le _) (Nat.zero_le _) j6 j7 ?_ ⟨e, ?_⟩)))
          · exact j8.small ((set_far (by decide)).trans ((set_far (by decide)).trans ((set_far (by decide)).trans ((set_far (by decide)).trans j8.1)))) ((set_far (by decide)).trans ((set_far (by decide)).trans ((set_far (by decide)).trans (get_set j8.2.1)))) ((set_far (by decide)).trans ((set_far (by decide)).trans ((set_far (by decide)).trans ((set_far (by decide)).trans j8.2.2.1)))) ((set_far (by decide)).trans ((set_far (by decide)).trans ((set_far (by decide)).trans ((set_far (by decide)).trans j8.2.2.2.1)))) ((set_far (by decide)).trans ((set_far (by decide)).trans ((set_far (by decide)).trans ((set_far (by decide)).trans j8.2.2.2.2.1)))) ⟨_, _, (set_far (by decide)).trans (get_set ((set_far (by decide)).trans ((set_far (by decide)).trans h5))), (set_far (by decide)).trans ((set_far (by decide)).trans (get_set ((set_far (by decide)).trans h6)))⟩ (fun a a1 a2 => (set_far (by omega)).trans ((set_far (by omega)).trans ((set_far (by omega)).trans (set_far (by omega)))))
          · exact hR _ 4 0 cw cl tb 0 rs g0 (get_set ((set_far (by decide)).trans ((set_far (by decide)).trans ((set_far (by decide)).trans m1)))) ((set_far (by decide)).trans ((set_far (by decide)).trans ((set_far (by decide)).trans ((set_far (by decide)).trans q8)))) ((set_far (by decide)).trans ((set_far (by decide)).trans ((set_far (by decide)).trans ((set_far (by decide)).trans q9)))) (fun a a1 a2 => (set_far (by omega)).trans ((set_far (by omega)).trans ((set_far (by omega)).trans (set_far (by omega)))))
          · exact fun a ha => (set_far (by omega)).trans ((set_far (by omega)).trans ((set_far (by omega)).trans (set_far (by omega))))
          · exact (set_far (by decide)).trans ((set_far (by decide)).trans ((set_far (by decide)).trans ((set_far (by decide)).trans j20)))
    · exact step_delete_bad hL h j8.1 j8.2.1 m1 hl hb (kq.go1 (Or.inl (hF 1)))
  · obtain ⟨d1, d2, d3, d4, d5, d6, d7, d8, d9, d10, d11, d12, d13, d14, d15, d16, d17, jE, e, d19⟩ := id hJ
    obtain ⟨us, ba, bo, m1, hF, hG, qV, hR⟩ := hJ.fld hk
    obtain ⟨-, -, -, -, -, q5, q6, qR, qT, q8, q9, -⟩ := d9.cells
    have hl := d10.1
    by_cases hb : ((∃ t, xs (i + 1) = nI t ∧ t < 8) ∧ 1 ≤ l ∧ l ≤ 40)
    · obtain ⟨⟨t, e1, ht⟩, hl1, hl2⟩ := hb
      exact step_delete_down hL h d7.1 d7.2.1 m1 e1 ht hl1 hl2 (kq.go1 (Or.inr (hF 2)))
    · exact step_delete_bad hL h d7.1 d7.2.1 m1 hl hb (kq.go1 (Or.inr (hF 1)))
end S68
