/-! ===== a first call: the law around the two answers; written by wip/gen/p1gen.py ===== -/
theorem gr_10 {xs : Nat → Int32} {kc ks : Nat} {hp : aH} {f0 f1 : List Value} {e : Nat → Int64} {v : Int32}  (h0 : hp[0]? = some (kO 11 f0)) (h195 : hp[195]? = some (kO 12 f1)) (h224 : hp[224]? = some (kJ 1 e))
    (hc : ∃ H', RC (7, xs) 1998 mr_166 [.ref 1] hp (.inl (some (.int v))) H' 0 0 ∧ H'.length = hp.length ∧ ∀ a, 195 ≤ a → H'[a]? = hp[a]?)
    (hm : ∀ H2 : aH, H2.length = hp.length → (∀ a, 195 ≤ a → a < 224 → H2[a]? = hp[a]?) → ∃ H3, RC (7, xs) 1999 mr_275 [.ref 196] H2 (.inl (some (.int v))) H3 0 0 ∧ (∃ fs, H3[195]? = some (kO 12 fs) ∧ fs[0]? = some (.int 0)) ∧ H3[224]? = H2[224]?) : GR xs 824 hp kc ks := by
  obtain ⟨H', c1, c2, c3⟩ := hc
  have g224 : H'[224]? = some (kJ 1 e) := (c3 224 (by decide)).trans h224
  obtain ⟨H3, m1, ⟨fs, m2, m3⟩, m4⟩ := hm (H'.set 224 (kJ 1 (va_up e 0 v.toInt64))) (by rw [List.length_set]; exact c2) (fun a ha hb => (set_far (by omega)).trans (c3 a ha))
  refine GR.mk (H' := H3) (k := kc) (n := ks) ?_ (by omega) (by omega)
  refine law_op10 (L := 7) (i := 1) (c1 := 0) (s1 := 0) (c2 := 0) (s2 := 0) (kk := 0) (v := v) (by decide) (by decide) (rc_w10 h0 c1 g224) ((set_far (by decide)).trans ((c3 195 (by decide)).trans h195)) m1 ?_
  refine tail_10 (i := 1) m2 m3 (m4.trans (get_set g224)) rfl ?_
  exact head_exit (i := 7) (by decide) (by decide) (by decide)
theorem gr_11 {xs : Nat → Int32} {kc ks : Nat} {hp : aH} {f0 f1 : List Value} {e : Nat → Int64} {v : Int32} {x : Int32} (hx : bz (xs (1 + 1)) = x) (h0 : hp[0]? = some (kO 11 f0)) (h195 : hp[195]? = some (kO 12 f1)) (h224 : hp[224]? = some (kJ 1 e))
    (hc : ∃ H', RC (7, xs) 1998 mr_169 [.ref 1, .int x] hp (.inl (some (.int v))) H' 0 0 ∧ H'.length = hp.length ∧ ∀ a, 195 ≤ a → H'[a]? = hp[a]?)
    (hm : ∀ H2 : aH, H2.length = hp.length → (∀ a, 195 ≤ a → a < 224 → H2[a]? = hp[a]?) → ∃ H3, RC (7, xs) 1999 mr_279 [.ref 196, .int x] H2 (.inl (some (.int v))) H3 0 0 ∧ (∃ fs, H3[195]? = some (kO 12 fs) ∧ fs[0]? = some (.int 0)) ∧ H3[224]? = H2[224]?) : GR xs 868 hp kc ks := by
  subst hx
  obtain ⟨H', c1, c2, c3⟩ := hc
  have g224 : H'[224]? = some (kJ 1 e) := (c3 224 (by decide)).trans h224
  obtain ⟨H3, m1, ⟨fs, m2, m3⟩, m4⟩ := hm (H'.set 224 (kJ 1 (va_up e 0 v.toInt64))) (by rw [List.length_set]; exact c2) (fun a ha hb => (set_far (by omega)).trans (c3 a ha))
  refine GR.mk (H' := H3) (k := kc) (n := ks) ?_ (by omega) (by omega)
  refine law_op11 (L := 7) (i := 1) (c1 := 0) (s1 := 0) (c2 := 0) (s2 := 0) (kk := 0) (v := v) (by decide) (by decide) (rc_w11 h0 c1 g224) ((set_far (by decide)).trans ((c3 195 (by decide)).trans h195)) m1 ?_
  refine tail_11 (i := 1) m2 m3 (m4.trans (get_set g224)) rfl ?_
  exact head_exit (i := 7) (by decide) (by decide) (by decide)
theorem gr_12 {xs : Nat → Int32} {kc ks : Nat} {hp : aH} {f0 f1 : List Value} {e : Nat → Int64} {v : Int32}  (h0 : hp[0]? = some (kO 11 f0)) (h195 : hp[195]? = some (kO 12 f1)) (h224 : hp[224]? = some (kJ 1 e))
    (hc : ∃ H', RC (7, xs) 1998 mr_173 [.ref 1] hp (.inl (some (.int v))) H' 0 0 ∧ H'.length = hp.length ∧ ∀ a, 195 ≤ a → H'[a]? = hp[a]?)
    (hm : ∀ H2 : aH, H2.length = hp.length → (∀ a, 195 ≤ a → a < 224 → H2[a]? = hp[a]?) → ∃ H3, RC (7, xs) 1999 mr_280 [.ref 196] H2 (.inl (some (.int v))) H3 0 0 ∧ (∃ fs, H3[195]? = some (kO 12 fs) ∧ fs[0]? = some (.int 0)) ∧ H3[224]? = H2[224]?) : GR xs 940 hp kc ks := by
  obtain ⟨H', c1, c2, c3⟩ := hc
  have g224 : H'[224]? = some (kJ 1 e) := (c3 224 (by decide)).trans h224
  obtain ⟨H3, m1, ⟨fs, m2, m3⟩, m4⟩ := hm (H'.set 224 (kJ 1 (va_up e 0 v.toInt64))) (by rw [List.length_set]; exact c2) (fun a ha hb => (set_far (by omega)).trans (c3 a ha))
  refine GR.mk (H' := H3) (k := kc) (n := ks) ?_ (by omega) (by omega)
  refine law_op12 (L := 7) (i := 1) (c1 := 0) (s1 := 0) (c2 := 0) (s2 := 0) (kk := 0) (v := v) (by decide) (by decide) (rc_w12 h0 c1 g224) ((set_far (by decide)).trans ((c3 195 (by decide)).trans h195)) m1 ?_
  refine tail_12 (i := 1) m2 m3 (m4.trans (get_set g224)) rfl ?_
  exact head_exit (i := 7) (by decide) (by decide) (by decide)
theorem gr_14 {xs : Nat → Int32} {kc ks : Nat} {hp : aH} {f0 f1 : List Value} {e : Nat → Int64} {v : Int32}  (h0 : hp[0]? = some (kO 11 f0)) (h195 : hp[195]? = some (kO 12 f1)) (h224 : hp[224]? = some (kJ 1 e))
    (hc : ∃ H', RC (7, xs) 1998 mr_178 [.ref 1] hp (.inl (some (.int v))) H' 0 0 ∧ H'.length = hp.length ∧ ∀ a, 195 ≤ a → H'[a]? = hp[a]?)
    (hm : ∀ H2 : aH, H2.length = hp.length → (∀ a, 195 ≤ a → a < 224 → H2[a]? = hp[a]?) → ∃ H3, RC (7, xs) 1999 mr_268 [.ref 196] H2 (.inl (some (.int v))) H3 0 0 ∧ (∃ fs, H3[195]? = some (kO 12 fs) ∧ fs[0]? = some (.int 0)) ∧ H3[224]? = H2[224]?) : GR xs 1080 hp kc ks := by
  obtain ⟨H', c1, c2, c3⟩ := hc
  have g224 : H'[224]? = some (kJ 1 e) := (c3 224 (by decide)).trans h224
  obtain ⟨H3, m1, ⟨fs, m2, m3⟩, m4⟩ := hm (H'.set 224 (kJ 1 (va_up e 0 v.toInt64))) (by rw [List.length_set]; exact c2) (fun a ha hb => (set_far (by omega)).trans (c3 a ha))
  refine GR.mk (H' := H3) (k := kc) (n := ks) ?_ (by omega) (by omega)
  refine law_op14 (L := 7) (i := 1) (c1 := 0) (s1 := 0) (c2 := 0) (s2 := 0) (kk := 0) (v := v) (by decide) (by decide) (rc_w14 h0 c1 g224) ((set_far (by decide)).trans ((c3 195 (by decide)).trans h195)) m1 ?_
  refine tail_14 (i := 1) m2 m3 (m4.trans (get_set g224)) rfl ?_
  exact head_exit (i := 7) (by decide) (by decide) (by decide)
theorem gr_16 {xs : Nat → Int32} {kc ks : Nat} {hp : aH} {f0 f1 : List Value} {e : Nat → Int64} {v : Int32} {x : Int32} (hx : xs (1 + 1) = x) (h0 : hp[0]? = some (kO 11 f0)) (h195 : hp[195]? = some (kO 12 f1)) (h224 : hp[224]? = some (kJ 1 e))
    (hc : ∃ H', RC (7, xs) 1998 mr_196 [.ref 1, .int x] hp (.inl (some (.int v))) H' 0 0 ∧ H'.length = hp.length ∧ ∀ a, 195 ≤ a → H'[a]? = hp[a]?)
    (hm : ∀ H2 : aH, H2.length = hp.length → (∀ a, 195 ≤ a → a < 224 → H2[a]? = hp[a]?) → ∃ H3, RC (7, xs) 1999 mr_300 [.ref 196, .int x] H2 (.inl (some (.int v))) H3 0 0 ∧ (∃ fs, H3[195]? = some (kO 12 fs) ∧ fs[0]? = some (.int 0)) ∧ H3[224]? = H2[224]?) : GR xs 1179 hp kc ks := by
  subst hx
  obtain ⟨H', c1, c2, c3⟩ := hc
  have g224 : H'[224]? = some (kJ 1 e) := (c3 224 (by decide)).trans h224
  obtain ⟨H3, m1, ⟨fs, m2, m3⟩, m4⟩ := hm (H'.set 224 (kJ 1 (va_up e 0 v.toInt64))) (by rw [List.length_set]; exact c2) (fun a ha hb => (set_far (by omega)).trans (c3 a ha))
  refine GR.mk (H' := H3) (k := kc) (n := ks) ?_ (by omega) (by omega)
  refine law_op16 (L := 7) (i := 1) (c1 := 0) (s1 := 0) (c2 := 0) (s2 := 0) (kk := 0) (v := v) (by decide) (by decide) (rc_w16 h0 c1 g224) ((set_far (by decide)).trans ((c3 195 (by decide)).trans h195)) m1 ?_
  refine tail_16 (i := 1) m2 m3 (m4.trans (get_set g224)) rfl ?_
  exact head_exit (i := 7) (by decide) (by decide) (by decide)
theorem gr_18 {xs : Nat → Int32} {kc ks : Nat} {hp : aH} {f0 f1 : List Value} {e : Nat → Int64} {v : Int32}  (h0 : hp[0]? = some (kO 11 f0)) (h195 : hp[195]? = some (kO 12 f1)) (h224 : hp[224]? = some (kJ 1 e))
    (hc : ∃ H', RC (7, xs) 1998 mr_202 [.ref 1] hp (.inl (some (.int v))) H' 0 0 ∧ H'.length = hp.length ∧ ∀ a, 195 ≤ a → H'[a]? = hp[a]?)
    (hm : ∀ H2 : aH, H2.length = hp.length → (∀ a, 195 ≤ a → a < 224 → H2[a]? = hp[a]?) → ∃ H3, RC (7, xs) 1999 mr_303 [.ref 196] H2 (.inl (some (.int v))) H3 0 0 ∧ (∃ fs, H3[195]? = some (kO 12 fs) ∧ fs[0]? = some (.int 0)) ∧ H3[224]? = H2[224]?) : GR xs 1291 hp kc ks := by
  obtain ⟨H', c1, c2, c3⟩ := hc
  have g224 : H'[224]? = some (kJ 1 e) := (c3 224 (by decide)).trans h224
  obtain ⟨H3, m1, ⟨fs, m2, m3⟩, m4⟩ := hm (H'.set 224 (kJ 1 (va_up e 0 v.toInt64))) (by rw [List.length_set]; exact c2) (fun a ha hb => (set_far (by omega)).trans (c3 a ha))
  refine GR.mk (H' := H3) (k := kc) (n := ks) ?_ (by omega) (by omega)
  refine law_op18 (L := 7) (i := 1) (c1 := 0) (s1 := 0) (c2 := 0) (s2 := 0) (kk := 0) (v := v) (by decide) (by decide) (rc_w18 h0 c1 g224) ((set_far (by decide)).trans ((c3 195 (by decide)).trans h195)) m1 ?_
  refine tail_18 (i := 1) m2 m3 (m4.trans (get_set g224)) rfl ?_
  exact head_exit (i := 7) (by decide) (by decide) (by decide)
theorem gr_27 {xs : Nat → Int32} {kc ks : Nat} {hp : aH} {f0 f1 : List Value} {e : Nat → Int64} {v : Int32} {x y : Int32} (hx : xs (1 + 1) = x) (hy : xs (1 + 2) = y) (h0 : hp[0]? = some (kO 11 f0)) (h195 : hp[195]? = some (kO 12 f1)) (h224 : hp[224]? = some (kJ 1 e))
    (hc : ∃ H', RC (7, xs) 1998 mr_257 [.ref 1, .int x, .int y] hp (.inl (some (.int v))) H' 0 0 ∧ H'.length = hp.length ∧ ∀ a, 195 ≤ a → H'[a]? = hp[a]?)
    (hm : ∀ H2 : aH, H2.length = hp.length → (∀ a, 195 ≤ a → a < 224 → H2[a]? = hp[a]?) → ∃ H3, RC (7, xs) 1999 mr_330 [.ref 196, .int x, .int y] H2 (.inl (some (.int v))) H3 0 0 ∧ (∃ fs, H3[195]? = some (kO 12 fs) ∧ fs[0]? = some (.int 0)) ∧ H3[224]? = H2[224]?) : GR xs 1883 hp kc ks := by
  subst hx hy
  obtain ⟨H', c1, c2, c3⟩ := hc
  have g224 : H'[224]? = some (kJ 1 e) := (c3 224 (by decide)).trans h224
  obtain ⟨H3, m1, ⟨fs, m2, m3⟩, m4⟩ := hm (H'.set 224 (kJ 1 (va_up e 0 v.toInt64))) (by rw [List.length_set]; exact c2) (fun a ha hb => (set_far (by omega)).trans (c3 a ha))
  refine GR.mk (H' := H3) (k := kc) (n := ks) ?_ (by omega) (by omega)
  refine law_op27 (L := 7) (i := 1) (c1 := 0) (s1 := 0) (c2 := 0) (s2 := 0) (kk := 0) (v := v) (by decide) (by decide) (rc_w27 h0 c1 g224) ((set_far (by decide)).trans ((c3 195 (by decide)).trans h195)) m1 ?_
  refine tail_27 (i := 1) m2 m3 (m4.trans (get_set g224)) rfl ?_
  exact head_exit (i := 7) (by decide) (by decide) (by decide)
theorem grX_16_0 {xs : Nat → Int32} {kc ks : Nat} {hp : aH} {f0 f1 : List Value} {x : Int32} (hx : xs (1 + 1) = x) (h0 : hp[0]? = some (kO 11 f0)) (h195 : hp[195]? = some (kO 12 f1)) (hl : f1.length = 40) (hc : RC (7, xs) 1998 mr_196 [.ref 1, .int x] hp (.inr 0) hp 1 6) (hm : RC (7, xs) 1999 mr_300 [.ref 196, .int x] hp (.inl (some (.int 0))) (hp.set 195 (kO 12 (f1.set 0 (.int 1)))) 0 0) : GR xs 1179 hp kc ks := by
  subst hx
  refine GR.mk (H' := hp.set 195 (kO 12 (f1.set 0 (.int 1)))) (k := kc + 1) (n := ks + 6) ?_ (by omega) (by omega)
  refine law_op16 (L := 7) (i := 1) (c1 := 1) (s1 := 6) (c2 := 0) (s2 := 0) (kk := 1) (v := 0) (by decide) (by decide) (rc_w16X0 h0 hc) h195 hm ?_
  refine tailX_16 (i := 1) (c := 1) (get_set h195) (fs_eq (lt_len hl (by decide))) (by decide) ?_
  exact head_exit (i := 7) (by decide) (by decide) (by decide)
theorem grX_26_0 {xs : Nat → Int32} {kc ks : Nat} {hp : aH} {f0 f1 : List Value} {x y : Int32} (hx : xs (1 + 1) = x) (hy : xs (1 + 2) = y) (h0 : hp[0]? = some (kO 11 f0)) (h195 : hp[195]? = some (kO 12 f1)) (hl : f1.length = 40) (hc : RC (7, xs) 1998 mr_253 [.ref 1, .int x, .int y] hp (.inr 0) hp 1 6) (hm : RC (7, xs) 1999 mr_329 [.ref 196, .int x, .int y] hp (.inl (some (.int 0))) (hp.set 195 (kO 12 (f1.set 0 (.int 1)))) 0 0) : GR xs 1815 hp kc ks := by
  subst hx hy
  refine GR.mk (H' := hp.set 195 (kO 12 (f1.set 0 (.int 1)))) (k := kc + 1) (n := ks + 6) ?_ (by omega) (by omega)
  refine law_op26 (L := 7) (i := 1) (c1 := 1) (s1 := 6) (c2 := 0) (s2 := 0) (kk := 1) (v := 0) (by decide) (by decide) (rc_w26X0 h0 hc) h195 hm ?_
  refine tailX_26 (i := 1) (c := 1) (get_set h195) (fs_eq (lt_len hl (by decide))) (by decide) ?_
  exact head_exit (i := 7) (by decide) (by decide) (by decide)
theorem grX_26_3 {xs : Nat → Int32} {kc ks : Nat} {hp : aH} {f0 f1 : List Value} {x y : Int32} (hx : xs (1 + 1) = x) (hy : xs (1 + 2) = y) (h0 : hp[0]? = some (kO 11 f0)) (h195 : hp[195]? = some (kO 12 f1)) (hl : f1.length = 40) (hc : RC (7, xs) 1998 mr_253 [.ref 1, .int x, .int y] hp (.inr 3) hp 1 6) (hm : RC (7, xs) 1999 mr_329 [.ref 196, .int x, .int y] hp (.inl (some (.int 0))) (hp.set 195 (kO 12 (f1.set 0 (.int 3)))) 0 0) : GR xs 1815 hp kc ks := by
  subst hx hy
  refine GR.mk (H' := hp.set 195 (kO 12 (f1.set 0 (.int 3)))) (k := kc + 1) (n := ks + 6) ?_ (by omega) (by omega)
  refine law_op26 (L := 7) (i := 1) (c1 := 1) (s1 := 6) (c2 := 0) (s2 := 0) (kk := 3) (v := 0) (by decide) (by decide) (rc_w26X3 h0 hc) h195 hm ?_
  refine tailX_26 (i := 1) (c := 3) (get_set h195) (fs_eq (lt_len hl (by decide))) (by decide) ?_
  exact head_exit (i := 7) (by decide) (by decide) (by decide)
theorem grX_27_0 {xs : Nat → Int32} {kc ks : Nat} {hp : aH} {f0 f1 : List Value} {x y : Int32} (hx : xs (1 + 1) = x) (hy : xs (1 + 2) = y) (h0 : hp[0]? = some (kO 11 f0)) (h195 : hp[195]? = some (kO 12 f1)) (hl : f1.length = 40) (hc : RC (7, xs) 1998 mr_257 [.ref 1, .int x, .int y] hp (.inr 0) hp 1 6) (hm : RC (7, xs) 1999 mr_330 [.ref 196, .int x, .int y] hp (.inl (some (.int 0))) (hp.set 195 (kO 12 (f1.set 0 (.int 1)))) 0 0) : GR xs 1883 hp kc ks := by
  subst hx hy
  refine GR.mk (H' := hp.set 195 (kO 12 (f1.set 0 (.int 1)))) (k := kc + 1) (n := ks + 6) ?_ (by omega) (by omega)
  refine law_op27 (L := 7) (i := 1) (c1 := 1) (s1 := 6) (c2 := 0) (s2 := 0) (kk := 1) (v := 0) (by decide) (by decide) (rc_w27X0 h0 hc) h195 hm ?_
  refine tailX_27 (i := 1) (c := 1) (get_set h195) (fs_eq (lt_len hl (by decide))) (by decide) ?_
  exact head_exit (i := 7) (by decide) (by decide) (by decide)
theorem grX_27_3 {xs : Nat → Int32} {kc ks : Nat} {hp : aH} {f0 f1 : List Value} {x y : Int32} (hx : xs (1 + 1) = x) (hy : xs (1 + 2) = y) (h0 : hp[0]? = some (kO 11 f0)) (h195 : hp[195]? = some (kO 12 f1)) (hl : f1.length = 40) (hc : RC (7, xs) 1998 mr_257 [.ref 1, .int x, .int y] hp (.inr 3) hp 1 6) (hm : RC (7, xs) 1999 mr_330 [.ref 196, .int x, .int y] hp (.inl (some (.int 0))) (hp.set 195 (kO 12 (f1.set 0 (.int 3)))) 0 0) : GR xs 1883 hp kc ks := by
  subst hx hy
  refine GR.mk (H' := hp.set 195 (kO 12 (f1.set 0 (.int 3)))) (k := kc + 1) (n := ks + 6) ?_ (by omega) (by omega)
  refine law_op27 (L := 7) (i := 1) (c1 := 1) (s1 := 6) (c2 := 0) (s2 := 0) (kk := 3) (v := 0) (by decide) (by decide) (rc_w27X3 h0 hc) h195 hm ?_
  refine tailX_27 (i := 1) (c := 3) (get_set h195) (fs_eq (lt_len hl (by decide))) (by decide) ?_
  exact head_exit (i := 7) (by decide) (by decide) (by decide)
