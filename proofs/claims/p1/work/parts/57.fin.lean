/-! ===== p1: a first call on a fresh object; written by wip/gen/p1gen.py ===== -/
set_option maxRecDepth 100000 in
set_option maxHeartbeats 4000000 in
theorem first_dflt {xs : Nat → Int32} {kc ks : Nat} {H : aH} : GR xs 1951 H kc ks := by
  refine GR.mk (H' := H) (k := kc) (n := ks) ?_ (by omega) (by omega)
  refine seg_RP (f := 0) (d := 1999) 5 (pc' := 37) (lv' := [(4, .int 7), (3, .ref 225), (2, .ref 196), (1, .ref 1), (0, .ref 0)]) (st' := [.int 7, .int 7]) (H' := H) (kc' := kc) (ks' := ks) rfl ?_
  refine seg_RP (f := 0) (d := 1999) 4 (pc' := 1958) (lv' := [(4, .int 7), (3, .ref 225), (2, .ref 196), (1, .ref 1), (0, .ref 0)]) (st' := [.int 1]) (H' := H) (kc' := kc) (ks' := ks) rfl ?_
  exact RP.done (c := 0) (s := 0) rfl rfl rfl rfl
set_option maxRecDepth 100000 in
set_option maxHeartbeats 4000000 in
theorem first_any {xs : Nat → Int32} {kc ks : Nat} {H : aH} (g0 : GR xs 176 H kc ks) (g1 : GR xs 280 H kc ks) (g2 : GR xs 348 H kc ks) (g3 : GR xs 404 H kc ks) (g4 : GR xs 448 H kc ks) (g5 : GR xs 516 H kc ks) (g6 : GR xs 572 H kc ks) (g7 : GR xs 628 H kc ks) (g8 : GR xs 712 H kc ks) (g9 : GR xs 768 H kc ks) (g10 : GR xs 824 H kc ks) (g11 : GR xs 868 H kc ks) (g12 : GR xs 940 H kc ks) (g13 : GR xs 984 H kc ks) (g14 : GR xs 1080 H kc ks) (g15 : GR xs 1124 H kc ks) (g16 : GR xs 1179 H kc ks) (g17 : GR xs 1235 H kc ks) (g18 : GR xs 1291 H kc ks) (g19 : GR xs 1335 H kc ks) (g20 : GR xs 1419 H kc ks) (g21 : GR xs 1475 H kc ks) (g22 : GR xs 1555 H kc ks) (g23 : GR xs 1599 H kc ks) (g24 : GR xs 1667 H kc ks) (g25 : GR xs 1747 H kc ks) (g26 : GR xs 1815 H kc ks) (g27 : GR xs 1883 H kc ks) : GR xs 33 H kc ks := by
  have key : ∀ t, GR xs t H kc ks → (∀ r, RP (7, xs) 2000 mr_law t [(4, .int 1), (3, .ref 225), (2, .ref 196), (1, .ref 1), (0, .ref 0)] [] H kc ks r → RP (7, xs) 2000 mr_law 50 [(4, .int 1), (3, .ref 225), (2, .ref 196), (1, .ref 1), (0, .ref 0)] [.int (xs 1 &&& 31)] H kc ks r) → GR xs 33 H kc ks := by
    intro t ⟨H', k, n, h1, h2, h3⟩ h
    exact ⟨H', k, n, head_go (L := 7) (i := 1) (by decide) (by decide) (h _ h1), h2, h3⟩
  obtain ⟨k, hk, e⟩ := and31 (xs 1)
  match k, hk with
  | 0, _ => exact key 176 g0 (fun r h => go_op0 (L := 7) (i := 1) e h)
  | 1, _ => exact key 280 g1 (fun r h => go_op1 (L := 7) (i := 1) e h)
  | 2, _ => exact key 348 g2 (fun r h => go_op2 (L := 7) (i := 1) e h)
  | 3, _ => exact key 404 g3 (fun r h => go_op3 (L := 7) (i := 1) e h)
  | 4, _ => exact key 448 g4 (fun r h => go_op4 (L := 7) (i := 1) e h)
  | 5, _ => exact key 516 g5 (fun r h => go_op5 (L := 7) (i := 1) e h)
  | 6, _ => exact key 572 g6 (fun r h => go_op6 (L := 7) (i := 1) e h)
  | 7, _ => exact key 628 g7 (fun r h => go_op7 (L := 7) (i := 1) e h)
  | 8, _ => exact key 712 g8 (fun r h => go_op8 (L := 7) (i := 1) e h)
  | 9, _ => exact key 768 g9 (fun r h => go_op9 (L := 7) (i := 1) e h)
  | 10, _ => exact key 824 g10 (fun r h => go_op10 (L := 7) (i := 1) e h)
  | 11, _ => exact key 868 g11 (fun r h => go_op11 (L := 7) (i := 1) e h)
  | 12, _ => exact key 940 g12 (fun r h => go_op12 (L := 7) (i := 1) e h)
  | 13, _ => exact key 984 g13 (fun r h => go_op13 (L := 7) (i := 1) e h)
  | 14, _ => exact key 1080 g14 (fun r h => go_op14 (L := 7) (i := 1) e h)
  | 15, _ => exact key 1124 g15 (fun r h => go_op15 (L := 7) (i := 1) e h)
  | 16, _ => exact key 1179 g16 (fun r h => go_op16 (L := 7) (i := 1) e h)
  | 17, _ => exact key 1235 g17 (fun r h => go_op17 (L := 7) (i := 1) e h)
  | 18, _ => exact key 1291 g18 (fun r h => go_op18 (L := 7) (i := 1) e h)
  | 19, _ => exact key 1335 g19 (fun r h => go_op19 (L := 7) (i := 1) e h)
  | 20, _ => exact key 1419 g20 (fun r h => go_op20 (L := 7) (i := 1) e h)
  | 21, _ => exact key 1475 g21 (fun r h => go_op21 (L := 7) (i := 1) e h)
  | 22, _ => exact key 1555 g22 (fun r h => go_op22 (L := 7) (i := 1) e h)
  | 23, _ => exact key 1599 g23 (fun r h => go_op23 (L := 7) (i := 1) e h)
  | 24, _ => exact key 1667 g24 (fun r h => go_op24 (L := 7) (i := 1) e h)
  | 25, _ => exact key 1747 g25 (fun r h => go_op25 (L := 7) (i := 1) e h)
  | 26, _ => exact key 1815 g26 (fun r h => go_op26 (L := 7) (i := 1) e h)
  | 27, _ => exact key 1883 g27 (fun r h => go_op27 (L := 7) (i := 1) e h)
  | 28, _ => exact key 1951 first_dflt (fun r h => go_op28 (L := 7) (i := 1) e h)
  | 29, _ => exact key 1951 first_dflt (fun r h => go_op29 (L := 7) (i := 1) e h)
  | 30, _ => exact key 1951 first_dflt (fun r h => go_op30 (L := 7) (i := 1) e h)
  | 31, _ => exact key 1951 first_dflt (fun r h => go_op31 (L := 7) (i := 1) e h)
  | k + 32, h => exact absurd h (by omega)
theorem gr_all64 {xs : Nat → Int32} {kc ks : Nat} : GR xs 33 hp64i kc ks := first_any g64_0 g64_1 g64_2 g64_3 g64_4 g64_5 g64_6 g64_7 g64_8 g64_9 g64_10 g64_11 g64_12 g64_13 g64_14 g64_15 g64_16 g64_17 g64_18 g64_19 g64_20 g64_21 g64_22 g64_23 g64_24 g64_25 g64_26 g64_27
theorem gr_all96 {xs : Nat → Int32} {kc ks : Nat} : GR xs 33 hp96i kc ks := first_any g96_0 g96_1 g96_2 g96_3 g96_4 g96_5 g96_6 g96_7 g96_8 g96_9 g96_10 g96_11 g96_12 g96_13 g96_14 g96_15 g96_16 g96_17 g96_18 g96_19 g96_20 g96_21 g96_22 g96_23 g96_24 g96_25 g96_26 g96_27
theorem gr_all128 {xs : Nat → Int32} {kc ks : Nat} : GR xs 33 hp128i kc ks := first_any g128_0 g128_1 g128_2 g128_3 g128_4 g128_5 g128_6 g128_7 g128_8 g128_9 g128_10 g128_11 g128_12 g128_13 g128_14 g128_15 g128_16 g128_17 g128_18 g128_19 g128_20 g128_21 g128_22 g128_23 g128_24 g128_25 g128_26 g128_27
theorem good {L : Nat} {xs : Nat → Int32} (hL : L ≤ 7) : goodRun L xs := by
  have fin : ∀ (hp : aH) (kc ks : Nat), kc ≤ 225 → ks ≤ 638584 → GR xs 33 hp kc ks → (∀ r, RP (L, xs) 2000 mr_law 33 [(4, .int 1), (3, .ref 225), (2, .ref 196), (1, .ref 1), (0, .ref 0)] [] hp kc ks r → RP (L, xs) 2000 mr_law 0 [(0, .ref 0)] [] [] 0 0 r) → goodRun L xs := by
    intro hp kc ks hk hs hg ht
    by_cases h7 : L < 7
    · obtain ⟨f, hf⟩ := ht _ (head_exit (L := L) (i := 1) (by omega) (by decide) (by omega))
      exact ⟨f, _, _, _, hf, by omega, by omega⟩
    · have e : L = 7 := by omega
      subst e
      obtain ⟨H', k, n, h1, h2, h3⟩ := hg
      obtain ⟨f, hf⟩ := ht _ h1
      exact ⟨f, _, _, _, hf, by omega, by omega⟩
  have hb : (L, xs).1 < 2 ^ 31 := show L < 2 ^ 31 by omega
  by_cases h0 : cell0 (L, xs) = 0
  · exact fin hp64i _ _ (by decide) (by decide) gr_all64 (fun r k => law_start64 hb h0 k)
  · by_cases h1 : cell0 (L, xs) = 1
    · exact fin hp96i _ _ (by decide) (by decide) gr_all96 (fun r k => law_start96 hb h1 k)
    · exact fin hp128i _ _ (by decide) (by decide) gr_all128 (fun r k => law_start128 hb h0 h1 k)
theorem i_vc : Claimed_1_1 ∧ Claimed_1_2 := claim_of (fun _ _ h => good h)
