set_option maxRecDepth 100000 in
set_option maxHeartbeats 4000000 in
theorem first_2 {xs : Nat → Int32} {kc ks : Nat} {v0 : Int32} {c1 : aC} {c2 : aC} {v3 : Int32} {c4 : aC} {c5 : aC} {c6 : aC} {c7 : aC} {c8 : aC} {c9 : aC} {c10 : aC} {c11 : aC} {v12 : Int32} {c13 : aC} {c14 : aC} {c15 : aC} {c16 : aC} {v17 : Int32} : GR xs 348 (hpV v0 c1 c2 v3 c4 c5 c6 c7 c8 c9 c10 c11 v12 c13 c14 c15 c16 v17) kc ks := by
  by_cases h0 : (xs 2) = 0
  ·
    apply GR.mk
    ·
      refine seg_RP (f := 3000) (d := 1999) 6 (pc' := 355) (lv' := [(4, .int 1), (3, .ref 225), (2, .ref 196), (1, .ref 1), (0, .ref 0)]) (st' := [.int (xs 2), .ref 1]) (H' := _) (kc' := kc) (ks' := ks) rfl ?_
      rw [h0]
      refine seg_RP (f := 3000) (d := 1999) 9 (pc' := 368) (lv' := [(5, .int 0), (4, .int 1), (3, .ref 225), (2, .ref 196), (1, .ref 1), (0, .ref 0)]) (st' := [.int (xs 2), .ref 196]) (H' := _) (kc' := kc) (ks' := ks) rfl ?_
      rw [h0]
      refine seg_RP (f := 3000) (d := 1999) 21 (pc' := 37) (lv' := [(4, .int 7), (6, .int 0), (5, .int 0), (3, .ref 225), (2, .ref 196), (1, .ref 1), (0, .ref 0)]) (st' := [.int 7, .int 7]) (H' := _) (kc' := kc) (ks' := ks) rfl ?_
      refine seg_RP (f := 3000) (d := 1999) 4 (pc' := 1958) (lv' := [(4, .int 7), (6, .int 0), (5, .int 0), (3, .ref 225), (2, .ref 196), (1, .ref 1), (0, .ref 0)]) (st' := [.int 1]) (H' := _) (kc' := kc) (ks' := ks) rfl ?_
      apply RP.done
      rfl; rfl; rfl; rfl
    · omega
    · omega
  ·
    by_cases h1 : (xs 2) < 0
    ·
      apply GR.mk
      ·
        refine seg_RP (f := 3000) (d := 1999) 7 (pc' := 356) (lv' := [(4, .int 1), (3, .ref 225), (2, .ref 196), (1, .ref 1), (0, .ref 0)]) (st' := [.ref 225, .int (xs 2), .ref 1]) (H' := _) (kc' := kc) (ks' := ks) rfl ?_
        apply RP.call
        rfl; rfl; rfl; rfl; rfl; rfl; rfl
        ·
          refine seg_RP (f := 3000) (d := 1998) 4 (pc' := 4) (lv' := [(0, .ref 1), (1, .int (xs 2)), (2, .ref 225)]) (st' := [.int (xs 2), .ref 1, .int 0, .ref 225]) (H' := _) (kc' := 0) (ks' := 0) rfl ?_
          apply RP.callX
          rfl; rfl; rfl; rfl; rfl; rfl; rfl
          ·
            refine seg_RP (f := 3000) (d := 1997) 6 (pc' := 10) (lv' := [(0, .ref 1), (1, .int (xs 2))]) (st' := [.int 0, .int 0, .int (xs 2), .ref 1]) (H' := _) (kc' := 0) (ks' := 0) rfl ?_
            apply RP.callP
            rfl; rfl; rfl; rfl; rfl; rfl; rfl
            ·
              refine seg_RP (f := 3000) (d := 1996) 2 (pc' := 2) (lv' := [(0, .ref 1), (1, .int (xs 2)), (2, .int 0), (3, .int 0)]) (st' := [.int 0, .int (xs 2)]) (H' := _) (kc' := 0) (ks' := 0) rfl ?_
              apply RP.brT
              rfl; rfl; rfl
              exact decide_eq_true (h1)
              apply RP.done
              rfl; rfl; rfl; rfl
            rfl
          rfl
          refine seg_RP (f := 3000) (d := 1998) 1 (pc' := 14) (lv' := [(0, .ref 1), (1, .int (xs 2)), (2, .ref 225)]) (st' := [.int 1]) (H' := _) (kc' := 1) (ks' := 6) rfl ?_
          apply RP.done
          rfl; rfl; rfl; rfl
        refine seg_RP (f := 3000) (d := 1999) 7 (pc' := 368) (lv' := [(5, .int 1), (4, .int 1), (3, .ref 225), (2, .ref 196), (1, .ref 1), (0, .ref 0)]) (st' := [.int (xs 2), .ref 196]) (H' := _) (kc' := kc + 1) (ks' := ks + 6) rfl ?_
        apply RP.call
        rfl; rfl; rfl; rfl; rfl; rfl; rfl
        ·
          refine seg_RP (f := 3000) (d := 1998) 4 (pc' := 6) (lv' := [(0, .ref 196), (1, .int (xs 2))]) (st' := [.int (xs 2)]) (H' := _) (kc' := 0) (ks' := 0) rfl ?_
          apply RP.brT
          rfl; rfl; rfl
          exact decide_eq_true (h1)
          refine seg_RP (f := 3000) (d := 1998) 3 (pc' := 22) (lv' := [(0, .ref 196), (1, .int (xs 2))]) (st' := [.int 0]) (H' := _) (kc' := 0) (ks' := 0) rfl ?_
          apply RP.done
          rfl; rfl; rfl; rfl
        refine seg_RP (f := 3000) (d := 1999) 13 (pc' := 37) (lv' := [(4, .int 7), (6, .int 0), (5, .int 1), (3, .ref 225), (2, .ref 196), (1, .ref 1), (0, .ref 0)]) (st' := [.int 7, .int 7]) (H' := _) (kc' := kc + 1) (ks' := ks + 6) rfl ?_
        refine seg_RP (f := 3000) (d := 1999) 4 (pc' := 1958) (lv' := [(4, .int 7), (6, .int 0), (5, .int 1), (3, .ref 225), (2, .ref 196), (1, .ref 1), (0, .ref 0)]) (st' := [.int 1]) (H' := _) (kc' := kc + 1) (ks' := ks + 6) rfl ?_
        apply RP.done
        rfl; rfl; rfl; rfl
      · omega
      · omega
    ·
      apply GR.mk
      ·
        refine seg_RP (f := 3000) (d := 1999) 7 (pc' := 356) (lv' := [(4, .int 1), (3, .ref 225), (2, .ref 196), (1, .ref 1), (0, .ref 0)]) (st' := [.ref 225, .int (xs 2), .ref 1]) (H' := _) (kc' := kc) (ks' := ks) rfl ?_
        apply RP.call
        rfl; rfl; rfl; rfl; rfl; rfl; rfl
        ·
          refine seg_RP (f := 3000) (d := 1998) 4 (pc' := 4) (lv' := [(0, .ref 1), (1, .int (xs 2)), (2, .ref 225)]) (st' := [.int (xs 2), .ref 1, .int 0, .ref 225]) (H' := _) (kc' := 0) (ks' := 0) rfl ?_
          apply RP.callX
          rfl; rfl; rfl; rfl; rfl; rfl; rfl
          ·
            refine seg_RP (f := 3000) (d := 1997) 6 (pc' := 10) (lv' := [(0, .ref 1), (1, .int (xs 2))]) (st' := [.int 0, .int 0, .int (xs 2), .ref 1]) (H' := _) (kc' := 0) (ks' := 0) rfl ?_
            apply RP.callP
            rfl; rfl; rfl; rfl; rfl; rfl; rfl
            ·
              refine seg_RP (f := 3000) (d := 1996) 2 (pc' := 2) (lv' := [(0, .ref 1), (1, .int (xs 2)), (2, .int 0), (3, .int 0)]) (st' := [.int 0, .int (xs 2)]) (H' := _) (kc' := 0) (ks' := 0) rfl ?_
              apply RP.brF
              rfl; rfl; rfl
              exact decide_eq_false (h1)
              refine seg_RP (f := 3000) (d := 1996) 2 (pc' := 7) (lv' := [(0, .ref 1), (1, .int (xs 2)), (2, .int 0), (3, .int 0)]) (st' := [.int 0, .int (xs 2)]) (H' := _) (kc' := 0) (ks' := 0) rfl ?_
              apply RP.brF
              rfl; rfl; rfl
              exact decide_eq_false (Int32.not_le.mpr (i32_ne (h1) (h0)))
              apply RP.done
              rfl; rfl; rfl; rfl
            rfl
          rfl
          refine seg_RP (f := 3000) (d := 1998) 1 (pc' := 14) (lv' := [(0, .ref 1), (1, .int (xs 2)), (2, .ref 225)]) (st' := [.int 1]) (H' := _) (kc' := 1) (ks' := 6) rfl ?_
          apply RP.done
          rfl; rfl; rfl; rfl
        refine seg_RP (f := 3000) (d := 1999) 7 (pc' := 368) (lv' := [(5, .int 1), (4, .int 1), (3, .ref 225), (2, .ref 196), (1, .ref 1), (0, .ref 0)]) (st' := [.int (xs 2), .ref 196]) (H' := _) (kc' := kc + 1) (ks' := ks + 6) rfl ?_
        apply RP.call
        rfl; rfl; rfl; rfl; rfl; rfl; rfl
        ·
          refine seg_RP (f := 3000) (d := 1998) 4 (pc' := 6) (lv' := [(0, .ref 196), (1, .int (xs 2))]) (st' := [.int (xs 2)]) (H' := _) (kc' := 0) (ks' := 0) rfl ?_
          apply RP.brF
          rfl; rfl; rfl
          exact decide_eq_false (h1)
          refine seg_RP (f := 3000) (d := 1998) 3 (pc' := 14) (lv' := [(0, .ref 196), (1, .int (xs 2))]) (st' := [.int 0, .int (xs 2)]) (H' := _) (kc' := 0) (ks' := 0) rfl ?_
          apply RP.brF
          rfl; rfl; rfl
          exact decide_eq_false (Int32.not_le.mpr (i32_ne (h1) (h0)))
          refine seg_RP (f := 3000) (d := 1998) 3 (pc' := 22) (lv' := [(0, .ref 196), (1, .int (xs 2))]) (st' := [.int 0]) (H' := _) (kc' := 0) (ks' := 0) rfl ?_
          apply RP.done
          rfl; rfl; rfl; rfl
        refine seg_RP (f := 3000) (d := 1999) 13 (pc' := 37) (lv' := [(4, .int 7), (6, .int 0), (5, .int 1), (3, .ref 225), (2, .ref 196), (1, .ref 1), (0, .ref 0)]) (st' := [.int 7, .int 7]) (H' := _) (kc' := kc + 1) (ks' := ks + 6) rfl ?_
        refine seg_RP (f := 3000) (d := 1999) 4 (pc' := 1958) (lv' := [(4, .int 7), (6, .int 0), (5, .int 1), (3, .ref 225), (2, .ref 196), (1, .ref 1), (0, .ref 0)]) (st' := [.int 1]) (H' := _) (kc' := kc + 1) (ks' := ks + 6) rfl ?_
        apply RP.done
        rfl; rfl; rfl; rfl
      · omega
      · omega
set_option maxRecDepth 100000 in
set_option maxHeartbeats 4000000 in
theorem first_3 {xs : Nat → Int32} {kc ks : Nat} {v0 : Int32} {c1 : aC} {c2 : aC} {v3 : Int32} {c4 : aC} {c5 : aC} {c6 : aC} {c7 : aC} {c8 : aC} {c9 : aC} {c10 : aC} {c11 : aC} {v12 : Int32} {c13 : aC} {c14 : aC} {c15 : aC} {c16 : aC} {v17 : Int32} : GR xs 404 (hpV v0 c1 c2 v3 c4 c5 c6 c7 c8 c9 c10 c11 v12 c13 c14 c15 c16 v17) kc ks := by
  apply GR.mk
  ·
    refine seg_RP (f := 3000) (d := 1999) 26 (pc' := 37) (lv' := [(4, .int 7), (6, .int 0), (5, .int 0), (3, .ref 225), (2, .ref 196), (1, .ref 1), (0, .ref 0)]) (st' := [.int 7, .int 7]) (H' := _) (kc' := kc) (ks' := ks) rfl ?_
    refine seg_RP (f := 3000) (d := 1999) 4 (pc' := 1958) (lv' := [(4, .int 7), (6, .int 0), (5, .int 0), (3, .ref 225), (2, .ref 196), (1, .ref 1), (0, .ref 0)]) (st' := [.int 1]) (H' := _) (kc' := kc) (ks' := ks) rfl ?_
    apply RP.done
    rfl; rfl; rfl; rfl
  · omega
  · omega
set_option maxRecDepth 100000 in
set_option maxHeartbeats 4000000 in
theorem first_4 {xs : Nat → Int32} {kc ks : Nat} {v0 : Int32} {c1 : aC} {c2 : aC} {v3 : Int32} {c4 : aC} {c5 : aC} {c6 : aC} {c7 : aC} {c8 : aC} {c9 : aC} {c10 : aC} {c11 : aC} {v12 : Int32} {c13 : aC} {c14 : aC} {c15 : aC} {c16 : aC} {v17 : Int32} : GR xs 448 (hpV v0 c1 c2 v3 c4 c5 c6 c7 c8 c9 c10 c11 v12 c13 c14 c15 c16 v17) kc ks := by
  by_cases h0 : (xs 2) < 0
  ·
    apply GR.mk
    ·
      refine seg_RP (f := 3000) (d := 1999) 12 (pc' := 462) (lv' := [(4, .int 1), (3, .ref 225), (2, .ref 196), (1, .ref 1), (0, .ref 0)]) (st' := [.ref 225, .int (xs 3), .int (xs 2), .ref 1]) (H' := _) (kc' := kc) (ks' := ks) rfl ?_
      apply RP.call
      rfl; rfl; rfl; rfl; rfl; rfl; rfl
      ·
        refine seg_RP (f := 3000) (d := 1998) 5 (pc' := 5) (lv' := [(0, .ref 1), (1, .int (xs 2)), (2, .int (xs 3)), (3, .ref 225)]) (st' := [.int (xs 3), .int (xs 2), .ref 1, .int 0, .ref 225]) (H' := _) (kc' := 0) (ks' := 0) rfl ?_
        apply RP.callX
        rfl; rfl; rfl; rfl; rfl; rfl; rfl
        ·
          refine seg_RP (f := 3000) (d := 1997) 2 (pc' := 2) (lv' := [(0, .ref 1), (1, .int (xs 2)), (2, .int (xs 3))]) (st' := [.int (xs 2), .ref 1]) (H' := _) (kc' := 0) (ks' := 0) rfl ?_
          apply RP.callP
          rfl; rfl; rfl; rfl; rfl; rfl; rfl
          ·
            refine seg_RP (f := 3000) (d := 1996) 4 (pc' := 5) (lv' := [(0, .ref 1), (1, .int (xs 2))]) (st' := [.int 7, .int 0, .int (xs 2), .ref 1]) (H' := _) (kc' := 0) (ks' := 0) rfl ?_
            apply RP.callP
            rfl; rfl; rfl; rfl; rfl; rfl; rfl
            ·
              refine seg_RP (f := 3000) (d := 1995) 2 (pc' := 2) (lv' := [(0, .ref 1), (1, .int (xs 2)), (2, .int 0), (3, .int 7)]) (st' := [.int 0, .int (xs 2)]) (H' := _) (kc' := 0) (ks' := 0) rfl ?_
              apply RP.brT
              rfl; rfl; rfl
              exact decide_eq_true (h0)
              apply RP.done
              rfl; rfl; rfl; rfl
            rfl
          rfl
        rfl
        refine seg_RP (f := 3000) (d := 1998) 1 (pc' := 16) (lv' := [(0, .ref 1), (1, .int (xs 2)), (2, .int (xs 3)), (3, .ref 225)]) (st' := [.int 1]) (H' := _) (kc' := 1) (ks' := 6) rfl ?_
        apply RP.done
        rfl; rfl; rfl; rfl
      refine seg_RP (f := 3000) (d := 1999) 12 (pc' := 480) (lv' := [(5, .int 1), (4, .int 1), (3, .ref 225), (2, .ref 196), (1, .ref 1), (0, .ref 0)]) (st' := [.int (xs 3), .int (xs 2), .ref 196]) (H' := _) (kc' := kc + 1) (ks' := ks + 6) rfl ?_
      apply RP.call
      rfl; rfl; rfl; rfl; rfl; rfl; rfl
      ·
        refine seg_RP (f := 3000) (d := 1998) 6 (pc' := 9) (lv' := [(0, .ref 196), (1, .int (xs 2)), (2, .int (xs 3))]) (st' := [.int 8, .int (xs 2), .ref 196]) (H' := _) (kc' := 0) (ks' := 0) rfl ?_
        apply RP.call
        rfl; rfl; rfl; rfl; rfl; rfl; rfl
        ·
          refine seg_RP (f := 3000) (d := 1997) 1 (pc' := 1) (lv' := [(0, .ref 196), (1, .int (xs 2)), (2, .int 8)]) (st' := [.int (xs 2)]) (H' := _) (kc' := 0) (ks' := 0) rfl ?_
          apply RP.brT
          rfl; rfl; rfl
          exact decide_eq_true (h0)
          refine seg_RP (f := 3000) (d := 1997) 2 (pc' := 14) (lv' := [(0, .ref 196), (1, .int (xs 2)), (2, .int 8)]) (st' := [.int 1]) (H' := _) (kc' := 0) (ks' := 0) rfl ?_
          apply RP.done
          rfl; rfl; rfl; rfl
        refine seg_RP (f := 3000) (d := 1998) 4 (pc' := 51) (lv' := [(0, .ref 196), (1, .int (xs 2)), (2, .int (xs 3))]) (st' := [.int 0]) (H' := _) (kc' := 0) (ks' := 0) rfl ?_
        apply RP.done
        rfl; rfl; rfl; rfl
      refine seg_RP (f := 3000) (d := 1999) 13 (pc' := 37) (lv' := [(4, .int 7), (6, .int 0), (5, .int 1), (3, .ref 225), (2, .ref 196), (1, .ref 1), (0, .ref 0)]) (st' := [.int 7, .int 7]) (H' := _) (kc' := kc + 1) (ks' := ks + 6) rfl ?_
      refine seg_RP (f := 3000) (d := 1999) 4 (pc' := 1958) (lv' := [(4, .int 7), (6, .int 0), (5, .int 1), (3, .ref 225), (2, .ref 196), (1, .ref 1), (0, .ref 0)]) (st' := [.int 1]) (H' := _) (kc' := kc + 1) (ks' := ks + 6) rfl ?_
      apply RP.done
      rfl; rfl; rfl; rfl
    · omega
    · omega
  ·
    by_cases h1 : (7 : Int32) < (xs 2)
    ·
      apply GR.mk
      ·
        refine seg_RP (f := 3000) (d := 1999) 12 (pc' := 462) (lv' := [(4, .int 1), (3, .ref 225), (2, .ref 196), (1, .ref 1), (0, .ref 0)]) (st' := [.ref 225, .int (xs 3), .int (xs 2), .ref 1]) (H' := _) (kc' := kc) (ks' := ks) rfl ?_
        apply RP.call
        rfl; rfl; rfl; rfl; rfl; rfl; rfl
        ·
          refine seg_RP (f := 3000) (d := 1998) 5 (pc' := 5) (lv' := [(0, .ref 1), (1, .int (xs 2)), (2, .int (xs 3)), (3, .ref 225)]) (st' := [.int (xs 3), .int (xs 2), .ref 1, .int 0, .ref 225]) (H' := _) (kc' := 0) (ks' := 0) rfl ?_
          apply RP.callX
          rfl; rfl; rfl; rfl; rfl; rfl; rfl
          ·
            refine seg_RP (f := 3000) (d := 1997) 2 (pc' := 2) (lv' := [(0, .ref 1), (1, .int (xs 2)), (2, .int (xs 3))]) (st' := [.int (xs 2), .ref 1]) (H' := _) (kc' := 0) (ks' := 0) rfl ?_
            apply RP.callP
            rfl; rfl; rfl; rfl; rfl; rfl; rfl
            ·
              refine seg_RP (f := 3000) (d := 1996) 4 (pc' := 5) (lv' := [(0, .ref 1), (1, .int (xs 2))]) (st' := [.int 7, .int 0, .int (xs 2), .ref 1]) (H' := _) (kc' := 0) (ks' := 0) rfl ?_
              apply RP.callP
              rfl; rfl; rfl; rfl; rfl; rfl; rfl
              ·
                refine seg_RP (f := 3000) (d := 1995) 2 (pc' := 2) (lv' := [(0, .ref 1), (1, .int (xs 2)), (2, .int 0), (3, .int 7)]) (st' := [.int 0, .int (xs 2)]) (H' := _) (kc' := 0) (ks' := 0) rfl ?_
                apply RP.brF
                rfl; rfl; rfl
                exact decide_eq_false (h0)
                refine seg_RP (f := 3000) (d := 1995) 2 (pc' := 7) (lv' := [(0, .ref 1), (1, .int (xs 2)), (2, .int 0), (3, .int 7)]) (st' := [.int 7, .int (xs 2)]) (H' := _) (kc' := 0) (ks' := 0) rfl ?_
                apply RP.brF
                rfl; rfl; rfl
                exact decide_eq_false (Int32.not_le.mpr (h1))
                apply RP.done
                rfl; rfl; rfl; rfl
              rfl
            rfl
          rfl
          refine seg_RP (f := 3000) (d := 1998) 1 (pc' := 16) (lv' := [(0, .ref 1), (1, .int (xs 2)), (2, .int (xs 3)), (3, .ref 225)]) (st' := [.int 1]) (H' := _) (kc' := 1) (ks' := 6) rfl ?_
          apply RP.done
          rfl; rfl; rfl; rfl
        refine seg_RP (f := 3000) (d := 1999) 12 (pc' := 480) (lv' := [(5, .int 1), (4, .int 1), (3, .ref 225), (2, .ref 196), (1, .ref 1), (0, .ref 0)]) (st' := [.int (xs 3), .int (xs 2), .ref 196]) (H' := _) (kc' := kc + 1) (ks' := ks + 6) rfl ?_
        apply RP.call
        rfl; rfl; rfl; rfl; rfl; rfl; rfl
        ·
          refine seg_RP (f := 3000) (d := 1998) 6 (pc' := 9) (lv' := [(0, .ref 196), (1, .int (xs 2)), (2, .int (xs 3))]) (st' := [.int 8, .int (xs 2), .ref 196]) (H' := _) (kc' := 0) (ks' := 0) rfl ?_
          apply RP.call
          rfl; rfl; rfl; rfl; rfl; rfl; rfl
          ·
            refine seg_RP (f := 3000) (d := 1997) 1 (pc' := 1) (lv' := [(0, .ref 196), (1, .int (xs 2)), (2, .int 8)]) (st' := [.int (xs 2)]) (H' := _) (kc' := 0) (ks' := 0) rfl ?_
            apply RP.brF
            rfl; rfl; rfl
            exact decide_eq_false (h0)
            refine seg_RP (f := 3000) (d := 1997) 2 (pc' := 6) (lv' := [(0, .ref 196), (1, .int (xs 2)), (2, .int 8)]) (st' := [.int 8, .int (xs 2)]) (H' := _) (kc' := 0) (ks' := 0) rfl ?_
            apply RP.brF
            rfl; rfl; rfl
            exact decide_eq_false (i32_gap (h1) (show (8 : Int32) ≤ 7 + 1 by decide) (by decide))
            refine seg_RP (f := 3000) (d := 1997) 2 (pc' := 14) (lv' := [(0, .ref 196), (1, .int (xs 2)), (2, .int 8)]) (st' := [.int 1]) (H' := _) (kc' := 0) (ks' := 0) rfl ?_
            apply RP.done
            rfl; rfl; rfl; rfl
          refine seg_RP (f := 3000) (d := 1998) 4 (pc' := 51) (lv' := [(0, .ref 196), (1, .int (xs 2)), (2, .int (xs 3))]) (st' := [.int 0]) (H' := _) (kc' := 0) (ks' := 0) rfl ?_
          apply RP.done
          rfl; rfl; rfl; rfl
        refine seg_RP (f := 3000) (d := 1999) 13 (pc' := 37) (lv' := [(4, .int 7), (6, .int 0), (5, .int 1), (3, .ref 225), (2, .ref 196), (1, .ref 1), (0, .ref 0)]) (st' := [.int 7, .int 7]) (H' := _) (kc' := kc + 1) (ks' := ks + 6) rfl ?_
        refine seg_RP (f := 3000) (d := 1999) 4 (pc' := 1958) (lv' := [(4, .int 7), (6, .int 0), (5, .int 1), (3, .ref 225), (2, .ref 196), (1, .ref 1), (0, .ref 0)]) (st' := [.int 1]) (H' := _) (kc' := kc + 1) (ks' := ks + 6) rfl ?_
        apply RP.done
        rfl; rfl; rfl; rfl
      · omega
      · omega
    ·
      by_cases h2 : (xs 3) < 1
      ·
        apply GR.mk
        ·
          refine seg_RP (f := 3000) (d := 1999) 12 (pc' := 462) (lv' := [(4, .int 1), (3, .ref 225), (2, .ref 196), (1, .ref 1), (0, .ref 0)]) (st' := [.ref 225, .int (xs 3), .int (xs 2), .ref 1]) (H' := _) (kc' := kc) (ks' := ks) rfl ?_
          apply RP.call
          rfl; rfl; rfl; rfl; rfl; rfl; rfl
          ·
            refine seg_RP (f := 3000) (d := 1998) 5 (pc' := 5) (lv' := [(0, .ref 1), (1, .int (xs 2)), (2, .int (xs 3)), (3, .ref 225)]) (st' := [.int (xs 3), .int (xs 2), .ref 1, .int 0, .ref 225]) (H' := _) (kc' := 0) (ks' := 0) rfl ?_
            apply RP.callX
            rfl; rfl; rfl; rfl; rfl; rfl; rfl
            ·
              refine seg_RP (f := 3000) (d := 1997) 2 (pc' := 2) (lv' := [(0, .ref 1), (1, .int (xs 2)), (2, .int (xs 3))]) (st' := [.int (xs 2), .ref 1]) (H' := _) (kc' := 0) (ks' := 0) rfl ?_
              apply RP.call
              rfl; rfl; rfl; rfl; rfl; rfl; rfl
              ·
                refine seg_RP (f := 3000) (d := 1996) 4 (pc' := 5) (lv' := [(0, .ref 1), (1, .int (xs 2))]) (st' := [.int 7, .int 0, .int (xs 2), .ref 1]) (H' := _) (kc' := 0) (ks' := 0) rfl ?_
                apply RP.call
                rfl; rfl; rfl; rfl; rfl; rfl; rfl
                ·
                  refine seg_RP (f := 3000) (d := 1995) 2 (pc' := 2) (lv' := [(0, .ref 1), (1, .int (xs 2)), (2, .int 0), (3, .int 7)]) (st' := [.int 0, .int (xs 2)]) (H' := _) (kc' := 0) (ks' := 0) rfl ?_
                  apply RP.brF
                  rfl; rfl; rfl
                  exact decide_eq_false (h0)
                  refine seg_RP (f := 3000) (d := 1995) 2 (pc' := 7) (lv' := [(0, .ref 1), (1, .int (xs 2)), (2, .int 0), (3, .int 7)]) (st' := [.int 7, .int (xs 2)]) (H' := _) (kc' := 0) (ks' := 0) rfl ?_
                  apply RP.brT
                  rfl; rfl; rfl
                  exact decide_eq_true (Int32.not_lt.mp (h1))
                  apply RP.done
                  rfl; rfl; rfl; rfl
                apply RP.done
                rfl; rfl; rfl; rfl
              refine seg_RP (f := 3000) (d := 1997) 8 (pc' := 20) (lv' := [(0, .ref 1), (1, .int (xs 2)), (2, .int (xs 3))]) (st' := [.int 0, .int 1, .int (xs 3), .ref 1]) (H' := _) (kc' := 0) (ks' := 0) rfl ?_
              apply RP.callP
              rfl; rfl; rfl; rfl; rfl; rfl; rfl
              ·
                refine seg_RP (f := 3000) (d := 1996) 2 (pc' := 2) (lv' := [(0, .ref 1), (1, .int (xs 3)), (2, .int 1), (3, .int 0)]) (st' := [.int 1, .int (xs 3)]) (H' := _) (kc' := 0) (ks' := 0) rfl ?_
                apply RP.brT
                rfl; rfl; rfl
                exact decide_eq_true (h2)
                apply RP.done
                rfl; rfl; rfl; rfl
              rfl
            rfl
            refine seg_RP (f := 3000) (d := 1998) 1 (pc' := 16) (lv' := [(0, .ref 1), (1, .int (xs 2)), (2, .int (xs 3)), (3, .ref 225)]) (st' := [.int 1]) (H' := _) (kc' := 1) (ks' := 6) rfl ?_
            apply RP.done
            rfl; rfl; rfl; rfl
          refine seg_RP (f := 3000) (d := 1999) 12 (pc' := 480) (lv' := [(5, .int 1), (4, .int 1), (3, .ref 225), (2, .ref 196), (1, .ref 1), (0, .ref 0)]) (st' := [.int (xs 3), .int (xs 2), .ref 196]) (H' := _) (kc' := kc + 1) (ks' := ks + 6) rfl ?_
          apply RP.call
          rfl; rfl; rfl; rfl; rfl; rfl; rfl
          ·
            refine seg_RP (f := 3000) (d := 1998) 6 (pc' := 9) (lv' := [(0, .ref 196), (1, .int (xs 2)), (2, .int (xs 3))]) (st' := [.int 8, .int (xs 2), .ref 196]) (H' := _) (kc' := 0) (ks' := 0) rfl ?_
            apply RP.call
            rfl; rfl; rfl; rfl; rfl; rfl; rfl
            ·
              refine seg_RP (f := 3000) (d := 1997) 1 (pc' := 1) (lv' := [(0, .ref 196), (1, .int (xs 2)), (2, .int 8)]) (st' := [.int (xs 2)]) (H' := _) (kc' := 0) (ks' := 0) rfl ?_
              apply RP.brF
              rfl; rfl; rfl
              exact decide_eq_false (h0)
              refine seg_RP (f := 3000) (d := 1997) 2 (pc' := 6) (lv' := [(0, .ref 196), (1, .int (xs 2)), (2, .int 8)]) (st' := [.int 8, .int (xs 2)]) (H' := _) (kc' := 0) (ks' := 0) rfl ?_
              apply RP.brT
              rfl; rfl; rfl
              exact decide_eq_true (Int32.lt_of_le_of_lt (Int32.not_lt.mp (h1)) (show (7 : Int32) < 8 by decide))
              refine seg_RP (f := 3000) (d := 1997) 1 (pc' := 14) (lv' := [(0, .ref 196), (1, .int (xs 2)), (2, .int 8)]) (st' := [.int 0]) (H' := _) (kc' := 0) (ks' := 0) rfl ?_
              apply RP.done
              rfl; rfl; rfl; rfl
            refine seg_RP (f := 3000) (d := 1998) 3 (pc' := 17) (lv' := [(0, .ref 196), (1, .int (xs 2)), (2, .int (xs 3))]) (st' := [.int 1, .int (xs 3)]) (H' := _) (kc' := 0) (ks' := 0) rfl ?_
            apply RP.brT
            rfl; rfl; rfl
            exact decide_eq_true (h2)
            refine seg_RP (f := 3000) (d := 1998) 3 (pc' := 51) (lv' := [(0, .ref 196), (1, .int (xs 2)), (2, .int (xs 3))]) (st' := [.int 0]) (H' := _) (kc' := 0) (ks' := 0) rfl ?_
            apply RP.done
            rfl; rfl; rfl; rfl
          refine seg_RP (f := 3000) (d := 1999) 13 (pc' := 37) (lv' := [(4, .int 7), (6, .int 0), (5, .int 1), (3, .ref 225), (2, .ref 196), (1, .ref 1), (0, .ref 0)]) (st' := [.int 7, .int 7]) (H' := _) (kc' := kc + 1) (ks' := ks + 6) rfl ?_
          refine seg_RP (f := 3000) (d := 1999) 4 (pc' := 1958) (lv' := [(4, .int 7), (6, .int 0), (5, .int 1), (3, .ref 225), (2, .ref 196), (1, .ref 1), (0, .ref 0)]) (st' := [.int 1]) (H' := _) (kc' := kc + 1) (ks' := ks + 6) rfl ?_
          apply RP.done
          rfl; rfl; rfl; rfl
        · omega
        · omega
      ·
        by_cases h3 : (40 : Int32) < (xs 3)
        ·
          apply GR.mk
          ·
            refine seg_RP (f := 3000) (d := 1999) 12 (pc' := 462) (lv' := [(4, .int 1), (3, .ref 225), (2, .ref 196), (1, .ref 1), (0, .ref 0)]) (st' := [.ref 225, .int (xs 3), .int (xs 2), .ref 1]) (H' := _) (kc' := kc) (ks' := ks) rfl ?_
            apply RP.call
            rfl; rfl; rfl; rfl; rfl; rfl; rfl
            ·
              refine seg_RP (f := 3000) (d := 1998) 5 (pc' := 5) (lv' := [(0, .ref 1), (1, .int (xs 2)), (2, .int (xs 3)), (3, .ref 225)]) (st' := [.int (xs 3), .int (xs 2), .ref 1, .int 0, .ref 225]) (H' := _) (kc' := 0) (ks' := 0) rfl ?_
              apply RP.callX
              rfl; rfl; rfl; rfl; rfl; rfl; rfl
              ·
                refine seg_RP (f := 3000) (d := 1997) 2 (pc' := 2) (lv' := [(0, .ref 1), (1, .int (xs 2)), (2, .int (xs 3))]) (st' := [.int (xs 2), .ref 1]) (H' := _) (kc' := 0) (ks' := 0) rfl ?_
                apply RP.call
                rfl; rfl; rfl; rfl; rfl; rfl; rfl
                ·
                  refine seg_RP (f := 3000) (d := 1996) 4 (pc' := 5) (lv' := [(0, .ref 1), (1, .int (xs 2))]) (st' := [.int 7, .int 0, .int (xs 2), .ref 1]) (H' := _) (kc' := 0) (ks' := 0) rfl ?_
                  apply RP.call
                  rfl; rfl; rfl; rfl; rfl; rfl; rfl
                  ·
                    refine seg_RP (f := 3000) (d := 1995) 2 (pc' := 2) (lv' := [(0, .ref 1), (1, .int (xs 2)), (2, .int 0), (3, .int 7)]) (st' := [.int 0, .int (xs 2)]) (H' := _) (kc' := 0) (ks' := 0) rfl ?_
                    apply RP.brF
                    rfl; rfl; rfl
                    exact decide_eq_false (h0)
                    refine seg_RP (f := 3000) (d := 1995) 2 (pc' := 7) (lv' := [(0, .ref 1), (1, .int (xs 2)), (2, .int 0), (3, .int 7)]) (st' := [.int 7, .int (xs 2)]) (H' := _) (kc' := 0) (ks' := 0) rfl ?_
                    apply RP.brT
                    rfl; rfl; rfl
                    exact decide_eq_true (Int32.not_lt.mp (h1))
                    apply RP.done
                    rfl; rfl; rfl; rfl
                  apply RP.done
                  rfl; rfl; rfl; rfl
                refine seg_RP (f := 3000) (d := 1997) 8 (pc' := 20) (lv' := [(0, .ref 1), (1, .int (xs 2)), (2, .int (xs 3))]) (st' := [.int 0, .int 1, .int (xs 3), .ref 1]) (H' := _) (kc' := 0) (ks' := 0) rfl ?_
                apply RP.callP
                rfl; rfl; rfl; rfl; rfl; rfl; rfl
                ·
                  refine seg_RP (f := 3000) (d := 1996) 2 (pc' := 2) (lv' := [(0, .ref 1), (1, .int (xs 3)), (2, .int 1), (3, .int 0)]) (st' := [.int 1, .int (xs 3)]) (H' := _) (kc' := 0) (ks' := 0) rfl ?_
                  apply RP.brF
                  rfl; rfl; rfl
                  exact decide_eq_false (h2)
                  refine seg_RP (f := 3000) (d := 1996) 2 (pc' := 7) (lv' := [(0, .ref 1), (1, .int (xs 3)), (2, .int 1), (3, .int 0)]) (st' := [.int 0, .int (xs 3)]) (H' := _) (kc' := 0) (ks' := 0) rfl ?_
                  apply RP.brF
                  rfl; rfl; rfl
                  exact decide_eq_false (Int32.not_le.mpr (Int32.lt_of_lt_of_le (show (0 : Int32) < 1 by decide) (Int32.not_lt.mp (h2))))
                  apply RP.done
                  rfl; rfl; rfl; rfl
                rfl
              rfl
              refine seg_RP (f := 3000) (d := 1998) 1 (pc' := 16) (lv' := [(0, .ref 1), (1, .int (xs 2)), (2, .int (xs 3)), (3, .ref 225)]) (st' := [.int 1]) (H' := _) (kc' := 1) (ks' := 6) rfl ?_
              apply RP.done
              rfl; rfl; rfl; rfl
            refine seg_RP (f := 3000) (d := 1999) 12 (pc' := 480) (lv' := [(5, .int 1), (4, .int 1), (3, .ref 225), (2, .ref 196), (1, .ref 1), (0, .ref 0)]) (st' := [.int (xs 3), .int (xs 2), .ref 196]) (H' := _) (kc' := kc + 1) (ks' := ks + 6) rfl ?_
            apply RP.call
            rfl; rfl; rfl; rfl; rfl; rfl; rfl
            ·
              refine seg_RP (f := 3000) (d := 1998) 6 (pc' := 9) (lv' := [(0, .ref 196), (1, .int (xs 2)), (2, .int (xs 3))]) (st' := [.int 8, .int (xs 2), .ref 196]) (H' := _) (kc' := 0) (ks' := 0) rfl ?_
              apply RP.call
              rfl; rfl; rfl; rfl; rfl; rfl; rfl
              ·
                refine seg_RP (f := 3000) (d := 1997) 1 (pc' := 1) (lv' := [(0, .ref 196), (1, .int (xs 2)), (2, .int 8)]) (st' := [.int (xs 2)]) (H' := _) (kc' := 0) (ks' := 0) rfl ?_
                apply RP.brF
                rfl; rfl; rfl
                exact decide_eq_false (h0)
                refine seg_RP (f := 3000) (d := 1997) 2 (pc' := 6) (lv' := [(0, .ref 196), (1, .int (xs 2)), (2, .int 8)]) (st' := [.int 8, .int (xs 2)]) (H' := _) (kc' := 0) (ks' := 0) rfl ?_
                apply RP.brT
                rfl; rfl; rfl
                exact decide_eq_true (Int32.lt_of_le_of_lt (Int32.not_lt.mp (h1)) (show (7 : Int32) < 8 by decide))
                refine seg_RP (f := 3000) (d := 1997) 1 (pc' := 14) (lv' := [(0, .ref 196), (1, .int (xs 2)), (2, .int 8)]) (st' := [.int 0]) (H' := _) (kc' := 0) (ks' := 0) rfl ?_
                apply RP.done
                rfl; rfl; rfl; rfl
              refine seg_RP (f := 3000) (d := 1998) 3 (pc' := 17) (lv' := [(0, .ref 196), (1, .int (xs 2)), (2, .int (xs 3))]) (st' := [.int 1, .int (xs 3)]) (H' := _) (kc' := 0) (ks' := 0) rfl ?_
              apply RP.brF
              rfl; rfl; rfl
              exact decide_eq_false (h2)
              refine seg_RP (f := 3000) (d := 1998) 2 (pc' := 23) (lv' := [(0, .ref 196), (1, .int (xs 2)), (2, .int (xs 3))]) (st' := [.int 40, .int (xs 3)]) (H' := _) (kc' := 0) (ks' := 0) rfl ?_
              apply RP.brT
              rfl; rfl; rfl
              exact decide_eq_true (h3)
              refine seg_RP (f := 3000) (d := 1998) 3 (pc' := 51) (lv' := [(0, .ref 196), (1, .int (xs 2)), (2, .int (xs 3))]) (st' := [.int 0]) (H' := _) (kc' := 0) (ks' := 0) rfl ?_
              apply RP.done
              rfl; rfl; rfl; rfl
            refine seg_RP (f := 3000) (d := 1999) 13 (pc' := 37) (lv' := [(4, .int 7), (6, .int 0), (5, .int 1), (3, .ref 225), (2, .ref 196), (1, .ref 1), (0, .ref 0)]) (st' := [.int 7, .int 7]) (H' := _) (kc' := kc + 1) (ks' := ks + 6) rfl ?_
            refine seg_RP (f := 3000) (d := 1999) 4 (pc' := 1958) (lv' := [(4, .int 7), (6, .int 0), (5, .int 1), (3, .ref 225), (2, .ref 196), (1, .ref 1), (0, .ref 0)]) (st' := [.int 1]) (H' := _) (kc' := kc + 1) (ks' := ks + 6) rfl ?_
            apply RP.done
            rfl; rfl; rfl; rfl
          · omega
          · omega
        ·
          apply GR.mk
          ·
            refine seg_RP (f := 3000) (d := 1999) 12 (pc' := 462) (lv' := [(4, .int 1), (3, .ref 225), (2, .ref 196), (1, .ref 1), (0, .ref 0)]) (st' := [.ref 225, .int (xs 3), .int (xs 2), .ref 1]) (H' := _) (kc' := kc) (ks' := ks) rfl ?_
            apply RP.call
            rfl; rfl; rfl; rfl; rfl; rfl; rfl
            ·
              refine seg_RP (f := 3000) (d := 1998) 5 (pc' := 5) (lv' := [(0, .ref 1), (1, .int (xs 2)), (2, .int (xs 3)), (3, .ref 225)]) (st' := [.int (xs 3), .int (xs 2), .ref 1, .int 0, .ref 225]) (H' := _) (kc' := 0) (ks' := 0) rfl ?_
              apply RP.callX
              rfl; rfl; rfl; rfl; rfl; rfl; rfl
              ·
                refine seg_RP (f := 3000) (d := 1997) 2 (pc' := 2) (lv' := [(0, .ref 1), (1, .int (xs 2)), (2, .int (xs 3))]) (st' := [.int (xs 2), .ref 1]) (H' := _) (kc' := 0) (ks' := 0) rfl ?_
                apply RP.call
                rfl; rfl; rfl; rfl; rfl; rfl; rfl
                ·
                  refine seg_RP (f := 3000) (d := 1996) 4 (pc' := 5) (lv' := [(0, .ref 1), (1, .int (xs 2))]) (st' := [.int 7, .int 0, .int (xs 2), .ref 1]) (H' := _) (kc' := 0) (ks' := 0) rfl ?_
                  apply RP.call
                  rfl; rfl; rfl; rfl; rfl; rfl; rfl
                  ·
                    refine seg_RP (f := 3000) (d := 1995) 2 (pc' := 2) (lv' := [(0, .ref 1), (1, .int (xs 2)), (2, .int 0), (3, .int 7)]) (st' := [.int 0, .int (xs 2)]) (H' := _) (kc' := 0) (ks' := 0) rfl ?_
                    apply RP.brF
                    rfl; rfl; rfl
                    exact decide_eq_false (h0)
                    refine seg_RP (f := 3000) (d := 1995) 2 (pc' := 7) (lv' := [(0, .ref 1), (1, .int (xs 2)), (2, .int 0), (3, .int 7)]) (st' := [.int 7, .int (xs 2)]) (H' := _) (kc' := 0) (ks' := 0) rfl ?_
                    apply RP.brT
                    rfl; rfl; rfl
                    exact decide_eq_true (Int32.not_lt.mp (h1))
                    apply RP.done
                    rfl; rfl; rfl; rfl
                  apply RP.done
                  rfl; rfl; rfl; rfl
                refine seg_RP (f := 3000) (d := 1997) 8 (pc' := 20) (lv' := [(0, .ref 1), (1, .int (xs 2)), (2, .int (xs 3))]) (st' := [.int 0, .int 1, .int (xs 3), .ref 1]) (H' := _) (kc' := 0) (ks' := 0) rfl ?_
                apply RP.callP
                rfl; rfl; rfl; rfl; rfl; rfl; rfl
                ·
                  refine seg_RP (f := 3000) (d := 1996) 2 (pc' := 2) (lv' := [(0, .ref 1), (1, .int (xs 3)), (2, .int 1), (3, .int 0)]) (st' := [.int 1, .int (xs 3)]) (H' := _) (kc' := 0) (ks' := 0) rfl ?_
                  apply RP.brF
                  rfl; rfl; rfl
                  exact decide_eq_false (h2)
                  refine seg_RP (f := 3000) (d := 1996) 2 (pc' := 7) (lv' := [(0, .ref 1), (1, .int (xs 3)), (2, .int 1), (3, .int 0)]) (st' := [.int 0, .int (xs 3)]) (H' := _) (kc' := 0) (ks' := 0) rfl ?_
                  apply RP.brF
                  rfl; rfl; rfl
                  exact decide_eq_false (Int32.not_le.mpr (Int32.lt_of_lt_of_le (show (0 : Int32) < 1 by decide) (Int32.not_lt.mp (h2))))
                  apply RP.done
                  rfl; rfl; rfl; rfl
                rfl
              rfl
              refine seg_RP (f := 3000) (d := 1998) 1 (pc' := 16) (lv' := [(0, .ref 1), (1, .int (xs 2)), (2, .int (xs 3)), (3, .ref 225)]) (st' := [.int 1]) (H' := _) (kc' := 1) (ks' := 6) rfl ?_
              apply RP.done
              rfl; rfl; rfl; rfl
            refine seg_RP (f := 3000) (d := 1999) 12 (pc' := 480) (lv' := [(5, .int 1), (4, .int 1), (3, .ref 225), (2, .ref 196), (1, .ref 1), (0, .ref 0)]) (st' := [.int (xs 3), .int (xs 2), .ref 196]) (H' := _) (kc' := kc + 1) (ks' := ks + 6) rfl ?_
            apply RP.call
            rfl; rfl; rfl; rfl; rfl; rfl; rfl
            ·
              refine seg_RP (f := 3000) (d := 1998) 6 (pc' := 9) (lv' := [(0, .ref 196), (1, .int (xs 2)), (2, .int (xs 3))]) (st' := [.int 8, .int (xs 2), .ref 196]) (H' := _) (kc' := 0) (ks' := 0) rfl ?_
              apply RP.call
              rfl; rfl; rfl; rfl; rfl; rfl; rfl
              ·
                refine seg_RP (f := 3000) (d := 1997) 1 (pc' := 1) (lv' := [(0, .ref 196), (1, .int (xs 2)), (2, .int 8)]) (st' := [.int (xs 2)]) (H' := _) (kc' := 0) (ks' := 0) rfl ?_
                apply RP.brF
                rfl; rfl; rfl
                exact decide_eq_false (h0)
                refine seg_RP (f := 3000) (d := 1997) 2 (pc' := 6) (lv' := [(0, .ref 196), (1, .int (xs 2)), (2, .int 8)]) (st' := [.int 8, .int (xs 2)]) (H' := _) (kc' := 0) (ks' := 0) rfl ?_
                apply RP.brT
                rfl; rfl; rfl
                exact decide_eq_true (Int32.lt_of_le_of_lt (Int32.not_lt.mp (h1)) (show (7 : Int32) < 8 by decide))
                refine seg_RP (f := 3000) (d := 1997) 1 (pc' := 14) (lv' := [(0, .ref 196), (1, .int (xs 2)), (2, .int 8)]) (st' := [.int 0]) (H' := _) (kc' := 0) (ks' := 0) rfl ?_
                apply RP.done
                rfl; rfl; rfl; rfl
              refine seg_RP (f := 3000) (d := 1998) 3 (pc' := 17) (lv' := [(0, .ref 196), (1, .int (xs 2)), (2, .int (xs 3))]) (st' := [.int 1, .int (xs 3)]) (H' := _) (kc' := 0) (ks' := 0) rfl ?_
              apply RP.brF
              rfl; rfl; rfl
              exact decide_eq_false (h2)
              refine seg_RP (f := 3000) (d := 1998) 2 (pc' := 23) (lv' := [(0, .ref 196), (1, .int (xs 2)), (2, .int (xs 3))]) (st' := [.int 40, .int (xs 3)]) (H' := _) (kc' := 0) (ks' := 0) rfl ?_
              apply RP.brF
              rfl; rfl; rfl
              exact decide_eq_false (h3)
              refine seg_RP (f := 3000) (d := 1998) 3 (pc' := 31) (lv' := [(0, .ref 196), (1, .int (xs 2)), (2, .int (xs 3))]) (st' := [.int (xs 3), .int 0]) (H' := _) (kc' := 0) (ks' := 0) rfl ?_
              apply RP.brT
              rfl; rfl; rfl
              exact decide_eq_true (Int32.lt_of_lt_of_le (show (0 : Int32) < 1 by decide) (Int32.not_lt.mp (h2)))
              refine seg_RP (f := 3000) (d := 1998) 3 (pc' := 51) (lv' := [(0, .ref 196), (1, .int (xs 2)), (2, .int (xs 3))]) (st' := [.int 0]) (H' := _) (kc' := 0) (ks' := 0) rfl ?_
              apply RP.done
              rfl; rfl; rfl; rfl
            refine seg_RP (f := 3000) (d := 1999) 13 (pc' := 37) (lv' := [(4, .int 7), (6, .int 0), (5, .int 1), (3, .ref 225), (2, .ref 196), (1, .ref 1), (0, .ref 0)]) (st' := [.int 7, .int 7]) (H' := _) (kc' := kc + 1) (ks' := ks + 6) rfl ?_
            refine seg_RP (f := 3000) (d := 1999) 4 (pc' := 1958) (lv' := [(4, .int 7), (6, .int 0), (5, .int 1), (3, .ref 225), (2, .ref 196), (1, .ref 1), (0, .ref 0)]) (st' := [.int 1]) (H' := _) (kc' := kc + 1) (ks' := ks + 6) rfl ?_
            apply RP.done
            rfl; rfl; rfl; rfl
          · omega
          · omega
set_option maxRecDepth 100000 in
set_option maxHeartbeats 4000000 in
theorem first_5 {xs : Nat → Int32} {kc ks : Nat} {v0 : Int32} {c1 : aC} {c2 : aC} {v3 : Int32} {c4 : aC} {c5 : aC} {c6 : aC} {c7 : aC} {c8 : aC} {c9 : aC} {c10 : aC} {c11 : aC} {v12 : Int32} {c13 : aC} {c14 : aC} {c15 : aC} {c16 : aC} {v17 : Int32} : GR xs 516 (hpV v0 c1 c2 v3 c4 c5 c6 c7 c8 c9 c10 c11 v12 c13 c14 c15 c16 v17) kc ks := by
  by_cases h0 : (xs 2) < 0
  ·
    apply GR.mk
    ·
      refine seg_RP (f := 3000) (d := 1999) 7 (pc' := 524) (lv' := [(4, .int 1), (3, .ref 225), (2, .ref 196), (1, .ref 1), (0, .ref 0)]) (st' := [.ref 225, .int (xs 2), .ref 1]) (H' := _) (kc' := kc) (ks' := ks) rfl ?_
      apply RP.call
      rfl; rfl; rfl; rfl; rfl; rfl; rfl
      ·
        refine seg_RP (f := 3000) (d := 1998) 4 (pc' := 4) (lv' := [(0, .ref 1), (1, .int (xs 2)), (2, .ref 225)]) (st' := [.int (xs 2), .ref 1, .int 0, .ref 225]) (H' := _) (kc' := 0) (ks' := 0) rfl ?_
        apply RP.callX
        rfl; rfl; rfl; rfl; rfl; rfl; rfl
        ·
          refine seg_RP (f := 3000) (d := 1997) 2 (pc' := 2) (lv' := [(0, .ref 1), (1, .int (xs 2))]) (st' := [.int (xs 2), .ref 1]) (H' := _) (kc' := 0) (ks' := 0) rfl ?_
          apply RP.callP
          rfl; rfl; rfl; rfl; rfl; rfl; rfl
          ·
            refine seg_RP (f := 3000) (d := 1996) 4 (pc' := 5) (lv' := [(0, .ref 1), (1, .int (xs 2))]) (st' := [.int 7, .int 0, .int (xs 2), .ref 1]) (H' := _) (kc' := 0) (ks' := 0) rfl ?_
            apply RP.callP
            rfl; rfl; rfl; rfl; rfl; rfl; rfl
            ·
              refine seg_RP (f := 3000) (d := 1995) 2 (pc' := 2) (lv' := [(0, .ref 1), (1, .int (xs 2)), (2, .int 0), (3, .int 7)]) (st' := [.int 0, .int (xs 2)]) (H' := _) (kc' := 0) (ks' := 0) rfl ?_
              apply RP.brT
              rfl; rfl; rfl
              exact decide_eq_true (h0)
              apply RP.done
              rfl; rfl; rfl; rfl
            rfl
          rfl
        rfl
        refine seg_RP (f := 3000) (d := 1998) 1 (pc' := 14) (lv' := [(0, .ref 1), (1, .int (xs 2)), (2, .ref 225)]) (st' := [.int 1]) (H' := _) (kc' := 1) (ks' := 6) rfl ?_
        apply RP.done
        rfl; rfl; rfl; rfl
      refine seg_RP (f := 3000) (d := 1999) 7 (pc' := 536) (lv' := [(5, .int 1), (4, .int 1), (3, .ref 225), (2, .ref 196), (1, .ref 1), (0, .ref 0)]) (st' := [.int (xs 2), .ref 196]) (H' := _) (kc' := kc + 1) (ks' := ks + 6) rfl ?_
      apply RP.call
      rfl; rfl; rfl; rfl; rfl; rfl; rfl
      ·
        refine seg_RP (f := 3000) (d := 1998) 6 (pc' := 9) (lv' := [(0, .ref 196), (1, .int (xs 2))]) (st' := [.int 8, .int (xs 2), .ref 196]) (H' := _) (kc' := 0) (ks' := 0) rfl ?_
        apply RP.call
        rfl; rfl; rfl; rfl; rfl; rfl; rfl
        ·
          refine seg_RP (f := 3000) (d := 1997) 1 (pc' := 1) (lv' := [(0, .ref 196), (1, .int (xs 2)), (2, .int 8)]) (st' := [.int (xs 2)]) (H' := _) (kc' := 0) (ks' := 0) rfl ?_
          apply RP.brT
          rfl; rfl; rfl
          exact decide_eq_true (h0)
          refine seg_RP (f := 3000) (d := 1997) 2 (pc' := 14) (lv' := [(0, .ref 196), (1, .int (xs 2)), (2, .int 8)]) (st' := [.int 1]) (H' := _) (kc' := 0) (ks' := 0) rfl ?_
          apply RP.done
          rfl; rfl; rfl; rfl
        refine seg_RP (f := 3000) (d := 1998) 4 (pc' := 37) (lv' := [(0, .ref 196), (1, .int (xs 2))]) (st' := [.int 0]) (H' := _) (kc' := 0) (ks' := 0) rfl ?_
        apply RP.done
        rfl; rfl; rfl; rfl
      refine seg_RP (f := 3000) (d := 1999) 13 (pc' := 37) (lv' := [(4, .int 7), (6, .int 0), (5, .int 1), (3, .ref 225), (2, .ref 196), (1, .ref 1), (0, .ref 0)]) (st' := [.int 7, .int 7]) (H' := _) (kc' := kc + 1) (ks' := ks + 6) rfl ?_
      refine seg_RP (f := 3000) (d := 1999) 4 (pc' := 1958) (lv' := [(4, .int 7), (6, .int 0), (5, .int 1), (3, .ref 225), (2, .ref 196), (1, .ref 1), (0, .ref 0)]) (st' := [.int 1]) (H' := _) (kc' := kc + 1) (ks' := ks + 6) rfl ?_
      apply RP.done
      rfl; rfl; rfl; rfl
    · omega
    · omega
  ·
    by_cases h1 : (7 : Int32) < (xs 2)
    ·
      apply GR.mk
      ·
        refine seg_RP (f := 3000) (d := 1999) 7 (pc' := 524) (lv' := [(4, .int 1), (3, .ref 225), (2, .ref 196), (1, .ref 1), (0, .ref 0)]) (st' := [.ref 225, .int (xs 2), .ref 1]) (H' := _) (kc' := kc) (ks' := ks) rfl ?_
        apply RP.call
        rfl; rfl; rfl; rfl; rfl; rfl; rfl
        ·
          refine seg_RP (f := 3000) (d := 1998) 4 (pc' := 4) (lv' := [(0, .ref 1), (1, .int (xs 2)), (2, .ref 225)]) (st' := [.int (xs 2), .ref 1, .int 0, .ref 225]) (H' := _) (kc' := 0) (ks' := 0) rfl ?_
          apply RP.callX
          rfl; rfl; rfl; rfl; rfl; rfl; rfl
          ·
            refine seg_RP (f := 3000) (d := 1997) 2 (pc' := 2) (lv' := [(0, .ref 1), (1, .int (xs 2))]) (st' := [.int (xs 2), .ref 1]) (H' := _) (kc' := 0) (ks' := 0) rfl ?_
            apply RP.callP
            rfl; rfl; rfl; rfl; rfl; rfl; rfl
            ·
              refine seg_RP (f := 3000) (d := 1996) 4 (pc' := 5) (lv' := [(0, .ref 1), (1, .int (xs 2))]) (st' := [.int 7, .int 0, .int (xs 2), .ref 1]) (H' := _) (kc' := 0) (ks' := 0) rfl ?_
              apply RP.callP
              rfl; rfl; rfl; rfl; rfl; rfl; rfl
              ·
                refine seg_RP (f := 3000) (d := 1995) 2 (pc' := 2) (lv' := [(0, .ref 1), (1, .int (xs 2)), (2, .int 0), (3, .int 7)]) (st' := [.int 0, .int (xs 2)]) (H' := _) (kc' := 0) (ks' := 0) rfl ?_
                apply RP.brF
                rfl; rfl; rfl
                exact decide_eq_false (h0)
                refine seg_RP (f := 3000) (d := 1995) 2 (pc' := 7) (lv' := [(0, .ref 1), (1, .int (xs 2)), (2, .int 0), (3, .int 7)]) (st' := [.int 7, .int (xs 2)]) (H' := _) (kc' := 0) (ks' := 0) rfl ?_
                apply RP.brF
                rfl; rfl; rfl
                exact decide_eq_false (Int32.not_le.mpr (h1))
                apply RP.done
                rfl; rfl; rfl; rfl
              rfl
            rfl
          rfl
          refine seg_RP (f := 3000) (d := 1998) 1 (pc' := 14) (lv' := [(0, .ref 1), (1, .int (xs 2)), (2, .ref 225)]) (st' := [.int 1]) (H' := _) (kc' := 1) (ks' := 6) rfl ?_
          apply RP.done
          rfl; rfl; rfl; rfl
        refine seg_RP (f := 3000) (d := 1999) 7 (pc' := 536) (lv' := [(5, .int 1), (4, .int 1), (3, .ref 225), (2, .ref 196), (1, .ref 1), (0, .ref 0)]) (st' := [.int (xs 2), .ref 196]) (H' := _) (kc' := kc + 1) (ks' := ks + 6) rfl ?_
        apply RP.call
        rfl; rfl; rfl; rfl; rfl; rfl; rfl
        ·
          refine seg_RP (f := 3000) (d := 1998) 6 (pc' := 9) (lv' := [(0, .ref 196), (1, .int (xs 2))]) (st' := [.int 8, .int (xs 2), .ref 196]) (H' := _) (kc' := 0) (ks' := 0) rfl ?_
          apply RP.call
          rfl; rfl; rfl; rfl; rfl; rfl; rfl
          ·
            refine seg_RP (f := 3000) (d := 1997) 1 (pc' := 1) (lv' := [(0, .ref 196), (1, .int (xs 2)), (2, .int 8)]) (st' := [.int (xs 2)]) (H' := _) (kc' := 0) (ks' := 0) rfl ?_
            apply RP.brF
            rfl; rfl; rfl
            exact decide_eq_false (h0)
            refine seg_RP (f := 3000) (d := 1997) 2 (pc' := 6) (lv' := [(0, .ref 196), (1, .int (xs 2)), (2, .int 8)]) (st' := [.int 8, .int (xs 2)]) (H' := _) (kc' := 0) (ks' := 0) rfl ?_
            apply RP.brF
            rfl; rfl; rfl
            exact decide_eq_false (i32_gap (h1) (show (8 : Int32) ≤ 7 + 1 by decide) (by decide))
            refine seg_RP (f := 3000) (d := 1997) 2 (pc' := 14) (lv' := [(0, .ref 196), (1, .int (xs 2)), (2, .int 8)]) (st' := [.int 1]) (H' := _) (kc' := 0) (ks' := 0) rfl ?_
            apply RP.done
            rfl; rfl; rfl; rfl
          refine seg_RP (f := 3000) (d := 1998) 4 (pc' := 37) (lv' := [(0, .ref 196), (1, .int (xs 2))]) (st' := [.int 0]) (H' := _) (kc' := 0) (ks' := 0) rfl ?_
          apply RP.done
          rfl; rfl; rfl; rfl
        refine seg_RP (f := 3000) (d := 1999) 13 (pc' := 37) (lv' := [(4, .int 7), (6, .int 0), (5, .int 1), (3, .ref 225), (2, .ref 196), (1, .ref 1), (0, .ref 0)]) (st' := [.int 7, .int 7]) (H' := _) (kc' := kc + 1) (ks' := ks + 6) rfl ?_
        refine seg_RP (f := 3000) (d := 1999) 4 (pc' := 1958) (lv' := [(4, .int 7), (6, .int 0), (5, .int 1), (3, .ref 225), (2, .ref 196), (1, .ref 1), (0, .ref 0)]) (st' := [.int 1]) (H' := _) (kc' := kc + 1) (ks' := ks + 6) rfl ?_
        apply RP.done
        rfl; rfl; rfl; rfl
      · omega
      · omega
    ·
      apply GR.mk
      ·
        refine seg_RP (f := 3000) (d := 1999) 7 (pc' := 524) (lv' := [(4, .int 1), (3, .ref 225), (2, .ref 196), (1, .ref 1), (0, .ref 0)]) (st' := [.ref 225, .int (xs 2), .ref 1]) (H' := _) (kc' := kc) (ks' := ks) rfl ?_
        apply RP.call
        rfl; rfl; rfl; rfl; rfl; rfl; rfl
        ·
          refine seg_RP (f := 3000) (d := 1998) 4 (pc' := 4) (lv' := [(0, .ref 1), (1, .int (xs 2)), (2, .ref 225)]) (st' := [.int (xs 2), .ref 1, .int 0, .ref 225]) (H' := _) (kc' := 0) (ks' := 0) rfl ?_
          apply RP.callX
          rfl; rfl; rfl; rfl; rfl; rfl; rfl
          ·
            refine seg_RP (f := 3000) (d := 1997) 2 (pc' := 2) (lv' := [(0, .ref 1), (1, .int (xs 2))]) (st' := [.int (xs 2), .ref 1]) (H' := _) (kc' := 0) (ks' := 0) rfl ?_
            apply RP.call
            rfl; rfl; rfl; rfl; rfl; rfl; rfl
            ·
              refine seg_RP (f := 3000) (d := 1996) 4 (pc' := 5) (lv' := [(0, .ref 1), (1, .int (xs 2))]) (st' := [.int 7, .int 0, .int (xs 2), .ref 1]) (H' := _) (kc' := 0) (ks' := 0) rfl ?_
              apply RP.call
              rfl; rfl; rfl; rfl; rfl; rfl; rfl
              ·
                refine seg_RP (f := 3000) (d := 1995) 2 (pc' := 2) (lv' := [(0, .ref 1), (1, .int (xs 2)), (2, .int 0), (3, .int 7)]) (st' := [.int 0, .int (xs 2)]) (H' := _) (kc' := 0) (ks' := 0) rfl ?_
                apply RP.brF
                rfl; rfl; rfl
                exact decide_eq_false (h0)
                refine seg_RP (f := 3000) (d := 1995) 2 (pc' := 7) (lv' := [(0, .ref 1), (1, .int (xs 2)), (2, .int 0), (3, .int 7)]) (st' := [.int 7, .int (xs 2)]) (H' := _) (kc' := 0) (ks' := 0) rfl ?_
                apply RP.brT
                rfl; rfl; rfl
                exact decide_eq_true (Int32.not_lt.mp (h1))
                apply RP.done
                rfl; rfl; rfl; rfl
              apply RP.done
              rfl; rfl; rfl; rfl
            refine seg_RP (f := 3000) (d := 1997) 6 (pc' := 16) (lv' := [(0, .ref 1), (1, .int (xs 2))]) (st' := [.int 40, .int 1, .int 0, .ref 1]) (H' := _) (kc' := 0) (ks' := 0) rfl ?_
            apply RP.callP
            rfl; rfl; rfl; rfl; rfl; rfl; rfl
            ·
              refine seg_RP (f := 3000) (d := 1996) 3 (pc' := 10) (lv' := [(0, .ref 1), (1, .int 0), (2, .int 1), (3, .int 40)]) (st' := []) (H' := _) (kc' := 0) (ks' := 0) rfl ?_
              apply RP.done
              rfl; rfl; rfl; rfl
            rfl
          rfl
          refine seg_RP (f := 3000) (d := 1998) 1 (pc' := 14) (lv' := [(0, .ref 1), (1, .int (xs 2)), (2, .ref 225)]) (st' := [.int 1]) (H' := _) (kc' := 1) (ks' := 6) rfl ?_
          apply RP.done
          rfl; rfl; rfl; rfl
        refine seg_RP (f := 3000) (d := 1999) 7 (pc' := 536) (lv' := [(5, .int 1), (4, .int 1), (3, .ref 225), (2, .ref 196), (1, .ref 1), (0, .ref 0)]) (st' := [.int (xs 2), .ref 196]) (H' := _) (kc' := kc + 1) (ks' := ks + 6) rfl ?_
        apply RP.call
        rfl; rfl; rfl; rfl; rfl; rfl; rfl
        ·
          refine seg_RP (f := 3000) (d := 1998) 6 (pc' := 9) (lv' := [(0, .ref 196), (1, .int (xs 2))]) (st' := [.int 8, .int (xs 2), .ref 196]) (H' := _) (kc' := 0) (ks' := 0) rfl ?_
          apply RP.call
          rfl; rfl; rfl; rfl; rfl; rfl; rfl
          ·
            refine seg_RP (f := 3000) (d := 1997) 1 (pc' := 1) (lv' := [(0, .ref 196), (1, .int (xs 2)), (2, .int 8)]) (st' := [.int (xs 2)]) (H' := _) (kc' := 0) (ks' := 0) rfl ?_
            apply RP.brF
            rfl; rfl; rfl
            exact decide_eq_false (h0)
            refine seg_RP (f := 3000) (d := 1997) 2 (pc' := 6) (lv' := [(0, .ref 196), (1, .int (xs 2)), (2, .int 8)]) (st' := [.int 8, .int (xs 2)]) (H' := _) (kc' := 0) (ks' := 0) rfl ?_
            apply RP.brT
            rfl; rfl; rfl
            exact decide_eq_true (Int32.lt_of_le_of_lt (Int32.not_lt.mp (h1)) (show (7 : Int32) < 8 by decide))
            refine seg_RP (f := 3000) (d := 1997) 1 (pc' := 14) (lv' := [(0, .ref 196), (1, .int (xs 2)), (2, .int 8)]) (st' := [.int 0]) (H' := _) (kc' := 0) (ks' := 0) rfl ?_
            apply RP.done
            rfl; rfl; rfl; rfl
          refine seg_RP (f := 3000) (d := 1998) 8 (pc' := 37) (lv' := [(0, .ref 196), (1, .int (xs 2))]) (st' := [.int 0]) (H' := _) (kc' := 0) (ks' := 0) rfl ?_
          apply RP.done
          rfl; rfl; rfl; rfl
        refine seg_RP (f := 3000) (d := 1999) 13 (pc' := 37) (lv' := [(4, .int 7), (6, .int 0), (5, .int 1), (3, .ref 225), (2, .ref 196), (1, .ref 1), (0, .ref 0)]) (st' := [.int 7, .int 7]) (H' := _) (kc' := kc + 1) (ks' := ks + 6) rfl ?_
        refine seg_RP (f := 3000) (d := 1999) 4 (pc' := 1958) (lv' := [(4, .int 7), (6, .int 0), (5, .int 1), (3, .ref 225), (2, .ref 196), (1, .ref 1), (0, .ref 0)]) (st' := [.int 1]) (H' := _) (kc' := kc + 1) (ks' := ks + 6) rfl ?_
        apply RP.done
        rfl; rfl; rfl; rfl
      · omega
      · omega
set_option maxRecDepth 100000 in
set_option maxHeartbeats 4000000 in
theorem first_6 {xs : Nat → Int32} {kc ks : Nat} {v0 : Int32} {c1 : aC} {c2 : aC} {v3 : Int32} {c4 : aC} {c5 : aC} {c6 : aC} {c7 : aC} {c8 : aC} {c9 : aC} {c10 : aC} {c11 : aC} {v12 : Int32} {c13 : aC} {c14 : aC} {c15 : aC} {c16 : aC} {v17 : Int32} : GR xs 572 (hpV v0 c1 c2 v3 c4 c5 c6 c7 c8 c9 c10 c11 v12 c13 c14 c15 c16 v17) kc ks := by
  by_cases h0 : (xs 2) < 0
  ·
    apply GR.mk
    ·
      refine seg_RP (f := 3000) (d := 1999) 7 (pc' := 580) (lv' := [(4, .int 1), (3, .ref 225), (2, .ref 196), (1, .ref 1), (0, .ref 0)]) (st' := [.ref 225, .int (xs 2), .ref 1]) (H' := _) (kc' := kc) (ks' := ks) rfl ?_
      apply RP.call
      rfl; rfl; rfl; rfl; rfl; rfl; rfl
      ·
        refine seg_RP (f := 3000) (d := 1998) 4 (pc' := 4) (lv' := [(0, .ref 1), (1, .int (xs 2)), (2, .ref 225)]) (st' := [.int (xs 2), .ref 1, .int 0, .ref 225]) (H' := _) (kc' := 0) (ks' := 0) rfl ?_
        apply RP.callX
        rfl; rfl; rfl; rfl; rfl; rfl; rfl
        ·
          refine seg_RP (f := 3000) (d := 1997) 2 (pc' := 2) (lv' := [(0, .ref 1), (1, .int (xs 2))]) (st' := [.int (xs 2), .ref 1]) (H' := _) (kc' := 0) (ks' := 0) rfl ?_
          apply RP.callP
          rfl; rfl; rfl; rfl; rfl; rfl; rfl
          ·
            refine seg_RP (f := 3000) (d := 1996) 4 (pc' := 5) (lv' := [(0, .ref 1), (1, .int (xs 2))]) (st' := [.int 7, .int 0, .int (xs 2), .ref 1]) (H' := _) (kc' := 0) (ks' := 0) rfl ?_
            apply RP.callP
            rfl; rfl; rfl; rfl; rfl; rfl; rfl
            ·
              refine seg_RP (f := 3000) (d := 1995) 2 (pc' := 2) (lv' := [(0, .ref 1), (1, .int (xs 2)), (2, .int 0), (3, .int 7)]) (st' := [.int 0, .int (xs 2)]) (H' := _) (kc' := 0) (ks' := 0) rfl ?_
              apply RP.brT
              rfl; rfl; rfl
              exact decide_eq_true (h0)
              apply RP.done
              rfl; rfl; rfl; rfl
            rfl
          rfl
        rfl
        refine seg_RP (f := 3000) (d := 1998) 1 (pc' := 14) (lv' := [(0, .ref 1), (1, .int (xs 2)), (2, .ref 225)]) (st' := [.int 1]) (H' := _) (kc' := 1) (ks' := 6) rfl ?_
        apply RP.done
        rfl; rfl; rfl; rfl
      refine seg_RP (f := 3000) (d := 1999) 7 (pc' := 592) (lv' := [(5, .int 1), (4, .int 1), (3, .ref 225), (2, .ref 196), (1, .ref 1), (0, .ref 0)]) (st' := [.int (xs 2), .ref 196]) (H' := _) (kc' := kc + 1) (ks' := ks + 6) rfl ?_
      apply RP.call
      rfl; rfl; rfl; rfl; rfl; rfl; rfl
      ·
        refine seg_RP (f := 3000) (d := 1998) 6 (pc' := 9) (lv' := [(0, .ref 196), (1, .int (xs 2))]) (st' := [.int 8, .int (xs 2), .ref 196]) (H' := _) (kc' := 0) (ks' := 0) rfl ?_
        apply RP.call
        rfl; rfl; rfl; rfl; rfl; rfl; rfl
        ·
          refine seg_RP (f := 3000) (d := 1997) 1 (pc' := 1) (lv' := [(0, .ref 196), (1, .int (xs 2)), (2, .int 8)]) (st' := [.int (xs 2)]) (H' := _) (kc' := 0) (ks' := 0) rfl ?_
          apply RP.brT
          rfl; rfl; rfl
          exact decide_eq_true (h0)
          refine seg_RP (f := 3000) (d := 1997) 2 (pc' := 14) (lv' := [(0, .ref 196), (1, .int (xs 2)), (2, .int 8)]) (st' := [.int 1]) (H' := _) (kc' := 0) (ks' := 0) rfl ?_
          apply RP.done
          rfl; rfl; rfl; rfl
        refine seg_RP (f := 3000) (d := 1998) 4 (pc' := 37) (lv' := [(0, .ref 196), (1, .int (xs 2))]) (st' := [.int 0]) (H' := _) (kc' := 0) (ks' := 0) rfl ?_
        apply RP.done
        rfl; rfl; rfl; rfl
      refine seg_RP (f := 3000) (d := 1999) 13 (pc' := 37) (lv' := [(4, .int 7), (6, .int 0), (5, .int 1), (3, .ref 225), (2, .ref 196), (1, .ref 1), (0, .ref 0)]) (st' := [.int 7, .int 7]) (H' := _) (kc' := kc + 1) (ks' := ks + 6) rfl ?_
      refine seg_RP (f := 3000) (d := 1999) 4 (pc' := 1958) (lv' := [(4, .int 7), (6, .int 0), (5, .int 1), (3, .ref 225), (2, .ref 196), (1, .ref 1), (0, .ref 0)]) (st' := [.int 1]) (H' := _) (kc' := kc + 1) (ks' := ks + 6) rfl ?_
      apply RP.done
      rfl; rfl; rfl; rfl
    · omega
    · omega
  ·
    by_cases h1 : (7 : Int32) < (xs 2)
    ·
      apply GR.mk
      ·
        refine seg_RP (f := 3000) (d := 1999) 7 (pc' := 580) (lv' := [(4, .int 1), (3, .ref 225), (2, .ref 196), (1, .ref 1), (0, .ref 0)]) (st' := [.ref 225, .int (xs 2), .ref 1]) (H' := _) (kc' := kc) (ks' := ks) rfl ?_
        apply RP.call
        rfl; rfl; rfl; rfl; rfl; rfl; rfl
        ·
          refine seg_RP (f := 3000) (d := 1998) 4 (pc' := 4) (lv' := [(0, .ref 1), (1, .int (xs 2)), (2, .ref 225)]) (st' := [.int (xs 2), .ref 1, .int 0, .ref 225]) (H' := _) (kc' := 0) (ks' := 0) rfl ?_
          apply RP.callX
          rfl; rfl; rfl; rfl; rfl; rfl; rfl
          ·
            refine seg_RP (f := 3000) (d := 1997) 2 (pc' := 2) (lv' := [(0, .ref 1), (1, .int (xs 2))]) (st' := [.int (xs 2), .ref 1]) (H' := _) (kc' := 0) (ks' := 0) rfl ?_
            apply RP.callP
            rfl; rfl; rfl; rfl; rfl; rfl; rfl
            ·
              refine seg_RP (f := 3000) (d := 1996) 4 (pc' := 5) (lv' := [(0, .ref 1), (1, .int (xs 2))]) (st' := [.int 7, .int 0, .int (xs 2), .ref 1]) (H' := _) (kc' := 0) (ks' := 0) rfl ?_
              apply RP.callP
              rfl; rfl; rfl; rfl; rfl; rfl; rfl
              ·
                refine seg_RP (f := 3000) (d := 1995) 2 (pc' := 2) (lv' := [(0, .ref 1), (1, .int (xs 2)), (2, .int 0), (3, .int 7)]) (st' := [.int 0, .int (xs 2)]) (H' := _) (kc' := 0) (ks' := 0) rfl ?_
                apply RP.brF
                rfl; rfl; rfl
                exact decide_eq_false (h0)
                refine seg_RP (f := 3000) (d := 1995) 2 (pc' := 7) (lv' := [(0, .ref 1), (1, .int (xs 2)), (2, .int 0), (3, .int 7)]) (st' := [.int 7, .int (xs 2)]) (H' := _) (kc' := 0) (ks' := 0) rfl ?_
                apply RP.brF
                rfl; rfl; rfl
                exact decide_eq_false (Int32.not_le.mpr (h1))
                apply RP.done
                rfl; rfl; rfl; rfl
              rfl
            rfl
          rfl
          refine seg_RP (f := 3000) (d := 1998) 1 (pc' := 14) (lv' := [(0, .ref 1), (1, .int (xs 2)), (2, .ref 225)]) (st' := [.int 1]) (H' := _) (kc' := 1) (ks' := 6) rfl ?_
          apply RP.done
          rfl; rfl; rfl; rfl
        refine seg_RP (f := 3000) (d := 1999) 7 (pc' := 592) (lv' := [(5, .int 1), (4, .int 1), (3, .ref 225), (2, .ref 196), (1, .ref 1), (0, .ref 0)]) (st' := [.int (xs 2), .ref 196]) (H' := _) (kc' := kc + 1) (ks' := ks + 6) rfl ?_
        apply RP.call
        rfl; rfl; rfl; rfl; rfl; rfl; rfl
        ·
          refine seg_RP (f := 3000) (d := 1998) 6 (pc' := 9) (lv' := [(0, .ref 196), (1, .int (xs 2))]) (st' := [.int 8, .int (xs 2), .ref 196]) (H' := _) (kc' := 0) (ks' := 0) rfl ?_
          apply RP.call
          rfl; rfl; rfl; rfl; rfl; rfl; rfl
          ·
            refine seg_RP (f := 3000) (d := 1997) 1 (pc' := 1) (lv' := [(0, .ref 196), (1, .int (xs 2)), (2, .int 8)]) (st' := [.int (xs 2)]) (H' := _) (kc' := 0) (ks' := 0) rfl ?_
            apply RP.brF
            rfl; rfl; rfl
            exact decide_eq_false (h0)
            refine seg_RP (f := 3000) (d := 1997) 2 (pc' := 6) (lv' := [(0, .ref 196), (1, .int (xs 2)), (2, .int 8)]) (st' := [.int 8, .int (xs 2)]) (H' := _) (kc' := 0) (ks' := 0) rfl ?_
            apply RP.brF
            rfl; rfl; rfl
            exact decide_eq_false (i32_gap (h1) (show (8 : Int32) ≤ 7 + 1 by decide) (by decide))
            refine seg_RP (f := 3000) (d := 1997) 2 (pc' := 14) (lv' := [(0, .ref 196), (1, .int (xs 2)), (2, .int 8)]) (st' := [.int 1]) (H' := _) (kc' := 0) (ks' := 0) rfl ?_
            apply RP.done
            rfl; rfl; rfl; rfl
          refine seg_RP (f := 3000) (d := 1998) 4 (pc' := 37) (lv' := [(0, .ref 196), (1, .int (xs 2))]) (st' := [.int 0]) (H' := _) (kc' := 0) (ks' := 0) rfl ?_
          apply RP.done
          rfl; rfl; rfl; rfl
        refine seg_RP (f := 3000) (d := 1999) 13 (pc' := 37) (lv' := [(4, .int 7), (6, .int 0), (5, .int 1), (3, .ref 225), (2, .ref 196), (1, .ref 1), (0, .ref 0)]) (st' := [.int 7, .int 7]) (H' := _) (kc' := kc + 1) (ks' := ks + 6) rfl ?_
        refine seg_RP (f := 3000) (d := 1999) 4 (pc' := 1958) (lv' := [(4, .int 7), (6, .int 0), (5, .int 1), (3, .ref 225), (2, .ref 196), (1, .ref 1), (0, .ref 0)]) (st' := [.int 1]) (H' := _) (kc' := kc + 1) (ks' := ks + 6) rfl ?_
        apply RP.done
        rfl; rfl; rfl; rfl
      · omega
      · omega
    ·
      apply GR.mk
      ·
        refine seg_RP (f := 3000) (d := 1999) 7 (pc' := 580) (lv' := [(4, .int 1), (3, .ref 225), (2, .ref 196), (1, .ref 1), (0, .ref 0)]) (st' := [.ref 225, .int (xs 2), .ref 1]) (H' := _) (kc' := kc) (ks' := ks) rfl ?_
        apply RP.call
        rfl; rfl; rfl; rfl; rfl; rfl; rfl
        ·
          refine seg_RP (f := 3000) (d := 1998) 4 (pc' := 4) (lv' := [(0, .ref 1), (1, .int (xs 2)), (2, .ref 225)]) (st' := [.int (xs 2), .ref 1, .int 0, .ref 225]) (H' := _) (kc' := 0) (ks' := 0) rfl ?_
          apply RP.callX
          rfl; rfl; rfl; rfl; rfl; rfl; rfl
          ·
            refine seg_RP (f := 3000) (d := 1997) 2 (pc' := 2) (lv' := [(0, .ref 1), (1, .int (xs 2))]) (st' := [.int (xs 2), .ref 1]) (H' := _) (kc' := 0) (ks' := 0) rfl ?_
            apply RP.call
            rfl; rfl; rfl; rfl; rfl; rfl; rfl
            ·
              refine seg_RP (f := 3000) (d := 1996) 4 (pc' := 5) (lv' := [(0, .ref 1), (1, .int (xs 2))]) (st' := [.int 7, .int 0, .int (xs 2), .ref 1]) (H' := _) (kc' := 0) (ks' := 0) rfl ?_
              apply RP.call
              rfl; rfl; rfl; rfl; rfl; rfl; rfl
              ·
                refine seg_RP (f := 3000) (d := 1995) 2 (pc' := 2) (lv' := [(0, .ref 1), (1, .int (xs 2)), (2, .int 0), (3, .int 7)]) (st' := [.int 0, .int (xs 2)]) (H' := _) (kc' := 0) (ks' := 0) rfl ?_
                apply RP.brF
                rfl; rfl; rfl
                exact decide_eq_false (h0)
                refine seg_RP (f := 3000) (d := 1995) 2 (pc' := 7) (lv' := [(0, .ref 1), (1, .int (xs 2)), (2, .int 0), (3, .int 7)]) (st' := [.int 7, .int (xs 2)]) (H' := _) (kc' := 0) (ks' := 0) rfl ?_
                apply RP.brT
                rfl; rfl; rfl
                exact decide_eq_true (Int32.not_lt.mp (h1))
                apply RP.done
                rfl; rfl; rfl; rfl
              apply RP.done
              rfl; rfl; rfl; rfl
            refine seg_RP (f := 3000) (d := 1997) 6 (pc' := 16) (lv' := [(0, .ref 1), (1, .int (xs 2))]) (st' := [.int 40, .int 1, .int 0, .ref 1]) (H' := _) (kc' := 0) (ks' := 0) rfl ?_
            apply RP.callP
            rfl; rfl; rfl; rfl; rfl; rfl; rfl
            ·
              refine seg_RP (f := 3000) (d := 1996) 3 (pc' := 10) (lv' := [(0, .ref 1), (1, .int 0), (2, .int 1), (3, .int 40)]) (st' := []) (H' := _) (kc' := 0) (ks' := 0) rfl ?_
              apply RP.done
              rfl; rfl; rfl; rfl
            rfl
          rfl
          refine seg_RP (f := 3000) (d := 1998) 1 (pc' := 14) (lv' := [(0, .ref 1), (1, .int (xs 2)), (2, .ref 225)]) (st' := [.int 1]) (H' := _) (kc' := 1) (ks' := 6) rfl ?_
          apply RP.done
          rfl; rfl; rfl; rfl
        refine seg_RP (f := 3000) (d := 1999) 7 (pc' := 592) (lv' := [(5, .int 1), (4, .int 1), (3, .ref 225), (2, .ref 196), (1, .ref 1), (0, .ref 0)]) (st' := [.int (xs 2), .ref 196]) (H' := _) (kc' := kc + 1) (ks' := ks + 6) rfl ?_
        apply RP.call
        rfl; rfl; rfl; rfl; rfl; rfl; rfl
        ·
          refine seg_RP (f := 3000) (d := 1998) 6 (pc' := 9) (lv' := [(0, .ref 196), (1, .int (xs 2))]) (st' := [.int 8, .int (xs 2), .ref 196]) (H' := _) (kc' := 0) (ks' := 0) rfl ?_
          apply RP.call
          rfl; rfl; rfl; rfl; rfl; rfl; rfl
          ·
            refine seg_RP (f := 3000) (d := 1997) 1 (pc' := 1) (lv' := [(0, .ref 196), (1, .int (xs 2)), (2, .int 8)]) (st' := [.int (xs 2)]) (H' := _) (kc' := 0) (ks' := 0) rfl ?_
            apply RP.brF
            rfl; rfl; rfl
            exact decide_eq_false (h0)
            refine seg_RP (f := 3000) (d := 1997) 2 (pc' := 6) (lv' := [(0, .ref 196), (1, .int (xs 2)), (2, .int 8)]) (st' := [.int 8, .int (xs 2)]) (H' := _) (kc' := 0) (ks' := 0) rfl ?_
            apply RP.brT
            rfl; rfl; rfl
            exact decide_eq_true (Int32.lt_of_le_of_lt (Int32.not_lt.mp (h1)) (show (7 : Int32) < 8 by decide))
            refine seg_RP (f := 3000) (d := 1997) 1 (pc' := 14) (lv' := [(0, .ref 196), (1, .int (xs 2)), (2, .int 8)]) (st' := [.int 0]) (H' := _) (kc' := 0) (ks' := 0) rfl ?_
            apply RP.done
            rfl; rfl; rfl; rfl
          refine seg_RP (f := 3000) (d := 1998) 8 (pc' := 37) (lv' := [(0, .ref 196), (1, .int (xs 2))]) (st' := [.int 0]) (H' := _) (kc' := 0) (ks' := 0) rfl ?_
          apply RP.done
          rfl; rfl; rfl; rfl
        refine seg_RP (f := 3000) (d := 1999) 13 (pc' := 37) (lv' := [(4, .int 7), (6, .int 0), (5, .int 1), (3, .ref 225), (2, .ref 196), (1, .ref 1), (0, .ref 0)]) (st' := [.int 7, .int 7]) (H' := _) (kc' := kc + 1) (ks' := ks + 6) rfl ?_
        refine seg_RP (f := 3000) (d := 1999) 4 (pc' := 1958) (lv' := [(4, .int 7), (6, .int 0), (5, .int 1), (3, .ref 225), (2, .ref 196), (1, .ref 1), (0, .ref 0)]) (st' := [.int 1]) (H' := _) (kc' := kc + 1) (ks' := ks + 6) rfl ?_
        apply RP.done
        rfl; rfl; rfl; rfl
      · omega
      · omega
set_option maxRecDepth 100000 in
set_option maxHeartbeats 4000000 in
theorem first_7 {xs : Nat → Int32} {kc ks : Nat} {v0 : Int32} {c1 : aC} {c2 : aC} {v3 : Int32} {c4 : aC} {c5 : aC} {c6 : aC} {c7 : aC} {c8 : aC} {c9 : aC} {c10 : aC} {c11 : aC} {v12 : Int32} {c13 : aC} {c14 : aC} {c15 : aC} {c16 : aC} {v17 : Int32} : GR xs 628 (hpV v0 c1 c2 v3 c4 c5 c6 c7 c8 c9 c10 c11 v12 c13 c14 c15 c16 v17) kc ks := by
  by_cases h0 : (xs 3) = 0
  ·
    by_cases h1 : (xs 2) < 0
    ·
      apply GR.mk
      ·
        refine seg_RP (f := 3000) (d := 1999) 11 (pc' := 641) (lv' := [(4, .int 1), (3, .ref 225), (2, .ref 196), (1, .ref 1), (0, .ref 0)]) (st' := [.int (xs 3), .int (xs 2), .ref 1]) (H' := _) (kc' := kc) (ks' := ks) rfl ?_
        rw [h0]
        refine seg_RP (f := 3000) (d := 1999) 3 (pc' := 650) (lv' := [(4, .int 1), (3, .ref 225), (2, .ref 196), (1, .ref 1), (0, .ref 0)]) (st' := [.ref 225, .int 0, .int (xs 2), .ref 1]) (H' := _) (kc' := kc) (ks' := ks) rfl ?_
        apply RP.call
        rfl; rfl; rfl; rfl; rfl; rfl; rfl
        ·
          refine seg_RP (f := 3000) (d := 1998) 5 (pc' := 5) (lv' := [(0, .ref 1), (1, .int (xs 2)), (2, .int 0), (3, .ref 225)]) (st' := [.int 0, .int (xs 2), .ref 1, .int 0, .ref 225]) (H' := _) (kc' := 0) (ks' := 0) rfl ?_
          apply RP.callX
          rfl; rfl; rfl; rfl; rfl; rfl; rfl
          ·
            refine seg_RP (f := 3000) (d := 1997) 2 (pc' := 2) (lv' := [(0, .ref 1), (1, .int (xs 2)), (2, .int 0)]) (st' := [.int (xs 2), .ref 1]) (H' := _) (kc' := 0) (ks' := 0) rfl ?_
            apply RP.callP
            rfl; rfl; rfl; rfl; rfl; rfl; rfl
            ·
              refine seg_RP (f := 3000) (d := 1996) 4 (pc' := 5) (lv' := [(0, .ref 1), (1, .int (xs 2))]) (st' := [.int 7, .int 0, .int (xs 2), .ref 1]) (H' := _) (kc' := 0) (ks' := 0) rfl ?_
              apply RP.callP
              rfl; rfl; rfl; rfl; rfl; rfl; rfl
              ·
                refine seg_RP (f := 3000) (d := 1995) 2 (pc' := 2) (lv' := [(0, .ref 1), (1, .int (xs 2)), (2, .int 0), (3, .int 7)]) (st' := [.int 0, .int (xs 2)]) (H' := _) (kc' := 0) (ks' := 0) rfl ?_
                apply RP.brT
                rfl; rfl; rfl
                exact decide_eq_true (h1)
                apply RP.done
                rfl; rfl; rfl; rfl
              rfl
            rfl
          rfl
          refine seg_RP (f := 3000) (d := 1998) 1 (pc' := 16) (lv' := [(0, .ref 1), (1, .int (xs 2)), (2, .int 0), (3, .ref 225)]) (st' := [.int 1]) (H' := _) (kc' := 1) (ks' := 6) rfl ?_
          apply RP.done
          rfl; rfl; rfl; rfl
        refine seg_RP (f := 3000) (d := 1999) 12 (pc' := 668) (lv' := [(5, .int 1), (4, .int 1), (3, .ref 225), (2, .ref 196), (1, .ref 1), (0, .ref 0)]) (st' := [.int (xs 3), .int (xs 2), .ref 196]) (H' := _) (kc' := kc + 1) (ks' := ks + 6) rfl ?_
        rw [h0]
        refine seg_RP (f := 3000) (d := 1999) 2 (pc' := 676) (lv' := [(5, .int 1), (4, .int 1), (3, .ref 225), (2, .ref 196), (1, .ref 1), (0, .ref 0)]) (st' := [.int 0, .int (xs 2), .ref 196]) (H' := _) (kc' := kc + 1) (ks' := ks + 6) rfl ?_
        apply RP.call
        rfl; rfl; rfl; rfl; rfl; rfl; rfl
        ·
          refine seg_RP (f := 3000) (d := 1998) 6 (pc' := 9) (lv' := [(0, .ref 196), (1, .int (xs 2)), (2, .int 0)]) (st' := [.int 8, .int (xs 2), .ref 196]) (H' := _) (kc' := 0) (ks' := 0) rfl ?_
          apply RP.call
          rfl; rfl; rfl; rfl; rfl; rfl; rfl
          ·
            refine seg_RP (f := 3000) (d := 1997) 1 (pc' := 1) (lv' := [(0, .ref 196), (1, .int (xs 2)), (2, .int 8)]) (st' := [.int (xs 2)]) (H' := _) (kc' := 0) (ks' := 0) rfl ?_
            apply RP.brT
            rfl; rfl; rfl
            exact decide_eq_true (h1)
            refine seg_RP (f := 3000) (d := 1997) 2 (pc' := 14) (lv' := [(0, .ref 196), (1, .int (xs 2)), (2, .int 8)]) (st' := [.int 1]) (H' := _) (kc' := 0) (ks' := 0) rfl ?_
            apply RP.done
            rfl; rfl; rfl; rfl
          refine seg_RP (f := 3000) (d := 1998) 4 (pc' := 29) (lv' := [(0, .ref 196), (1, .int (xs 2)), (2, .int 0)]) (st' := [.int 0]) (H' := _) (kc' := 0) (ks' := 0) rfl ?_
          apply RP.done
          rfl; rfl; rfl; rfl
        refine seg_RP (f := 3000) (d := 1999) 13 (pc' := 37) (lv' := [(4, .int 7), (6, .int 0), (5, .int 1), (3, .ref 225), (2, .ref 196), (1, .ref 1), (0, .ref 0)]) (st' := [.int 7, .int 7]) (H' := _) (kc' := kc + 1) (ks' := ks + 6) rfl ?_
        refine seg_RP (f := 3000) (d := 1999) 4 (pc' := 1958) (lv' := [(4, .int 7), (6, .int 0), (5, .int 1), (3, .ref 225), (2, .ref 196), (1, .ref 1), (0, .ref 0)]) (st' := [.int 1]) (H' := _) (kc' := kc + 1) (ks' := ks + 6) rfl ?_
        apply RP.done
        rfl; rfl; rfl; rfl
      · omega
      · omega
    ·
      by_cases h2 : (7 : Int32) < (xs 2)
      ·
        apply GR.mk
        ·
          refine seg_RP (f := 3000) (d := 1999) 11 (pc' := 641) (lv' := [(4, .int 1), (3, .ref 225), (2, .ref 196), (1, .ref 1), (0, .ref 0)]) (st' := [.int (xs 3), .int (xs 2), .ref 1]) (H' := _) (kc' := kc) (ks' := ks) rfl ?_
          rw [h0]
          refine seg_RP (f := 3000) (d := 1999) 3 (pc' := 650) (lv' := [(4, .int 1), (3, .ref 225), (2, .ref 196), (1, .ref 1), (0, .ref 0)]) (st' := [.ref 225, .int 0, .int (xs 2), .ref 1]) (H' := _) (kc' := kc) (ks' := ks) rfl ?_
          apply RP.call
          rfl; rfl; rfl; rfl; rfl; rfl; rfl
          ·
            refine seg_RP (f := 3000) (d := 1998) 5 (pc' := 5) (lv' := [(0, .ref 1), (1, .int (xs 2)), (2, .int 0), (3, .ref 225)]) (st' := [.int 0, .int (xs 2), .ref 1, .int 0, .ref 225]) (H' := _) (kc' := 0) (ks' := 0) rfl ?_
            apply RP.callX
            rfl; rfl; rfl; rfl; rfl; rfl; rfl
            ·
              refine seg_RP (f := 3000) (d := 1997) 2 (pc' := 2) (lv' := [(0, .ref 1), (1, .int (xs 2)), (2, .int 0)]) (st' := [.int (xs 2), .ref 1]) (H' := _) (kc' := 0) (ks' := 0) rfl ?_
              apply RP.callP
              rfl; rfl; rfl; rfl; rfl; rfl; rfl
              ·
                refine seg_RP (f := 3000) (d := 1996) 4 (pc' := 5) (lv' := [(0, .ref 1), (1, .int (xs 2))]) (st' := [.int 7, .int 0, .int (xs 2), .ref 1]) (H' := _) (kc' := 0) (ks' := 0) rfl ?_
                apply RP.callP
                rfl; rfl; rfl; rfl; rfl; rfl; rfl
                ·
                  refine seg_RP (f := 3000) (d := 1995) 2 (pc' := 2) (lv' := [(0, .ref 1), (1, .int (xs 2)), (2, .int 0), (3, .int 7)]) (st' := [.int 0, .int (xs 2)]) (H' := _) (kc' := 0) (ks' := 0) rfl ?_
                  apply RP.brF
                  rfl; rfl; rfl
                  exact decide_eq_false (h1)
                  refine seg_RP (f := 3000) (d := 1995) 2 (pc' := 7) (lv' := [(0, .ref 1), (1, .int (xs 2)), (2, .int 0), (3, .int 7)]) (st' := [.int 7, .int (xs 2)]) (H' := _) (kc' := 0) (ks' := 0) rfl ?_
                  apply RP.brF
                  rfl; rfl; rfl
                  exact decide_eq_false (Int32.not_le.mpr (h2))
                  apply RP.done
                  rfl; rfl; rfl; rfl
                rfl
              rfl
            rfl
            refine seg_RP (f := 3000) (d := 1998) 1 (pc' := 16) (lv' := [(0, .ref 1), (1, .int (xs 2)), (2, .int 0), (3, .ref 225)]) (st' := [.int 1]) (H' := _) (kc' := 1) (ks' := 6) rfl ?_
            apply RP.done
            rfl; rfl; rfl; rfl
          refine seg_RP (f := 3000) (d := 1999) 12 (pc' := 668) (lv' := [(5, .int 1), (4, .int 1), (3, .ref 225), (2, .ref 196), (1, .ref 1), (0, .ref 0)]) (st' := [.int (xs 3), .int (xs 2), .ref 196]) (H' := _) (kc' := kc + 1) (ks' := ks + 6) rfl ?_
          rw [h0]
          refine seg_RP (f := 3000) (d := 1999) 2 (pc' := 676) (lv' := [(5, .int 1), (4, .int 1), (3, .ref 225), (2, .ref 196), (1, .ref 1), (0, .ref 0)]) (st' := [.int 0, .int (xs 2), .ref 196]) (H' := _) (kc' := kc + 1) (ks' := ks + 6) rfl ?_
          apply RP.call
          rfl; rfl; rfl; rfl; rfl; rfl; rfl
          ·
            refine seg_RP (f := 3000) (d := 1998) 6 (pc' := 9) (lv' := [(0, .ref 196), (1, .int (xs 2)), (2, .int 0)]) (st' := [.int 8, .int (xs 2), .ref 196]) (H' := _) (kc' := 0) (ks' := 0) rfl ?_
            apply RP.call
            rfl; rfl; rfl; rfl; rfl; rfl; rfl
            ·
              refine seg_RP (f := 3000) (d := 1997) 1 (pc' := 1) (lv' := [(0, .ref 196), (1, .int (xs 2)), (2, .int 8)]) (st' := [.int (xs 2)]) (H' := _) (kc' := 0) (ks' := 0) rfl ?_
              apply RP.brF
              rfl; rfl; rfl
              exact decide_eq_false (h1)
              refine seg_RP (f := 3000) (d := 1997) 2 (pc' := 6) (lv' := [(0, .ref 196), (1, .int (xs 2)), (2, .int 8)]) (st' := [.int 8, .int (xs 2)]) (H' := _) (kc' := 0) (ks' := 0) rfl ?_
              apply RP.brF
              rfl; rfl; rfl
              exact decide_eq_false (i32_gap (h2) (show (8 : Int32) ≤ 7 + 1 by decide) (by decide))
              refine seg_RP (f := 3000) (d := 1997) 2 (pc' := 14) (lv' := [(0, .ref 196), (1, .int (xs 2)), (2, .int 8)]) (st' := [.int 1]) (H' := _) (kc' := 0) (ks' := 0) rfl ?_
              apply RP.done
              rfl; rfl; rfl; rfl
            refine seg_RP (f := 3000) (d := 1998) 4 (pc' := 29) (lv' := [(0, .ref 196), (1, .int (xs 2)), (2, .int 0)]) (st' := [.int 0]) (H' := _) (kc' := 0) (ks' := 0) rfl ?_
            apply RP.done
            rfl; rfl; rfl; rfl
          refine seg_RP (f := 3000) (d := 1999) 13 (pc' := 37) (lv' := [(4, .int 7), (6, .int 0), (5, .int 1), (3, .ref 225), (2, .ref 196), (1, .ref 1), (0, .ref 0)]) (st' := [.int 7, .int 7]) (H' := _) (kc' := kc + 1) (ks' := ks + 6) rfl ?_
          refine seg_RP (f := 3000) (d := 1999) 4 (pc' := 1958) (lv' := [(4, .int 7), (6, .int 0), (5, .int 1), (3, .ref 225), (2, .ref 196), (1, .ref 1), (0, .ref 0)]) (st' := [.int 1]) (H' := _) (kc' := kc + 1) (ks' := ks + 6) rfl ?_
          apply RP.done
          rfl; rfl; rfl; rfl
        · omega
        · omega
      ·
        apply GR.mk
        ·
          refine seg_RP (f := 3000) (d := 1999) 11 (pc' := 641) (lv' := [(4, .int 1), (3, .ref 225), (2, .ref 196), (1, .ref 1), (0, .ref 0)]) (st' := [.int (xs 3), .int (xs 2), .ref 1]) (H' := _) (kc' := kc) (ks' := ks) rfl ?_
          rw [h0]
          refine seg_RP (f := 3000) (d := 1999) 3 (pc' := 650) (lv' := [(4, .int 1), (3, .ref 225), (2, .ref 196), (1, .ref 1), (0, .ref 0)]) (st' := [.ref 225, .int 0, .int (xs 2), .ref 1]) (H' := _) (kc' := kc) (ks' := ks) rfl ?_
          apply RP.call
          rfl; rfl; rfl; rfl; rfl; rfl; rfl
          ·
            refine seg_RP (f := 3000) (d := 1998) 5 (pc' := 5) (lv' := [(0, .ref 1), (1, .int (xs 2)), (2, .int 0), (3, .ref 225)]) (st' := [.int 0, .int (xs 2), .ref 1, .int 0, .ref 225]) (H' := _) (kc' := 0) (ks' := 0) rfl ?_
            apply RP.callX
            rfl; rfl; rfl; rfl; rfl; rfl; rfl
            ·
              refine seg_RP (f := 3000) (d := 1997) 2 (pc' := 2) (lv' := [(0, .ref 1), (1, .int (xs 2)), (2, .int 0)]) (st' := [.int (xs 2), .ref 1]) (H' := _) (kc' := 0) (ks' := 0) rfl ?_
              apply RP.call
              rfl; rfl; rfl; rfl; rfl; rfl; rfl
              ·
                refine seg_RP (f := 3000) (d := 1996) 4 (pc' := 5) (lv' := [(0, .ref 1), (1, .int (xs 2))]) (st' := [.int 7, .int 0, .int (xs 2), .ref 1]) (H' := _) (kc' := 0) (ks' := 0) rfl ?_
                apply RP.call
                rfl; rfl; rfl; rfl; rfl; rfl; rfl
                ·
                  refine seg_RP (f := 3000) (d := 1995) 2 (pc' := 2) (lv' := [(0, .ref 1), (1, .int (xs 2)), (2, .int 0), (3, .int 7)]) (st' := [.int 0, .int (xs 2)]) (H' := _) (kc' := 0) (ks' := 0) rfl ?_
                  apply RP.brF
                  rfl; rfl; rfl
                  exact decide_eq_false (h1)
                  refine seg_RP (f := 3000) (d := 1995) 2 (pc' := 7) (lv' := [(0, .ref 1), (1, .int (xs 2)), (2, .int 0), (3, .int 7)]) (st' := [.int 7, .int (xs 2)]) (H' := _) (kc' := 0) (ks' := 0) rfl ?_
                  apply RP.brT
                  rfl; rfl; rfl
                  exact decide_eq_true (Int32.not_lt.mp (h2))
                  apply RP.done
                  rfl; rfl; rfl; rfl
                apply RP.done
                rfl; rfl; rfl; rfl
              refine seg_RP (f := 3000) (d := 1997) 14 (pc' := 30) (lv' := [(3, .int 0), (0, .ref 1), (1, .int (xs 2)), (2, .int 0)]) (st' := [.int (xs 2), .ref 1]) (H' := _) (kc' := 0) (ks' := 0) rfl ?_
              apply RP.callP
              rfl; rfl; rfl; rfl; rfl; rfl; rfl
              ·
                refine seg_RP (f := 3000) (d := 1996) 3 (pc' := 5) (lv' := [(0, .ref 1), (1, .int (xs 2))]) (st' := [.int (xs 2), .ref 8]) (H' := _) (kc' := 0) (ks' := 0) rfl ?_
                apply RP.call
                rfl; rfl; rfl; rfl; rfl; rfl; rfl
                ·
                  refine seg_RP (f := 3000) (d := 1995) 1 (pc' := 1) (lv' := [(0, .ref 8), (1, .int (xs 2))]) (st' := [.int (xs 2)]) (H' := _) (kc' := 0) (ks' := 0) rfl ?_
                  apply RP.brF
                  rfl; rfl; rfl
                  exact decide_eq_false (h1)
                  refine seg_RP (f := 3000) (d := 1995) 2 (pc' := 7) (lv' := [(0, .ref 8), (1, .int (xs 2))]) (st' := [.int 8, .int (xs 2)]) (H' := _) (kc' := 0) (ks' := 0) rfl ?_
                  apply RP.brF
                  rfl; rfl; rfl
                  exact decide_eq_false (Int32.not_le.mpr (Int32.lt_of_le_of_lt (Int32.not_lt.mp (h2)) (show (7 : Int32) < 8 by decide)))
                  refine seg_RP (f := 3000) (d := 1995) 3 (pc' := 15) (lv' := [(0, .ref 8), (1, .int (xs 2))]) (st' := [.int (xs 2), .ref 9]) (H' := _) (kc' := 0) (ks' := 0) rfl ?_
                  apply RP.zald
                  rfl; rfl
                  exact inR_of (n := 8) (h1) (Int32.lt_of_le_of_lt (Int32.not_lt.mp (h2)) (show (7 : Int32) < 8 by decide))
                  refine seg_RP (f := 3000) (d := 1995) 2 (pc' := 24) (lv' := [(0, .ref 8), (1, .int (xs 2))]) (st' := [.int 0]) (H' := _) (kc' := 0) (ks' := 0) rfl ?_
                  apply RP.done
                  rfl; rfl; rfl; rfl
                refine seg_RP (f := 3000) (d := 1996) 1 (pc' := 11) (lv' := [(0, .ref 1), (1, .int (xs 2))]) (st' := []) (H' := _) (kc' := 0) (ks' := 0) rfl ?_
                apply RP.done
                rfl; rfl; rfl; rfl
              rfl
            rfl
            refine seg_RP (f := 3000) (d := 1998) 1 (pc' := 24) (lv' := [(0, .ref 1), (1, .int (xs 2)), (2, .int 0), (3, .ref 225)]) (st' := [.int 3]) (H' := _) (kc' := 1) (ks' := 6) rfl ?_
            apply RP.done
            rfl; rfl; rfl; rfl
          refine seg_RP (f := 3000) (d := 1999) 12 (pc' := 668) (lv' := [(5, .int 3), (4, .int 1), (3, .ref 225), (2, .ref 196), (1, .ref 1), (0, .ref 0)]) (st' := [.int (xs 3), .int (xs 2), .ref 196]) (H' := _) (kc' := kc + 1) (ks' := ks + 6) rfl ?_
          rw [h0]
          refine seg_RP (f := 3000) (d := 1999) 2 (pc' := 676) (lv' := [(5, .int 3), (4, .int 1), (3, .ref 225), (2, .ref 196), (1, .ref 1), (0, .ref 0)]) (st' := [.int 0, .int (xs 2), .ref 196]) (H' := _) (kc' := kc + 1) (ks' := ks + 6) rfl ?_
          apply RP.call
          rfl; rfl; rfl; rfl; rfl; rfl; rfl
          ·
            refine seg_RP (f := 3000) (d := 1998) 6 (pc' := 9) (lv' := [(0, .ref 196), (1, .int (xs 2)), (2, .int 0)]) (st' := [.int 8, .int (xs 2), .ref 196]) (H' := _) (kc' := 0) (ks' := 0) rfl ?_
            apply RP.call
            rfl; rfl; rfl; rfl; rfl; rfl; rfl
            ·
              refine seg_RP (f := 3000) (d := 1997) 1 (pc' := 1) (lv' := [(0, .ref 196), (1, .int (xs 2)), (2, .int 8)]) (st' := [.int (xs 2)]) (H' := _) (kc' := 0) (ks' := 0) rfl ?_
              apply RP.brF
              rfl; rfl; rfl
              exact decide_eq_false (h1)
              refine seg_RP (f := 3000) (d := 1997) 2 (pc' := 6) (lv' := [(0, .ref 196), (1, .int (xs 2)), (2, .int 8)]) (st' := [.int 8, .int (xs 2)]) (H' := _) (kc' := 0) (ks' := 0) rfl ?_
              apply RP.brT
              rfl; rfl; rfl
              exact decide_eq_true (Int32.lt_of_le_of_lt (Int32.not_lt.mp (h2)) (show (7 : Int32) < 8 by decide))
              refine seg_RP (f := 3000) (d := 1997) 1 (pc' := 14) (lv' := [(0, .ref 196), (1, .int (xs 2)), (2, .int 8)]) (st' := [.int 0]) (H' := _) (kc' := 0) (ks' := 0) rfl ?_
              apply RP.done
              rfl; rfl; rfl; rfl
            refine seg_RP (f := 3000) (d := 1998) 17 (pc' := 58) (lv' := [(3, .int 0), (0, .ref 196), (1, .int (xs 2)), (2, .int 0)]) (st' := [.int (xs 2), .ref 206]) (H' := _) (kc' := 0) (ks' := 0) rfl ?_
            apply RP.zald
            rfl; rfl
            exact inR_of (n := 8) (h1) (Int32.lt_of_le_of_lt (Int32.not_lt.mp (h2)) (show (7 : Int32) < 8 by decide))
            refine seg_RP (f := 3000) (d := 1998) 4 (pc' := 67) (lv' := [(3, .int 0), (0, .ref 196), (1, .int (xs 2)), (2, .int 0)]) (st' := [.int 0]) (H' := _) (kc' := 0) (ks' := 0) rfl ?_
            apply RP.done
            rfl; rfl; rfl; rfl
          refine seg_RP (f := 3000) (d := 1999) 13 (pc' := 37) (lv' := [(4, .int 7), (6, .int 0), (5, .int 3), (3, .ref 225), (2, .ref 196), (1, .ref 1), (0, .ref 0)]) (st' := [.int 7, .int 7]) (H' := _) (kc' := kc + 1) (ks' := ks + 6) rfl ?_
          refine seg_RP (f := 3000) (d := 1999) 4 (pc' := 1958) (lv' := [(4, .int 7), (6, .int 0), (5, .int 3), (3, .ref 225), (2, .ref 196), (1, .ref 1), (0, .ref 0)]) (st' := [.int 1]) (H' := _) (kc' := kc + 1) (ks' := ks + 6) rfl ?_
          apply RP.done
          rfl; rfl; rfl; rfl
        · omega
        · omega
  ·
    by_cases h1 : (xs 2) < 0
    ·
      apply GR.mk
      ·
        refine seg_RP (f := 3000) (d := 1999) 11 (pc' := 641) (lv' := [(4, .int 1), (3, .ref 225), (2, .ref 196), (1, .ref 1), (0, .ref 0)]) (st' := [.int (xs 3), .int (xs 2), .ref 1]) (H' := _) (kc' := kc) (ks' := ks) rfl ?_
        apply RP.brF
        rfl; rfl; rfl
        exact decide_eq_false (h0)
        refine seg_RP (f := 3000) (d := 1999) 3 (pc' := 650) (lv' := [(4, .int 1), (3, .ref 225), (2, .ref 196), (1, .ref 1), (0, .ref 0)]) (st' := [.ref 225, .int 1, .int (xs 2), .ref 1]) (H' := _) (kc' := kc) (ks' := ks) rfl ?_
        apply RP.call
        rfl; rfl; rfl; rfl; rfl; rfl; rfl
        ·
          refine seg_RP (f := 3000) (d := 1998) 5 (pc' := 5) (lv' := [(0, .ref 1), (1, .int (xs 2)), (2, .int 1), (3, .ref 225)]) (st' := [.int 1, .int (xs 2), .ref 1, .int 0, .ref 225]) (H' := _) (kc' := 0) (ks' := 0) rfl ?_
          apply RP.callX
          rfl; rfl; rfl; rfl; rfl; rfl; rfl
          ·
            refine seg_RP (f := 3000) (d := 1997) 2 (pc' := 2) (lv' := [(0, .ref 1), (1, .int (xs 2)), (2, .int 1)]) (st' := [.int (xs 2), .ref 1]) (H' := _) (kc' := 0) (ks' := 0) rfl ?_
            apply RP.callP
            rfl; rfl; rfl; rfl; rfl; rfl; rfl
            ·
              refine seg_RP (f := 3000) (d := 1996) 4 (pc' := 5) (lv' := [(0, .ref 1), (1, .int (xs 2))]) (st' := [.int 7, .int 0, .int (xs 2), .ref 1]) (H' := _) (kc' := 0) (ks' := 0) rfl ?_
              apply RP.callP
              rfl; rfl; rfl; rfl; rfl; rfl; rfl
              ·
                refine seg_RP (f := 3000) (d := 1995) 2 (pc' := 2) (lv' := [(0, .ref 1), (1, .int (xs 2)), (2, .int 0), (3, .int 7)]) (st' := [.int 0, .int (xs 2)]) (H' := _) (kc' := 0) (ks' := 0) rfl ?_
                apply RP.brT
                rfl; rfl; rfl
                exact decide_eq_true (h1)
                apply RP.done
                rfl; rfl; rfl; rfl
              rfl
            rfl
          rfl
          refine seg_RP (f := 3000) (d := 1998) 1 (pc' := 16) (lv' := [(0, .ref 1), (1, .int (xs 2)), (2, .int 1), (3, .ref 225)]) (st' := [.int 1]) (H' := _) (kc' := 1) (ks' := 6) rfl ?_
          apply RP.done
          rfl; rfl; rfl; rfl
        refine seg_RP (f := 3000) (d := 1999) 12 (pc' := 668) (lv' := [(5, .int 1), (4, .int 1), (3, .ref 225), (2, .ref 196), (1, .ref 1), (0, .ref 0)]) (st' := [.int (xs 3), .int (xs 2), .ref 196]) (H' := _) (kc' := kc + 1) (ks' := ks + 6) rfl ?_
        apply RP.brF
        rfl; rfl; rfl
        exact decide_eq_false (h0)
        refine seg_RP (f := 3000) (d := 1999) 2 (pc' := 676) (lv' := [(5, .int 1), (4, .int 1), (3, .ref 225), (2, .ref 196), (1, .ref 1), (0, .ref 0)]) (st' := [.int 1, .int (xs 2), .ref 196]) (H' := _) (kc' := kc + 1) (ks' := ks + 6) rfl ?_
        apply RP.call
        rfl; rfl; rfl; rfl; rfl; rfl; rfl
        ·
          refine seg_RP (f := 3000) (d := 1998) 6 (pc' := 9) (lv' := [(0, .ref 196), (1, .int (xs 2)), (2, .int 1)]) (st' := [.int 8, .int (xs 2), .ref 196]) (H' := _) (kc' := 0) (ks' := 0) rfl ?_
          apply RP.call
          rfl; rfl; rfl; rfl; rfl; rfl; rfl
          ·
            refine seg_RP (f := 3000) (d := 1997) 1 (pc' := 1) (lv' := [(0, .ref 196), (1, .int (xs 2)), (2, .int 8)]) (st' := [.int (xs 2)]) (H' := _) (kc' := 0) (ks' := 0) rfl ?_
            apply RP.brT
            rfl; rfl; rfl
            exact decide_eq_true (h1)
            refine seg_RP (f := 3000) (d := 1997) 2 (pc' := 14) (lv' := [(0, .ref 196), (1, .int (xs 2)), (2, .int 8)]) (st' := [.int 1]) (H' := _) (kc' := 0) (ks' := 0) rfl ?_
            apply RP.done
            rfl; rfl; rfl; rfl
          refine seg_RP (f := 3000) (d := 1998) 4 (pc' := 29) (lv' := [(0, .ref 196), (1, .int (xs 2)), (2, .int 1)]) (st' := [.int 0]) (H' := _) (kc' := 0) (ks' := 0) rfl ?_
          apply RP.done
          rfl; rfl; rfl; rfl
        refine seg_RP (f := 3000) (d := 1999) 13 (pc' := 37) (lv' := [(4, .int 7), (6, .int 0), (5, .int 1), (3, .ref 225), (2, .ref 196), (1, .ref 1), (0, .ref 0)]) (st' := [.int 7, .int 7]) (H' := _) (kc' := kc + 1) (ks' := ks + 6) rfl ?_
        refine seg_RP (f := 3000) (d := 1999) 4 (pc' := 1958) (lv' := [(4, .int 7), (6, .int 0), (5, .int 1), (3, .ref 225), (2, .ref 196), (1, .ref 1), (0, .ref 0)]) (st' := [.int 1]) (H' := _) (kc' := kc + 1) (ks' := ks + 6) rfl ?_
        apply RP.done
        rfl; rfl; rfl; rfl
      · omega
      · omega
    ·
      by_cases h2 : (7 : Int32) < (xs 2)
      ·
        apply GR.mk
        ·
          refine seg_RP (f := 3000) (d := 1999) 11 (pc' := 641) (lv' := [(4, .int 1), (3, .ref 225), (2, .ref 196), (1, .ref 1), (0, .ref 0)]) (st' := [.int (xs 3), .int (xs 2), .ref 1]) (H' := _) (kc' := kc) (ks' := ks) rfl ?_
          apply RP.brF
          rfl; rfl; rfl
          exact decide_eq_false (h0)
          refine seg_RP (f := 3000) (d := 1999) 3 (pc' := 650) (lv' := [(4, .int 1), (3, .ref 225), (2, .ref 196), (1, .ref 1), (0, .ref 0)]) (st' := [.ref 225, .int 1, .int (xs 2), .ref 1]) (H' := _) (kc' := kc) (ks' := ks) rfl ?_
          apply RP.call
          rfl; rfl; rfl; rfl; rfl; rfl; rfl
          ·
            refine seg_RP (f := 3000) (d := 1998) 5 (pc' := 5) (lv' := [(0, .ref 1), (1, .int (xs 2)), (2, .int 1), (3, .ref 225)]) (st' := [.int 1, .int (xs 2), .ref 1, .int 0, .ref 225]) (H' := _) (kc' := 0) (ks' := 0) rfl ?_
            apply RP.callX
            rfl; rfl; rfl; rfl; rfl; rfl; rfl
            ·
              refine seg_RP (f := 3000) (d := 1997) 2 (pc' := 2) (lv' := [(0, .ref 1), (1, .int (xs 2)), (2, .int 1)]) (st' := [.int (xs 2), .ref 1]) (H' := _) (kc' := 0) (ks' := 0) rfl ?_
              apply RP.callP
              rfl; rfl; rfl; rfl; rfl; rfl; rfl
              ·
                refine seg_RP (f := 3000) (d := 1996) 4 (pc' := 5) (lv' := [(0, .ref 1), (1, .int (xs 2))]) (st' := [.int 7, .int 0, .int (xs 2), .ref 1]) (H' := _) (kc' := 0) (ks' := 0) rfl ?_
                apply RP.callP
                rfl; rfl; rfl; rfl; rfl; rfl; rfl
                ·
                  refine seg_RP (f := 3000) (d := 1995) 2 (pc' := 2) (lv' := [(0, .ref 1), (1, .int (xs 2)), (2, .int 0), (3, .int 7)]) (st' := [.int 0, .int (xs 2)]) (H' := _) (kc' := 0) (ks' := 0) rfl ?_
                  apply RP.brF
                  rfl; rfl; rfl
                  exact decide_eq_false (h1)
                  refine seg_RP (f := 3000) (d := 1995) 2 (pc' := 7) (lv' := [(0, .ref 1), (1, .int (xs 2)), (2, .int 0), (3, .int 7)]) (st' := [.int 7, .int (xs 2)]) (H' := _) (kc' := 0) (ks' := 0) rfl ?_
                  apply RP.brF
                  rfl; rfl; rfl
                  exact decide_eq_false (Int32.not_le.mpr (h2))
                  apply RP.done
                  rfl; rfl; rfl; rfl
                rfl
              rfl
            rfl
            refine seg_RP (f := 3000) (d := 1998) 1 (pc' := 16) (lv' := [(0, .ref 1), (1, .int (xs 2)), (2, .int 1), (3, .ref 225)]) (st' := [.int 1]) (H' := _) (kc' := 1) (ks' := 6) rfl ?_
            apply RP.done
            rfl; rfl; rfl; rfl
          refine seg_RP (f := 3000) (d := 1999) 12 (pc' := 668) (lv' := [(5, .int 1), (4, .int 1), (3, .ref 225), (2, .ref 196), (1, .ref 1), (0, .ref 0)]) (st' := [.int (xs 3), .int (xs 2), .ref 196]) (H' := _) (kc' := kc + 1) (ks' := ks + 6) rfl ?_
          apply RP.brF
          rfl; rfl; rfl
          exact decide_eq_false (h0)
          refine seg_RP (f := 3000) (d := 1999) 2 (pc' := 676) (lv' := [(5, .int 1), (4, .int 1), (3, .ref 225), (2, .ref 196), (1, .ref 1), (0, .ref 0)]) (st' := [.int 1, .int (xs 2), .ref 196]) (H' := _) (kc' := kc + 1) (ks' := ks + 6) rfl ?_
          apply RP.call
          rfl; rfl; rfl; rfl; rfl; rfl; rfl
          ·
            refine seg_RP (f := 3000) (d := 1998) 6 (pc' := 9) (lv' := [(0, .ref 196), (1, .int (xs 2)), (2, .int 1)]) (st' := [.int 8, .int (xs 2), .ref 196]) (H' := _) (kc' := 0) (ks' := 0) rfl ?_
            apply RP.call
            rfl; rfl; rfl; rfl; rfl; rfl; rfl
            ·
              refine seg_RP (f := 3000) (d := 1997) 1 (pc' := 1) (lv' := [(0, .ref 196), (1, .int (xs 2)), (2, .int 8)]) (st' := [.int (xs 2)]) (H' := _) (kc' := 0) (ks' := 0) rfl ?_
              apply RP.brF
              rfl; rfl; rfl
              exact decide_eq_false (h1)
              refine seg_RP (f := 3000) (d := 1997) 2 (pc' := 6) (lv' := [(0, .ref 196), (1, .int (xs 2)), (2, .int 8)]) (st' := [.int 8, .int (xs 2)]) (H' := _) (kc' := 0) (ks' := 0) rfl ?_
              apply RP.brF
              rfl; rfl; rfl
              exact decide_eq_false (i32_gap (h2) (show (8 : Int32) ≤ 7 + 1 by decide) (by decide))
              refine seg_RP (f := 3000) (d := 1997) 2 (pc' := 14) (lv' := [(0, .ref 196), (1, .int (xs 2)), (2, .int 8)]) (st' := [.int 1]) (H' := _) (kc' := 0) (ks' := 0) rfl ?_
              apply RP.done
              rfl; rfl; rfl; rfl
            refine seg_RP (f := 3000) (d := 1998) 4 (pc' := 29) (lv' := [(0, .ref 196), (1, .int (xs 2)), (2, .int 1)]) (st' := [.int 0]) (H' := _) (kc' := 0) (ks' := 0) rfl ?_
            apply RP.done
            rfl; rfl; rfl; rfl
          refine seg_RP (f := 3000) (d := 1999) 13 (pc' := 37) (lv' := [(4, .int 7), (6, .int 0), (5, .int 1), (3, .ref 225), (2, .ref 196), (1, .ref 1), (0, .ref 0)]) (st' := [.int 7, .int 7]) (H' := _) (kc' := kc + 1) (ks' := ks + 6) rfl ?_
          refine seg_RP (f := 3000) (d := 1999) 4 (pc' := 1958) (lv' := [(4, .int 7), (6, .int 0), (5, .int 1), (3, .ref 225), (2, .ref 196), (1, .ref 1), (0, .ref 0)]) (st' := [.int 1]) (H' := _) (kc' := kc + 1) (ks' := ks + 6) rfl ?_
          apply RP.done
          rfl; rfl; rfl; rfl
        · omega
        · omega
      ·
        apply GR.mk
        ·
          refine seg_RP (f := 3000) (d := 1999) 11 (pc' := 641) (lv' := [(4, .int 1), (3, .ref 225), (2, .ref 196), (1, .ref 1), (0, .ref 0)]) (st' := [.int (xs 3), .int (xs 2), .ref 1]) (H' := _) (kc' := kc) (ks' := ks) rfl ?_
          apply RP.brF
          rfl; rfl; rfl
          exact decide_eq_false (h0)
          refine seg_RP (f := 3000) (d := 1999) 3 (pc' := 650) (lv' := [(4, .int 1), (3, .ref 225), (2, .ref 196), (1, .ref 1), (0, .ref 0)]) (st' := [.ref 225, .int 1, .int (xs 2), .ref 1]) (H' := _) (kc' := kc) (ks' := ks) rfl ?_
          apply RP.call
          rfl; rfl; rfl; rfl; rfl; rfl; rfl
          ·
            refine seg_RP (f := 3000) (d := 1998) 5 (pc' := 5) (lv' := [(0, .ref 1), (1, .int (xs 2)), (2, .int 1), (3, .ref 225)]) (st' := [.int 1, .int (xs 2), .ref 1, .int 0, .ref 225]) (H' := _) (kc' := 0) (ks' := 0) rfl ?_
            apply RP.callX
            rfl; rfl; rfl; rfl; rfl; rfl; rfl
            ·
              refine seg_RP (f := 3000) (d := 1997) 2 (pc' := 2) (lv' := [(0, .ref 1), (1, .int (xs 2)), (2, .int 1)]) (st' := [.int (xs 2), .ref 1]) (H' := _) (kc' := 0) (ks' := 0) rfl ?_
              apply RP.call
              rfl; rfl; rfl; rfl; rfl; rfl; rfl
              ·
                refine seg_RP (f := 3000) (d := 1996) 4 (pc' := 5) (lv' := [(0, .ref 1), (1, .int (xs 2))]) (st' := [.int 7, .int 0, .int (xs 2), .ref 1]) (H' := _) (kc' := 0) (ks' := 0) rfl ?_
                apply RP.call
                rfl; rfl; rfl; rfl; rfl; rfl; rfl
                ·
                  refine seg_RP (f := 3000) (d := 1995) 2 (pc' := 2) (lv' := [(0, .ref 1), (1, .int (xs 2)), (2, .int 0), (3, .int 7)]) (st' := [.int 0, .int (xs 2)]) (H' := _) (kc' := 0) (ks' := 0) rfl ?_
                  apply RP.brF
                  rfl; rfl; rfl
                  exact decide_eq_false (h1)
                  refine seg_RP (f := 3000) (d := 1995) 2 (pc' := 7) (lv' := [(0, .ref 1), (1, .int (xs 2)), (2, .int 0), (3, .int 7)]) (st' := [.int 7, .int (xs 2)]) (H' := _) (kc' := 0) (ks' := 0) rfl ?_
                  apply RP.brT
                  rfl; rfl; rfl
                  exact decide_eq_true (Int32.not_lt.mp (h2))
                  apply RP.done
                  rfl; rfl; rfl; rfl
                apply RP.done
                rfl; rfl; rfl; rfl
              refine seg_RP (f := 3000) (d := 1997) 14 (pc' := 30) (lv' := [(3, .int 0), (0, .ref 1), (1, .int (xs 2)), (2, .int 1)]) (st' := [.int (xs 2), .ref 1]) (H' := _) (kc' := 0) (ks' := 0) rfl ?_
              apply RP.callP
              rfl; rfl; rfl; rfl; rfl; rfl; rfl
              ·
                refine seg_RP (f := 3000) (d := 1996) 3 (pc' := 5) (lv' := [(0, .ref 1), (1, .int (xs 2))]) (st' := [.int (xs 2), .ref 8]) (H' := _) (kc' := 0) (ks' := 0) rfl ?_
                apply RP.call
                rfl; rfl; rfl; rfl; rfl; rfl; rfl
                ·
                  refine seg_RP (f := 3000) (d := 1995) 1 (pc' := 1) (lv' := [(0, .ref 8), (1, .int (xs 2))]) (st' := [.int (xs 2)]) (H' := _) (kc' := 0) (ks' := 0) rfl ?_
                  apply RP.brF
                  rfl; rfl; rfl
                  exact decide_eq_false (h1)
                  refine seg_RP (f := 3000) (d := 1995) 2 (pc' := 7) (lv' := [(0, .ref 8), (1, .int (xs 2))]) (st' := [.int 8, .int (xs 2)]) (H' := _) (kc' := 0) (ks' := 0) rfl ?_
                  apply RP.brF
                  rfl; rfl; rfl
                  exact decide_eq_false (Int32.not_le.mpr (Int32.lt_of_le_of_lt (Int32.not_lt.mp (h2)) (show (7 : Int32) < 8 by decide)))
                  refine seg_RP (f := 3000) (d := 1995) 3 (pc' := 15) (lv' := [(0, .ref 8), (1, .int (xs 2))]) (st' := [.int (xs 2), .ref 9]) (H' := _) (kc' := 0) (ks' := 0) rfl ?_
                  apply RP.zald
                  rfl; rfl
                  exact inR_of (n := 8) (h1) (Int32.lt_of_le_of_lt (Int32.not_lt.mp (h2)) (show (7 : Int32) < 8 by decide))
                  refine seg_RP (f := 3000) (d := 1995) 2 (pc' := 24) (lv' := [(0, .ref 8), (1, .int (xs 2))]) (st' := [.int 0]) (H' := _) (kc' := 0) (ks' := 0) rfl ?_
                  apply RP.done
                  rfl; rfl; rfl; rfl
                refine seg_RP (f := 3000) (d := 1996) 1 (pc' := 11) (lv' := [(0, .ref 1), (1, .int (xs 2))]) (st' := []) (H' := _) (kc' := 0) (ks' := 0) rfl ?_
                apply RP.done
                rfl; rfl; rfl; rfl
              rfl
            rfl
            refine seg_RP (f := 3000) (d := 1998) 1 (pc' := 24) (lv' := [(0, .ref 1), (1, .int (xs 2)), (2, .int 1), (3, .ref 225)]) (st' := [.int 3]) (H' := _) (kc' := 1) (ks' := 6) rfl ?_
            apply RP.done
            rfl; rfl; rfl; rfl
          refine seg_RP (f := 3000) (d := 1999) 12 (pc' := 668) (lv' := [(5, .int 3), (4, .int 1), (3, .ref 225), (2, .ref 196), (1, .ref 1), (0, .ref 0)]) (st' := [.int (xs 3), .int (xs 2), .ref 196]) (H' := _) (kc' := kc + 1) (ks' := ks + 6) rfl ?_
          apply RP.brF
          rfl; rfl; rfl
          exact decide_eq_false (h0)
          refine seg_RP (f := 3000) (d := 1999) 2 (pc' := 676) (lv' := [(5, .int 3), (4, .int 1), (3, .ref 225), (2, .ref 196), (1, .ref 1), (0, .ref 0)]) (st' := [.int 1, .int (xs 2), .ref 196]) (H' := _) (kc' := kc + 1) (ks' := ks + 6) rfl ?_
          apply RP.call
          rfl; rfl; rfl; rfl; rfl; rfl; rfl
          ·
            refine seg_RP (f := 3000) (d := 1998) 6 (pc' := 9) (lv' := [(0, .ref 196), (1, .int (xs 2)), (2, .int 1)]) (st' := [.int 8, .int (xs 2), .ref 196]) (H' := _) (kc' := 0) (ks' := 0) rfl ?_
            apply RP.call
            rfl; rfl; rfl; rfl; rfl; rfl; rfl
            ·
              refine seg_RP (f := 3000) (d := 1997) 1 (pc' := 1) (lv' := [(0, .ref 196), (1, .int (xs 2)), (2, .int 8)]) (st' := [.int (xs 2)]) (H' := _) (kc' := 0) (ks' := 0) rfl ?_
              apply RP.brF
              rfl; rfl; rfl
              exact decide_eq_false (h1)
              refine seg_RP (f := 3000) (d := 1997) 2 (pc' := 6) (lv' := [(0, .ref 196), (1, .int (xs 2)), (2, .int 8)]) (st' := [.int 8, .int (xs 2)]) (H' := _) (kc' := 0) (ks' := 0) rfl ?_
              apply RP.brT
              rfl; rfl; rfl
              exact decide_eq_true (Int32.lt_of_le_of_lt (Int32.not_lt.mp (h2)) (show (7 : Int32) < 8 by decide))
              refine seg_RP (f := 3000) (d := 1997) 1 (pc' := 14) (lv' := [(0, .ref 196), (1, .int (xs 2)), (2, .int 8)]) (st' := [.int 0]) (H' := _) (kc' := 0) (ks' := 0) rfl ?_
              apply RP.done
              rfl; rfl; rfl; rfl
            refine seg_RP (f := 3000) (d := 1998) 17 (pc' := 58) (lv' := [(3, .int 0), (0, .ref 196), (1, .int (xs 2)), (2, .int 1)]) (st' := [.int (xs 2), .ref 206]) (H' := _) (kc' := 0) (ks' := 0) rfl ?_
            apply RP.zald
            rfl; rfl
            exact inR_of (n := 8) (h1) (Int32.lt_of_le_of_lt (Int32.not_lt.mp (h2)) (show (7 : Int32) < 8 by decide))
            refine seg_RP (f := 3000) (d := 1998) 4 (pc' := 67) (lv' := [(3, .int 0), (0, .ref 196), (1, .int (xs 2)), (2, .int 1)]) (st' := [.int 0]) (H' := _) (kc' := 0) (ks' := 0) rfl ?_
            apply RP.done
            rfl; rfl; rfl; rfl
          refine seg_RP (f := 3000) (d := 1999) 13 (pc' := 37) (lv' := [(4, .int 7), (6, .int 0), (5, .int 3), (3, .ref 225), (2, .ref 196), (1, .ref 1), (0, .ref 0)]) (st' := [.int 7, .int 7]) (H' := _) (kc' := kc + 1) (ks' := ks + 6) rfl ?_
          refine seg_RP (f := 3000) (d := 1999) 4 (pc' := 1958) (lv' := [(4, .int 7), (6, .int 0), (5, .int 3), (3, .ref 225), (2, .ref 196), (1, .ref 1), (0, .ref 0)]) (st' := [.int 1]) (H' := _) (kc' := kc + 1) (ks' := ks + 6) rfl ?_
          apply RP.done
          rfl; rfl; rfl; rfl
        · omega
        · omega
set_option maxRecDepth 100000 in
set_option maxHeartbeats 4000000 in
theorem first_8 {xs : Nat → Int32} {kc ks : Nat} {v0 : Int32} {c1 : aC} {c2 : aC} {v3 : Int32} {c4 : aC} {c5 : aC} {c6 : aC} {c7 : aC} {c8 : aC} {c9 : aC} {c10 : aC} {c11 : aC} {v12 : Int32} {c13 : aC} {c14 : aC} {c15 : aC} {c16 : aC} {v17 : Int32} : GR xs 712 (hpV v0 c1 c2 v3 c4 c5 c6 c7 c8 c9 c10 c11 v12 c13 c14 c15 c16 v17) kc ks := by
  by_cases h0 : (xs 2) < 0
  ·
    apply GR.mk
    ·
      refine seg_RP (f := 3000) (d := 1999) 7 (pc' := 720) (lv' := [(4, .int 1), (3, .ref 225), (2, .ref 196), (1, .ref 1), (0, .ref 0)]) (st' := [.ref 225, .int (xs 2), .ref 1]) (H' := _) (kc' := kc) (ks' := ks) rfl ?_
      apply RP.call
      rfl; rfl; rfl; rfl; rfl; rfl; rfl
      ·
        refine seg_RP (f := 3000) (d := 1998) 4 (pc' := 4) (lv' := [(0, .ref 1), (1, .int (xs 2)), (2, .ref 225)]) (st' := [.int (xs 2), .ref 1, .int 0, .ref 225]) (H' := _) (kc' := 0) (ks' := 0) rfl ?_
        apply RP.callX
        rfl; rfl; rfl; rfl; rfl; rfl; rfl
        ·
          refine seg_RP (f := 3000) (d := 1997) 2 (pc' := 2) (lv' := [(0, .ref 1), (1, .int (xs 2))]) (st' := [.int (xs 2), .ref 1]) (H' := _) (kc' := 0) (ks' := 0) rfl ?_
          apply RP.callP
          rfl; rfl; rfl; rfl; rfl; rfl; rfl
          ·
            refine seg_RP (f := 3000) (d := 1996) 4 (pc' := 5) (lv' := [(0, .ref 1), (1, .int (xs 2))]) (st' := [.int 7, .int 0, .int (xs 2), .ref 1]) (H' := _) (kc' := 0) (ks' := 0) rfl ?_
            apply RP.callP
            rfl; rfl; rfl; rfl; rfl; rfl; rfl
            ·
              refine seg_RP (f := 3000) (d := 1995) 2 (pc' := 2) (lv' := [(0, .ref 1), (1, .int (xs 2)), (2, .int 0), (3, .int 7)]) (st' := [.int 0, .int (xs 2)]) (H' := _) (kc' := 0) (ks' := 0) rfl ?_
              apply RP.brT
              rfl; rfl; rfl
              exact decide_eq_true (h0)
              apply RP.done
              rfl; rfl; rfl; rfl
            rfl
          rfl
        rfl
        refine seg_RP (f := 3000) (d := 1998) 1 (pc' := 14) (lv' := [(0, .ref 1), (1, .int (xs 2)), (2, .ref 225)]) (st' := [.int 1]) (H' := _) (kc' := 1) (ks' := 6) rfl ?_
        apply RP.done
        rfl; rfl; rfl; rfl
      refine seg_RP (f := 3000) (d := 1999) 7 (pc' := 732) (lv' := [(5, .int 1), (4, .int 1), (3, .ref 225), (2, .ref 196), (1, .ref 1), (0, .ref 0)]) (st' := [.int (xs 2), .ref 196]) (H' := _) (kc' := kc + 1) (ks' := ks + 6) rfl ?_
      apply RP.call
      rfl; rfl; rfl; rfl; rfl; rfl; rfl
      ·
        refine seg_RP (f := 3000) (d := 1998) 6 (pc' := 9) (lv' := [(0, .ref 196), (1, .int (xs 2))]) (st' := [.int 8, .int (xs 2), .ref 196]) (H' := _) (kc' := 0) (ks' := 0) rfl ?_
        apply RP.call
        rfl; rfl; rfl; rfl; rfl; rfl; rfl
        ·
          refine seg_RP (f := 3000) (d := 1997) 1 (pc' := 1) (lv' := [(0, .ref 196), (1, .int (xs 2)), (2, .int 8)]) (st' := [.int (xs 2)]) (H' := _) (kc' := 0) (ks' := 0) rfl ?_
          apply RP.brT
          rfl; rfl; rfl
          exact decide_eq_true (h0)
          refine seg_RP (f := 3000) (d := 1997) 2 (pc' := 14) (lv' := [(0, .ref 196), (1, .int (xs 2)), (2, .int 8)]) (st' := [.int 1]) (H' := _) (kc' := 0) (ks' := 0) rfl ?_
          apply RP.done
          rfl; rfl; rfl; rfl
        refine seg_RP (f := 3000) (d := 1998) 4 (pc' := 20) (lv' := [(0, .ref 196), (1, .int (xs 2))]) (st' := [.int 0]) (H' := _) (kc' := 0) (ks' := 0) rfl ?_
        apply RP.done
        rfl; rfl; rfl; rfl
      refine seg_RP (f := 3000) (d := 1999) 13 (pc' := 37) (lv' := [(4, .int 7), (6, .int 0), (5, .int 1), (3, .ref 225), (2, .ref 196), (1, .ref 1), (0, .ref 0)]) (st' := [.int 7, .int 7]) (H' := _) (kc' := kc + 1) (ks' := ks + 6) rfl ?_
      refine seg_RP (f := 3000) (d := 1999) 4 (pc' := 1958) (lv' := [(4, .int 7), (6, .int 0), (5, .int 1), (3, .ref 225), (2, .ref 196), (1, .ref 1), (0, .ref 0)]) (st' := [.int 1]) (H' := _) (kc' := kc + 1) (ks' := ks + 6) rfl ?_
      apply RP.done
      rfl; rfl; rfl; rfl
    · omega
    · omega
  ·
    by_cases h1 : (7 : Int32) < (xs 2)
    ·
      apply GR.mk
      ·
        refine seg_RP (f := 3000) (d := 1999) 7 (pc' := 720) (lv' := [(4, .int 1), (3, .ref 225), (2, .ref 196), (1, .ref 1), (0, .ref 0)]) (st' := [.ref 225, .int (xs 2), .ref 1]) (H' := _) (kc' := kc) (ks' := ks) rfl ?_
        apply RP.call
        rfl; rfl; rfl; rfl; rfl; rfl; rfl
        ·
          refine seg_RP (f := 3000) (d := 1998) 4 (pc' := 4) (lv' := [(0, .ref 1), (1, .int (xs 2)), (2, .ref 225)]) (st' := [.int (xs 2), .ref 1, .int 0, .ref 225]) (H' := _) (kc' := 0) (ks' := 0) rfl ?_
          apply RP.callX
          rfl; rfl; rfl; rfl; rfl; rfl; rfl
          ·
            refine seg_RP (f := 3000) (d := 1997) 2 (pc' := 2) (lv' := [(0, .ref 1), (1, .int (xs 2))]) (st' := [.int (xs 2), .ref 1]) (H' := _) (kc' := 0) (ks' := 0) rfl ?_
            apply RP.callP
            rfl; rfl; rfl; rfl; rfl; rfl; rfl
            ·
              refine seg_RP (f := 3000) (d := 1996) 4 (pc' := 5) (lv' := [(0, .ref 1), (1, .int (xs 2))]) (st' := [.int 7, .int 0, .int (xs 2), .ref 1]) (H' := _) (kc' := 0) (ks' := 0) rfl ?_
              apply RP.callP
              rfl; rfl; rfl; rfl; rfl; rfl; rfl
              ·
                refine seg_RP (f := 3000) (d := 1995) 2 (pc' := 2) (lv' := [(0, .ref 1), (1, .int (xs 2)), (2, .int 0), (3, .int 7)]) (st' := [.int 0, .int (xs 2)]) (H' := _) (kc' := 0) (ks' := 0) rfl ?_
                apply RP.brF
                rfl; rfl; rfl
                exact decide_eq_false (h0)
                refine seg_RP (f := 3000) (d := 1995) 2 (pc' := 7) (lv' := [(0, .ref 1), (1, .int (xs 2)), (2, .int 0), (3, .int 7)]) (st' := [.int 7, .int (xs 2)]) (H' := _) (kc' := 0) (ks' := 0) rfl ?_
                apply RP.brF
                rfl; rfl; rfl
                exact decide_eq_false (Int32.not_le.mpr (h1))
                apply RP.done
                rfl; rfl; rfl; rfl
              rfl
            rfl
          rfl
          refine seg_RP (f := 3000) (d := 1998) 1 (pc' := 14) (lv' := [(0, .ref 1), (1, .int (xs 2)), (2, .ref 225)]) (st' := [.int 1]) (H' := _) (kc' := 1) (ks' := 6) rfl ?_
          apply RP.done
          rfl; rfl; rfl; rfl
        refine seg_RP (f := 3000) (d := 1999) 7 (pc' := 732) (lv' := [(5, .int 1), (4, .int 1), (3, .ref 225), (2, .ref 196), (1, .ref 1), (0, .ref 0)]) (st' := [.int (xs 2), .ref 196]) (H' := _) (kc' := kc + 1) (ks' := ks + 6) rfl ?_
        apply RP.call
        rfl; rfl; rfl; rfl; rfl; rfl; rfl
        ·
          refine seg_RP (f := 3000) (d := 1998) 6 (pc' := 9) (lv' := [(0, .ref 196), (1, .int (xs 2))]) (st' := [.int 8, .int (xs 2), .ref 196]) (H' := _) (kc' := 0) (ks' := 0) rfl ?_
          apply RP.call
          rfl; rfl; rfl; rfl; rfl; rfl; rfl
          ·
            refine seg_RP (f := 3000) (d := 1997) 1 (pc' := 1) (lv' := [(0, .ref 196), (1, .int (xs 2)), (2, .int 8)]) (st' := [.int (xs 2)]) (H' := _) (kc' := 0) (ks' := 0) rfl ?_
            apply RP.brF
            rfl; rfl; rfl
            exact decide_eq_false (h0)
            refine seg_RP (f := 3000) (d := 1997) 2 (pc' := 6) (lv' := [(0, .ref 196), (1, .int (xs 2)), (2, .int 8)]) (st' := [.int 8, .int (xs 2)]) (H' := _) (kc' := 0) (ks' := 0) rfl ?_
            apply RP.brF
            rfl; rfl; rfl
            exact decide_eq_false (i32_gap (h1) (show (8 : Int32) ≤ 7 + 1 by decide) (by decide))
            refine seg_RP (f := 3000) (d := 1997) 2 (pc' := 14) (lv' := [(0, .ref 196), (1, .int (xs 2)), (2, .int 8)]) (st' := [.int 1]) (H' := _) (kc' := 0) (ks' := 0) rfl ?_
            apply RP.done
            rfl; rfl; rfl; rfl
          refine seg_RP (f := 3000) (d := 1998) 4 (pc' := 20) (lv' := [(0, .ref 196), (1, .int (xs 2))]) (st' := [.int 0]) (H' := _) (kc' := 0) (ks' := 0) rfl ?_
          apply RP.done
          rfl; rfl; rfl; rfl
        refine seg_RP (f := 3000) (d := 1999) 13 (pc' := 37) (lv' := [(4, .int 7), (6, .int 0), (5, .int 1), (3, .ref 225), (2, .ref 196), (1, .ref 1), (0, .ref 0)]) (st' := [.int 7, .int 7]) (H' := _) (kc' := kc + 1) (ks' := ks + 6) rfl ?_
        refine seg_RP (f := 3000) (d := 1999) 4 (pc' := 1958) (lv' := [(4, .int 7), (6, .int 0), (5, .int 1), (3, .ref 225), (2, .ref 196), (1, .ref 1), (0, .ref 0)]) (st' := [.int 1]) (H' := _) (kc' := kc + 1) (ks' := ks + 6) rfl ?_
        apply RP.done
        rfl; rfl; rfl; rfl
      · omega
      · omega
    ·
      apply GR.mk
      ·
        refine seg_RP (f := 3000) (d := 1999) 7 (pc' := 720) (lv' := [(4, .int 1), (3, .ref 225), (2, .ref 196), (1, .ref 1), (0, .ref 0)]) (st' := [.ref 225, .int (xs 2), .ref 1]) (H' := _) (kc' := kc) (ks' := ks) rfl ?_
        apply RP.call
        rfl; rfl; rfl; rfl; rfl; rfl; rfl
        ·
          refine seg_RP (f := 3000) (d := 1998) 4 (pc' := 4) (lv' := [(0, .ref 1), (1, .int (xs 2)), (2, .ref 225)]) (st' := [.int (xs 2), .ref 1, .int 0, .ref 225]) (H' := _) (kc' := 0) (ks' := 0) rfl ?_
          apply RP.callX
          rfl; rfl; rfl; rfl; rfl; rfl; rfl
          ·
            refine seg_RP (f := 3000) (d := 1997) 2 (pc' := 2) (lv' := [(0, .ref 1), (1, .int (xs 2))]) (st' := [.int (xs 2), .ref 1]) (H' := _) (kc' := 0) (ks' := 0) rfl ?_
            apply RP.call
            rfl; rfl; rfl; rfl; rfl; rfl; rfl
            ·
              refine seg_RP (f := 3000) (d := 1996) 4 (pc' := 5) (lv' := [(0, .ref 1), (1, .int (xs 2))]) (st' := [.int 7, .int 0, .int (xs 2), .ref 1]) (H' := _) (kc' := 0) (ks' := 0) rfl ?_
              apply RP.call
              rfl; rfl; rfl; rfl; rfl; rfl; rfl
              ·
                refine seg_RP (f := 3000) (d := 1995) 2 (pc' := 2) (lv' := [(0, .ref 1), (1, .int (xs 2)), (2, .int 0), (3, .int 7)]) (st' := [.int 0, .int (xs 2)]) (H' := _) (kc' := 0) (ks' := 0) rfl ?_
                apply RP.brF
                rfl; rfl; rfl
                exact decide_eq_false (h0)
                refine seg_RP (f := 3000) (d := 1995) 2 (pc' := 7) (lv' := [(0, .ref 1), (1, .int (xs 2)), (2, .int 0), (3, .int 7)]) (st' := [.int 7, .int (xs 2)]) (H' := _) (kc' := 0) (ks' := 0) rfl ?_
                apply RP.brT
                rfl; rfl; rfl
                exact decide_eq_true (Int32.not_lt.mp (h1))
                apply RP.done
                rfl; rfl; rfl; rfl
              apply RP.done
              rfl; rfl; rfl; rfl
            refine seg_RP (f := 3000) (d := 1997) 4 (pc' := 11) (lv' := [(0, .ref 1), (1, .int (xs 2))]) (st' := [.int (xs 2), .ref 1]) (H' := _) (kc' := 0) (ks' := 0) rfl ?_
            apply RP.callP
            rfl; rfl; rfl; rfl; rfl; rfl; rfl
            ·
              refine seg_RP (f := 3000) (d := 1996) 3 (pc' := 5) (lv' := [(0, .ref 1), (1, .int (xs 2))]) (st' := [.int (xs 2), .ref 8]) (H' := _) (kc' := 0) (ks' := 0) rfl ?_
              apply RP.call
              rfl; rfl; rfl; rfl; rfl; rfl; rfl
              ·
                refine seg_RP (f := 3000) (d := 1995) 1 (pc' := 1) (lv' := [(0, .ref 8), (1, .int (xs 2))]) (st' := [.int (xs 2)]) (H' := _) (kc' := 0) (ks' := 0) rfl ?_
                apply RP.brF
                rfl; rfl; rfl
                exact decide_eq_false (h0)
                refine seg_RP (f := 3000) (d := 1995) 2 (pc' := 7) (lv' := [(0, .ref 8), (1, .int (xs 2))]) (st' := [.int 8, .int (xs 2)]) (H' := _) (kc' := 0) (ks' := 0) rfl ?_
                apply RP.brF
                rfl; rfl; rfl
                exact decide_eq_false (Int32.not_le.mpr (Int32.lt_of_le_of_lt (Int32.not_lt.mp (h1)) (show (7 : Int32) < 8 by decide)))
                refine seg_RP (f := 3000) (d := 1995) 3 (pc' := 15) (lv' := [(0, .ref 8), (1, .int (xs 2))]) (st' := [.int (xs 2), .ref 9]) (H' := _) (kc' := 0) (ks' := 0) rfl ?_
                apply RP.zald
                rfl; rfl
                exact inR_of (n := 8) (h0) (Int32.lt_of_le_of_lt (Int32.not_lt.mp (h1)) (show (7 : Int32) < 8 by decide))
                refine seg_RP (f := 3000) (d := 1995) 2 (pc' := 24) (lv' := [(0, .ref 8), (1, .int (xs 2))]) (st' := [.int 0]) (H' := _) (kc' := 0) (ks' := 0) rfl ?_
                apply RP.done
                rfl; rfl; rfl; rfl
              refine seg_RP (f := 3000) (d := 1996) 1 (pc' := 11) (lv' := [(0, .ref 1), (1, .int (xs 2))]) (st' := []) (H' := _) (kc' := 0) (ks' := 0) rfl ?_
              apply RP.done
              rfl; rfl; rfl; rfl
            rfl
          rfl
          refine seg_RP (f := 3000) (d := 1998) 1 (pc' := 20) (lv' := [(0, .ref 1), (1, .int (xs 2)), (2, .ref 225)]) (st' := [.int 3]) (H' := _) (kc' := 1) (ks' := 6) rfl ?_
          apply RP.done
          rfl; rfl; rfl; rfl
        refine seg_RP (f := 3000) (d := 1999) 7 (pc' := 732) (lv' := [(5, .int 3), (4, .int 1), (3, .ref 225), (2, .ref 196), (1, .ref 1), (0, .ref 0)]) (st' := [.int (xs 2), .ref 196]) (H' := _) (kc' := kc + 1) (ks' := ks + 6) rfl ?_
        apply RP.call
        rfl; rfl; rfl; rfl; rfl; rfl; rfl
        ·
          refine seg_RP (f := 3000) (d := 1998) 6 (pc' := 9) (lv' := [(0, .ref 196), (1, .int (xs 2))]) (st' := [.int 8, .int (xs 2), .ref 196]) (H' := _) (kc' := 0) (ks' := 0) rfl ?_
          apply RP.call
          rfl; rfl; rfl; rfl; rfl; rfl; rfl
          ·
            refine seg_RP (f := 3000) (d := 1997) 1 (pc' := 1) (lv' := [(0, .ref 196), (1, .int (xs 2)), (2, .int 8)]) (st' := [.int (xs 2)]) (H' := _) (kc' := 0) (ks' := 0) rfl ?_
            apply RP.brF
            rfl; rfl; rfl
            exact decide_eq_false (h0)
            refine seg_RP (f := 3000) (d := 1997) 2 (pc' := 6) (lv' := [(0, .ref 196), (1, .int (xs 2)), (2, .int 8)]) (st' := [.int 8, .int (xs 2)]) (H' := _) (kc' := 0) (ks' := 0) rfl ?_
            apply RP.brT
            rfl; rfl; rfl
            exact decide_eq_true (Int32.lt_of_le_of_lt (Int32.not_lt.mp (h1)) (show (7 : Int32) < 8 by decide))
            refine seg_RP (f := 3000) (d := 1997) 1 (pc' := 14) (lv' := [(0, .ref 196), (1, .int (xs 2)), (2, .int 8)]) (st' := [.int 0]) (H' := _) (kc' := 0) (ks' := 0) rfl ?_
            apply RP.done
            rfl; rfl; rfl; rfl
          refine seg_RP (f := 3000) (d := 1998) 7 (pc' := 39) (lv' := [(0, .ref 196), (1, .int (xs 2))]) (st' := [.int (xs 2), .ref 206]) (H' := _) (kc' := 0) (ks' := 0) rfl ?_
          apply RP.zald
          rfl; rfl
          exact inR_of (n := 8) (h0) (Int32.lt_of_le_of_lt (Int32.not_lt.mp (h1)) (show (7 : Int32) < 8 by decide))
          refine seg_RP (f := 3000) (d := 1998) 4 (pc' := 48) (lv' := [(0, .ref 196), (1, .int (xs 2))]) (st' := [.int 0]) (H' := _) (kc' := 0) (ks' := 0) rfl ?_
          apply RP.done
          rfl; rfl; rfl; rfl
        refine seg_RP (f := 3000) (d := 1999) 13 (pc' := 37) (lv' := [(4, .int 7), (6, .int 0), (5, .int 3), (3, .ref 225), (2, .ref 196), (1, .ref 1), (0, .ref 0)]) (st' := [.int 7, .int 7]) (H' := _) (kc' := kc + 1) (ks' := ks + 6) rfl ?_
        refine seg_RP (f := 3000) (d := 1999) 4 (pc' := 1958) (lv' := [(4, .int 7), (6, .int 0), (5, .int 3), (3, .ref 225), (2, .ref 196), (1, .ref 1), (0, .ref 0)]) (st' := [.int 1]) (H' := _) (kc' := kc + 1) (ks' := ks + 6) rfl ?_
        apply RP.done
        rfl; rfl; rfl; rfl
      · omega
      · omega
set_option maxRecDepth 100000 in
set_option maxHeartbeats 4000000 in
theorem first_9 {xs : Nat → Int32} {kc ks : Nat} {v0 : Int32} {c1 : aC} {c2 : aC} {v3 : Int32} {c4 : aC} {c5 : aC} {c6 : aC} {c7 : aC} {c8 : aC} {c9 : aC} {c10 : aC} {c11 : aC} {v12 : Int32} {c13 : aC} {c14 : aC} {c15 : aC} {c16 : aC} {v17 : Int32} : GR xs 768 (hpV v0 c1 c2 v3 c4 c5 c6 c7 c8 c9 c10 c11 v12 c13 c14 c15 c16 v17) kc ks := by
  by_cases h0 : (xs 2) < 0
  ·
    apply GR.mk
    ·
      refine seg_RP (f := 3000) (d := 1999) 7 (pc' := 776) (lv' := [(4, .int 1), (3, .ref 225), (2, .ref 196), (1, .ref 1), (0, .ref 0)]) (st' := [.ref 225, .int (xs 2), .ref 1]) (H' := _) (kc' := kc) (ks' := ks) rfl ?_
      apply RP.call
      rfl; rfl; rfl; rfl; rfl; rfl; rfl
      ·
        refine seg_RP (f := 3000) (d := 1998) 4 (pc' := 4) (lv' := [(0, .ref 1), (1, .int (xs 2)), (2, .ref 225)]) (st' := [.int (xs 2), .ref 1, .int 0, .ref 225]) (H' := _) (kc' := 0) (ks' := 0) rfl ?_
        apply RP.callX
        rfl; rfl; rfl; rfl; rfl; rfl; rfl
        ·
          refine seg_RP (f := 3000) (d := 1997) 2 (pc' := 2) (lv' := [(0, .ref 1), (1, .int (xs 2))]) (st' := [.int (xs 2), .ref 1]) (H' := _) (kc' := 0) (ks' := 0) rfl ?_
          apply RP.callP
          rfl; rfl; rfl; rfl; rfl; rfl; rfl
          ·
            refine seg_RP (f := 3000) (d := 1996) 4 (pc' := 5) (lv' := [(0, .ref 1), (1, .int (xs 2))]) (st' := [.int 7, .int 0, .int (xs 2), .ref 1]) (H' := _) (kc' := 0) (ks' := 0) rfl ?_
            apply RP.callP
            rfl; rfl; rfl; rfl; rfl; rfl; rfl
            ·
              refine seg_RP (f := 3000) (d := 1995) 2 (pc' := 2) (lv' := [(0, .ref 1), (1, .int (xs 2)), (2, .int 0), (3, .int 7)]) (st' := [.int 0, .int (xs 2)]) (H' := _) (kc' := 0) (ks' := 0) rfl ?_
              apply RP.brT
              rfl; rfl; rfl
              exact decide_eq_true (h0)
              apply RP.done
              rfl; rfl; rfl; rfl
            rfl
          rfl
        rfl
        refine seg_RP (f := 3000) (d := 1998) 1 (pc' := 14) (lv' := [(0, .ref 1), (1, .int (xs 2)), (2, .ref 225)]) (st' := [.int 1]) (H' := _) (kc' := 1) (ks' := 6) rfl ?_
        apply RP.done
        rfl; rfl; rfl; rfl
      refine seg_RP (f := 3000) (d := 1999) 7 (pc' := 788) (lv' := [(5, .int 1), (4, .int 1), (3, .ref 225), (2, .ref 196), (1, .ref 1), (0, .ref 0)]) (st' := [.int (xs 2), .ref 196]) (H' := _) (kc' := kc + 1) (ks' := ks + 6) rfl ?_
      apply RP.call
      rfl; rfl; rfl; rfl; rfl; rfl; rfl
      ·
        refine seg_RP (f := 3000) (d := 1998) 6 (pc' := 9) (lv' := [(0, .ref 196), (1, .int (xs 2))]) (st' := [.int 8, .int (xs 2), .ref 196]) (H' := _) (kc' := 0) (ks' := 0) rfl ?_
        apply RP.call
        rfl; rfl; rfl; rfl; rfl; rfl; rfl
        ·
          refine seg_RP (f := 3000) (d := 1997) 1 (pc' := 1) (lv' := [(0, .ref 196), (1, .int (xs 2)), (2, .int 8)]) (st' := [.int (xs 2)]) (H' := _) (kc' := 0) (ks' := 0) rfl ?_
          apply RP.brT
          rfl; rfl; rfl
          exact decide_eq_true (h0)
          refine seg_RP (f := 3000) (d := 1997) 2 (pc' := 14) (lv' := [(0, .ref 196), (1, .int (xs 2)), (2, .int 8)]) (st' := [.int 1]) (H' := _) (kc' := 0) (ks' := 0) rfl ?_
          apply RP.done
          rfl; rfl; rfl; rfl
        refine seg_RP (f := 3000) (d := 1998) 4 (pc' := 20) (lv' := [(0, .ref 196), (1, .int (xs 2))]) (st' := [.int 0]) (H' := _) (kc' := 0) (ks' := 0) rfl ?_
        apply RP.done
        rfl; rfl; rfl; rfl
      refine seg_RP (f := 3000) (d := 1999) 13 (pc' := 37) (lv' := [(4, .int 7), (6, .int 0), (5, .int 1), (3, .ref 225), (2, .ref 196), (1, .ref 1), (0, .ref 0)]) (st' := [.int 7, .int 7]) (H' := _) (kc' := kc + 1) (ks' := ks + 6) rfl ?_
      refine seg_RP (f := 3000) (d := 1999) 4 (pc' := 1958) (lv' := [(4, .int 7), (6, .int 0), (5, .int 1), (3, .ref 225), (2, .ref 196), (1, .ref 1), (0, .ref 0)]) (st' := [.int 1]) (H' := _) (kc' := kc + 1) (ks' := ks + 6) rfl ?_
      apply RP.done
      rfl; rfl; rfl; rfl
    · omega
    · omega
  ·
    by_cases h1 : (7 : Int32) < (xs 2)
    ·
      apply GR.mk
      ·
        refine seg_RP (f := 3000) (d := 1999) 7 (pc' := 776) (lv' := [(4, .int 1), (3, .ref 225), (2, .ref 196), (1, .ref 1), (0, .ref 0)]) (st' := [.ref 225, .int (xs 2), .ref 1]) (H' := _) (kc' := kc) (ks' := ks) rfl ?_
        apply RP.call
        rfl; rfl; rfl; rfl; rfl; rfl; rfl
        ·
          refine seg_RP (f := 3000) (d := 1998) 4 (pc' := 4) (lv' := [(0, .ref 1), (1, .int (xs 2)), (2, .ref 225)]) (st' := [.int (xs 2), .ref 1, .int 0, .ref 225]) (H' := _) (kc' := 0) (ks' := 0) rfl ?_
          apply RP.callX
          rfl; rfl; rfl; rfl; rfl; rfl; rfl
          ·
            refine seg_RP (f := 3000) (d := 1997) 2 (pc' := 2) (lv' := [(0, .ref 1), (1, .int (xs 2))]) (st' := [.int (xs 2), .ref 1]) (H' := _) (kc' := 0) (ks' := 0) rfl ?_
            apply RP.callP
            rfl; rfl; rfl; rfl; rfl; rfl; rfl
            ·
              refine seg_RP (f := 3000) (d := 1996) 4 (pc' := 5) (lv' := [(0, .ref 1), (1, .int (xs 2))]) (st' := [.int 7, .int 0, .int (xs 2), .ref 1]) (H' := _) (kc' := 0) (ks' := 0) rfl ?_
              apply RP.callP
              rfl; rfl; rfl; rfl; rfl; rfl; rfl
              ·
                refine seg_RP (f := 3000) (d := 1995) 2 (pc' := 2) (lv' := [(0, .ref 1), (1, .int (xs 2)), (2, .int 0), (3, .int 7)]) (st' := [.int 0, .int (xs 2)]) (H' := _) (kc' := 0) (ks' := 0) rfl ?_
                apply RP.brF
                rfl; rfl; rfl
                exact decide_eq_false (h0)
                refine seg_RP (f := 3000) (d := 1995) 2 (pc' := 7) (lv' := [(0, .ref 1), (1, .int (xs 2)), (2, .int 0), (3, .int 7)]) (st' := [.int 7, .int (xs 2)]) (H' := _) (kc' := 0) (ks' := 0) rfl ?_
                apply RP.brF
                rfl; rfl; rfl
                exact decide_eq_false (Int32.not_le.mpr (h1))
                apply RP.done
                rfl; rfl; rfl; rfl
              rfl
            rfl
          rfl
          refine seg_RP (f := 3000) (d := 1998) 1 (pc' := 14) (lv' := [(0, .ref 1), (1, .int (xs 2)), (2, .ref 225)]) (st' := [.int 1]) (H' := _) (kc' := 1) (ks' := 6) rfl ?_
          apply RP.done
          rfl; rfl; rfl; rfl
        refine seg_RP (f := 3000) (d := 1999) 7 (pc' := 788) (lv' := [(5, .int 1), (4, .int 1), (3, .ref 225), (2, .ref 196), (1, .ref 1), (0, .ref 0)]) (st' := [.int (xs 2), .ref 196]) (H' := _) (kc' := kc + 1) (ks' := ks + 6) rfl ?_
        apply RP.call
        rfl; rfl; rfl; rfl; rfl; rfl; rfl
        ·
          refine seg_RP (f := 3000) (d := 1998) 6 (pc' := 9) (lv' := [(0, .ref 196), (1, .int (xs 2))]) (st' := [.int 8, .int (xs 2), .ref 196]) (H' := _) (kc' := 0) (ks' := 0) rfl ?_
          apply RP.call
          rfl; rfl; rfl; rfl; rfl; rfl; rfl
          ·
            refine seg_RP (f := 3000) (d := 1997) 1 (pc' := 1) (lv' := [(0, .ref 196), (1, .int (xs 2)), (2, .int 8)]) (st' := [.int (xs 2)]) (H' := _) (kc' := 0) (ks' := 0) rfl ?_
            apply RP.brF
            rfl; rfl; rfl
            exact decide_eq_false (h0)
            refine seg_RP (f := 3000) (d := 1997) 2 (pc' := 6) (lv' := [(0, .ref 196), (1, .int (xs 2)), (2, .int 8)]) (st' := [.int 8, .int (xs 2)]) (H' := _) (kc' := 0) (ks' := 0) rfl ?_
            apply RP.brF
            rfl; rfl; rfl
            exact decide_eq_false (i32_gap (h1) (show (8 : Int32) ≤ 7 + 1 by decide) (by decide))
            refine seg_RP (f := 3000) (d := 1997) 2 (pc' := 14) (lv' := [(0, .ref 196), (1, .int (xs 2)), (2, .int 8)]) (st' := [.int 1]) (H' := _) (kc' := 0) (ks' := 0) rfl ?_
            apply RP.done
            rfl; rfl; rfl; rfl
          refine seg_RP (f := 3000) (d := 1998) 4 (pc' := 20) (lv' := [(0, .ref 196), (1, .int (xs 2))]) (st' := [.int 0]) (H' := _) (kc' := 0) (ks' := 0) rfl ?_
          apply RP.done
          rfl; rfl; rfl; rfl
        refine seg_RP (f := 3000) (d := 1999) 13 (pc' := 37) (lv' := [(4, .int 7), (6, .int 0), (5, .int 1), (3, .ref 225), (2, .ref 196), (1, .ref 1), (0, .ref 0)]) (st' := [.int 7, .int 7]) (H' := _) (kc' := kc + 1) (ks' := ks + 6) rfl ?_
        refine seg_RP (f := 3000) (d := 1999) 4 (pc' := 1958) (lv' := [(4, .int 7), (6, .int 0), (5, .int 1), (3, .ref 225), (2, .ref 196), (1, .ref 1), (0, .ref 0)]) (st' := [.int 1]) (H' := _) (kc' := kc + 1) (ks' := ks + 6) rfl ?_
        apply RP.done
        rfl; rfl; rfl; rfl
      · omega
      · omega
    ·
      apply GR.mk
      ·
        refine seg_RP (f := 3000) (d := 1999) 7 (pc' := 776) (lv' := [(4, .int 1), (3, .ref 225), (2, .ref 196), (1, .ref 1), (0, .ref 0)]) (st' := [.ref 225, .int (xs 2), .ref 1]) (H' := _) (kc' := kc) (ks' := ks) rfl ?_
        apply RP.call
        rfl; rfl; rfl; rfl; rfl; rfl; rfl
        ·
          refine seg_RP (f := 3000) (d := 1998) 4 (pc' := 4) (lv' := [(0, .ref 1), (1, .int (xs 2)), (2, .ref 225)]) (st' := [.int (xs 2), .ref 1, .int 0, .ref 225]) (H' := _) (kc' := 0) (ks' := 0) rfl ?_
          apply RP.callX
          rfl; rfl; rfl; rfl; rfl; rfl; rfl
          ·
            refine seg_RP (f := 3000) (d := 1997) 2 (pc' := 2) (lv' := [(0, .ref 1), (1, .int (xs 2))]) (st' := [.int (xs 2), .ref 1]) (H' := _) (kc' := 0) (ks' := 0) rfl ?_
            apply RP.call
            rfl; rfl; rfl; rfl; rfl; rfl; rfl
            ·
              refine seg_RP (f := 3000) (d := 1996) 4 (pc' := 5) (lv' := [(0, .ref 1), (1, .int (xs 2))]) (st' := [.int 7, .int 0, .int (xs 2), .ref 1]) (H' := _) (kc' := 0) (ks' := 0) rfl ?_
              apply RP.call
              rfl; rfl; rfl; rfl; rfl; rfl; rfl
              ·
                refine seg_RP (f := 3000) (d := 1995) 2 (pc' := 2) (lv' := [(0, .ref 1), (1, .int (xs 2)), (2, .int 0), (3, .int 7)]) (st' := [.int 0, .int (xs 2)]) (H' := _) (kc' := 0) (ks' := 0) rfl ?_
                apply RP.brF
                rfl; rfl; rfl
                exact decide_eq_false (h0)
                refine seg_RP (f := 3000) (d := 1995) 2 (pc' := 7) (lv' := [(0, .ref 1), (1, .int (xs 2)), (2, .int 0), (3, .int 7)]) (st' := [.int 7, .int (xs 2)]) (H' := _) (kc' := 0) (ks' := 0) rfl ?_
                apply RP.brT
                rfl; rfl; rfl
                exact decide_eq_true (Int32.not_lt.mp (h1))
                apply RP.done
                rfl; rfl; rfl; rfl
              apply RP.done
              rfl; rfl; rfl; rfl
            refine seg_RP (f := 3000) (d := 1997) 4 (pc' := 11) (lv' := [(0, .ref 1), (1, .int (xs 2))]) (st' := [.int (xs 2), .ref 1]) (H' := _) (kc' := 0) (ks' := 0) rfl ?_
            apply RP.callP
            rfl; rfl; rfl; rfl; rfl; rfl; rfl
            ·
              refine seg_RP (f := 3000) (d := 1996) 3 (pc' := 5) (lv' := [(0, .ref 1), (1, .int (xs 2))]) (st' := [.int (xs 2), .ref 8]) (H' := _) (kc' := 0) (ks' := 0) rfl ?_
              apply RP.call
              rfl; rfl; rfl; rfl; rfl; rfl; rfl
              ·
                refine seg_RP (f := 3000) (d := 1995) 1 (pc' := 1) (lv' := [(0, .ref 8), (1, .int (xs 2))]) (st' := [.int (xs 2)]) (H' := _) (kc' := 0) (ks' := 0) rfl ?_
                apply RP.brF
                rfl; rfl; rfl
                exact decide_eq_false (h0)
                refine seg_RP (f := 3000) (d := 1995) 2 (pc' := 7) (lv' := [(0, .ref 8), (1, .int (xs 2))]) (st' := [.int 8, .int (xs 2)]) (H' := _) (kc' := 0) (ks' := 0) rfl ?_
                apply RP.brF
                rfl; rfl; rfl
                exact decide_eq_false (Int32.not_le.mpr (Int32.lt_of_le_of_lt (Int32.not_lt.mp (h1)) (show (7 : Int32) < 8 by decide)))
                refine seg_RP (f := 3000) (d := 1995) 3 (pc' := 15) (lv' := [(0, .ref 8), (1, .int (xs 2))]) (st' := [.int (xs 2), .ref 9]) (H' := _) (kc' := 0) (ks' := 0) rfl ?_
                apply RP.zald
                rfl; rfl
                exact inR_of (n := 8) (h0) (Int32.lt_of_le_of_lt (Int32.not_lt.mp (h1)) (show (7 : Int32) < 8 by decide))
                refine seg_RP (f := 3000) (d := 1995) 2 (pc' := 24) (lv' := [(0, .ref 8), (1, .int (xs 2))]) (st' := [.int 0]) (H' := _) (kc' := 0) (ks' := 0) rfl ?_
                apply RP.done
                rfl; rfl; rfl; rfl
              refine seg_RP (f := 3000) (d := 1996) 1 (pc' := 11) (lv' := [(0, .ref 1), (1, .int (xs 2))]) (st' := []) (H' := _) (kc' := 0) (ks' := 0) rfl ?_
              apply RP.done
              rfl; rfl; rfl; rfl
            rfl
          rfl
          refine seg_RP (f := 3000) (d := 1998) 1 (pc' := 20) (lv' := [(0, .ref 1), (1, .int (xs 2)), (2, .ref 225)]) (st' := [.int 3]) (H' := _) (kc' := 1) (ks' := 6) rfl ?_
          apply RP.done
          rfl; rfl; rfl; rfl
        refine seg_RP (f := 3000) (d := 1999) 7 (pc' := 788) (lv' := [(5, .int 3), (4, .int 1), (3, .ref 225), (2, .ref 196), (1, .ref 1), (0, .ref 0)]) (st' := [.int (xs 2), .ref 196]) (H' := _) (kc' := kc + 1) (ks' := ks + 6) rfl ?_
        apply RP.call
        rfl; rfl; rfl; rfl; rfl; rfl; rfl
        ·
          refine seg_RP (f := 3000) (d := 1998) 6 (pc' := 9) (lv' := [(0, .ref 196), (1, .int (xs 2))]) (st' := [.int 8, .int (xs 2), .ref 196]) (H' := _) (kc' := 0) (ks' := 0) rfl ?_
          apply RP.call
          rfl; rfl; rfl; rfl; rfl; rfl; rfl
          ·
            refine seg_RP (f := 3000) (d := 1997) 1 (pc' := 1) (lv' := [(0, .ref 196), (1, .int (xs 2)), (2, .int 8)]) (st' := [.int (xs 2)]) (H' := _) (kc' := 0) (ks' := 0) rfl ?_
            apply RP.brF
            rfl; rfl; rfl
            exact decide_eq_false (h0)
            refine seg_RP (f := 3000) (d := 1997) 2 (pc' := 6) (lv' := [(0, .ref 196), (1, .int (xs 2)), (2, .int 8)]) (st' := [.int 8, .int (xs 2)]) (H' := _) (kc' := 0) (ks' := 0) rfl ?_
            apply RP.brT
            rfl; rfl; rfl
            exact decide_eq_true (Int32.lt_of_le_of_lt (Int32.not_lt.mp (h1)) (show (7 : Int32) < 8 by decide))
            refine seg_RP (f := 3000) (d := 1997) 1 (pc' := 14) (lv' := [(0, .ref 196), (1, .int (xs 2)), (2, .int 8)]) (st' := [.int 0]) (H' := _) (kc' := 0) (ks' := 0) rfl ?_
            apply RP.done
            rfl; rfl; rfl; rfl
          refine seg_RP (f := 3000) (d := 1998) 7 (pc' := 39) (lv' := [(0, .ref 196), (1, .int (xs 2))]) (st' := [.int (xs 2), .ref 206]) (H' := _) (kc' := 0) (ks' := 0) rfl ?_
          apply RP.zald
          rfl; rfl
          exact inR_of (n := 8) (h0) (Int32.lt_of_le_of_lt (Int32.not_lt.mp (h1)) (show (7 : Int32) < 8 by decide))
          refine seg_RP (f := 3000) (d := 1998) 4 (pc' := 48) (lv' := [(0, .ref 196), (1, .int (xs 2))]) (st' := [.int 0]) (H' := _) (kc' := 0) (ks' := 0) rfl ?_
          apply RP.done
          rfl; rfl; rfl; rfl
        refine seg_RP (f := 3000) (d := 1999) 13 (pc' := 37) (lv' := [(4, .int 7), (6, .int 0), (5, .int 3), (3, .ref 225), (2, .ref 196), (1, .ref 1), (0, .ref 0)]) (st' := [.int 7, .int 7]) (H' := _) (kc' := kc + 1) (ks' := ks + 6) rfl ?_
        refine seg_RP (f := 3000) (d := 1999) 4 (pc' := 1958) (lv' := [(4, .int 7), (6, .int 0), (5, .int 3), (3, .ref 225), (2, .ref 196), (1, .ref 1), (0, .ref 0)]) (st' := [.int 1]) (H' := _) (kc' := kc + 1) (ks' := ks + 6) rfl ?_
        apply RP.done
        rfl; rfl; rfl; rfl
      · omega
      · omega
