set_option maxRecDepth 100000 in
set_option maxHeartbeats 4000000 in
theorem first_22 {xs : Nat → Int32} {kc ks : Nat} {v0 : Int32} {c1 : aC} {c2 : aC} {v3 : Int32} {c4 : aC} {c5 : aC} {c6 : aC} {c7 : aC} {c8 : aC} {c9 : aC} {c10 : aC} {c11 : aC} {v12 : Int32} {c13 : aC} {c14 : aC} {c15 : aC} {c16 : aC} {v17 : Int32} : GR xs 1555 (hpV v0 c1 c2 v3 c4 c5 c6 c7 c8 c9 c10 c11 v12 c13 c14 c15 c16 v17) kc ks := by
  apply GR.mk
  ·
    refine seg_RP (f := 3000) (d := 1999) 26 (pc' := 37) (lv' := [(4, .int 7), (6, .int 0), (5, .int 0), (3, .ref 225), (2, .ref 196), (1, .ref 1), (0, .ref 0)]) (st' := [.int 7, .int 7]) (H' := _) (kc' := kc) (ks' := ks) rfl ?_
    refine seg_RP (f := 3000) (d := 1999) 4 (pc' := 1958) (lv' := [(4, .int 7), (6, .int 0), (5, .int 0), (3, .ref 225), (2, .ref 196), (1, .ref 1), (0, .ref 0)]) (st' := [.int 1]) (H' := _) (kc' := kc) (ks' := ks) rfl ?_
    apply RP.done
    rfl; rfl; rfl; rfl
  · omega
  · omega
set_option maxRecDepth 100000 in
set_option maxHeartbeats 4000000 in
theorem first_23 {xs : Nat → Int32} {kc ks : Nat} {v0 : Int32} {c1 : aC} {c2 : aC} {v3 : Int32} {c4 : aC} {c5 : aC} {c6 : aC} {c7 : aC} {c8 : aC} {c9 : aC} {c10 : aC} {c11 : aC} {v12 : Int32} {c13 : aC} {c14 : aC} {c15 : aC} {c16 : aC} {v17 : Int32} : GR xs 1599 (hpV v0 c1 c2 v3 c4 c5 c6 c7 c8 c9 c10 c11 v12 c13 c14 c15 c16 v17) kc ks := by
  by_cases h0 : (xs 2) < 0
  ·
    apply GR.mk
    ·
      refine seg_RP (f := 3000) (d := 1999) 12 (pc' := 1613) (lv' := [(4, .int 1), (3, .ref 225), (2, .ref 196), (1, .ref 1), (0, .ref 0)]) (st' := [.ref 225, .int (xs 3), .int (xs 2), .ref 1]) (H' := _) (kc' := kc) (ks' := ks) rfl ?_
      apply RP.call
      rfl; rfl; rfl; rfl; rfl; rfl; rfl
      ·
        refine seg_RP (f := 3000) (d := 1998) 5 (pc' := 5) (lv' := [(0, .ref 1), (1, .int (xs 2)), (2, .int (xs 3)), (3, .ref 225)]) (st' := [.int (xs 3), .int (xs 2), .ref 1, .int 0, .ref 225]) (H' := _) (kc' := 0) (ks' := 0) rfl ?_
        apply RP.callX
        rfl; rfl; rfl; rfl; rfl; rfl; rfl
        ·
          refine seg_RP (f := 3000) (d := 1997) 2 (pc' := 2) (lv' := [(0, .ref 1), (1, .int (xs 2)), (2, .int (xs 3))]) (st' := [.int (xs 2), .ref 1]) (H' := _) (kc' := 0) (ks' := 0) rfl ?_
          apply RP.callP
          rfl; rfl; rfl; rfl; rfl; rfl; rfl
          ·
            refine seg_RP (f := 3000) (d := 1996) 4 (pc' := 6) (lv' := [(0, .ref 1), (1, .int (xs 2))]) (st' := [.int 200, .int 0, .int (xs 2), .ref 1]) (H' := _) (kc' := 0) (ks' := 0) rfl ?_
            apply RP.callP
            rfl; rfl; rfl; rfl; rfl; rfl; rfl
            ·
              refine seg_RP (f := 3000) (d := 1995) 2 (pc' := 2) (lv' := [(0, .ref 1), (1, .int (xs 2)), (2, .int 0), (3, .int 200)]) (st' := [.int 0, .int (xs 2)]) (H' := _) (kc' := 0) (ks' := 0) rfl ?_
              apply RP.brT
              rfl; rfl; rfl
              exact decide_eq_true (h0)
              apply RP.done
              rfl; rfl; rfl; rfl
            rfl
          rfl
        rfl
        refine seg_RP (f := 3000) (d := 1998) 1 (pc' := 16) (lv' := [(0, .ref 1), (1, .int (xs 2)), (2, .int (xs 3)), (3, .ref 225)]) (st' := [.int 1]) (H' := _) (kc' := 1) (ks' := 6) rfl ?_
        apply RP.done
        rfl; rfl; rfl; rfl
      refine seg_RP (f := 3000) (d := 1999) 12 (pc' := 1631) (lv' := [(5, .int 1), (4, .int 1), (3, .ref 225), (2, .ref 196), (1, .ref 1), (0, .ref 0)]) (st' := [.int (xs 3), .int (xs 2), .ref 196]) (H' := _) (kc' := kc + 1) (ks' := ks + 6) rfl ?_
      apply RP.call
      rfl; rfl; rfl; rfl; rfl; rfl; rfl
      ·
        refine seg_RP (f := 3000) (d := 1998) 6 (pc' := 10) (lv' := [(0, .ref 196), (1, .int (xs 2)), (2, .int (xs 3))]) (st' := [.int 201, .int (xs 2), .ref 196]) (H' := _) (kc' := 0) (ks' := 0) rfl ?_
        apply RP.call
        rfl; rfl; rfl; rfl; rfl; rfl; rfl
        ·
          refine seg_RP (f := 3000) (d := 1997) 1 (pc' := 1) (lv' := [(0, .ref 196), (1, .int (xs 2)), (2, .int 201)]) (st' := [.int (xs 2)]) (H' := _) (kc' := 0) (ks' := 0) rfl ?_
          apply RP.brT
          rfl; rfl; rfl
          exact decide_eq_true (h0)
          refine seg_RP (f := 3000) (d := 1997) 2 (pc' := 14) (lv' := [(0, .ref 196), (1, .int (xs 2)), (2, .int 201)]) (st' := [.int 1]) (H' := _) (kc' := 0) (ks' := 0) rfl ?_
          apply RP.done
          rfl; rfl; rfl; rfl
        refine seg_RP (f := 3000) (d := 1998) 4 (pc' := 45) (lv' := [(0, .ref 196), (1, .int (xs 2)), (2, .int (xs 3))]) (st' := [.int 0]) (H' := _) (kc' := 0) (ks' := 0) rfl ?_
        apply RP.done
        rfl; rfl; rfl; rfl
      refine seg_RP (f := 3000) (d := 1999) 13 (pc' := 37) (lv' := [(4, .int 7), (6, .int 0), (5, .int 1), (3, .ref 225), (2, .ref 196), (1, .ref 1), (0, .ref 0)]) (st' := [.int 7, .int 7]) (H' := _) (kc' := kc + 1) (ks' := ks + 6) rfl ?_
      refine seg_RP (f := 3000) (d := 1999) 4 (pc' := 1958) (lv' := [(4, .int 7), (6, .int 0), (5, .int 1), (3, .ref 225), (2, .ref 196), (1, .ref 1), (0, .ref 0)]) (st' := [.int 1]) (H' := _) (kc' := kc + 1) (ks' := ks + 6) rfl ?_
      apply RP.done
      rfl; rfl; rfl; rfl
    · omega
    · omega
  ·
    by_cases h1 : (200 : Int32) < (xs 2)
    ·
      apply GR.mk
      ·
        refine seg_RP (f := 3000) (d := 1999) 12 (pc' := 1613) (lv' := [(4, .int 1), (3, .ref 225), (2, .ref 196), (1, .ref 1), (0, .ref 0)]) (st' := [.ref 225, .int (xs 3), .int (xs 2), .ref 1]) (H' := _) (kc' := kc) (ks' := ks) rfl ?_
        apply RP.call
        rfl; rfl; rfl; rfl; rfl; rfl; rfl
        ·
          refine seg_RP (f := 3000) (d := 1998) 5 (pc' := 5) (lv' := [(0, .ref 1), (1, .int (xs 2)), (2, .int (xs 3)), (3, .ref 225)]) (st' := [.int (xs 3), .int (xs 2), .ref 1, .int 0, .ref 225]) (H' := _) (kc' := 0) (ks' := 0) rfl ?_
          apply RP.callX
          rfl; rfl; rfl; rfl; rfl; rfl; rfl
          ·
            refine seg_RP (f := 3000) (d := 1997) 2 (pc' := 2) (lv' := [(0, .ref 1), (1, .int (xs 2)), (2, .int (xs 3))]) (st' := [.int (xs 2), .ref 1]) (H' := _) (kc' := 0) (ks' := 0) rfl ?_
            apply RP.callP
            rfl; rfl; rfl; rfl; rfl; rfl; rfl
            ·
              refine seg_RP (f := 3000) (d := 1996) 4 (pc' := 6) (lv' := [(0, .ref 1), (1, .int (xs 2))]) (st' := [.int 200, .int 0, .int (xs 2), .ref 1]) (H' := _) (kc' := 0) (ks' := 0) rfl ?_
              apply RP.callP
              rfl; rfl; rfl; rfl; rfl; rfl; rfl
              ·
                refine seg_RP (f := 3000) (d := 1995) 2 (pc' := 2) (lv' := [(0, .ref 1), (1, .int (xs 2)), (2, .int 0), (3, .int 200)]) (st' := [.int 0, .int (xs 2)]) (H' := _) (kc' := 0) (ks' := 0) rfl ?_
                apply RP.brF
                rfl; rfl; rfl
                exact decide_eq_false (h0)
                refine seg_RP (f := 3000) (d := 1995) 2 (pc' := 7) (lv' := [(0, .ref 1), (1, .int (xs 2)), (2, .int 0), (3, .int 200)]) (st' := [.int 200, .int (xs 2)]) (H' := _) (kc' := 0) (ks' := 0) rfl ?_
                apply RP.brF
                rfl; rfl; rfl
                exact decide_eq_false (Int32.not_le.mpr (h1))
                apply RP.done
                rfl; rfl; rfl; rfl
              rfl
            rfl
          rfl
          refine seg_RP (f := 3000) (d := 1998) 1 (pc' := 16) (lv' := [(0, .ref 1), (1, .int (xs 2)), (2, .int (xs 3)), (3, .ref 225)]) (st' := [.int 1]) (H' := _) (kc' := 1) (ks' := 6) rfl ?_
          apply RP.done
          rfl; rfl; rfl; rfl
        refine seg_RP (f := 3000) (d := 1999) 12 (pc' := 1631) (lv' := [(5, .int 1), (4, .int 1), (3, .ref 225), (2, .ref 196), (1, .ref 1), (0, .ref 0)]) (st' := [.int (xs 3), .int (xs 2), .ref 196]) (H' := _) (kc' := kc + 1) (ks' := ks + 6) rfl ?_
        apply RP.call
        rfl; rfl; rfl; rfl; rfl; rfl; rfl
        ·
          refine seg_RP (f := 3000) (d := 1998) 6 (pc' := 10) (lv' := [(0, .ref 196), (1, .int (xs 2)), (2, .int (xs 3))]) (st' := [.int 201, .int (xs 2), .ref 196]) (H' := _) (kc' := 0) (ks' := 0) rfl ?_
          apply RP.call
          rfl; rfl; rfl; rfl; rfl; rfl; rfl
          ·
            refine seg_RP (f := 3000) (d := 1997) 1 (pc' := 1) (lv' := [(0, .ref 196), (1, .int (xs 2)), (2, .int 201)]) (st' := [.int (xs 2)]) (H' := _) (kc' := 0) (ks' := 0) rfl ?_
            apply RP.brF
            rfl; rfl; rfl
            exact decide_eq_false (h0)
            refine seg_RP (f := 3000) (d := 1997) 2 (pc' := 6) (lv' := [(0, .ref 196), (1, .int (xs 2)), (2, .int 201)]) (st' := [.int 201, .int (xs 2)]) (H' := _) (kc' := 0) (ks' := 0) rfl ?_
            apply RP.brF
            rfl; rfl; rfl
            exact decide_eq_false (i32_gap (h1) (show (201 : Int32) ≤ 200 + 1 by decide) (by decide))
            refine seg_RP (f := 3000) (d := 1997) 2 (pc' := 14) (lv' := [(0, .ref 196), (1, .int (xs 2)), (2, .int 201)]) (st' := [.int 1]) (H' := _) (kc' := 0) (ks' := 0) rfl ?_
            apply RP.done
            rfl; rfl; rfl; rfl
          refine seg_RP (f := 3000) (d := 1998) 4 (pc' := 45) (lv' := [(0, .ref 196), (1, .int (xs 2)), (2, .int (xs 3))]) (st' := [.int 0]) (H' := _) (kc' := 0) (ks' := 0) rfl ?_
          apply RP.done
          rfl; rfl; rfl; rfl
        refine seg_RP (f := 3000) (d := 1999) 13 (pc' := 37) (lv' := [(4, .int 7), (6, .int 0), (5, .int 1), (3, .ref 225), (2, .ref 196), (1, .ref 1), (0, .ref 0)]) (st' := [.int 7, .int 7]) (H' := _) (kc' := kc + 1) (ks' := ks + 6) rfl ?_
        refine seg_RP (f := 3000) (d := 1999) 4 (pc' := 1958) (lv' := [(4, .int 7), (6, .int 0), (5, .int 1), (3, .ref 225), (2, .ref 196), (1, .ref 1), (0, .ref 0)]) (st' := [.int 1]) (H' := _) (kc' := kc + 1) (ks' := ks + 6) rfl ?_
        apply RP.done
        rfl; rfl; rfl; rfl
      · omega
      · omega
    ·
      apply GR.mk
      ·
        refine seg_RP (f := 3000) (d := 1999) 12 (pc' := 1613) (lv' := [(4, .int 1), (3, .ref 225), (2, .ref 196), (1, .ref 1), (0, .ref 0)]) (st' := [.ref 225, .int (xs 3), .int (xs 2), .ref 1]) (H' := _) (kc' := kc) (ks' := ks) rfl ?_
        apply RP.call
        rfl; rfl; rfl; rfl; rfl; rfl; rfl
        ·
          refine seg_RP (f := 3000) (d := 1998) 5 (pc' := 5) (lv' := [(0, .ref 1), (1, .int (xs 2)), (2, .int (xs 3)), (3, .ref 225)]) (st' := [.int (xs 3), .int (xs 2), .ref 1, .int 0, .ref 225]) (H' := _) (kc' := 0) (ks' := 0) rfl ?_
          apply RP.callX
          rfl; rfl; rfl; rfl; rfl; rfl; rfl
          ·
            refine seg_RP (f := 3000) (d := 1997) 2 (pc' := 2) (lv' := [(0, .ref 1), (1, .int (xs 2)), (2, .int (xs 3))]) (st' := [.int (xs 2), .ref 1]) (H' := _) (kc' := 0) (ks' := 0) rfl ?_
            apply RP.call
            rfl; rfl; rfl; rfl; rfl; rfl; rfl
            ·
              refine seg_RP (f := 3000) (d := 1996) 4 (pc' := 6) (lv' := [(0, .ref 1), (1, .int (xs 2))]) (st' := [.int 200, .int 0, .int (xs 2), .ref 1]) (H' := _) (kc' := 0) (ks' := 0) rfl ?_
              apply RP.call
              rfl; rfl; rfl; rfl; rfl; rfl; rfl
              ·
                refine seg_RP (f := 3000) (d := 1995) 2 (pc' := 2) (lv' := [(0, .ref 1), (1, .int (xs 2)), (2, .int 0), (3, .int 200)]) (st' := [.int 0, .int (xs 2)]) (H' := _) (kc' := 0) (ks' := 0) rfl ?_
                apply RP.brF
                rfl; rfl; rfl
                exact decide_eq_false (h0)
                refine seg_RP (f := 3000) (d := 1995) 2 (pc' := 7) (lv' := [(0, .ref 1), (1, .int (xs 2)), (2, .int 0), (3, .int 200)]) (st' := [.int 200, .int (xs 2)]) (H' := _) (kc' := 0) (ks' := 0) rfl ?_
                apply RP.brT
                rfl; rfl; rfl
                exact decide_eq_true (Int32.not_lt.mp (h1))
                apply RP.done
                rfl; rfl; rfl; rfl
              apply RP.done
              rfl; rfl; rfl; rfl
            refine seg_RP (f := 3000) (d := 1997) 6 (pc' := 17) (lv' := [(0, .ref 1), (1, .int (xs 2)), (2, .int (xs 3))]) (st' := [.int 2000, .int 1, .int 0, .ref 1]) (H' := _) (kc' := 0) (ks' := 0) rfl ?_
            apply RP.callP
            rfl; rfl; rfl; rfl; rfl; rfl; rfl
            ·
              refine seg_RP (f := 3000) (d := 1996) 3 (pc' := 10) (lv' := [(0, .ref 1), (1, .int 0), (2, .int 1), (3, .int 2000)]) (st' := []) (H' := _) (kc' := 0) (ks' := 0) rfl ?_
              apply RP.done
              rfl; rfl; rfl; rfl
            rfl
          rfl
          refine seg_RP (f := 3000) (d := 1998) 1 (pc' := 16) (lv' := [(0, .ref 1), (1, .int (xs 2)), (2, .int (xs 3)), (3, .ref 225)]) (st' := [.int 1]) (H' := _) (kc' := 1) (ks' := 6) rfl ?_
          apply RP.done
          rfl; rfl; rfl; rfl
        refine seg_RP (f := 3000) (d := 1999) 12 (pc' := 1631) (lv' := [(5, .int 1), (4, .int 1), (3, .ref 225), (2, .ref 196), (1, .ref 1), (0, .ref 0)]) (st' := [.int (xs 3), .int (xs 2), .ref 196]) (H' := _) (kc' := kc + 1) (ks' := ks + 6) rfl ?_
        apply RP.call
        rfl; rfl; rfl; rfl; rfl; rfl; rfl
        ·
          refine seg_RP (f := 3000) (d := 1998) 6 (pc' := 10) (lv' := [(0, .ref 196), (1, .int (xs 2)), (2, .int (xs 3))]) (st' := [.int 201, .int (xs 2), .ref 196]) (H' := _) (kc' := 0) (ks' := 0) rfl ?_
          apply RP.call
          rfl; rfl; rfl; rfl; rfl; rfl; rfl
          ·
            refine seg_RP (f := 3000) (d := 1997) 1 (pc' := 1) (lv' := [(0, .ref 196), (1, .int (xs 2)), (2, .int 201)]) (st' := [.int (xs 2)]) (H' := _) (kc' := 0) (ks' := 0) rfl ?_
            apply RP.brF
            rfl; rfl; rfl
            exact decide_eq_false (h0)
            refine seg_RP (f := 3000) (d := 1997) 2 (pc' := 6) (lv' := [(0, .ref 196), (1, .int (xs 2)), (2, .int 201)]) (st' := [.int 201, .int (xs 2)]) (H' := _) (kc' := 0) (ks' := 0) rfl ?_
            apply RP.brT
            rfl; rfl; rfl
            exact decide_eq_true (Int32.lt_of_le_of_lt (Int32.not_lt.mp (h1)) (show (200 : Int32) < 201 by decide))
            refine seg_RP (f := 3000) (d := 1997) 1 (pc' := 14) (lv' := [(0, .ref 196), (1, .int (xs 2)), (2, .int 201)]) (st' := [.int 0]) (H' := _) (kc' := 0) (ks' := 0) rfl ?_
            apply RP.done
            rfl; rfl; rfl; rfl
          refine seg_RP (f := 3000) (d := 1998) 8 (pc' := 45) (lv' := [(0, .ref 196), (1, .int (xs 2)), (2, .int (xs 3))]) (st' := [.int 0]) (H' := _) (kc' := 0) (ks' := 0) rfl ?_
          apply RP.done
          rfl; rfl; rfl; rfl
        refine seg_RP (f := 3000) (d := 1999) 13 (pc' := 37) (lv' := [(4, .int 7), (6, .int 0), (5, .int 1), (3, .ref 225), (2, .ref 196), (1, .ref 1), (0, .ref 0)]) (st' := [.int 7, .int 7]) (H' := _) (kc' := kc + 1) (ks' := ks + 6) rfl ?_
        refine seg_RP (f := 3000) (d := 1999) 4 (pc' := 1958) (lv' := [(4, .int 7), (6, .int 0), (5, .int 1), (3, .ref 225), (2, .ref 196), (1, .ref 1), (0, .ref 0)]) (st' := [.int 1]) (H' := _) (kc' := kc + 1) (ks' := ks + 6) rfl ?_
        apply RP.done
        rfl; rfl; rfl; rfl
      · omega
      · omega
set_option maxRecDepth 100000 in
set_option maxHeartbeats 4000000 in
theorem first_24 {xs : Nat → Int32} {kc ks : Nat} {v0 : Int32} {c1 : aC} {c2 : aC} {v3 : Int32} {c4 : aC} {c5 : aC} {c6 : aC} {c7 : aC} {c8 : aC} {c9 : aC} {c10 : aC} {c11 : aC} {v12 : Int32} {c13 : aC} {c14 : aC} {c15 : aC} {c16 : aC} {v17 : Int32} : GR xs 1667 (hpV v0 c1 c2 v3 c4 c5 c6 c7 c8 c9 c10 c11 v12 c13 c14 c15 c16 v17) kc ks := by
  by_cases h0 : (xs 2) < 0
  ·
    apply GR.mk
    ·
      refine seg_RP (f := 3000) (d := 1999) 17 (pc' := 1687) (lv' := [(4, .int 1), (3, .ref 225), (2, .ref 196), (1, .ref 1), (0, .ref 0)]) (st' := [.ref 225, .int (xs 4), .int (xs 3), .int (xs 2), .ref 1]) (H' := _) (kc' := kc) (ks' := ks) rfl ?_
      apply RP.call
      rfl; rfl; rfl; rfl; rfl; rfl; rfl
      ·
        refine seg_RP (f := 3000) (d := 1998) 6 (pc' := 7) (lv' := [(0, .ref 1), (1, .int (xs 2)), (2, .int (xs 3)), (3, .int (xs 4)), (4, .ref 225)]) (st' := [.int (xs 4), .int (xs 3), .int (xs 2), .ref 1, .int 0, .ref 225]) (H' := _) (kc' := 0) (ks' := 0) rfl ?_
        apply RP.callX
        rfl; rfl; rfl; rfl; rfl; rfl; rfl
        ·
          refine seg_RP (f := 3000) (d := 1997) 2 (pc' := 2) (lv' := [(0, .ref 1), (1, .int (xs 2)), (2, .int (xs 3)), (3, .int (xs 4))]) (st' := [.int (xs 2), .ref 1]) (H' := _) (kc' := 0) (ks' := 0) rfl ?_
          apply RP.callP
          rfl; rfl; rfl; rfl; rfl; rfl; rfl
          ·
            refine seg_RP (f := 3000) (d := 1996) 4 (pc' := 6) (lv' := [(0, .ref 1), (1, .int (xs 2))]) (st' := [.int 200, .int 0, .int (xs 2), .ref 1]) (H' := _) (kc' := 0) (ks' := 0) rfl ?_
            apply RP.callP
            rfl; rfl; rfl; rfl; rfl; rfl; rfl
            ·
              refine seg_RP (f := 3000) (d := 1995) 2 (pc' := 2) (lv' := [(0, .ref 1), (1, .int (xs 2)), (2, .int 0), (3, .int 200)]) (st' := [.int 0, .int (xs 2)]) (H' := _) (kc' := 0) (ks' := 0) rfl ?_
              apply RP.brT
              rfl; rfl; rfl
              exact decide_eq_true (h0)
              apply RP.done
              rfl; rfl; rfl; rfl
            rfl
          rfl
        rfl
        refine seg_RP (f := 3000) (d := 1998) 1 (pc' := 18) (lv' := [(0, .ref 1), (1, .int (xs 2)), (2, .int (xs 3)), (3, .int (xs 4)), (4, .ref 225)]) (st' := [.int 1]) (H' := _) (kc' := 1) (ks' := 6) rfl ?_
        apply RP.done
        rfl; rfl; rfl; rfl
      refine seg_RP (f := 3000) (d := 1999) 17 (pc' := 1711) (lv' := [(5, .int 1), (4, .int 1), (3, .ref 225), (2, .ref 196), (1, .ref 1), (0, .ref 0)]) (st' := [.int (xs 4), .int (xs 3), .int (xs 2), .ref 196]) (H' := _) (kc' := kc + 1) (ks' := ks + 6) rfl ?_
      apply RP.call
      rfl; rfl; rfl; rfl; rfl; rfl; rfl
      ·
        refine seg_RP (f := 3000) (d := 1998) 6 (pc' := 10) (lv' := [(0, .ref 196), (1, .int (xs 2)), (2, .int (xs 3)), (3, .int (xs 4))]) (st' := [.int 201, .int (xs 2), .ref 196]) (H' := _) (kc' := 0) (ks' := 0) rfl ?_
        apply RP.call
        rfl; rfl; rfl; rfl; rfl; rfl; rfl
        ·
          refine seg_RP (f := 3000) (d := 1997) 1 (pc' := 1) (lv' := [(0, .ref 196), (1, .int (xs 2)), (2, .int 201)]) (st' := [.int (xs 2)]) (H' := _) (kc' := 0) (ks' := 0) rfl ?_
          apply RP.brT
          rfl; rfl; rfl
          exact decide_eq_true (h0)
          refine seg_RP (f := 3000) (d := 1997) 2 (pc' := 14) (lv' := [(0, .ref 196), (1, .int (xs 2)), (2, .int 201)]) (st' := [.int 1]) (H' := _) (kc' := 0) (ks' := 0) rfl ?_
          apply RP.done
          rfl; rfl; rfl; rfl
        refine seg_RP (f := 3000) (d := 1998) 4 (pc' := 43) (lv' := [(0, .ref 196), (1, .int (xs 2)), (2, .int (xs 3)), (3, .int (xs 4))]) (st' := [.int 0]) (H' := _) (kc' := 0) (ks' := 0) rfl ?_
        apply RP.done
        rfl; rfl; rfl; rfl
      refine seg_RP (f := 3000) (d := 1999) 13 (pc' := 37) (lv' := [(4, .int 7), (6, .int 0), (5, .int 1), (3, .ref 225), (2, .ref 196), (1, .ref 1), (0, .ref 0)]) (st' := [.int 7, .int 7]) (H' := _) (kc' := kc + 1) (ks' := ks + 6) rfl ?_
      refine seg_RP (f := 3000) (d := 1999) 4 (pc' := 1958) (lv' := [(4, .int 7), (6, .int 0), (5, .int 1), (3, .ref 225), (2, .ref 196), (1, .ref 1), (0, .ref 0)]) (st' := [.int 1]) (H' := _) (kc' := kc + 1) (ks' := ks + 6) rfl ?_
      apply RP.done
      rfl; rfl; rfl; rfl
    · omega
    · omega
  ·
    by_cases h1 : (200 : Int32) < (xs 2)
    ·
      apply GR.mk
      ·
        refine seg_RP (f := 3000) (d := 1999) 17 (pc' := 1687) (lv' := [(4, .int 1), (3, .ref 225), (2, .ref 196), (1, .ref 1), (0, .ref 0)]) (st' := [.ref 225, .int (xs 4), .int (xs 3), .int (xs 2), .ref 1]) (H' := _) (kc' := kc) (ks' := ks) rfl ?_
        apply RP.call
        rfl; rfl; rfl; rfl; rfl; rfl; rfl
        ·
          refine seg_RP (f := 3000) (d := 1998) 6 (pc' := 7) (lv' := [(0, .ref 1), (1, .int (xs 2)), (2, .int (xs 3)), (3, .int (xs 4)), (4, .ref 225)]) (st' := [.int (xs 4), .int (xs 3), .int (xs 2), .ref 1, .int 0, .ref 225]) (H' := _) (kc' := 0) (ks' := 0) rfl ?_
          apply RP.callX
          rfl; rfl; rfl; rfl; rfl; rfl; rfl
          ·
            refine seg_RP (f := 3000) (d := 1997) 2 (pc' := 2) (lv' := [(0, .ref 1), (1, .int (xs 2)), (2, .int (xs 3)), (3, .int (xs 4))]) (st' := [.int (xs 2), .ref 1]) (H' := _) (kc' := 0) (ks' := 0) rfl ?_
            apply RP.callP
            rfl; rfl; rfl; rfl; rfl; rfl; rfl
            ·
              refine seg_RP (f := 3000) (d := 1996) 4 (pc' := 6) (lv' := [(0, .ref 1), (1, .int (xs 2))]) (st' := [.int 200, .int 0, .int (xs 2), .ref 1]) (H' := _) (kc' := 0) (ks' := 0) rfl ?_
              apply RP.callP
              rfl; rfl; rfl; rfl; rfl; rfl; rfl
              ·
                refine seg_RP (f := 3000) (d := 1995) 2 (pc' := 2) (lv' := [(0, .ref 1), (1, .int (xs 2)), (2, .int 0), (3, .int 200)]) (st' := [.int 0, .int (xs 2)]) (H' := _) (kc' := 0) (ks' := 0) rfl ?_
                apply RP.brF
                rfl; rfl; rfl
                exact decide_eq_false (h0)
                refine seg_RP (f := 3000) (d := 1995) 2 (pc' := 7) (lv' := [(0, .ref 1), (1, .int (xs 2)), (2, .int 0), (3, .int 200)]) (st' := [.int 200, .int (xs 2)]) (H' := _) (kc' := 0) (ks' := 0) rfl ?_
                apply RP.brF
                rfl; rfl; rfl
                exact decide_eq_false (Int32.not_le.mpr (h1))
                apply RP.done
                rfl; rfl; rfl; rfl
              rfl
            rfl
          rfl
          refine seg_RP (f := 3000) (d := 1998) 1 (pc' := 18) (lv' := [(0, .ref 1), (1, .int (xs 2)), (2, .int (xs 3)), (3, .int (xs 4)), (4, .ref 225)]) (st' := [.int 1]) (H' := _) (kc' := 1) (ks' := 6) rfl ?_
          apply RP.done
          rfl; rfl; rfl; rfl
        refine seg_RP (f := 3000) (d := 1999) 17 (pc' := 1711) (lv' := [(5, .int 1), (4, .int 1), (3, .ref 225), (2, .ref 196), (1, .ref 1), (0, .ref 0)]) (st' := [.int (xs 4), .int (xs 3), .int (xs 2), .ref 196]) (H' := _) (kc' := kc + 1) (ks' := ks + 6) rfl ?_
        apply RP.call
        rfl; rfl; rfl; rfl; rfl; rfl; rfl
        ·
          refine seg_RP (f := 3000) (d := 1998) 6 (pc' := 10) (lv' := [(0, .ref 196), (1, .int (xs 2)), (2, .int (xs 3)), (3, .int (xs 4))]) (st' := [.int 201, .int (xs 2), .ref 196]) (H' := _) (kc' := 0) (ks' := 0) rfl ?_
          apply RP.call
          rfl; rfl; rfl; rfl; rfl; rfl; rfl
          ·
            refine seg_RP (f := 3000) (d := 1997) 1 (pc' := 1) (lv' := [(0, .ref 196), (1, .int (xs 2)), (2, .int 201)]) (st' := [.int (xs 2)]) (H' := _) (kc' := 0) (ks' := 0) rfl ?_
            apply RP.brF
            rfl; rfl; rfl
            exact decide_eq_false (h0)
            refine seg_RP (f := 3000) (d := 1997) 2 (pc' := 6) (lv' := [(0, .ref 196), (1, .int (xs 2)), (2, .int 201)]) (st' := [.int 201, .int (xs 2)]) (H' := _) (kc' := 0) (ks' := 0) rfl ?_
            apply RP.brF
            rfl; rfl; rfl
            exact decide_eq_false (i32_gap (h1) (show (201 : Int32) ≤ 200 + 1 by decide) (by decide))
            refine seg_RP (f := 3000) (d := 1997) 2 (pc' := 14) (lv' := [(0, .ref 196), (1, .int (xs 2)), (2, .int 201)]) (st' := [.int 1]) (H' := _) (kc' := 0) (ks' := 0) rfl ?_
            apply RP.done
            rfl; rfl; rfl; rfl
          refine seg_RP (f := 3000) (d := 1998) 4 (pc' := 43) (lv' := [(0, .ref 196), (1, .int (xs 2)), (2, .int (xs 3)), (3, .int (xs 4))]) (st' := [.int 0]) (H' := _) (kc' := 0) (ks' := 0) rfl ?_
          apply RP.done
          rfl; rfl; rfl; rfl
        refine seg_RP (f := 3000) (d := 1999) 13 (pc' := 37) (lv' := [(4, .int 7), (6, .int 0), (5, .int 1), (3, .ref 225), (2, .ref 196), (1, .ref 1), (0, .ref 0)]) (st' := [.int 7, .int 7]) (H' := _) (kc' := kc + 1) (ks' := ks + 6) rfl ?_
        refine seg_RP (f := 3000) (d := 1999) 4 (pc' := 1958) (lv' := [(4, .int 7), (6, .int 0), (5, .int 1), (3, .ref 225), (2, .ref 196), (1, .ref 1), (0, .ref 0)]) (st' := [.int 1]) (H' := _) (kc' := kc + 1) (ks' := ks + 6) rfl ?_
        apply RP.done
        rfl; rfl; rfl; rfl
      · omega
      · omega
    ·
      by_cases h2 : (xs 3) < 0
      ·
        apply GR.mk
        ·
          refine seg_RP (f := 3000) (d := 1999) 17 (pc' := 1687) (lv' := [(4, .int 1), (3, .ref 225), (2, .ref 196), (1, .ref 1), (0, .ref 0)]) (st' := [.ref 225, .int (xs 4), .int (xs 3), .int (xs 2), .ref 1]) (H' := _) (kc' := kc) (ks' := ks) rfl ?_
          apply RP.call
          rfl; rfl; rfl; rfl; rfl; rfl; rfl
          ·
            refine seg_RP (f := 3000) (d := 1998) 6 (pc' := 7) (lv' := [(0, .ref 1), (1, .int (xs 2)), (2, .int (xs 3)), (3, .int (xs 4)), (4, .ref 225)]) (st' := [.int (xs 4), .int (xs 3), .int (xs 2), .ref 1, .int 0, .ref 225]) (H' := _) (kc' := 0) (ks' := 0) rfl ?_
            apply RP.callX
            rfl; rfl; rfl; rfl; rfl; rfl; rfl
            ·
              refine seg_RP (f := 3000) (d := 1997) 2 (pc' := 2) (lv' := [(0, .ref 1), (1, .int (xs 2)), (2, .int (xs 3)), (3, .int (xs 4))]) (st' := [.int (xs 2), .ref 1]) (H' := _) (kc' := 0) (ks' := 0) rfl ?_
              apply RP.call
              rfl; rfl; rfl; rfl; rfl; rfl; rfl
              ·
                refine seg_RP (f := 3000) (d := 1996) 4 (pc' := 6) (lv' := [(0, .ref 1), (1, .int (xs 2))]) (st' := [.int 200, .int 0, .int (xs 2), .ref 1]) (H' := _) (kc' := 0) (ks' := 0) rfl ?_
                apply RP.call
                rfl; rfl; rfl; rfl; rfl; rfl; rfl
                ·
                  refine seg_RP (f := 3000) (d := 1995) 2 (pc' := 2) (lv' := [(0, .ref 1), (1, .int (xs 2)), (2, .int 0), (3, .int 200)]) (st' := [.int 0, .int (xs 2)]) (H' := _) (kc' := 0) (ks' := 0) rfl ?_
                  apply RP.brF
                  rfl; rfl; rfl
                  exact decide_eq_false (h0)
                  refine seg_RP (f := 3000) (d := 1995) 2 (pc' := 7) (lv' := [(0, .ref 1), (1, .int (xs 2)), (2, .int 0), (3, .int 200)]) (st' := [.int 200, .int (xs 2)]) (H' := _) (kc' := 0) (ks' := 0) rfl ?_
                  apply RP.brT
                  rfl; rfl; rfl
                  exact decide_eq_true (Int32.not_lt.mp (h1))
                  apply RP.done
                  rfl; rfl; rfl; rfl
                apply RP.done
                rfl; rfl; rfl; rfl
              refine seg_RP (f := 3000) (d := 1997) 4 (pc' := 11) (lv' := [(0, .ref 1), (1, .int (xs 2)), (2, .int (xs 3)), (3, .int (xs 4))]) (st' := [.int 16384, .int 0, .int (xs 3), .ref 1]) (H' := _) (kc' := 0) (ks' := 0) rfl ?_
              apply RP.callP
              rfl; rfl; rfl; rfl; rfl; rfl; rfl
              ·
                refine seg_RP (f := 3000) (d := 1996) 2 (pc' := 2) (lv' := [(0, .ref 1), (1, .int (xs 3)), (2, .int 0), (3, .int 16384)]) (st' := [.int 0, .int (xs 3)]) (H' := _) (kc' := 0) (ks' := 0) rfl ?_
                apply RP.brT
                rfl; rfl; rfl
                exact decide_eq_true (h2)
                apply RP.done
                rfl; rfl; rfl; rfl
              rfl
            rfl
            refine seg_RP (f := 3000) (d := 1998) 1 (pc' := 18) (lv' := [(0, .ref 1), (1, .int (xs 2)), (2, .int (xs 3)), (3, .int (xs 4)), (4, .ref 225)]) (st' := [.int 1]) (H' := _) (kc' := 1) (ks' := 6) rfl ?_
            apply RP.done
            rfl; rfl; rfl; rfl
          refine seg_RP (f := 3000) (d := 1999) 17 (pc' := 1711) (lv' := [(5, .int 1), (4, .int 1), (3, .ref 225), (2, .ref 196), (1, .ref 1), (0, .ref 0)]) (st' := [.int (xs 4), .int (xs 3), .int (xs 2), .ref 196]) (H' := _) (kc' := kc + 1) (ks' := ks + 6) rfl ?_
          apply RP.call
          rfl; rfl; rfl; rfl; rfl; rfl; rfl
          ·
            refine seg_RP (f := 3000) (d := 1998) 6 (pc' := 10) (lv' := [(0, .ref 196), (1, .int (xs 2)), (2, .int (xs 3)), (3, .int (xs 4))]) (st' := [.int 201, .int (xs 2), .ref 196]) (H' := _) (kc' := 0) (ks' := 0) rfl ?_
            apply RP.call
            rfl; rfl; rfl; rfl; rfl; rfl; rfl
            ·
              refine seg_RP (f := 3000) (d := 1997) 1 (pc' := 1) (lv' := [(0, .ref 196), (1, .int (xs 2)), (2, .int 201)]) (st' := [.int (xs 2)]) (H' := _) (kc' := 0) (ks' := 0) rfl ?_
              apply RP.brF
              rfl; rfl; rfl
              exact decide_eq_false (h0)
              refine seg_RP (f := 3000) (d := 1997) 2 (pc' := 6) (lv' := [(0, .ref 196), (1, .int (xs 2)), (2, .int 201)]) (st' := [.int 201, .int (xs 2)]) (H' := _) (kc' := 0) (ks' := 0) rfl ?_
              apply RP.brT
              rfl; rfl; rfl
              exact decide_eq_true (Int32.lt_of_le_of_lt (Int32.not_lt.mp (h1)) (show (200 : Int32) < 201 by decide))
              refine seg_RP (f := 3000) (d := 1997) 1 (pc' := 14) (lv' := [(0, .ref 196), (1, .int (xs 2)), (2, .int 201)]) (st' := [.int 0]) (H' := _) (kc' := 0) (ks' := 0) rfl ?_
              apply RP.done
              rfl; rfl; rfl; rfl
            refine seg_RP (f := 3000) (d := 1998) 4 (pc' := 21) (lv' := [(0, .ref 196), (1, .int (xs 2)), (2, .int (xs 3)), (3, .int (xs 4))]) (st' := [.int 16385, .int (xs 3), .ref 196]) (H' := _) (kc' := 0) (ks' := 0) rfl ?_
            apply RP.call
            rfl; rfl; rfl; rfl; rfl; rfl; rfl
            ·
              refine seg_RP (f := 3000) (d := 1997) 1 (pc' := 1) (lv' := [(0, .ref 196), (1, .int (xs 3)), (2, .int 16385)]) (st' := [.int (xs 3)]) (H' := _) (kc' := 0) (ks' := 0) rfl ?_
              apply RP.brT
              rfl; rfl; rfl
              exact decide_eq_true (h2)
              refine seg_RP (f := 3000) (d := 1997) 2 (pc' := 14) (lv' := [(0, .ref 196), (1, .int (xs 3)), (2, .int 16385)]) (st' := [.int 1]) (H' := _) (kc' := 0) (ks' := 0) rfl ?_
              apply RP.done
              rfl; rfl; rfl; rfl
            refine seg_RP (f := 3000) (d := 1998) 4 (pc' := 43) (lv' := [(0, .ref 196), (1, .int (xs 2)), (2, .int (xs 3)), (3, .int (xs 4))]) (st' := [.int 0]) (H' := _) (kc' := 0) (ks' := 0) rfl ?_
            apply RP.done
            rfl; rfl; rfl; rfl
          refine seg_RP (f := 3000) (d := 1999) 13 (pc' := 37) (lv' := [(4, .int 7), (6, .int 0), (5, .int 1), (3, .ref 225), (2, .ref 196), (1, .ref 1), (0, .ref 0)]) (st' := [.int 7, .int 7]) (H' := _) (kc' := kc + 1) (ks' := ks + 6) rfl ?_
          refine seg_RP (f := 3000) (d := 1999) 4 (pc' := 1958) (lv' := [(4, .int 7), (6, .int 0), (5, .int 1), (3, .ref 225), (2, .ref 196), (1, .ref 1), (0, .ref 0)]) (st' := [.int 1]) (H' := _) (kc' := kc + 1) (ks' := ks + 6) rfl ?_
          apply RP.done
          rfl; rfl; rfl; rfl
        · omega
        · omega
      ·
        by_cases h3 : (16384 : Int32) < (xs 3)
        ·
          apply GR.mk
          ·
            refine seg_RP (f := 3000) (d := 1999) 17 (pc' := 1687) (lv' := [(4, .int 1), (3, .ref 225), (2, .ref 196), (1, .ref 1), (0, .ref 0)]) (st' := [.ref 225, .int (xs 4), .int (xs 3), .int (xs 2), .ref 1]) (H' := _) (kc' := kc) (ks' := ks) rfl ?_
            apply RP.call
            rfl; rfl; rfl; rfl; rfl; rfl; rfl
            ·
              refine seg_RP (f := 3000) (d := 1998) 6 (pc' := 7) (lv' := [(0, .ref 1), (1, .int (xs 2)), (2, .int (xs 3)), (3, .int (xs 4)), (4, .ref 225)]) (st' := [.int (xs 4), .int (xs 3), .int (xs 2), .ref 1, .int 0, .ref 225]) (H' := _) (kc' := 0) (ks' := 0) rfl ?_
              apply RP.callX
              rfl; rfl; rfl; rfl; rfl; rfl; rfl
              ·
                refine seg_RP (f := 3000) (d := 1997) 2 (pc' := 2) (lv' := [(0, .ref 1), (1, .int (xs 2)), (2, .int (xs 3)), (3, .int (xs 4))]) (st' := [.int (xs 2), .ref 1]) (H' := _) (kc' := 0) (ks' := 0) rfl ?_
                apply RP.call
                rfl; rfl; rfl; rfl; rfl; rfl; rfl
                ·
                  refine seg_RP (f := 3000) (d := 1996) 4 (pc' := 6) (lv' := [(0, .ref 1), (1, .int (xs 2))]) (st' := [.int 200, .int 0, .int (xs 2), .ref 1]) (H' := _) (kc' := 0) (ks' := 0) rfl ?_
                  apply RP.call
                  rfl; rfl; rfl; rfl; rfl; rfl; rfl
                  ·
                    refine seg_RP (f := 3000) (d := 1995) 2 (pc' := 2) (lv' := [(0, .ref 1), (1, .int (xs 2)), (2, .int 0), (3, .int 200)]) (st' := [.int 0, .int (xs 2)]) (H' := _) (kc' := 0) (ks' := 0) rfl ?_
                    apply RP.brF
                    rfl; rfl; rfl
                    exact decide_eq_false (h0)
                    refine seg_RP (f := 3000) (d := 1995) 2 (pc' := 7) (lv' := [(0, .ref 1), (1, .int (xs 2)), (2, .int 0), (3, .int 200)]) (st' := [.int 200, .int (xs 2)]) (H' := _) (kc' := 0) (ks' := 0) rfl ?_
                    apply RP.brT
                    rfl; rfl; rfl
                    exact decide_eq_true (Int32.not_lt.mp (h1))
                    apply RP.done
                    rfl; rfl; rfl; rfl
                  apply RP.done
                  rfl; rfl; rfl; rfl
                refine seg_RP (f := 3000) (d := 1997) 4 (pc' := 11) (lv' := [(0, .ref 1), (1, .int (xs 2)), (2, .int (xs 3)), (3, .int (xs 4))]) (st' := [.int 16384, .int 0, .int (xs 3), .ref 1]) (H' := _) (kc' := 0) (ks' := 0) rfl ?_
                apply RP.callP
                rfl; rfl; rfl; rfl; rfl; rfl; rfl
                ·
                  refine seg_RP (f := 3000) (d := 1996) 2 (pc' := 2) (lv' := [(0, .ref 1), (1, .int (xs 3)), (2, .int 0), (3, .int 16384)]) (st' := [.int 0, .int (xs 3)]) (H' := _) (kc' := 0) (ks' := 0) rfl ?_
                  apply RP.brF
                  rfl; rfl; rfl
                  exact decide_eq_false (h2)
                  refine seg_RP (f := 3000) (d := 1996) 2 (pc' := 7) (lv' := [(0, .ref 1), (1, .int (xs 3)), (2, .int 0), (3, .int 16384)]) (st' := [.int 16384, .int (xs 3)]) (H' := _) (kc' := 0) (ks' := 0) rfl ?_
                  apply RP.brF
                  rfl; rfl; rfl
                  exact decide_eq_false (Int32.not_le.mpr (h3))
                  apply RP.done
                  rfl; rfl; rfl; rfl
                rfl
              rfl
              refine seg_RP (f := 3000) (d := 1998) 1 (pc' := 18) (lv' := [(0, .ref 1), (1, .int (xs 2)), (2, .int (xs 3)), (3, .int (xs 4)), (4, .ref 225)]) (st' := [.int 1]) (H' := _) (kc' := 1) (ks' := 6) rfl ?_
              apply RP.done
              rfl; rfl; rfl; rfl
            refine seg_RP (f := 3000) (d := 1999) 17 (pc' := 1711) (lv' := [(5, .int 1), (4, .int 1), (3, .ref 225), (2, .ref 196), (1, .ref 1), (0, .ref 0)]) (st' := [.int (xs 4), .int (xs 3), .int (xs 2), .ref 196]) (H' := _) (kc' := kc + 1) (ks' := ks + 6) rfl ?_
            apply RP.call
            rfl; rfl; rfl; rfl; rfl; rfl; rfl
            ·
              refine seg_RP (f := 3000) (d := 1998) 6 (pc' := 10) (lv' := [(0, .ref 196), (1, .int (xs 2)), (2, .int (xs 3)), (3, .int (xs 4))]) (st' := [.int 201, .int (xs 2), .ref 196]) (H' := _) (kc' := 0) (ks' := 0) rfl ?_
              apply RP.call
              rfl; rfl; rfl; rfl; rfl; rfl; rfl
              ·
                refine seg_RP (f := 3000) (d := 1997) 1 (pc' := 1) (lv' := [(0, .ref 196), (1, .int (xs 2)), (2, .int 201)]) (st' := [.int (xs 2)]) (H' := _) (kc' := 0) (ks' := 0) rfl ?_
                apply RP.brF
                rfl; rfl; rfl
                exact decide_eq_false (h0)
                refine seg_RP (f := 3000) (d := 1997) 2 (pc' := 6) (lv' := [(0, .ref 196), (1, .int (xs 2)), (2, .int 201)]) (st' := [.int 201, .int (xs 2)]) (H' := _) (kc' := 0) (ks' := 0) rfl ?_
                apply RP.brT
                rfl; rfl; rfl
                exact decide_eq_true (Int32.lt_of_le_of_lt (Int32.not_lt.mp (h1)) (show (200 : Int32) < 201 by decide))
                refine seg_RP (f := 3000) (d := 1997) 1 (pc' := 14) (lv' := [(0, .ref 196), (1, .int (xs 2)), (2, .int 201)]) (st' := [.int 0]) (H' := _) (kc' := 0) (ks' := 0) rfl ?_
                apply RP.done
                rfl; rfl; rfl; rfl
              refine seg_RP (f := 3000) (d := 1998) 4 (pc' := 21) (lv' := [(0, .ref 196), (1, .int (xs 2)), (2, .int (xs 3)), (3, .int (xs 4))]) (st' := [.int 16385, .int (xs 3), .ref 196]) (H' := _) (kc' := 0) (ks' := 0) rfl ?_
              apply RP.call
              rfl; rfl; rfl; rfl; rfl; rfl; rfl
              ·
                refine seg_RP (f := 3000) (d := 1997) 1 (pc' := 1) (lv' := [(0, .ref 196), (1, .int (xs 3)), (2, .int 16385)]) (st' := [.int (xs 3)]) (H' := _) (kc' := 0) (ks' := 0) rfl ?_
                apply RP.brF
                rfl; rfl; rfl
                exact decide_eq_false (h2)
                refine seg_RP (f := 3000) (d := 1997) 2 (pc' := 6) (lv' := [(0, .ref 196), (1, .int (xs 3)), (2, .int 16385)]) (st' := [.int 16385, .int (xs 3)]) (H' := _) (kc' := 0) (ks' := 0) rfl ?_
                apply RP.brF
                rfl; rfl; rfl
                exact decide_eq_false (i32_gap (h3) (show (16385 : Int32) ≤ 16384 + 1 by decide) (by decide))
                refine seg_RP (f := 3000) (d := 1997) 2 (pc' := 14) (lv' := [(0, .ref 196), (1, .int (xs 3)), (2, .int 16385)]) (st' := [.int 1]) (H' := _) (kc' := 0) (ks' := 0) rfl ?_
                apply RP.done
                rfl; rfl; rfl; rfl
              refine seg_RP (f := 3000) (d := 1998) 4 (pc' := 43) (lv' := [(0, .ref 196), (1, .int (xs 2)), (2, .int (xs 3)), (3, .int (xs 4))]) (st' := [.int 0]) (H' := _) (kc' := 0) (ks' := 0) rfl ?_
              apply RP.done
              rfl; rfl; rfl; rfl
            refine seg_RP (f := 3000) (d := 1999) 13 (pc' := 37) (lv' := [(4, .int 7), (6, .int 0), (5, .int 1), (3, .ref 225), (2, .ref 196), (1, .ref 1), (0, .ref 0)]) (st' := [.int 7, .int 7]) (H' := _) (kc' := kc + 1) (ks' := ks + 6) rfl ?_
            refine seg_RP (f := 3000) (d := 1999) 4 (pc' := 1958) (lv' := [(4, .int 7), (6, .int 0), (5, .int 1), (3, .ref 225), (2, .ref 196), (1, .ref 1), (0, .ref 0)]) (st' := [.int 1]) (H' := _) (kc' := kc + 1) (ks' := ks + 6) rfl ?_
            apply RP.done
            rfl; rfl; rfl; rfl
          · omega
          · omega
        ·
          by_cases h4 : (xs 4) < 0
          ·
            apply GR.mk
            ·
              refine seg_RP (f := 3000) (d := 1999) 17 (pc' := 1687) (lv' := [(4, .int 1), (3, .ref 225), (2, .ref 196), (1, .ref 1), (0, .ref 0)]) (st' := [.ref 225, .int (xs 4), .int (xs 3), .int (xs 2), .ref 1]) (H' := _) (kc' := kc) (ks' := ks) rfl ?_
              apply RP.call
              rfl; rfl; rfl; rfl; rfl; rfl; rfl
              ·
                refine seg_RP (f := 3000) (d := 1998) 6 (pc' := 7) (lv' := [(0, .ref 1), (1, .int (xs 2)), (2, .int (xs 3)), (3, .int (xs 4)), (4, .ref 225)]) (st' := [.int (xs 4), .int (xs 3), .int (xs 2), .ref 1, .int 0, .ref 225]) (H' := _) (kc' := 0) (ks' := 0) rfl ?_
                apply RP.callX
                rfl; rfl; rfl; rfl; rfl; rfl; rfl
                ·
                  refine seg_RP (f := 3000) (d := 1997) 2 (pc' := 2) (lv' := [(0, .ref 1), (1, .int (xs 2)), (2, .int (xs 3)), (3, .int (xs 4))]) (st' := [.int (xs 2), .ref 1]) (H' := _) (kc' := 0) (ks' := 0) rfl ?_
                  apply RP.call
                  rfl; rfl; rfl; rfl; rfl; rfl; rfl
                  ·
                    refine seg_RP (f := 3000) (d := 1996) 4 (pc' := 6) (lv' := [(0, .ref 1), (1, .int (xs 2))]) (st' := [.int 200, .int 0, .int (xs 2), .ref 1]) (H' := _) (kc' := 0) (ks' := 0) rfl ?_
                    apply RP.call
                    rfl; rfl; rfl; rfl; rfl; rfl; rfl
                    ·
                      refine seg_RP (f := 3000) (d := 1995) 2 (pc' := 2) (lv' := [(0, .ref 1), (1, .int (xs 2)), (2, .int 0), (3, .int 200)]) (st' := [.int 0, .int (xs 2)]) (H' := _) (kc' := 0) (ks' := 0) rfl ?_
                      apply RP.brF
                      rfl; rfl; rfl
                      exact decide_eq_false (h0)
                      refine seg_RP (f := 3000) (d := 1995) 2 (pc' := 7) (lv' := [(0, .ref 1), (1, .int (xs 2)), (2, .int 0), (3, .int 200)]) (st' := [.int 200, .int (xs 2)]) (H' := _) (kc' := 0) (ks' := 0) rfl ?_
                      apply RP.brT
                      rfl; rfl; rfl
                      exact decide_eq_true (Int32.not_lt.mp (h1))
                      apply RP.done
                      rfl; rfl; rfl; rfl
                    apply RP.done
                    rfl; rfl; rfl; rfl
                  refine seg_RP (f := 3000) (d := 1997) 4 (pc' := 11) (lv' := [(0, .ref 1), (1, .int (xs 2)), (2, .int (xs 3)), (3, .int (xs 4))]) (st' := [.int 16384, .int 0, .int (xs 3), .ref 1]) (H' := _) (kc' := 0) (ks' := 0) rfl ?_
                  apply RP.call
                  rfl; rfl; rfl; rfl; rfl; rfl; rfl
                  ·
                    refine seg_RP (f := 3000) (d := 1996) 2 (pc' := 2) (lv' := [(0, .ref 1), (1, .int (xs 3)), (2, .int 0), (3, .int 16384)]) (st' := [.int 0, .int (xs 3)]) (H' := _) (kc' := 0) (ks' := 0) rfl ?_
                    apply RP.brF
                    rfl; rfl; rfl
                    exact decide_eq_false (h2)
                    refine seg_RP (f := 3000) (d := 1996) 2 (pc' := 7) (lv' := [(0, .ref 1), (1, .int (xs 3)), (2, .int 0), (3, .int 16384)]) (st' := [.int 16384, .int (xs 3)]) (H' := _) (kc' := 0) (ks' := 0) rfl ?_
                    apply RP.brT
                    rfl; rfl; rfl
                    exact decide_eq_true (Int32.not_lt.mp (h3))
                    apply RP.done
                    rfl; rfl; rfl; rfl
                  refine seg_RP (f := 3000) (d := 1997) 4 (pc' := 20) (lv' := [(0, .ref 1), (1, .int (xs 2)), (2, .int (xs 3)), (3, .int (xs 4))]) (st' := [.int 1000, .int 0, .int (xs 4), .ref 1]) (H' := _) (kc' := 0) (ks' := 0) rfl ?_
                  apply RP.callP
                  rfl; rfl; rfl; rfl; rfl; rfl; rfl
                  ·
                    refine seg_RP (f := 3000) (d := 1996) 2 (pc' := 2) (lv' := [(0, .ref 1), (1, .int (xs 4)), (2, .int 0), (3, .int 1000)]) (st' := [.int 0, .int (xs 4)]) (H' := _) (kc' := 0) (ks' := 0) rfl ?_
                    apply RP.brT
                    rfl; rfl; rfl
                    exact decide_eq_true (h4)
                    apply RP.done
                    rfl; rfl; rfl; rfl
                  rfl
                rfl
                refine seg_RP (f := 3000) (d := 1998) 1 (pc' := 18) (lv' := [(0, .ref 1), (1, .int (xs 2)), (2, .int (xs 3)), (3, .int (xs 4)), (4, .ref 225)]) (st' := [.int 1]) (H' := _) (kc' := 1) (ks' := 6) rfl ?_
                apply RP.done
                rfl; rfl; rfl; rfl
              refine seg_RP (f := 3000) (d := 1999) 17 (pc' := 1711) (lv' := [(5, .int 1), (4, .int 1), (3, .ref 225), (2, .ref 196), (1, .ref 1), (0, .ref 0)]) (st' := [.int (xs 4), .int (xs 3), .int (xs 2), .ref 196]) (H' := _) (kc' := kc + 1) (ks' := ks + 6) rfl ?_
              apply RP.call
              rfl; rfl; rfl; rfl; rfl; rfl; rfl
              ·
                refine seg_RP (f := 3000) (d := 1998) 6 (pc' := 10) (lv' := [(0, .ref 196), (1, .int (xs 2)), (2, .int (xs 3)), (3, .int (xs 4))]) (st' := [.int 201, .int (xs 2), .ref 196]) (H' := _) (kc' := 0) (ks' := 0) rfl ?_
                apply RP.call
                rfl; rfl; rfl; rfl; rfl; rfl; rfl
                ·
                  refine seg_RP (f := 3000) (d := 1997) 1 (pc' := 1) (lv' := [(0, .ref 196), (1, .int (xs 2)), (2, .int 201)]) (st' := [.int (xs 2)]) (H' := _) (kc' := 0) (ks' := 0) rfl ?_
                  apply RP.brF
                  rfl; rfl; rfl
                  exact decide_eq_false (h0)
                  refine seg_RP (f := 3000) (d := 1997) 2 (pc' := 6) (lv' := [(0, .ref 196), (1, .int (xs 2)), (2, .int 201)]) (st' := [.int 201, .int (xs 2)]) (H' := _) (kc' := 0) (ks' := 0) rfl ?_
                  apply RP.brT
                  rfl; rfl; rfl
                  exact decide_eq_true (Int32.lt_of_le_of_lt (Int32.not_lt.mp (h1)) (show (200 : Int32) < 201 by decide))
                  refine seg_RP (f := 3000) (d := 1997) 1 (pc' := 14) (lv' := [(0, .ref 196), (1, .int (xs 2)), (2, .int 201)]) (st' := [.int 0]) (H' := _) (kc' := 0) (ks' := 0) rfl ?_
                  apply RP.done
                  rfl; rfl; rfl; rfl
                refine seg_RP (f := 3000) (d := 1998) 4 (pc' := 21) (lv' := [(0, .ref 196), (1, .int (xs 2)), (2, .int (xs 3)), (3, .int (xs 4))]) (st' := [.int 16385, .int (xs 3), .ref 196]) (H' := _) (kc' := 0) (ks' := 0) rfl ?_
                apply RP.call
                rfl; rfl; rfl; rfl; rfl; rfl; rfl
                ·
                  refine seg_RP (f := 3000) (d := 1997) 1 (pc' := 1) (lv' := [(0, .ref 196), (1, .int (xs 3)), (2, .int 16385)]) (st' := [.int (xs 3)]) (H' := _) (kc' := 0) (ks' := 0) rfl ?_
                  apply RP.brF
                  rfl; rfl; rfl
                  exact decide_eq_false (h2)
                  refine seg_RP (f := 3000) (d := 1997) 2 (pc' := 6) (lv' := [(0, .ref 196), (1, .int (xs 3)), (2, .int 16385)]) (st' := [.int 16385, .int (xs 3)]) (H' := _) (kc' := 0) (ks' := 0) rfl ?_
                  apply RP.brT
                  rfl; rfl; rfl
                  exact decide_eq_true (Int32.lt_of_le_of_lt (Int32.not_lt.mp (h3)) (show (16384 : Int32) < 16385 by decide))
                  refine seg_RP (f := 3000) (d := 1997) 1 (pc' := 14) (lv' := [(0, .ref 196), (1, .int (xs 3)), (2, .int 16385)]) (st' := [.int 0]) (H' := _) (kc' := 0) (ks' := 0) rfl ?_
                  apply RP.done
                  rfl; rfl; rfl; rfl
                refine seg_RP (f := 3000) (d := 1998) 4 (pc' := 32) (lv' := [(0, .ref 196), (1, .int (xs 2)), (2, .int (xs 3)), (3, .int (xs 4))]) (st' := [.int 1001, .int (xs 4), .ref 196]) (H' := _) (kc' := 0) (ks' := 0) rfl ?_
                apply RP.call
                rfl; rfl; rfl; rfl; rfl; rfl; rfl
                ·
                  refine seg_RP (f := 3000) (d := 1997) 1 (pc' := 1) (lv' := [(0, .ref 196), (1, .int (xs 4)), (2, .int 1001)]) (st' := [.int (xs 4)]) (H' := _) (kc' := 0) (ks' := 0) rfl ?_
                  apply RP.brT
                  rfl; rfl; rfl
                  exact decide_eq_true (h4)
                  refine seg_RP (f := 3000) (d := 1997) 2 (pc' := 14) (lv' := [(0, .ref 196), (1, .int (xs 4)), (2, .int 1001)]) (st' := [.int 1]) (H' := _) (kc' := 0) (ks' := 0) rfl ?_
                  apply RP.done
                  rfl; rfl; rfl; rfl
                refine seg_RP (f := 3000) (d := 1998) 4 (pc' := 43) (lv' := [(0, .ref 196), (1, .int (xs 2)), (2, .int (xs 3)), (3, .int (xs 4))]) (st' := [.int 0]) (H' := _) (kc' := 0) (ks' := 0) rfl ?_
                apply RP.done
                rfl; rfl; rfl; rfl
              refine seg_RP (f := 3000) (d := 1999) 13 (pc' := 37) (lv' := [(4, .int 7), (6, .int 0), (5, .int 1), (3, .ref 225), (2, .ref 196), (1, .ref 1), (0, .ref 0)]) (st' := [.int 7, .int 7]) (H' := _) (kc' := kc + 1) (ks' := ks + 6) rfl ?_
              refine seg_RP (f := 3000) (d := 1999) 4 (pc' := 1958) (lv' := [(4, .int 7), (6, .int 0), (5, .int 1), (3, .ref 225), (2, .ref 196), (1, .ref 1), (0, .ref 0)]) (st' := [.int 1]) (H' := _) (kc' := kc + 1) (ks' := ks + 6) rfl ?_
              apply RP.done
              rfl; rfl; rfl; rfl
            · omega
            · omega
          ·
            by_cases h5 : (1000 : Int32) < (xs 4)
            ·
              apply GR.mk
              ·
                refine seg_RP (f := 3000) (d := 1999) 17 (pc' := 1687) (lv' := [(4, .int 1), (3, .ref 225), (2, .ref 196), (1, .ref 1), (0, .ref 0)]) (st' := [.ref 225, .int (xs 4), .int (xs 3), .int (xs 2), .ref 1]) (H' := _) (kc' := kc) (ks' := ks) rfl ?_
                apply RP.call
                rfl; rfl; rfl; rfl; rfl; rfl; rfl
                ·
                  refine seg_RP (f := 3000) (d := 1998) 6 (pc' := 7) (lv' := [(0, .ref 1), (1, .int (xs 2)), (2, .int (xs 3)), (3, .int (xs 4)), (4, .ref 225)]) (st' := [.int (xs 4), .int (xs 3), .int (xs 2), .ref 1, .int 0, .ref 225]) (H' := _) (kc' := 0) (ks' := 0) rfl ?_
                  apply RP.callX
                  rfl; rfl; rfl; rfl; rfl; rfl; rfl
                  ·
                    refine seg_RP (f := 3000) (d := 1997) 2 (pc' := 2) (lv' := [(0, .ref 1), (1, .int (xs 2)), (2, .int (xs 3)), (3, .int (xs 4))]) (st' := [.int (xs 2), .ref 1]) (H' := _) (kc' := 0) (ks' := 0) rfl ?_
                    apply RP.call
                    rfl; rfl; rfl; rfl; rfl; rfl; rfl
                    ·
                      refine seg_RP (f := 3000) (d := 1996) 4 (pc' := 6) (lv' := [(0, .ref 1), (1, .int (xs 2))]) (st' := [.int 200, .int 0, .int (xs 2), .ref 1]) (H' := _) (kc' := 0) (ks' := 0) rfl ?_
                      apply RP.call
                      rfl; rfl; rfl; rfl; rfl; rfl; rfl
                      ·
                        refine seg_RP (f := 3000) (d := 1995) 2 (pc' := 2) (lv' := [(0, .ref 1), (1, .int (xs 2)), (2, .int 0), (3, .int 200)]) (st' := [.int 0, .int (xs 2)]) (H' := _) (kc' := 0) (ks' := 0) rfl ?_
                        apply RP.brF
                        rfl; rfl; rfl
                        exact decide_eq_false (h0)
                        refine seg_RP (f := 3000) (d := 1995) 2 (pc' := 7) (lv' := [(0, .ref 1), (1, .int (xs 2)), (2, .int 0), (3, .int 200)]) (st' := [.int 200, .int (xs 2)]) (H' := _) (kc' := 0) (ks' := 0) rfl ?_
                        apply RP.brT
                        rfl; rfl; rfl
                        exact decide_eq_true (Int32.not_lt.mp (h1))
                        apply RP.done
                        rfl; rfl; rfl; rfl
                      apply RP.done
                      rfl; rfl; rfl; rfl
                    refine seg_RP (f := 3000) (d := 1997) 4 (pc' := 11) (lv' := [(0, .ref 1), (1, .int (xs 2)), (2, .int (xs 3)), (3, .int (xs 4))]) (st' := [.int 16384, .int 0, .int (xs 3), .ref 1]) (H' := _) (kc' := 0) (ks' := 0) rfl ?_
                    apply RP.call
                    rfl; rfl; rfl; rfl; rfl; rfl; rfl
                    ·
                      refine seg_RP (f := 3000) (d := 1996) 2 (pc' := 2) (lv' := [(0, .ref 1), (1, .int (xs 3)), (2, .int 0), (3, .int 16384)]) (st' := [.int 0, .int (xs 3)]) (H' := _) (kc' := 0) (ks' := 0) rfl ?_
                      apply RP.brF
                      rfl; rfl; rfl
                      exact decide_eq_false (h2)
                      refine seg_RP (f := 3000) (d := 1996) 2 (pc' := 7) (lv' := [(0, .ref 1), (1, .int (xs 3)), (2, .int 0), (3, .int 16384)]) (st' := [.int 16384, .int (xs 3)]) (H' := _) (kc' := 0) (ks' := 0) rfl ?_
                      apply RP.brT
                      rfl; rfl; rfl
                      exact decide_eq_true (Int32.not_lt.mp (h3))
                      apply RP.done
                      rfl; rfl; rfl; rfl
                    refine seg_RP (f := 3000) (d := 1997) 4 (pc' := 20) (lv' := [(0, .ref 1), (1, .int (xs 2)), (2, .int (xs 3)), (3, .int (xs 4))]) (st' := [.int 1000, .int 0, .int (xs 4), .ref 1]) (H' := _) (kc' := 0) (ks' := 0) rfl ?_
                    apply RP.callP
                    rfl; rfl; rfl; rfl; rfl; rfl; rfl
                    ·
                      refine seg_RP (f := 3000) (d := 1996) 2 (pc' := 2) (lv' := [(0, .ref 1), (1, .int (xs 4)), (2, .int 0), (3, .int 1000)]) (st' := [.int 0, .int (xs 4)]) (H' := _) (kc' := 0) (ks' := 0) rfl ?_
                      apply RP.brF
                      rfl; rfl; rfl
                      exact decide_eq_false (h4)
                      refine seg_RP (f := 3000) (d := 1996) 2 (pc' := 7) (lv' := [(0, .ref 1), (1, .int (xs 4)), (2, .int 0), (3, .int 1000)]) (st' := [.int 1000, .int (xs 4)]) (H' := _) (kc' := 0) (ks' := 0) rfl ?_
                      apply RP.brF
                      rfl; rfl; rfl
                      exact decide_eq_false (Int32.not_le.mpr (h5))
                      apply RP.done
                      rfl; rfl; rfl; rfl
                    rfl
                  rfl
                  refine seg_RP (f := 3000) (d := 1998) 1 (pc' := 18) (lv' := [(0, .ref 1), (1, .int (xs 2)), (2, .int (xs 3)), (3, .int (xs 4)), (4, .ref 225)]) (st' := [.int 1]) (H' := _) (kc' := 1) (ks' := 6) rfl ?_
                  apply RP.done
                  rfl; rfl; rfl; rfl
                refine seg_RP (f := 3000) (d := 1999) 17 (pc' := 1711) (lv' := [(5, .int 1), (4, .int 1), (3, .ref 225), (2, .ref 196), (1, .ref 1), (0, .ref 0)]) (st' := [.int (xs 4), .int (xs 3), .int (xs 2), .ref 196]) (H' := _) (kc' := kc + 1) (ks' := ks + 6) rfl ?_
                apply RP.call
                rfl; rfl; rfl; rfl; rfl; rfl; rfl
                ·
                  refine seg_RP (f := 3000) (d := 1998) 6 (pc' := 10) (lv' := [(0, .ref 196), (1, .int (xs 2)), (2, .int (xs 3)), (3, .int (xs 4))]) (st' := [.int 201, .int (xs 2), .ref 196]) (H' := _) (kc' := 0) (ks' := 0) rfl ?_
                  apply RP.call
                  rfl; rfl; rfl; rfl; rfl; rfl; rfl
                  ·
                    refine seg_RP (f := 3000) (d := 1997) 1 (pc' := 1) (lv' := [(0, .ref 196), (1, .int (xs 2)), (2, .int 201)]) (st' := [.int (xs 2)]) (H' := _) (kc' := 0) (ks' := 0) rfl ?_
                    apply RP.brF
                    rfl; rfl; rfl
                    exact decide_eq_false (h0)
                    refine seg_RP (f := 3000) (d := 1997) 2 (pc' := 6) (lv' := [(0, .ref 196), (1, .int (xs 2)), (2, .int 201)]) (st' := [.int 201, .int (xs 2)]) (H' := _) (kc' := 0) (ks' := 0) rfl ?_
                    apply RP.brT
                    rfl; rfl; rfl
                    exact decide_eq_true (Int32.lt_of_le_of_lt (Int32.not_lt.mp (h1)) (show (200 : Int32) < 201 by decide))
                    refine seg_RP (f := 3000) (d := 1997) 1 (pc' := 14) (lv' := [(0, .ref 196), (1, .int (xs 2)), (2, .int 201)]) (st' := [.int 0]) (H' := _) (kc' := 0) (ks' := 0) rfl ?_
                    apply RP.done
                    rfl; rfl; rfl; rfl
                  refine seg_RP (f := 3000) (d := 1998) 4 (pc' := 21) (lv' := [(0, .ref 196), (1, .int (xs 2)), (2, .int (xs 3)), (3, .int (xs 4))]) (st' := [.int 16385, .int (xs 3), .ref 196]) (H' := _) (kc' := 0) (ks' := 0) rfl ?_
                  apply RP.call
                  rfl; rfl; rfl; rfl; rfl; rfl; rfl
                  ·
                    refine seg_RP (f := 3000) (d := 1997) 1 (pc' := 1) (lv' := [(0, .ref 196), (1, .int (xs 3)), (2, .int 16385)]) (st' := [.int (xs 3)]) (H' := _) (kc' := 0) (ks' := 0) rfl ?_
                    apply RP.brF
                    rfl; rfl; rfl
                    exact decide_eq_false (h2)
                    refine seg_RP (f := 3000) (d := 1997) 2 (pc' := 6) (lv' := [(0, .ref 196), (1, .int (xs 3)), (2, .int 16385)]) (st' := [.int 16385, .int (xs 3)]) (H' := _) (kc' := 0) (ks' := 0) rfl ?_
                    apply RP.brT
                    rfl; rfl; rfl
                    exact decide_eq_true (Int32.lt_of_le_of_lt (Int32.not_lt.mp (h3)) (show (16384 : Int32) < 16385 by decide))
                    refine seg_RP (f := 3000) (d := 1997) 1 (pc' := 14) (lv' := [(0, .ref 196), (1, .int (xs 3)), (2, .int 16385)]) (st' := [.int 0]) (H' := _) (kc' := 0) (ks' := 0) rfl ?_
                    apply RP.done
                    rfl; rfl; rfl; rfl
                  refine seg_RP (f := 3000) (d := 1998) 4 (pc' := 32) (lv' := [(0, .ref 196), (1, .int (xs 2)), (2, .int (xs 3)), (3, .int (xs 4))]) (st' := [.int 1001, .int (xs 4), .ref 196]) (H' := _) (kc' := 0) (ks' := 0) rfl ?_
                  apply RP.call
                  rfl; rfl; rfl; rfl; rfl; rfl; rfl
                  ·
                    refine seg_RP (f := 3000) (d := 1997) 1 (pc' := 1) (lv' := [(0, .ref 196), (1, .int (xs 4)), (2, .int 1001)]) (st' := [.int (xs 4)]) (H' := _) (kc' := 0) (ks' := 0) rfl ?_
                    apply RP.brF
                    rfl; rfl; rfl
                    exact decide_eq_false (h4)
                    refine seg_RP (f := 3000) (d := 1997) 2 (pc' := 6) (lv' := [(0, .ref 196), (1, .int (xs 4)), (2, .int 1001)]) (st' := [.int 1001, .int (xs 4)]) (H' := _) (kc' := 0) (ks' := 0) rfl ?_
                    apply RP.brF
                    rfl; rfl; rfl
                    exact decide_eq_false (i32_gap (h5) (show (1001 : Int32) ≤ 1000 + 1 by decide) (by decide))
                    refine seg_RP (f := 3000) (d := 1997) 2 (pc' := 14) (lv' := [(0, .ref 196), (1, .int (xs 4)), (2, .int 1001)]) (st' := [.int 1]) (H' := _) (kc' := 0) (ks' := 0) rfl ?_
                    apply RP.done
                    rfl; rfl; rfl; rfl
                  refine seg_RP (f := 3000) (d := 1998) 4 (pc' := 43) (lv' := [(0, .ref 196), (1, .int (xs 2)), (2, .int (xs 3)), (3, .int (xs 4))]) (st' := [.int 0]) (H' := _) (kc' := 0) (ks' := 0) rfl ?_
                  apply RP.done
                  rfl; rfl; rfl; rfl
                refine seg_RP (f := 3000) (d := 1999) 13 (pc' := 37) (lv' := [(4, .int 7), (6, .int 0), (5, .int 1), (3, .ref 225), (2, .ref 196), (1, .ref 1), (0, .ref 0)]) (st' := [.int 7, .int 7]) (H' := _) (kc' := kc + 1) (ks' := ks + 6) rfl ?_
                refine seg_RP (f := 3000) (d := 1999) 4 (pc' := 1958) (lv' := [(4, .int 7), (6, .int 0), (5, .int 1), (3, .ref 225), (2, .ref 196), (1, .ref 1), (0, .ref 0)]) (st' := [.int 1]) (H' := _) (kc' := kc + 1) (ks' := ks + 6) rfl ?_
                apply RP.done
                rfl; rfl; rfl; rfl
              · omega
              · omega
            ·
              by_cases h6 : (xs 2) = 0
              ·
                apply GR.mk
                ·
                  refine seg_RP (f := 3000) (d := 1999) 6 (pc' := 1674) (lv' := [(4, .int 1), (3, .ref 225), (2, .ref 196), (1, .ref 1), (0, .ref 0)]) (st' := [.int (xs 2), .ref 1]) (H' := _) (kc' := kc) (ks' := ks) rfl ?_
                  rw [h6]
                  refine seg_RP (f := 3000) (d := 1999) 11 (pc' := 1687) (lv' := [(4, .int 1), (3, .ref 225), (2, .ref 196), (1, .ref 1), (0, .ref 0)]) (st' := [.ref 225, .int (xs 4), .int (xs 3), .int 0, .ref 1]) (H' := _) (kc' := kc) (ks' := ks) rfl ?_
                  apply RP.call
                  rfl; rfl; rfl; rfl; rfl; rfl; rfl
                  ·
                    refine seg_RP (f := 3000) (d := 1998) 6 (pc' := 7) (lv' := [(0, .ref 1), (1, .int 0), (2, .int (xs 3)), (3, .int (xs 4)), (4, .ref 225)]) (st' := [.int (xs 4), .int (xs 3), .int 0, .ref 1, .int 0, .ref 225]) (H' := _) (kc' := 0) (ks' := 0) rfl ?_
                    apply RP.callX
                    rfl; rfl; rfl; rfl; rfl; rfl; rfl
                    ·
                      refine seg_RP (f := 3000) (d := 1997) 7 (pc' := 11) (lv' := [(0, .ref 1), (1, .int 0), (2, .int (xs 3)), (3, .int (xs 4))]) (st' := [.int 16384, .int 0, .int (xs 3), .ref 1]) (H' := _) (kc' := 0) (ks' := 0) rfl ?_
                      apply RP.call
                      rfl; rfl; rfl; rfl; rfl; rfl; rfl
                      ·
                        refine seg_RP (f := 3000) (d := 1996) 2 (pc' := 2) (lv' := [(0, .ref 1), (1, .int (xs 3)), (2, .int 0), (3, .int 16384)]) (st' := [.int 0, .int (xs 3)]) (H' := _) (kc' := 0) (ks' := 0) rfl ?_
                        apply RP.brF
                        rfl; rfl; rfl
                        exact decide_eq_false (h2)
                        refine seg_RP (f := 3000) (d := 1996) 2 (pc' := 7) (lv' := [(0, .ref 1), (1, .int (xs 3)), (2, .int 0), (3, .int 16384)]) (st' := [.int 16384, .int (xs 3)]) (H' := _) (kc' := 0) (ks' := 0) rfl ?_
                        apply RP.brT
                        rfl; rfl; rfl
                        exact decide_eq_true (Int32.not_lt.mp (h3))
                        apply RP.done
                        rfl; rfl; rfl; rfl
                      refine seg_RP (f := 3000) (d := 1997) 4 (pc' := 20) (lv' := [(0, .ref 1), (1, .int 0), (2, .int (xs 3)), (3, .int (xs 4))]) (st' := [.int 1000, .int 0, .int (xs 4), .ref 1]) (H' := _) (kc' := 0) (ks' := 0) rfl ?_
                      apply RP.call
                      rfl; rfl; rfl; rfl; rfl; rfl; rfl
                      ·
                        refine seg_RP (f := 3000) (d := 1996) 2 (pc' := 2) (lv' := [(0, .ref 1), (1, .int (xs 4)), (2, .int 0), (3, .int 1000)]) (st' := [.int 0, .int (xs 4)]) (H' := _) (kc' := 0) (ks' := 0) rfl ?_
                        apply RP.brF
                        rfl; rfl; rfl
                        exact decide_eq_false (h4)
                        refine seg_RP (f := 3000) (d := 1996) 2 (pc' := 7) (lv' := [(0, .ref 1), (1, .int (xs 4)), (2, .int 0), (3, .int 1000)]) (st' := [.int 1000, .int (xs 4)]) (H' := _) (kc' := 0) (ks' := 0) rfl ?_
                        apply RP.brT
                        rfl; rfl; rfl
                        exact decide_eq_true (Int32.not_lt.mp (h5))
                        apply RP.done
                        rfl; rfl; rfl; rfl
                      refine seg_RP (f := 3000) (d := 1997) 4 (pc' := 29) (lv' := [(0, .ref 1), (1, .int 0), (2, .int (xs 3)), (3, .int (xs 4))]) (st' := [.int 0, .ref 1]) (H' := _) (kc' := 0) (ks' := 0) rfl ?_
                      apply RP.callP
                      rfl; rfl; rfl; rfl; rfl; rfl; rfl
                      ·
                        refine seg_RP (f := 3000) (d := 1996) 5 (pc' := 11) (lv' := [(0, .ref 1), (1, .int 0)]) (st' := []) (H' := _) (kc' := 0) (ks' := 0) rfl ?_
                        apply RP.done
                        rfl; rfl; rfl; rfl
                      rfl
                    rfl
                    refine seg_RP (f := 3000) (d := 1998) 1 (pc' := 26) (lv' := [(0, .ref 1), (1, .int 0), (2, .int (xs 3)), (3, .int (xs 4)), (4, .ref 225)]) (st' := [.int 3]) (H' := _) (kc' := 1) (ks' := 6) rfl ?_
                    apply RP.done
                    rfl; rfl; rfl; rfl
                  refine seg_RP (f := 3000) (d := 1999) 7 (pc' := 1699) (lv' := [(5, .int 3), (4, .int 1), (3, .ref 225), (2, .ref 196), (1, .ref 1), (0, .ref 0)]) (st' := [.int (xs 2), .ref 196]) (H' := _) (kc' := kc + 1) (ks' := ks + 6) rfl ?_
                  rw [h6]
                  refine seg_RP (f := 3000) (d := 1999) 10 (pc' := 1711) (lv' := [(5, .int 3), (4, .int 1), (3, .ref 225), (2, .ref 196), (1, .ref 1), (0, .ref 0)]) (st' := [.int (xs 4), .int (xs 3), .int 0, .ref 196]) (H' := _) (kc' := kc + 1) (ks' := ks + 6) rfl ?_
                  apply RP.call
                  rfl; rfl; rfl; rfl; rfl; rfl; rfl
                  ·
                    refine seg_RP (f := 3000) (d := 1998) 11 (pc' := 21) (lv' := [(0, .ref 196), (1, .int 0), (2, .int (xs 3)), (3, .int (xs 4))]) (st' := [.int 16385, .int (xs 3), .ref 196]) (H' := _) (kc' := 0) (ks' := 0) rfl ?_
                    apply RP.call
                    rfl; rfl; rfl; rfl; rfl; rfl; rfl
                    ·
                      refine seg_RP (f := 3000) (d := 1997) 1 (pc' := 1) (lv' := [(0, .ref 196), (1, .int (xs 3)), (2, .int 16385)]) (st' := [.int (xs 3)]) (H' := _) (kc' := 0) (ks' := 0) rfl ?_
                      apply RP.brF
                      rfl; rfl; rfl
                      exact decide_eq_false (h2)
                      refine seg_RP (f := 3000) (d := 1997) 2 (pc' := 6) (lv' := [(0, .ref 196), (1, .int (xs 3)), (2, .int 16385)]) (st' := [.int 16385, .int (xs 3)]) (H' := _) (kc' := 0) (ks' := 0) rfl ?_
                      apply RP.brT
                      rfl; rfl; rfl
                      exact decide_eq_true (Int32.lt_of_le_of_lt (Int32.not_lt.mp (h3)) (show (16384 : Int32) < 16385 by decide))
                      refine seg_RP (f := 3000) (d := 1997) 1 (pc' := 14) (lv' := [(0, .ref 196), (1, .int (xs 3)), (2, .int 16385)]) (st' := [.int 0]) (H' := _) (kc' := 0) (ks' := 0) rfl ?_
                      apply RP.done
                      rfl; rfl; rfl; rfl
                    refine seg_RP (f := 3000) (d := 1998) 4 (pc' := 32) (lv' := [(0, .ref 196), (1, .int 0), (2, .int (xs 3)), (3, .int (xs 4))]) (st' := [.int 1001, .int (xs 4), .ref 196]) (H' := _) (kc' := 0) (ks' := 0) rfl ?_
                    apply RP.call
                    rfl; rfl; rfl; rfl; rfl; rfl; rfl
                    ·
                      refine seg_RP (f := 3000) (d := 1997) 1 (pc' := 1) (lv' := [(0, .ref 196), (1, .int (xs 4)), (2, .int 1001)]) (st' := [.int (xs 4)]) (H' := _) (kc' := 0) (ks' := 0) rfl ?_
                      apply RP.brF
                      rfl; rfl; rfl
                      exact decide_eq_false (h4)
                      refine seg_RP (f := 3000) (d := 1997) 2 (pc' := 6) (lv' := [(0, .ref 196), (1, .int (xs 4)), (2, .int 1001)]) (st' := [.int 1001, .int (xs 4)]) (H' := _) (kc' := 0) (ks' := 0) rfl ?_
                      apply RP.brT
                      rfl; rfl; rfl
                      exact decide_eq_true (Int32.lt_of_le_of_lt (Int32.not_lt.mp (h5)) (show (1000 : Int32) < 1001 by decide))
                      refine seg_RP (f := 3000) (d := 1997) 1 (pc' := 14) (lv' := [(0, .ref 196), (1, .int (xs 4)), (2, .int 1001)]) (st' := [.int 0]) (H' := _) (kc' := 0) (ks' := 0) rfl ?_
                      apply RP.done
                      rfl; rfl; rfl; rfl
                    refine seg_RP (f := 3000) (d := 1998) 13 (pc' := 72) (lv' := [(0, .ref 196), (1, .int 0), (2, .int (xs 3)), (3, .int (xs 4))]) (st' := [.int 0]) (H' := _) (kc' := 0) (ks' := 0) rfl ?_
                    apply RP.done
                    rfl; rfl; rfl; rfl
                  refine seg_RP (f := 3000) (d := 1999) 13 (pc' := 37) (lv' := [(4, .int 7), (6, .int 0), (5, .int 3), (3, .ref 225), (2, .ref 196), (1, .ref 1), (0, .ref 0)]) (st' := [.int 7, .int 7]) (H' := _) (kc' := kc + 1) (ks' := ks + 6) rfl ?_
                  refine seg_RP (f := 3000) (d := 1999) 4 (pc' := 1958) (lv' := [(4, .int 7), (6, .int 0), (5, .int 3), (3, .ref 225), (2, .ref 196), (1, .ref 1), (0, .ref 0)]) (st' := [.int 1]) (H' := _) (kc' := kc + 1) (ks' := ks + 6) rfl ?_
                  apply RP.done
                  rfl; rfl; rfl; rfl
                · omega
                · omega
              ·
                apply GR.mk
                ·
                  refine seg_RP (f := 3000) (d := 1999) 17 (pc' := 1687) (lv' := [(4, .int 1), (3, .ref 225), (2, .ref 196), (1, .ref 1), (0, .ref 0)]) (st' := [.ref 225, .int (xs 4), .int (xs 3), .int (xs 2), .ref 1]) (H' := _) (kc' := kc) (ks' := ks) rfl ?_
                  apply RP.call
                  rfl; rfl; rfl; rfl; rfl; rfl; rfl
                  ·
                    refine seg_RP (f := 3000) (d := 1998) 6 (pc' := 7) (lv' := [(0, .ref 1), (1, .int (xs 2)), (2, .int (xs 3)), (3, .int (xs 4)), (4, .ref 225)]) (st' := [.int (xs 4), .int (xs 3), .int (xs 2), .ref 1, .int 0, .ref 225]) (H' := _) (kc' := 0) (ks' := 0) rfl ?_
                    apply RP.callX
                    rfl; rfl; rfl; rfl; rfl; rfl; rfl
                    ·
                      refine seg_RP (f := 3000) (d := 1997) 2 (pc' := 2) (lv' := [(0, .ref 1), (1, .int (xs 2)), (2, .int (xs 3)), (3, .int (xs 4))]) (st' := [.int (xs 2), .ref 1]) (H' := _) (kc' := 0) (ks' := 0) rfl ?_
                      apply RP.call
                      rfl; rfl; rfl; rfl; rfl; rfl; rfl
                      ·
                        refine seg_RP (f := 3000) (d := 1996) 4 (pc' := 6) (lv' := [(0, .ref 1), (1, .int (xs 2))]) (st' := [.int 200, .int 0, .int (xs 2), .ref 1]) (H' := _) (kc' := 0) (ks' := 0) rfl ?_
                        apply RP.call
                        rfl; rfl; rfl; rfl; rfl; rfl; rfl
                        ·
                          refine seg_RP (f := 3000) (d := 1995) 2 (pc' := 2) (lv' := [(0, .ref 1), (1, .int (xs 2)), (2, .int 0), (3, .int 200)]) (st' := [.int 0, .int (xs 2)]) (H' := _) (kc' := 0) (ks' := 0) rfl ?_
                          apply RP.brF
                          rfl; rfl; rfl
                          exact decide_eq_false (h0)
                          refine seg_RP (f := 3000) (d := 1995) 2 (pc' := 7) (lv' := [(0, .ref 1), (1, .int (xs 2)), (2, .int 0), (3, .int 200)]) (st' := [.int 200, .int (xs 2)]) (H' := _) (kc' := 0) (ks' := 0) rfl ?_
                          apply RP.brT
                          rfl; rfl; rfl
                          exact decide_eq_true (Int32.not_lt.mp (h1))
                          apply RP.done
                          rfl; rfl; rfl; rfl
                        apply RP.done
                        rfl; rfl; rfl; rfl
                      refine seg_RP (f := 3000) (d := 1997) 4 (pc' := 11) (lv' := [(0, .ref 1), (1, .int (xs 2)), (2, .int (xs 3)), (3, .int (xs 4))]) (st' := [.int 16384, .int 0, .int (xs 3), .ref 1]) (H' := _) (kc' := 0) (ks' := 0) rfl ?_
                      apply RP.call
                      rfl; rfl; rfl; rfl; rfl; rfl; rfl
                      ·
                        refine seg_RP (f := 3000) (d := 1996) 2 (pc' := 2) (lv' := [(0, .ref 1), (1, .int (xs 3)), (2, .int 0), (3, .int 16384)]) (st' := [.int 0, .int (xs 3)]) (H' := _) (kc' := 0) (ks' := 0) rfl ?_
                        apply RP.brF
                        rfl; rfl; rfl
                        exact decide_eq_false (h2)
                        refine seg_RP (f := 3000) (d := 1996) 2 (pc' := 7) (lv' := [(0, .ref 1), (1, .int (xs 3)), (2, .int 0), (3, .int 16384)]) (st' := [.int 16384, .int (xs 3)]) (H' := _) (kc' := 0) (ks' := 0) rfl ?_
                        apply RP.brT
                        rfl; rfl; rfl
                        exact decide_eq_true (Int32.not_lt.mp (h3))
                        apply RP.done
                        rfl; rfl; rfl; rfl
                      refine seg_RP (f := 3000) (d := 1997) 4 (pc' := 20) (lv' := [(0, .ref 1), (1, .int (xs 2)), (2, .int (xs 3)), (3, .int (xs 4))]) (st' := [.int 1000, .int 0, .int (xs 4), .ref 1]) (H' := _) (kc' := 0) (ks' := 0) rfl ?_
                      apply RP.call
                      rfl; rfl; rfl; rfl; rfl; rfl; rfl
                      ·
                        refine seg_RP (f := 3000) (d := 1996) 2 (pc' := 2) (lv' := [(0, .ref 1), (1, .int (xs 4)), (2, .int 0), (3, .int 1000)]) (st' := [.int 0, .int (xs 4)]) (H' := _) (kc' := 0) (ks' := 0) rfl ?_
                        apply RP.brF
                        rfl; rfl; rfl
                        exact decide_eq_false (h4)
                        refine seg_RP (f := 3000) (d := 1996) 2 (pc' := 7) (lv' := [(0, .ref 1), (1, .int (xs 4)), (2, .int 0), (3, .int 1000)]) (st' := [.int 1000, .int (xs 4)]) (H' := _) (kc' := 0) (ks' := 0) rfl ?_
                        apply RP.brT
                        rfl; rfl; rfl
                        exact decide_eq_true (Int32.not_lt.mp (h5))
                        apply RP.done
                        rfl; rfl; rfl; rfl
                      refine seg_RP (f := 3000) (d := 1997) 4 (pc' := 29) (lv' := [(0, .ref 1), (1, .int (xs 2)), (2, .int (xs 3)), (3, .int (xs 4))]) (st' := [.int (xs 2), .ref 1]) (H' := _) (kc' := 0) (ks' := 0) rfl ?_
                      apply RP.callP
                      rfl; rfl; rfl; rfl; rfl; rfl; rfl
                      ·
                        refine seg_RP (f := 3000) (d := 1996) 3 (pc' := 5) (lv' := [(0, .ref 1), (1, .int (xs 2))]) (st' := [.int (xs 2), .ref 66]) (H' := _) (kc' := 0) (ks' := 0) rfl ?_
                        apply RP.call
                        rfl; rfl; rfl; rfl; rfl; rfl; rfl
                        ·
                          refine seg_RP (f := 3000) (d := 1995) 2 (pc' := 2) (lv' := [(0, .ref 66), (1, .int (xs 2))]) (st' := [.int (xs 2), .ref 66]) (H' := _) (kc' := 0) (ks' := 0) rfl ?_
                          apply RP.call
                          rfl; rfl; rfl; rfl; rfl; rfl; rfl
                          ·
                            refine seg_RP (f := 3000) (d := 1994) 2 (pc' := 2) (lv' := [(0, .ref 66), (1, .int (xs 2))]) (st' := [.int (xs 2), .ref 66]) (H' := _) (kc' := 0) (ks' := 0) rfl ?_
                            apply RP.call
                            rfl; rfl; rfl; rfl; rfl; rfl; rfl
                            ·
                              refine seg_RP (f := 3000) (d := 1993) 1 (pc' := 1) (lv' := [(0, .ref 66), (1, .int (xs 2))]) (st' := [.int (xs 2)]) (H' := _) (kc' := 0) (ks' := 0) rfl ?_
                              apply RP.brF
                              rfl; rfl; rfl
                              exact decide_eq_false (h0)
                              refine seg_RP (f := 3000) (d := 1993) 2 (pc' := 8) (lv' := [(0, .ref 66), (1, .int (xs 2))]) (st' := [.int 200, .int (xs 2)]) (H' := _) (kc' := 0) (ks' := 0) rfl ?_
                              apply RP.brF
                              rfl; rfl; rfl
                              exact decide_eq_false (h1)
                              refine seg_RP (f := 3000) (d := 1993) 2 (pc' := 16) (lv' := [(0, .ref 66), (1, .int (xs 2))]) (st' := [.int 1]) (H' := _) (kc' := 0) (ks' := 0) rfl ?_
                              apply RP.done
                              rfl; rfl; rfl; rfl
                            refine seg_RP (f := 3000) (d := 1994) 4 (pc' := 13) (lv' := [(0, .ref 66), (1, .int (xs 2))]) (st' := [.int (xs 2), .ref 67]) (H' := _) (kc' := 0) (ks' := 0) rfl ?_
                            apply RP.iald
                            rfl; rfl
                            exact inR_of (n := 201) (h0) (Int32.lt_of_le_of_lt (Int32.not_lt.mp (h1)) (show (200 : Int32) < 201 by decide))
                            rw [up_ne0 (h6) (h0)]
                            refine seg_RP (f := 3000) (d := 1994) 1 (pc' := 18) (lv' := [(0, .ref 66), (1, .int (xs 2))]) (st' := [.int 0]) (H' := _) (kc' := 0) (ks' := 0) rfl ?_
                            apply RP.done
                            rfl; rfl; rfl; rfl
                          refine seg_RP (f := 3000) (d := 1995) 3 (pc' := 14) (lv' := [(0, .ref 66), (1, .int (xs 2))]) (st' := [.int 0]) (H' := _) (kc' := 0) (ks' := 0) rfl ?_
                          apply RP.done
                          rfl; rfl; rfl; rfl
                        refine seg_RP (f := 3000) (d := 1996) 1 (pc' := 11) (lv' := [(0, .ref 1), (1, .int (xs 2))]) (st' := []) (H' := _) (kc' := 0) (ks' := 0) rfl ?_
                        apply RP.done
                        rfl; rfl; rfl; rfl
                      rfl
                    rfl
                    refine seg_RP (f := 3000) (d := 1998) 1 (pc' := 26) (lv' := [(0, .ref 1), (1, .int (xs 2)), (2, .int (xs 3)), (3, .int (xs 4)), (4, .ref 225)]) (st' := [.int 3]) (H' := _) (kc' := 1) (ks' := 6) rfl ?_
                    apply RP.done
                    rfl; rfl; rfl; rfl
                  refine seg_RP (f := 3000) (d := 1999) 17 (pc' := 1711) (lv' := [(5, .int 3), (4, .int 1), (3, .ref 225), (2, .ref 196), (1, .ref 1), (0, .ref 0)]) (st' := [.int (xs 4), .int (xs 3), .int (xs 2), .ref 196]) (H' := _) (kc' := kc + 1) (ks' := ks + 6) rfl ?_
                  apply RP.call
                  rfl; rfl; rfl; rfl; rfl; rfl; rfl
                  ·
                    refine seg_RP (f := 3000) (d := 1998) 6 (pc' := 10) (lv' := [(0, .ref 196), (1, .int (xs 2)), (2, .int (xs 3)), (3, .int (xs 4))]) (st' := [.int 201, .int (xs 2), .ref 196]) (H' := _) (kc' := 0) (ks' := 0) rfl ?_
                    apply RP.call
                    rfl; rfl; rfl; rfl; rfl; rfl; rfl
                    ·
                      refine seg_RP (f := 3000) (d := 1997) 1 (pc' := 1) (lv' := [(0, .ref 196), (1, .int (xs 2)), (2, .int 201)]) (st' := [.int (xs 2)]) (H' := _) (kc' := 0) (ks' := 0) rfl ?_
                      apply RP.brF
                      rfl; rfl; rfl
                      exact decide_eq_false (h0)
                      refine seg_RP (f := 3000) (d := 1997) 2 (pc' := 6) (lv' := [(0, .ref 196), (1, .int (xs 2)), (2, .int 201)]) (st' := [.int 201, .int (xs 2)]) (H' := _) (kc' := 0) (ks' := 0) rfl ?_
                      apply RP.brT
                      rfl; rfl; rfl
                      exact decide_eq_true (Int32.lt_of_le_of_lt (Int32.not_lt.mp (h1)) (show (200 : Int32) < 201 by decide))
                      refine seg_RP (f := 3000) (d := 1997) 1 (pc' := 14) (lv' := [(0, .ref 196), (1, .int (xs 2)), (2, .int 201)]) (st' := [.int 0]) (H' := _) (kc' := 0) (ks' := 0) rfl ?_
                      apply RP.done
                      rfl; rfl; rfl; rfl
                    refine seg_RP (f := 3000) (d := 1998) 4 (pc' := 21) (lv' := [(0, .ref 196), (1, .int (xs 2)), (2, .int (xs 3)), (3, .int (xs 4))]) (st' := [.int 16385, .int (xs 3), .ref 196]) (H' := _) (kc' := 0) (ks' := 0) rfl ?_
                    apply RP.call
                    rfl; rfl; rfl; rfl; rfl; rfl; rfl
                    ·
                      refine seg_RP (f := 3000) (d := 1997) 1 (pc' := 1) (lv' := [(0, .ref 196), (1, .int (xs 3)), (2, .int 16385)]) (st' := [.int (xs 3)]) (H' := _) (kc' := 0) (ks' := 0) rfl ?_
                      apply RP.brF
                      rfl; rfl; rfl
                      exact decide_eq_false (h2)
                      refine seg_RP (f := 3000) (d := 1997) 2 (pc' := 6) (lv' := [(0, .ref 196), (1, .int (xs 3)), (2, .int 16385)]) (st' := [.int 16385, .int (xs 3)]) (H' := _) (kc' := 0) (ks' := 0) rfl ?_
                      apply RP.brT
                      rfl; rfl; rfl
                      exact decide_eq_true (Int32.lt_of_le_of_lt (Int32.not_lt.mp (h3)) (show (16384 : Int32) < 16385 by decide))
                      refine seg_RP (f := 3000) (d := 1997) 1 (pc' := 14) (lv' := [(0, .ref 196), (1, .int (xs 3)), (2, .int 16385)]) (st' := [.int 0]) (H' := _) (kc' := 0) (ks' := 0) rfl ?_
                      apply RP.done
                      rfl; rfl; rfl; rfl
                    refine seg_RP (f := 3000) (d := 1998) 4 (pc' := 32) (lv' := [(0, .ref 196), (1, .int (xs 2)), (2, .int (xs 3)), (3, .int (xs 4))]) (st' := [.int 1001, .int (xs 4), .ref 196]) (H' := _) (kc' := 0) (ks' := 0) rfl ?_
                    apply RP.call
                    rfl; rfl; rfl; rfl; rfl; rfl; rfl
                    ·
                      refine seg_RP (f := 3000) (d := 1997) 1 (pc' := 1) (lv' := [(0, .ref 196), (1, .int (xs 4)), (2, .int 1001)]) (st' := [.int (xs 4)]) (H' := _) (kc' := 0) (ks' := 0) rfl ?_
                      apply RP.brF
                      rfl; rfl; rfl
                      exact decide_eq_false (h4)
                      refine seg_RP (f := 3000) (d := 1997) 2 (pc' := 6) (lv' := [(0, .ref 196), (1, .int (xs 4)), (2, .int 1001)]) (st' := [.int 1001, .int (xs 4)]) (H' := _) (kc' := 0) (ks' := 0) rfl ?_
                      apply RP.brT
                      rfl; rfl; rfl
                      exact decide_eq_true (Int32.lt_of_le_of_lt (Int32.not_lt.mp (h5)) (show (1000 : Int32) < 1001 by decide))
                      refine seg_RP (f := 3000) (d := 1997) 1 (pc' := 14) (lv' := [(0, .ref 196), (1, .int (xs 4)), (2, .int 1001)]) (st' := [.int 0]) (H' := _) (kc' := 0) (ks' := 0) rfl ?_
                      apply RP.done
                      rfl; rfl; rfl; rfl
                    refine seg_RP (f := 3000) (d := 1998) 7 (pc' := 62) (lv' := [(0, .ref 196), (1, .int (xs 2)), (2, .int (xs 3)), (3, .int (xs 4))]) (st' := [.int (xs 2), .ref 214]) (H' := _) (kc' := 0) (ks' := 0) rfl ?_
                    apply RP.iald
                    rfl; rfl
                    exact inR_of (n := 201) (h0) (Int32.lt_of_le_of_lt (Int32.not_lt.mp (h1)) (show (200 : Int32) < 201 by decide))
                    rw [up_ne0 (h6) (h0)]
                    refine seg_RP (f := 3000) (d := 1998) 5 (pc' := 72) (lv' := [(0, .ref 196), (1, .int (xs 2)), (2, .int (xs 3)), (3, .int (xs 4))]) (st' := [.int 0]) (H' := _) (kc' := 0) (ks' := 0) rfl ?_
                    apply RP.done
                    rfl; rfl; rfl; rfl
                  refine seg_RP (f := 3000) (d := 1999) 13 (pc' := 37) (lv' := [(4, .int 7), (6, .int 0), (5, .int 3), (3, .ref 225), (2, .ref 196), (1, .ref 1), (0, .ref 0)]) (st' := [.int 7, .int 7]) (H' := _) (kc' := kc + 1) (ks' := ks + 6) rfl ?_
                  refine seg_RP (f := 3000) (d := 1999) 4 (pc' := 1958) (lv' := [(4, .int 7), (6, .int 0), (5, .int 3), (3, .ref 225), (2, .ref 196), (1, .ref 1), (0, .ref 0)]) (st' := [.int 1]) (H' := _) (kc' := kc + 1) (ks' := ks + 6) rfl ?_
                  apply RP.done
                  rfl; rfl; rfl; rfl
                · omega
                · omega
set_option maxRecDepth 100000 in
set_option maxHeartbeats 4000000 in
theorem first_25 {xs : Nat → Int32} {kc ks : Nat} {v0 : Int32} {c1 : aC} {c2 : aC} {v3 : Int32} {c4 : aC} {c5 : aC} {c6 : aC} {c7 : aC} {c8 : aC} {c9 : aC} {c10 : aC} {c11 : aC} {v12 : Int32} {c13 : aC} {c14 : aC} {c15 : aC} {c16 : aC} {v17 : Int32} : GR xs 1747 (hpV v0 c1 c2 v3 c4 c5 c6 c7 c8 c9 c10 c11 v12 c13 c14 c15 c16 v17) kc ks := by
  by_cases h0 : (xs 2) < 0
  ·
    apply GR.mk
    ·
      refine seg_RP (f := 3000) (d := 1999) 12 (pc' := 1761) (lv' := [(4, .int 1), (3, .ref 225), (2, .ref 196), (1, .ref 1), (0, .ref 0)]) (st' := [.ref 225, .int (xs 3), .int (xs 2), .ref 1]) (H' := _) (kc' := kc) (ks' := ks) rfl ?_
      apply RP.call
      rfl; rfl; rfl; rfl; rfl; rfl; rfl
      ·
        refine seg_RP (f := 3000) (d := 1998) 5 (pc' := 5) (lv' := [(0, .ref 1), (1, .int (xs 2)), (2, .int (xs 3)), (3, .ref 225)]) (st' := [.int (xs 3), .int (xs 2), .ref 1, .int 0, .ref 225]) (H' := _) (kc' := 0) (ks' := 0) rfl ?_
        apply RP.callX
        rfl; rfl; rfl; rfl; rfl; rfl; rfl
        ·
          refine seg_RP (f := 3000) (d := 1997) 2 (pc' := 2) (lv' := [(0, .ref 1), (1, .int (xs 2)), (2, .int (xs 3))]) (st' := [.int (xs 2), .ref 1]) (H' := _) (kc' := 0) (ks' := 0) rfl ?_
          apply RP.callP
          rfl; rfl; rfl; rfl; rfl; rfl; rfl
          ·
            refine seg_RP (f := 3000) (d := 1996) 4 (pc' := 6) (lv' := [(0, .ref 1), (1, .int (xs 2))]) (st' := [.int 200, .int 0, .int (xs 2), .ref 1]) (H' := _) (kc' := 0) (ks' := 0) rfl ?_
            apply RP.callP
            rfl; rfl; rfl; rfl; rfl; rfl; rfl
            ·
              refine seg_RP (f := 3000) (d := 1995) 2 (pc' := 2) (lv' := [(0, .ref 1), (1, .int (xs 2)), (2, .int 0), (3, .int 200)]) (st' := [.int 0, .int (xs 2)]) (H' := _) (kc' := 0) (ks' := 0) rfl ?_
              apply RP.brT
              rfl; rfl; rfl
              exact decide_eq_true (h0)
              apply RP.done
              rfl; rfl; rfl; rfl
            rfl
          rfl
        rfl
        refine seg_RP (f := 3000) (d := 1998) 1 (pc' := 16) (lv' := [(0, .ref 1), (1, .int (xs 2)), (2, .int (xs 3)), (3, .ref 225)]) (st' := [.int 1]) (H' := _) (kc' := 1) (ks' := 6) rfl ?_
        apply RP.done
        rfl; rfl; rfl; rfl
      refine seg_RP (f := 3000) (d := 1999) 12 (pc' := 1779) (lv' := [(5, .int 1), (4, .int 1), (3, .ref 225), (2, .ref 196), (1, .ref 1), (0, .ref 0)]) (st' := [.int (xs 3), .int (xs 2), .ref 196]) (H' := _) (kc' := kc + 1) (ks' := ks + 6) rfl ?_
      apply RP.call
      rfl; rfl; rfl; rfl; rfl; rfl; rfl
      ·
        refine seg_RP (f := 3000) (d := 1998) 6 (pc' := 10) (lv' := [(0, .ref 196), (1, .int (xs 2)), (2, .int (xs 3))]) (st' := [.int 201, .int (xs 2), .ref 196]) (H' := _) (kc' := 0) (ks' := 0) rfl ?_
        apply RP.call
        rfl; rfl; rfl; rfl; rfl; rfl; rfl
        ·
          refine seg_RP (f := 3000) (d := 1997) 1 (pc' := 1) (lv' := [(0, .ref 196), (1, .int (xs 2)), (2, .int 201)]) (st' := [.int (xs 2)]) (H' := _) (kc' := 0) (ks' := 0) rfl ?_
          apply RP.brT
          rfl; rfl; rfl
          exact decide_eq_true (h0)
          refine seg_RP (f := 3000) (d := 1997) 2 (pc' := 14) (lv' := [(0, .ref 196), (1, .int (xs 2)), (2, .int 201)]) (st' := [.int 1]) (H' := _) (kc' := 0) (ks' := 0) rfl ?_
          apply RP.done
          rfl; rfl; rfl; rfl
        refine seg_RP (f := 3000) (d := 1998) 4 (pc' := 32) (lv' := [(0, .ref 196), (1, .int (xs 2)), (2, .int (xs 3))]) (st' := [.int 0]) (H' := _) (kc' := 0) (ks' := 0) rfl ?_
        apply RP.done
        rfl; rfl; rfl; rfl
      refine seg_RP (f := 3000) (d := 1999) 13 (pc' := 37) (lv' := [(4, .int 7), (6, .int 0), (5, .int 1), (3, .ref 225), (2, .ref 196), (1, .ref 1), (0, .ref 0)]) (st' := [.int 7, .int 7]) (H' := _) (kc' := kc + 1) (ks' := ks + 6) rfl ?_
      refine seg_RP (f := 3000) (d := 1999) 4 (pc' := 1958) (lv' := [(4, .int 7), (6, .int 0), (5, .int 1), (3, .ref 225), (2, .ref 196), (1, .ref 1), (0, .ref 0)]) (st' := [.int 1]) (H' := _) (kc' := kc + 1) (ks' := ks + 6) rfl ?_
      apply RP.done
      rfl; rfl; rfl; rfl
    · omega
    · omega
  ·
    by_cases h1 : (200 : Int32) < (xs 2)
    ·
      apply GR.mk
      ·
        refine seg_RP (f := 3000) (d := 1999) 12 (pc' := 1761) (lv' := [(4, .int 1), (3, .ref 225), (2, .ref 196), (1, .ref 1), (0, .ref 0)]) (st' := [.ref 225, .int (xs 3), .int (xs 2), .ref 1]) (H' := _) (kc' := kc) (ks' := ks) rfl ?_
        apply RP.call
        rfl; rfl; rfl; rfl; rfl; rfl; rfl
        ·
          refine seg_RP (f := 3000) (d := 1998) 5 (pc' := 5) (lv' := [(0, .ref 1), (1, .int (xs 2)), (2, .int (xs 3)), (3, .ref 225)]) (st' := [.int (xs 3), .int (xs 2), .ref 1, .int 0, .ref 225]) (H' := _) (kc' := 0) (ks' := 0) rfl ?_
          apply RP.callX
          rfl; rfl; rfl; rfl; rfl; rfl; rfl
          ·
            refine seg_RP (f := 3000) (d := 1997) 2 (pc' := 2) (lv' := [(0, .ref 1), (1, .int (xs 2)), (2, .int (xs 3))]) (st' := [.int (xs 2), .ref 1]) (H' := _) (kc' := 0) (ks' := 0) rfl ?_
            apply RP.callP
            rfl; rfl; rfl; rfl; rfl; rfl; rfl
            ·
              refine seg_RP (f := 3000) (d := 1996) 4 (pc' := 6) (lv' := [(0, .ref 1), (1, .int (xs 2))]) (st' := [.int 200, .int 0, .int (xs 2), .ref 1]) (H' := _) (kc' := 0) (ks' := 0) rfl ?_
              apply RP.callP
              rfl; rfl; rfl; rfl; rfl; rfl; rfl
              ·
                refine seg_RP (f := 3000) (d := 1995) 2 (pc' := 2) (lv' := [(0, .ref 1), (1, .int (xs 2)), (2, .int 0), (3, .int 200)]) (st' := [.int 0, .int (xs 2)]) (H' := _) (kc' := 0) (ks' := 0) rfl ?_
                apply RP.brF
                rfl; rfl; rfl
                exact decide_eq_false (h0)
                refine seg_RP (f := 3000) (d := 1995) 2 (pc' := 7) (lv' := [(0, .ref 1), (1, .int (xs 2)), (2, .int 0), (3, .int 200)]) (st' := [.int 200, .int (xs 2)]) (H' := _) (kc' := 0) (ks' := 0) rfl ?_
                apply RP.brF
                rfl; rfl; rfl
                exact decide_eq_false (Int32.not_le.mpr (h1))
                apply RP.done
                rfl; rfl; rfl; rfl
              rfl
            rfl
          rfl
          refine seg_RP (f := 3000) (d := 1998) 1 (pc' := 16) (lv' := [(0, .ref 1), (1, .int (xs 2)), (2, .int (xs 3)), (3, .ref 225)]) (st' := [.int 1]) (H' := _) (kc' := 1) (ks' := 6) rfl ?_
          apply RP.done
          rfl; rfl; rfl; rfl
        refine seg_RP (f := 3000) (d := 1999) 12 (pc' := 1779) (lv' := [(5, .int 1), (4, .int 1), (3, .ref 225), (2, .ref 196), (1, .ref 1), (0, .ref 0)]) (st' := [.int (xs 3), .int (xs 2), .ref 196]) (H' := _) (kc' := kc + 1) (ks' := ks + 6) rfl ?_
        apply RP.call
        rfl; rfl; rfl; rfl; rfl; rfl; rfl
        ·
          refine seg_RP (f := 3000) (d := 1998) 6 (pc' := 10) (lv' := [(0, .ref 196), (1, .int (xs 2)), (2, .int (xs 3))]) (st' := [.int 201, .int (xs 2), .ref 196]) (H' := _) (kc' := 0) (ks' := 0) rfl ?_
          apply RP.call
          rfl; rfl; rfl; rfl; rfl; rfl; rfl
          ·
            refine seg_RP (f := 3000) (d := 1997) 1 (pc' := 1) (lv' := [(0, .ref 196), (1, .int (xs 2)), (2, .int 201)]) (st' := [.int (xs 2)]) (H' := _) (kc' := 0) (ks' := 0) rfl ?_
            apply RP.brF
            rfl; rfl; rfl
            exact decide_eq_false (h0)
            refine seg_RP (f := 3000) (d := 1997) 2 (pc' := 6) (lv' := [(0, .ref 196), (1, .int (xs 2)), (2, .int 201)]) (st' := [.int 201, .int (xs 2)]) (H' := _) (kc' := 0) (ks' := 0) rfl ?_
            apply RP.brF
            rfl; rfl; rfl
            exact decide_eq_false (i32_gap (h1) (show (201 : Int32) ≤ 200 + 1 by decide) (by decide))
            refine seg_RP (f := 3000) (d := 1997) 2 (pc' := 14) (lv' := [(0, .ref 196), (1, .int (xs 2)), (2, .int 201)]) (st' := [.int 1]) (H' := _) (kc' := 0) (ks' := 0) rfl ?_
            apply RP.done
            rfl; rfl; rfl; rfl
          refine seg_RP (f := 3000) (d := 1998) 4 (pc' := 32) (lv' := [(0, .ref 196), (1, .int (xs 2)), (2, .int (xs 3))]) (st' := [.int 0]) (H' := _) (kc' := 0) (ks' := 0) rfl ?_
          apply RP.done
          rfl; rfl; rfl; rfl
        refine seg_RP (f := 3000) (d := 1999) 13 (pc' := 37) (lv' := [(4, .int 7), (6, .int 0), (5, .int 1), (3, .ref 225), (2, .ref 196), (1, .ref 1), (0, .ref 0)]) (st' := [.int 7, .int 7]) (H' := _) (kc' := kc + 1) (ks' := ks + 6) rfl ?_
        refine seg_RP (f := 3000) (d := 1999) 4 (pc' := 1958) (lv' := [(4, .int 7), (6, .int 0), (5, .int 1), (3, .ref 225), (2, .ref 196), (1, .ref 1), (0, .ref 0)]) (st' := [.int 1]) (H' := _) (kc' := kc + 1) (ks' := ks + 6) rfl ?_
        apply RP.done
        rfl; rfl; rfl; rfl
      · omega
      · omega
    ·
      by_cases h2 : (xs 3) < 0
      ·
        apply GR.mk
        ·
          refine seg_RP (f := 3000) (d := 1999) 12 (pc' := 1761) (lv' := [(4, .int 1), (3, .ref 225), (2, .ref 196), (1, .ref 1), (0, .ref 0)]) (st' := [.ref 225, .int (xs 3), .int (xs 2), .ref 1]) (H' := _) (kc' := kc) (ks' := ks) rfl ?_
          apply RP.call
          rfl; rfl; rfl; rfl; rfl; rfl; rfl
          ·
            refine seg_RP (f := 3000) (d := 1998) 5 (pc' := 5) (lv' := [(0, .ref 1), (1, .int (xs 2)), (2, .int (xs 3)), (3, .ref 225)]) (st' := [.int (xs 3), .int (xs 2), .ref 1, .int 0, .ref 225]) (H' := _) (kc' := 0) (ks' := 0) rfl ?_
            apply RP.callX
            rfl; rfl; rfl; rfl; rfl; rfl; rfl
            ·
              refine seg_RP (f := 3000) (d := 1997) 2 (pc' := 2) (lv' := [(0, .ref 1), (1, .int (xs 2)), (2, .int (xs 3))]) (st' := [.int (xs 2), .ref 1]) (H' := _) (kc' := 0) (ks' := 0) rfl ?_
              apply RP.call
              rfl; rfl; rfl; rfl; rfl; rfl; rfl
              ·
                refine seg_RP (f := 3000) (d := 1996) 4 (pc' := 6) (lv' := [(0, .ref 1), (1, .int (xs 2))]) (st' := [.int 200, .int 0, .int (xs 2), .ref 1]) (H' := _) (kc' := 0) (ks' := 0) rfl ?_
                apply RP.call
                rfl; rfl; rfl; rfl; rfl; rfl; rfl
                ·
                  refine seg_RP (f := 3000) (d := 1995) 2 (pc' := 2) (lv' := [(0, .ref 1), (1, .int (xs 2)), (2, .int 0), (3, .int 200)]) (st' := [.int 0, .int (xs 2)]) (H' := _) (kc' := 0) (ks' := 0) rfl ?_
                  apply RP.brF
                  rfl; rfl; rfl
                  exact decide_eq_false (h0)
                  refine seg_RP (f := 3000) (d := 1995) 2 (pc' := 7) (lv' := [(0, .ref 1), (1, .int (xs 2)), (2, .int 0), (3, .int 200)]) (st' := [.int 200, .int (xs 2)]) (H' := _) (kc' := 0) (ks' := 0) rfl ?_
                  apply RP.brT
                  rfl; rfl; rfl
                  exact decide_eq_true (Int32.not_lt.mp (h1))
                  apply RP.done
                  rfl; rfl; rfl; rfl
                apply RP.done
                rfl; rfl; rfl; rfl
              refine seg_RP (f := 3000) (d := 1997) 4 (pc' := 11) (lv' := [(0, .ref 1), (1, .int (xs 2)), (2, .int (xs 3))]) (st' := [.int 16384, .int 0, .int (xs 3), .ref 1]) (H' := _) (kc' := 0) (ks' := 0) rfl ?_
              apply RP.callP
              rfl; rfl; rfl; rfl; rfl; rfl; rfl
              ·
                refine seg_RP (f := 3000) (d := 1996) 2 (pc' := 2) (lv' := [(0, .ref 1), (1, .int (xs 3)), (2, .int 0), (3, .int 16384)]) (st' := [.int 0, .int (xs 3)]) (H' := _) (kc' := 0) (ks' := 0) rfl ?_
                apply RP.brT
                rfl; rfl; rfl
                exact decide_eq_true (h2)
                apply RP.done
                rfl; rfl; rfl; rfl
              rfl
            rfl
            refine seg_RP (f := 3000) (d := 1998) 1 (pc' := 16) (lv' := [(0, .ref 1), (1, .int (xs 2)), (2, .int (xs 3)), (3, .ref 225)]) (st' := [.int 1]) (H' := _) (kc' := 1) (ks' := 6) rfl ?_
            apply RP.done
            rfl; rfl; rfl; rfl
          refine seg_RP (f := 3000) (d := 1999) 12 (pc' := 1779) (lv' := [(5, .int 1), (4, .int 1), (3, .ref 225), (2, .ref 196), (1, .ref 1), (0, .ref 0)]) (st' := [.int (xs 3), .int (xs 2), .ref 196]) (H' := _) (kc' := kc + 1) (ks' := ks + 6) rfl ?_
          apply RP.call
          rfl; rfl; rfl; rfl; rfl; rfl; rfl
          ·
            refine seg_RP (f := 3000) (d := 1998) 6 (pc' := 10) (lv' := [(0, .ref 196), (1, .int (xs 2)), (2, .int (xs 3))]) (st' := [.int 201, .int (xs 2), .ref 196]) (H' := _) (kc' := 0) (ks' := 0) rfl ?_
            apply RP.call
            rfl; rfl; rfl; rfl; rfl; rfl; rfl
            ·
              refine seg_RP (f := 3000) (d := 1997) 1 (pc' := 1) (lv' := [(0, .ref 196), (1, .int (xs 2)), (2, .int 201)]) (st' := [.int (xs 2)]) (H' := _) (kc' := 0) (ks' := 0) rfl ?_
              apply RP.brF
              rfl; rfl; rfl
              exact decide_eq_false (h0)
              refine seg_RP (f := 3000) (d := 1997) 2 (pc' := 6) (lv' := [(0, .ref 196), (1, .int (xs 2)), (2, .int 201)]) (st' := [.int 201, .int (xs 2)]) (H' := _) (kc' := 0) (ks' := 0) rfl ?_
              apply RP.brT
              rfl; rfl; rfl
              exact decide_eq_true (Int32.lt_of_le_of_lt (Int32.not_lt.mp (h1)) (show (200 : Int32) < 201 by decide))
              refine seg_RP (f := 3000) (d := 1997) 1 (pc' := 14) (lv' := [(0, .ref 196), (1, .int (xs 2)), (2, .int 201)]) (st' := [.int 0]) (H' := _) (kc' := 0) (ks' := 0) rfl ?_
              apply RP.done
              rfl; rfl; rfl; rfl
            refine seg_RP (f := 3000) (d := 1998) 4 (pc' := 21) (lv' := [(0, .ref 196), (1, .int (xs 2)), (2, .int (xs 3))]) (st' := [.int 16385, .int (xs 3), .ref 196]) (H' := _) (kc' := 0) (ks' := 0) rfl ?_
            apply RP.call
            rfl; rfl; rfl; rfl; rfl; rfl; rfl
            ·
              refine seg_RP (f := 3000) (d := 1997) 1 (pc' := 1) (lv' := [(0, .ref 196), (1, .int (xs 3)), (2, .int 16385)]) (st' := [.int (xs 3)]) (H' := _) (kc' := 0) (ks' := 0) rfl ?_
              apply RP.brT
              rfl; rfl; rfl
              exact decide_eq_true (h2)
              refine seg_RP (f := 3000) (d := 1997) 2 (pc' := 14) (lv' := [(0, .ref 196), (1, .int (xs 3)), (2, .int 16385)]) (st' := [.int 1]) (H' := _) (kc' := 0) (ks' := 0) rfl ?_
              apply RP.done
              rfl; rfl; rfl; rfl
            refine seg_RP (f := 3000) (d := 1998) 4 (pc' := 32) (lv' := [(0, .ref 196), (1, .int (xs 2)), (2, .int (xs 3))]) (st' := [.int 0]) (H' := _) (kc' := 0) (ks' := 0) rfl ?_
            apply RP.done
            rfl; rfl; rfl; rfl
          refine seg_RP (f := 3000) (d := 1999) 13 (pc' := 37) (lv' := [(4, .int 7), (6, .int 0), (5, .int 1), (3, .ref 225), (2, .ref 196), (1, .ref 1), (0, .ref 0)]) (st' := [.int 7, .int 7]) (H' := _) (kc' := kc + 1) (ks' := ks + 6) rfl ?_
          refine seg_RP (f := 3000) (d := 1999) 4 (pc' := 1958) (lv' := [(4, .int 7), (6, .int 0), (5, .int 1), (3, .ref 225), (2, .ref 196), (1, .ref 1), (0, .ref 0)]) (st' := [.int 1]) (H' := _) (kc' := kc + 1) (ks' := ks + 6) rfl ?_
          apply RP.done
          rfl; rfl; rfl; rfl
        · omega
        · omega
      ·
        by_cases h3 : (16384 : Int32) < (xs 3)
        ·
          apply GR.mk
          ·
            refine seg_RP (f := 3000) (d := 1999) 12 (pc' := 1761) (lv' := [(4, .int 1), (3, .ref 225), (2, .ref 196), (1, .ref 1), (0, .ref 0)]) (st' := [.ref 225, .int (xs 3), .int (xs 2), .ref 1]) (H' := _) (kc' := kc) (ks' := ks) rfl ?_
            apply RP.call
            rfl; rfl; rfl; rfl; rfl; rfl; rfl
            ·
              refine seg_RP (f := 3000) (d := 1998) 5 (pc' := 5) (lv' := [(0, .ref 1), (1, .int (xs 2)), (2, .int (xs 3)), (3, .ref 225)]) (st' := [.int (xs 3), .int (xs 2), .ref 1, .int 0, .ref 225]) (H' := _) (kc' := 0) (ks' := 0) rfl ?_
              apply RP.callX
              rfl; rfl; rfl; rfl; rfl; rfl; rfl
              ·
                refine seg_RP (f := 3000) (d := 1997) 2 (pc' := 2) (lv' := [(0, .ref 1), (1, .int (xs 2)), (2, .int (xs 3))]) (st' := [.int (xs 2), .ref 1]) (H' := _) (kc' := 0) (ks' := 0) rfl ?_
                apply RP.call
                rfl; rfl; rfl; rfl; rfl; rfl; rfl
                ·
                  refine seg_RP (f := 3000) (d := 1996) 4 (pc' := 6) (lv' := [(0, .ref 1), (1, .int (xs 2))]) (st' := [.int 200, .int 0, .int (xs 2), .ref 1]) (H' := _) (kc' := 0) (ks' := 0) rfl ?_
                  apply RP.call
                  rfl; rfl; rfl; rfl; rfl; rfl; rfl
                  ·
                    refine seg_RP (f := 3000) (d := 1995) 2 (pc' := 2) (lv' := [(0, .ref 1), (1, .int (xs 2)), (2, .int 0), (3, .int 200)]) (st' := [.int 0, .int (xs 2)]) (H' := _) (kc' := 0) (ks' := 0) rfl ?_
                    apply RP.brF
                    rfl; rfl; rfl
                    exact decide_eq_false (h0)
                    refine seg_RP (f := 3000) (d := 1995) 2 (pc' := 7) (lv' := [(0, .ref 1), (1, .int (xs 2)), (2, .int 0), (3, .int 200)]) (st' := [.int 200, .int (xs 2)]) (H' := _) (kc' := 0) (ks' := 0) rfl ?_
                    apply RP.brT
                    rfl; rfl; rfl
                    exact decide_eq_true (Int32.not_lt.mp (h1))
                    apply RP.done
                    rfl; rfl; rfl; rfl
                  apply RP.done
                  rfl; rfl; rfl; rfl
                refine seg_RP (f := 3000) (d := 1997) 4 (pc' := 11) (lv' := [(0, .ref 1), (1, .int (xs 2)), (2, .int (xs 3))]) (st' := [.int 16384, .int 0, .int (xs 3), .ref 1]) (H' := _) (kc' := 0) (ks' := 0) rfl ?_
                apply RP.callP
                rfl; rfl; rfl; rfl; rfl; rfl; rfl
                ·
                  refine seg_RP (f := 3000) (d := 1996) 2 (pc' := 2) (lv' := [(0, .ref 1), (1, .int (xs 3)), (2, .int 0), (3, .int 16384)]) (st' := [.int 0, .int (xs 3)]) (H' := _) (kc' := 0) (ks' := 0) rfl ?_
                  apply RP.brF
                  rfl; rfl; rfl
                  exact decide_eq_false (h2)
                  refine seg_RP (f := 3000) (d := 1996) 2 (pc' := 7) (lv' := [(0, .ref 1), (1, .int (xs 3)), (2, .int 0), (3, .int 16384)]) (st' := [.int 16384, .int (xs 3)]) (H' := _) (kc' := 0) (ks' := 0) rfl ?_
                  apply RP.brF
                  rfl; rfl; rfl
                  exact decide_eq_false (Int32.not_le.mpr (h3))
                  apply RP.done
                  rfl; rfl; rfl; rfl
                rfl
              rfl
              refine seg_RP (f := 3000) (d := 1998) 1 (pc' := 16) (lv' := [(0, .ref 1), (1, .int (xs 2)), (2, .int (xs 3)), (3, .ref 225)]) (st' := [.int 1]) (H' := _) (kc' := 1) (ks' := 6) rfl ?_
              apply RP.done
              rfl; rfl; rfl; rfl
            refine seg_RP (f := 3000) (d := 1999) 12 (pc' := 1779) (lv' := [(5, .int 1), (4, .int 1), (3, .ref 225), (2, .ref 196), (1, .ref 1), (0, .ref 0)]) (st' := [.int (xs 3), .int (xs 2), .ref 196]) (H' := _) (kc' := kc + 1) (ks' := ks + 6) rfl ?_
            apply RP.call
            rfl; rfl; rfl; rfl; rfl; rfl; rfl
            ·
              refine seg_RP (f := 3000) (d := 1998) 6 (pc' := 10) (lv' := [(0, .ref 196), (1, .int (xs 2)), (2, .int (xs 3))]) (st' := [.int 201, .int (xs 2), .ref 196]) (H' := _) (kc' := 0) (ks' := 0) rfl ?_
              apply RP.call
              rfl; rfl; rfl; rfl; rfl; rfl; rfl
              ·
                refine seg_RP (f := 3000) (d := 1997) 1 (pc' := 1) (lv' := [(0, .ref 196), (1, .int (xs 2)), (2, .int 201)]) (st' := [.int (xs 2)]) (H' := _) (kc' := 0) (ks' := 0) rfl ?_
                apply RP.brF
                rfl; rfl; rfl
                exact decide_eq_false (h0)
                refine seg_RP (f := 3000) (d := 1997) 2 (pc' := 6) (lv' := [(0, .ref 196), (1, .int (xs 2)), (2, .int 201)]) (st' := [.int 201, .int (xs 2)]) (H' := _) (kc' := 0) (ks' := 0) rfl ?_
                apply RP.brT
                rfl; rfl; rfl
                exact decide_eq_true (Int32.lt_of_le_of_lt (Int32.not_lt.mp (h1)) (show (200 : Int32) < 201 by decide))
                refine seg_RP (f := 3000) (d := 1997) 1 (pc' := 14) (lv' := [(0, .ref 196), (1, .int (xs 2)), (2, .int 201)]) (st' := [.int 0]) (H' := _) (kc' := 0) (ks' := 0) rfl ?_
                apply RP.done
                rfl; rfl; rfl; rfl
              refine seg_RP (f := 3000) (d := 1998) 4 (pc' := 21) (lv' := [(0, .ref 196), (1, .int (xs 2)), (2, .int (xs 3))]) (st' := [.int 16385, .int (xs 3), .ref 196]) (H' := _) (kc' := 0) (ks' := 0) rfl ?_
              apply RP.call
              rfl; rfl; rfl; rfl; rfl; rfl; rfl
              ·
                refine seg_RP (f := 3000) (d := 1997) 1 (pc' := 1) (lv' := [(0, .ref 196), (1, .int (xs 3)), (2, .int 16385)]) (st' := [.int (xs 3)]) (H' := _) (kc' := 0) (ks' := 0) rfl ?_
                apply RP.brF
                rfl; rfl; rfl
                exact decide_eq_false (h2)
                refine seg_RP (f := 3000) (d := 1997) 2 (pc' := 6) (lv' := [(0, .ref 196), (1, .int (xs 3)), (2, .int 16385)]) (st' := [.int 16385, .int (xs 3)]) (H' := _) (kc' := 0) (ks' := 0) rfl ?_
                apply RP.brF
                rfl; rfl; rfl
                exact decide_eq_false (i32_gap (h3) (show (16385 : Int32) ≤ 16384 + 1 by decide) (by decide))
                refine seg_RP (f := 3000) (d := 1997) 2 (pc' := 14) (lv' := [(0, .ref 196), (1, .int (xs 3)), (2, .int 16385)]) (st' := [.int 1]) (H' := _) (kc' := 0) (ks' := 0) rfl ?_
                apply RP.done
                rfl; rfl; rfl; rfl
              refine seg_RP (f := 3000) (d := 1998) 4 (pc' := 32) (lv' := [(0, .ref 196), (1, .int (xs 2)), (2, .int (xs 3))]) (st' := [.int 0]) (H' := _) (kc' := 0) (ks' := 0) rfl ?_
              apply RP.done
              rfl; rfl; rfl; rfl
            refine seg_RP (f := 3000) (d := 1999) 13 (pc' := 37) (lv' := [(4, .int 7), (6, .int 0), (5, .int 1), (3, .ref 225), (2, .ref 196), (1, .ref 1), (0, .ref 0)]) (st' := [.int 7, .int 7]) (H' := _) (kc' := kc + 1) (ks' := ks + 6) rfl ?_
            refine seg_RP (f := 3000) (d := 1999) 4 (pc' := 1958) (lv' := [(4, .int 7), (6, .int 0), (5, .int 1), (3, .ref 225), (2, .ref 196), (1, .ref 1), (0, .ref 0)]) (st' := [.int 1]) (H' := _) (kc' := kc + 1) (ks' := ks + 6) rfl ?_
            apply RP.done
            rfl; rfl; rfl; rfl
          · omega
          · omega
        ·
          by_cases h4 : (xs 2) = 0
          ·
            apply GR.mk
            ·
              refine seg_RP (f := 3000) (d := 1999) 6 (pc' := 1754) (lv' := [(4, .int 1), (3, .ref 225), (2, .ref 196), (1, .ref 1), (0, .ref 0)]) (st' := [.int (xs 2), .ref 1]) (H' := _) (kc' := kc) (ks' := ks) rfl ?_
              rw [h4]
              refine seg_RP (f := 3000) (d := 1999) 6 (pc' := 1761) (lv' := [(4, .int 1), (3, .ref 225), (2, .ref 196), (1, .ref 1), (0, .ref 0)]) (st' := [.ref 225, .int (xs 3), .int 0, .ref 1]) (H' := _) (kc' := kc) (ks' := ks) rfl ?_
              apply RP.call
              rfl; rfl; rfl; rfl; rfl; rfl; rfl
              ·
                refine seg_RP (f := 3000) (d := 1998) 5 (pc' := 5) (lv' := [(0, .ref 1), (1, .int 0), (2, .int (xs 3)), (3, .ref 225)]) (st' := [.int (xs 3), .int 0, .ref 1, .int 0, .ref 225]) (H' := _) (kc' := 0) (ks' := 0) rfl ?_
                apply RP.callX
                rfl; rfl; rfl; rfl; rfl; rfl; rfl
                ·
                  refine seg_RP (f := 3000) (d := 1997) 7 (pc' := 11) (lv' := [(0, .ref 1), (1, .int 0), (2, .int (xs 3))]) (st' := [.int 16384, .int 0, .int (xs 3), .ref 1]) (H' := _) (kc' := 0) (ks' := 0) rfl ?_
                  apply RP.call
                  rfl; rfl; rfl; rfl; rfl; rfl; rfl
                  ·
                    refine seg_RP (f := 3000) (d := 1996) 2 (pc' := 2) (lv' := [(0, .ref 1), (1, .int (xs 3)), (2, .int 0), (3, .int 16384)]) (st' := [.int 0, .int (xs 3)]) (H' := _) (kc' := 0) (ks' := 0) rfl ?_
                    apply RP.brF
                    rfl; rfl; rfl
                    exact decide_eq_false (h2)
                    refine seg_RP (f := 3000) (d := 1996) 2 (pc' := 7) (lv' := [(0, .ref 1), (1, .int (xs 3)), (2, .int 0), (3, .int 16384)]) (st' := [.int 16384, .int (xs 3)]) (H' := _) (kc' := 0) (ks' := 0) rfl ?_
                    apply RP.brT
                    rfl; rfl; rfl
                    exact decide_eq_true (Int32.not_lt.mp (h3))
                    apply RP.done
                    rfl; rfl; rfl; rfl
                  refine seg_RP (f := 3000) (d := 1997) 4 (pc' := 20) (lv' := [(0, .ref 1), (1, .int 0), (2, .int (xs 3))]) (st' := [.int 0, .ref 1]) (H' := _) (kc' := 0) (ks' := 0) rfl ?_
                  apply RP.callP
                  rfl; rfl; rfl; rfl; rfl; rfl; rfl
                  ·
                    refine seg_RP (f := 3000) (d := 1996) 5 (pc' := 11) (lv' := [(0, .ref 1), (1, .int 0)]) (st' := []) (H' := _) (kc' := 0) (ks' := 0) rfl ?_
                    apply RP.done
                    rfl; rfl; rfl; rfl
                  rfl
                rfl
                refine seg_RP (f := 3000) (d := 1998) 1 (pc' := 24) (lv' := [(0, .ref 1), (1, .int 0), (2, .int (xs 3)), (3, .ref 225)]) (st' := [.int 3]) (H' := _) (kc' := 1) (ks' := 6) rfl ?_
                apply RP.done
                rfl; rfl; rfl; rfl
              refine seg_RP (f := 3000) (d := 1999) 7 (pc' := 1773) (lv' := [(5, .int 3), (4, .int 1), (3, .ref 225), (2, .ref 196), (1, .ref 1), (0, .ref 0)]) (st' := [.int (xs 2), .ref 196]) (H' := _) (kc' := kc + 1) (ks' := ks + 6) rfl ?_
              rw [h4]
              refine seg_RP (f := 3000) (d := 1999) 5 (pc' := 1779) (lv' := [(5, .int 3), (4, .int 1), (3, .ref 225), (2, .ref 196), (1, .ref 1), (0, .ref 0)]) (st' := [.int (xs 3), .int 0, .ref 196]) (H' := _) (kc' := kc + 1) (ks' := ks + 6) rfl ?_
              apply RP.call
              rfl; rfl; rfl; rfl; rfl; rfl; rfl
              ·
                refine seg_RP (f := 3000) (d := 1998) 11 (pc' := 21) (lv' := [(0, .ref 196), (1, .int 0), (2, .int (xs 3))]) (st' := [.int 16385, .int (xs 3), .ref 196]) (H' := _) (kc' := 0) (ks' := 0) rfl ?_
                apply RP.call
                rfl; rfl; rfl; rfl; rfl; rfl; rfl
                ·
                  refine seg_RP (f := 3000) (d := 1997) 1 (pc' := 1) (lv' := [(0, .ref 196), (1, .int (xs 3)), (2, .int 16385)]) (st' := [.int (xs 3)]) (H' := _) (kc' := 0) (ks' := 0) rfl ?_
                  apply RP.brF
                  rfl; rfl; rfl
                  exact decide_eq_false (h2)
                  refine seg_RP (f := 3000) (d := 1997) 2 (pc' := 6) (lv' := [(0, .ref 196), (1, .int (xs 3)), (2, .int 16385)]) (st' := [.int 16385, .int (xs 3)]) (H' := _) (kc' := 0) (ks' := 0) rfl ?_
                  apply RP.brT
                  rfl; rfl; rfl
                  exact decide_eq_true (Int32.lt_of_le_of_lt (Int32.not_lt.mp (h3)) (show (16384 : Int32) < 16385 by decide))
                  refine seg_RP (f := 3000) (d := 1997) 1 (pc' := 14) (lv' := [(0, .ref 196), (1, .int (xs 3)), (2, .int 16385)]) (st' := [.int 0]) (H' := _) (kc' := 0) (ks' := 0) rfl ?_
                  apply RP.done
                  rfl; rfl; rfl; rfl
                refine seg_RP (f := 3000) (d := 1998) 13 (pc' := 61) (lv' := [(0, .ref 196), (1, .int 0), (2, .int (xs 3))]) (st' := [.int 0]) (H' := _) (kc' := 0) (ks' := 0) rfl ?_
                apply RP.done
                rfl; rfl; rfl; rfl
              refine seg_RP (f := 3000) (d := 1999) 13 (pc' := 37) (lv' := [(4, .int 7), (6, .int 0), (5, .int 3), (3, .ref 225), (2, .ref 196), (1, .ref 1), (0, .ref 0)]) (st' := [.int 7, .int 7]) (H' := _) (kc' := kc + 1) (ks' := ks + 6) rfl ?_
              refine seg_RP (f := 3000) (d := 1999) 4 (pc' := 1958) (lv' := [(4, .int 7), (6, .int 0), (5, .int 3), (3, .ref 225), (2, .ref 196), (1, .ref 1), (0, .ref 0)]) (st' := [.int 1]) (H' := _) (kc' := kc + 1) (ks' := ks + 6) rfl ?_
              apply RP.done
              rfl; rfl; rfl; rfl
            · omega
            · omega
          ·
            apply GR.mk
            ·
              refine seg_RP (f := 3000) (d := 1999) 12 (pc' := 1761) (lv' := [(4, .int 1), (3, .ref 225), (2, .ref 196), (1, .ref 1), (0, .ref 0)]) (st' := [.ref 225, .int (xs 3), .int (xs 2), .ref 1]) (H' := _) (kc' := kc) (ks' := ks) rfl ?_
              apply RP.call
              rfl; rfl; rfl; rfl; rfl; rfl; rfl
              ·
                refine seg_RP (f := 3000) (d := 1998) 5 (pc' := 5) (lv' := [(0, .ref 1), (1, .int (xs 2)), (2, .int (xs 3)), (3, .ref 225)]) (st' := [.int (xs 3), .int (xs 2), .ref 1, .int 0, .ref 225]) (H' := _) (kc' := 0) (ks' := 0) rfl ?_
                apply RP.callX
                rfl; rfl; rfl; rfl; rfl; rfl; rfl
                ·
                  refine seg_RP (f := 3000) (d := 1997) 2 (pc' := 2) (lv' := [(0, .ref 1), (1, .int (xs 2)), (2, .int (xs 3))]) (st' := [.int (xs 2), .ref 1]) (H' := _) (kc' := 0) (ks' := 0) rfl ?_
                  apply RP.call
                  rfl; rfl; rfl; rfl; rfl; rfl; rfl
                  ·
                    refine seg_RP (f := 3000) (d := 1996) 4 (pc' := 6) (lv' := [(0, .ref 1), (1, .int (xs 2))]) (st' := [.int 200, .int 0, .int (xs 2), .ref 1]) (H' := _) (kc' := 0) (ks' := 0) rfl ?_
                    apply RP.call
                    rfl; rfl; rfl; rfl; rfl; rfl; rfl
                    ·
                      refine seg_RP (f := 3000) (d := 1995) 2 (pc' := 2) (lv' := [(0, .ref 1), (1, .int (xs 2)), (2, .int 0), (3, .int 200)]) (st' := [.int 0, .int (xs 2)]) (H' := _) (kc' := 0) (ks' := 0) rfl ?_
                      apply RP.brF
                      rfl; rfl; rfl
                      exact decide_eq_false (h0)
                      refine seg_RP (f := 3000) (d := 1995) 2 (pc' := 7) (lv' := [(0, .ref 1), (1, .int (xs 2)), (2, .int 0), (3, .int 200)]) (st' := [.int 200, .int (xs 2)]) (H' := _) (kc' := 0) (ks' := 0) rfl ?_
                      apply RP.brT
                      rfl; rfl; rfl
                      exact decide_eq_true (Int32.not_lt.mp (h1))
                      apply RP.done
                      rfl; rfl; rfl; rfl
                    apply RP.done
                    rfl; rfl; rfl; rfl
                  refine seg_RP (f := 3000) (d := 1997) 4 (pc' := 11) (lv' := [(0, .ref 1), (1, .int (xs 2)), (2, .int (xs 3))]) (st' := [.int 16384, .int 0, .int (xs 3), .ref 1]) (H' := _) (kc' := 0) (ks' := 0) rfl ?_
                  apply RP.call
                  rfl; rfl; rfl; rfl; rfl; rfl; rfl
                  ·
                    refine seg_RP (f := 3000) (d := 1996) 2 (pc' := 2) (lv' := [(0, .ref 1), (1, .int (xs 3)), (2, .int 0), (3, .int 16384)]) (st' := [.int 0, .int (xs 3)]) (H' := _) (kc' := 0) (ks' := 0) rfl ?_
                    apply RP.brF
                    rfl; rfl; rfl
                    exact decide_eq_false (h2)
                    refine seg_RP (f := 3000) (d := 1996) 2 (pc' := 7) (lv' := [(0, .ref 1), (1, .int (xs 3)), (2, .int 0), (3, .int 16384)]) (st' := [.int 16384, .int (xs 3)]) (H' := _) (kc' := 0) (ks' := 0) rfl ?_
                    apply RP.brT
                    rfl; rfl; rfl
                    exact decide_eq_true (Int32.not_lt.mp (h3))
                    apply RP.done
                    rfl; rfl; rfl; rfl
                  refine seg_RP (f := 3000) (d := 1997) 4 (pc' := 20) (lv' := [(0, .ref 1), (1, .int (xs 2)), (2, .int (xs 3))]) (st' := [.int (xs 2), .ref 1]) (H' := _) (kc' := 0) (ks' := 0) rfl ?_
                  apply RP.callP
                  rfl; rfl; rfl; rfl; rfl; rfl; rfl
                  ·
                    refine seg_RP (f := 3000) (d := 1996) 3 (pc' := 5) (lv' := [(0, .ref 1), (1, .int (xs 2))]) (st' := [.int (xs 2), .ref 66]) (H' := _) (kc' := 0) (ks' := 0) rfl ?_
                    apply RP.call
                    rfl; rfl; rfl; rfl; rfl; rfl; rfl
                    ·
                      refine seg_RP (f := 3000) (d := 1995) 2 (pc' := 2) (lv' := [(0, .ref 66), (1, .int (xs 2))]) (st' := [.int (xs 2), .ref 66]) (H' := _) (kc' := 0) (ks' := 0) rfl ?_
                      apply RP.call
                      rfl; rfl; rfl; rfl; rfl; rfl; rfl
                      ·
                        refine seg_RP (f := 3000) (d := 1994) 2 (pc' := 2) (lv' := [(0, .ref 66), (1, .int (xs 2))]) (st' := [.int (xs 2), .ref 66]) (H' := _) (kc' := 0) (ks' := 0) rfl ?_
                        apply RP.call
                        rfl; rfl; rfl; rfl; rfl; rfl; rfl
                        ·
                          refine seg_RP (f := 3000) (d := 1993) 1 (pc' := 1) (lv' := [(0, .ref 66), (1, .int (xs 2))]) (st' := [.int (xs 2)]) (H' := _) (kc' := 0) (ks' := 0) rfl ?_
                          apply RP.brF
                          rfl; rfl; rfl
                          exact decide_eq_false (h0)
                          refine seg_RP (f := 3000) (d := 1993) 2 (pc' := 8) (lv' := [(0, .ref 66), (1, .int (xs 2))]) (st' := [.int 200, .int (xs 2)]) (H' := _) (kc' := 0) (ks' := 0) rfl ?_
                          apply RP.brF
                          rfl; rfl; rfl
                          exact decide_eq_false (h1)
                          refine seg_RP (f := 3000) (d := 1993) 2 (pc' := 16) (lv' := [(0, .ref 66), (1, .int (xs 2))]) (st' := [.int 1]) (H' := _) (kc' := 0) (ks' := 0) rfl ?_
                          apply RP.done
                          rfl; rfl; rfl; rfl
                        refine seg_RP (f := 3000) (d := 1994) 4 (pc' := 13) (lv' := [(0, .ref 66), (1, .int (xs 2))]) (st' := [.int (xs 2), .ref 67]) (H' := _) (kc' := 0) (ks' := 0) rfl ?_
                        apply RP.iald
                        rfl; rfl
                        exact inR_of (n := 201) (h0) (Int32.lt_of_le_of_lt (Int32.not_lt.mp (h1)) (show (200 : Int32) < 201 by decide))
                        rw [up_ne0 (h4) (h0)]
                        refine seg_RP (f := 3000) (d := 1994) 1 (pc' := 18) (lv' := [(0, .ref 66), (1, .int (xs 2))]) (st' := [.int 0]) (H' := _) (kc' := 0) (ks' := 0) rfl ?_
                        apply RP.done
                        rfl; rfl; rfl; rfl
                      refine seg_RP (f := 3000) (d := 1995) 3 (pc' := 14) (lv' := [(0, .ref 66), (1, .int (xs 2))]) (st' := [.int 0]) (H' := _) (kc' := 0) (ks' := 0) rfl ?_
                      apply RP.done
                      rfl; rfl; rfl; rfl
                    refine seg_RP (f := 3000) (d := 1996) 1 (pc' := 11) (lv' := [(0, .ref 1), (1, .int (xs 2))]) (st' := []) (H' := _) (kc' := 0) (ks' := 0) rfl ?_
                    apply RP.done
                    rfl; rfl; rfl; rfl
                  rfl
                rfl
                refine seg_RP (f := 3000) (d := 1998) 1 (pc' := 24) (lv' := [(0, .ref 1), (1, .int (xs 2)), (2, .int (xs 3)), (3, .ref 225)]) (st' := [.int 3]) (H' := _) (kc' := 1) (ks' := 6) rfl ?_
                apply RP.done
                rfl; rfl; rfl; rfl
              refine seg_RP (f := 3000) (d := 1999) 12 (pc' := 1779) (lv' := [(5, .int 3), (4, .int 1), (3, .ref 225), (2, .ref 196), (1, .ref 1), (0, .ref 0)]) (st' := [.int (xs 3), .int (xs 2), .ref 196]) (H' := _) (kc' := kc + 1) (ks' := ks + 6) rfl ?_
              apply RP.call
              rfl; rfl; rfl; rfl; rfl; rfl; rfl
              ·
                refine seg_RP (f := 3000) (d := 1998) 6 (pc' := 10) (lv' := [(0, .ref 196), (1, .int (xs 2)), (2, .int (xs 3))]) (st' := [.int 201, .int (xs 2), .ref 196]) (H' := _) (kc' := 0) (ks' := 0) rfl ?_
                apply RP.call
                rfl; rfl; rfl; rfl; rfl; rfl; rfl
                ·
                  refine seg_RP (f := 3000) (d := 1997) 1 (pc' := 1) (lv' := [(0, .ref 196), (1, .int (xs 2)), (2, .int 201)]) (st' := [.int (xs 2)]) (H' := _) (kc' := 0) (ks' := 0) rfl ?_
                  apply RP.brF
                  rfl; rfl; rfl
                  exact decide_eq_false (h0)
                  refine seg_RP (f := 3000) (d := 1997) 2 (pc' := 6) (lv' := [(0, .ref 196), (1, .int (xs 2)), (2, .int 201)]) (st' := [.int 201, .int (xs 2)]) (H' := _) (kc' := 0) (ks' := 0) rfl ?_
                  apply RP.brT
                  rfl; rfl; rfl
                  exact decide_eq_true (Int32.lt_of_le_of_lt (Int32.not_lt.mp (h1)) (show (200 : Int32) < 201 by decide))
                  refine seg_RP (f := 3000) (d := 1997) 1 (pc' := 14) (lv' := [(0, .ref 196), (1, .int (xs 2)), (2, .int 201)]) (st' := [.int 0]) (H' := _) (kc' := 0) (ks' := 0) rfl ?_
                  apply RP.done
                  rfl; rfl; rfl; rfl
                refine seg_RP (f := 3000) (d := 1998) 4 (pc' := 21) (lv' := [(0, .ref 196), (1, .int (xs 2)), (2, .int (xs 3))]) (st' := [.int 16385, .int (xs 3), .ref 196]) (H' := _) (kc' := 0) (ks' := 0) rfl ?_
                apply RP.call
                rfl; rfl; rfl; rfl; rfl; rfl; rfl
                ·
                  refine seg_RP (f := 3000) (d := 1997) 1 (pc' := 1) (lv' := [(0, .ref 196), (1, .int (xs 3)), (2, .int 16385)]) (st' := [.int (xs 3)]) (H' := _) (kc' := 0) (ks' := 0) rfl ?_
                  apply RP.brF
                  rfl; rfl; rfl
                  exact decide_eq_false (h2)
                  refine seg_RP (f := 3000) (d := 1997) 2 (pc' := 6) (lv' := [(0, .ref 196), (1, .int (xs 3)), (2, .int 16385)]) (st' := [.int 16385, .int (xs 3)]) (H' := _) (kc' := 0) (ks' := 0) rfl ?_
                  apply RP.brT
                  rfl; rfl; rfl
                  exact decide_eq_true (Int32.lt_of_le_of_lt (Int32.not_lt.mp (h3)) (show (16384 : Int32) < 16385 by decide))
                  refine seg_RP (f := 3000) (d := 1997) 1 (pc' := 14) (lv' := [(0, .ref 196), (1, .int (xs 3)), (2, .int 16385)]) (st' := [.int 0]) (H' := _) (kc' := 0) (ks' := 0) rfl ?_
                  apply RP.done
                  rfl; rfl; rfl; rfl
                refine seg_RP (f := 3000) (d := 1998) 7 (pc' := 51) (lv' := [(0, .ref 196), (1, .int (xs 2)), (2, .int (xs 3))]) (st' := [.int (xs 2), .ref 214]) (H' := _) (kc' := 0) (ks' := 0) rfl ?_
                apply RP.iald
                rfl; rfl
                exact inR_of (n := 201) (h0) (Int32.lt_of_le_of_lt (Int32.not_lt.mp (h1)) (show (200 : Int32) < 201 by decide))
                rw [up_ne0 (h4) (h0)]
                refine seg_RP (f := 3000) (d := 1998) 5 (pc' := 61) (lv' := [(0, .ref 196), (1, .int (xs 2)), (2, .int (xs 3))]) (st' := [.int 0]) (H' := _) (kc' := 0) (ks' := 0) rfl ?_
                apply RP.done
                rfl; rfl; rfl; rfl
              refine seg_RP (f := 3000) (d := 1999) 13 (pc' := 37) (lv' := [(4, .int 7), (6, .int 0), (5, .int 3), (3, .ref 225), (2, .ref 196), (1, .ref 1), (0, .ref 0)]) (st' := [.int 7, .int 7]) (H' := _) (kc' := kc + 1) (ks' := ks + 6) rfl ?_
              refine seg_RP (f := 3000) (d := 1999) 4 (pc' := 1958) (lv' := [(4, .int 7), (6, .int 0), (5, .int 3), (3, .ref 225), (2, .ref 196), (1, .ref 1), (0, .ref 0)]) (st' := [.int 1]) (H' := _) (kc' := kc + 1) (ks' := ks + 6) rfl ?_
              apply RP.done
              rfl; rfl; rfl; rfl
            · omega
            · omega
