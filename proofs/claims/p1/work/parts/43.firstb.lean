set_option maxRecDepth 100000 in
set_option maxHeartbeats 4000000 in
theorem first_13 {xs : Nat → Int32} {kc ks : Nat} {v0 : Int32} {c1 : aC} {c2 : aC} {v3 : Int32} {c4 : aC} {c5 : aC} {c6 : aC} {c7 : aC} {c8 : aC} {c9 : aC} {c10 : aC} {c11 : aC} {v12 : Int32} {c13 : aC} {c14 : aC} {c15 : aC} {c16 : aC} {v17 : Int32} : GR xs 984 (hpV v0 c1 c2 v3 c4 c5 c6 c7 c8 c9 c10 c11 v12 c13 c14 c15 c16 v17) kc ks := by
  by_cases h0 : (xs 2) = 0
  ·
    by_cases h1 : (xs 3) < 0
    ·
      apply GR.mk
      ·
        refine seg_RP (f := 3000) (d := 1999) 6 (pc' := 991) (lv' := [(4, .int 1), (3, .ref 225), (2, .ref 196), (1, .ref 1), (0, .ref 0)]) (st' := [.int (xs 2), .ref 1]) (H' := _) (kc' := kc) (ks' := ks) rfl ?_
        rw [h0]
        refine seg_RP (f := 3000) (d := 1999) 13 (pc' := 1012) (lv' := [(4, .int 1), (3, .ref 225), (2, .ref 196), (1, .ref 1), (0, .ref 0)]) (st' := [.ref 225, .int (xs 4), .int (xs 3), .int 0, .ref 1]) (H' := _) (kc' := kc) (ks' := ks) rfl ?_
        apply RP.call
        rfl; rfl; rfl; rfl; rfl; rfl; rfl
        ·
          refine seg_RP (f := 3000) (d := 1998) 6 (pc' := 7) (lv' := [(0, .ref 1), (1, .int 0), (2, .int (xs 3)), (3, .int (xs 4)), (4, .ref 225)]) (st' := [.int (xs 4), .int (xs 3), .int 0, .ref 1, .int 0, .ref 225]) (H' := _) (kc' := 0) (ks' := 0) rfl ?_
          apply RP.callX
          rfl; rfl; rfl; rfl; rfl; rfl; rfl
          ·
            refine seg_RP (f := 3000) (d := 1997) 4 (pc' := 6) (lv' := [(0, .ref 1), (1, .int 0), (2, .int (xs 3)), (3, .int (xs 4))]) (st' := [.int 2147483647, .int 0, .int (xs 3), .ref 1]) (H' := _) (kc' := 0) (ks' := 0) rfl ?_
            apply RP.callP
            rfl; rfl; rfl; rfl; rfl; rfl; rfl
            ·
              refine seg_RP (f := 3000) (d := 1996) 2 (pc' := 2) (lv' := [(0, .ref 1), (1, .int (xs 3)), (2, .int 0), (3, .int 2147483647)]) (st' := [.int 0, .int (xs 3)]) (H' := _) (kc' := 0) (ks' := 0) rfl ?_
              apply RP.brT
              rfl; rfl; rfl
              exact decide_eq_true (h1)
              apply RP.done
              rfl; rfl; rfl; rfl
            rfl
          rfl
          refine seg_RP (f := 3000) (d := 1998) 1 (pc' := 18) (lv' := [(0, .ref 1), (1, .int 0), (2, .int (xs 3)), (3, .int (xs 4)), (4, .ref 225)]) (st' := [.int 1]) (H' := _) (kc' := 1) (ks' := 6) rfl ?_
          apply RP.done
          rfl; rfl; rfl; rfl
        refine seg_RP (f := 3000) (d := 1999) 7 (pc' := 1024) (lv' := [(5, .int 1), (4, .int 1), (3, .ref 225), (2, .ref 196), (1, .ref 1), (0, .ref 0)]) (st' := [.int (xs 2), .ref 196]) (H' := _) (kc' := kc + 1) (ks' := ks + 6) rfl ?_
        rw [h0]
        refine seg_RP (f := 3000) (d := 1999) 12 (pc' := 1044) (lv' := [(5, .int 1), (4, .int 1), (3, .ref 225), (2, .ref 196), (1, .ref 1), (0, .ref 0)]) (st' := [.int (xs 4), .int (xs 3), .int 0, .ref 196]) (H' := _) (kc' := kc + 1) (ks' := ks + 6) rfl ?_
        apply RP.call
        rfl; rfl; rfl; rfl; rfl; rfl; rfl
        ·
          refine seg_RP (f := 3000) (d := 1998) 4 (pc' := 6) (lv' := [(0, .ref 196), (1, .int 0), (2, .int (xs 3)), (3, .int (xs 4))]) (st' := [.int (xs 3)]) (H' := _) (kc' := 0) (ks' := 0) rfl ?_
          apply RP.brT
          rfl; rfl; rfl
          exact decide_eq_true (h1)
          refine seg_RP (f := 3000) (d := 1998) 3 (pc' := 18) (lv' := [(0, .ref 196), (1, .int 0), (2, .int (xs 3)), (3, .int (xs 4))]) (st' := [.int 0]) (H' := _) (kc' := 0) (ks' := 0) rfl ?_
          apply RP.done
          rfl; rfl; rfl; rfl
        refine seg_RP (f := 3000) (d := 1999) 13 (pc' := 37) (lv' := [(4, .int 7), (6, .int 0), (5, .int 1), (3, .ref 225), (2, .ref 196), (1, .ref 1), (0, .ref 0)]) (st' := [.int 7, .int 7]) (H' := _) (kc' := kc + 1) (ks' := ks + 6) rfl ?_
        refine seg_RP (f := 3000) (d := 1999) 4 (pc' := 1958) (lv' := [(4, .int 7), (6, .int 0), (5, .int 1), (3, .ref 225), (2, .ref 196), (1, .ref 1), (0, .ref 0)]) (st' := [.int 1]) (H' := _) (kc' := kc + 1) (ks' := ks + 6) rfl ?_
        apply RP.done
        rfl; rfl; rfl; rfl
      · omega
      · omega
    ·
      by_cases h2 : (xs 4) < 0
      ·
        apply GR.mk
        ·
          refine seg_RP (f := 3000) (d := 1999) 6 (pc' := 991) (lv' := [(4, .int 1), (3, .ref 225), (2, .ref 196), (1, .ref 1), (0, .ref 0)]) (st' := [.int (xs 2), .ref 1]) (H' := _) (kc' := kc) (ks' := ks) rfl ?_
          rw [h0]
          refine seg_RP (f := 3000) (d := 1999) 13 (pc' := 1012) (lv' := [(4, .int 1), (3, .ref 225), (2, .ref 196), (1, .ref 1), (0, .ref 0)]) (st' := [.ref 225, .int (xs 4), .int (xs 3), .int 0, .ref 1]) (H' := _) (kc' := kc) (ks' := ks) rfl ?_
          apply RP.call
          rfl; rfl; rfl; rfl; rfl; rfl; rfl
          ·
            refine seg_RP (f := 3000) (d := 1998) 6 (pc' := 7) (lv' := [(0, .ref 1), (1, .int 0), (2, .int (xs 3)), (3, .int (xs 4)), (4, .ref 225)]) (st' := [.int (xs 4), .int (xs 3), .int 0, .ref 1, .int 0, .ref 225]) (H' := _) (kc' := 0) (ks' := 0) rfl ?_
            apply RP.callX
            rfl; rfl; rfl; rfl; rfl; rfl; rfl
            ·
              refine seg_RP (f := 3000) (d := 1997) 4 (pc' := 6) (lv' := [(0, .ref 1), (1, .int 0), (2, .int (xs 3)), (3, .int (xs 4))]) (st' := [.int 2147483647, .int 0, .int (xs 3), .ref 1]) (H' := _) (kc' := 0) (ks' := 0) rfl ?_
              apply RP.call
              rfl; rfl; rfl; rfl; rfl; rfl; rfl
              ·
                refine seg_RP (f := 3000) (d := 1996) 2 (pc' := 2) (lv' := [(0, .ref 1), (1, .int (xs 3)), (2, .int 0), (3, .int 2147483647)]) (st' := [.int 0, .int (xs 3)]) (H' := _) (kc' := 0) (ks' := 0) rfl ?_
                apply RP.brF
                rfl; rfl; rfl
                exact decide_eq_false (h1)
                refine seg_RP (f := 3000) (d := 1996) 2 (pc' := 7) (lv' := [(0, .ref 1), (1, .int (xs 3)), (2, .int 0), (3, .int 2147483647)]) (st' := [.int 2147483647, .int (xs 3)]) (H' := _) (kc' := 0) (ks' := 0) rfl ?_
                apply RP.brT
                rfl; rfl; rfl
                exact decide_eq_true (Int32.not_lt.mp (i32_max))
                apply RP.done
                rfl; rfl; rfl; rfl
              refine seg_RP (f := 3000) (d := 1997) 4 (pc' := 15) (lv' := [(0, .ref 1), (1, .int 0), (2, .int (xs 3)), (3, .int (xs 4))]) (st' := [.int 2147483647, .int 0, .int (xs 4), .ref 1]) (H' := _) (kc' := 0) (ks' := 0) rfl ?_
              apply RP.callP
              rfl; rfl; rfl; rfl; rfl; rfl; rfl
              ·
                refine seg_RP (f := 3000) (d := 1996) 2 (pc' := 2) (lv' := [(0, .ref 1), (1, .int (xs 4)), (2, .int 0), (3, .int 2147483647)]) (st' := [.int 0, .int (xs 4)]) (H' := _) (kc' := 0) (ks' := 0) rfl ?_
                apply RP.brT
                rfl; rfl; rfl
                exact decide_eq_true (h2)
                apply RP.done
                rfl; rfl; rfl; rfl
              rfl
            rfl
            refine seg_RP (f := 3000) (d := 1998) 1 (pc' := 18) (lv' := [(0, .ref 1), (1, .int 0), (2, .int (xs 3)), (3, .int (xs 4)), (4, .ref 225)]) (st' := [.int 1]) (H' := _) (kc' := 1) (ks' := 6) rfl ?_
            apply RP.done
            rfl; rfl; rfl; rfl
          refine seg_RP (f := 3000) (d := 1999) 7 (pc' := 1024) (lv' := [(5, .int 1), (4, .int 1), (3, .ref 225), (2, .ref 196), (1, .ref 1), (0, .ref 0)]) (st' := [.int (xs 2), .ref 196]) (H' := _) (kc' := kc + 1) (ks' := ks + 6) rfl ?_
          rw [h0]
          refine seg_RP (f := 3000) (d := 1999) 12 (pc' := 1044) (lv' := [(5, .int 1), (4, .int 1), (3, .ref 225), (2, .ref 196), (1, .ref 1), (0, .ref 0)]) (st' := [.int (xs 4), .int (xs 3), .int 0, .ref 196]) (H' := _) (kc' := kc + 1) (ks' := ks + 6) rfl ?_
          apply RP.call
          rfl; rfl; rfl; rfl; rfl; rfl; rfl
          ·
            refine seg_RP (f := 3000) (d := 1998) 4 (pc' := 6) (lv' := [(0, .ref 196), (1, .int 0), (2, .int (xs 3)), (3, .int (xs 4))]) (st' := [.int (xs 3)]) (H' := _) (kc' := 0) (ks' := 0) rfl ?_
            apply RP.brF
            rfl; rfl; rfl
            exact decide_eq_false (h1)
            refine seg_RP (f := 3000) (d := 1998) 1 (pc' := 10) (lv' := [(0, .ref 196), (1, .int 0), (2, .int (xs 3)), (3, .int (xs 4))]) (st' := [.int (xs 4)]) (H' := _) (kc' := 0) (ks' := 0) rfl ?_
            apply RP.brF
            rfl; rfl; rfl
            exact decide_eq_false (Int32.not_le.mpr (h2))
            refine seg_RP (f := 3000) (d := 1998) 3 (pc' := 18) (lv' := [(0, .ref 196), (1, .int 0), (2, .int (xs 3)), (3, .int (xs 4))]) (st' := [.int 0]) (H' := _) (kc' := 0) (ks' := 0) rfl ?_
            apply RP.done
            rfl; rfl; rfl; rfl
          refine seg_RP (f := 3000) (d := 1999) 13 (pc' := 37) (lv' := [(4, .int 7), (6, .int 0), (5, .int 1), (3, .ref 225), (2, .ref 196), (1, .ref 1), (0, .ref 0)]) (st' := [.int 7, .int 7]) (H' := _) (kc' := kc + 1) (ks' := ks + 6) rfl ?_
          refine seg_RP (f := 3000) (d := 1999) 4 (pc' := 1958) (lv' := [(4, .int 7), (6, .int 0), (5, .int 1), (3, .ref 225), (2, .ref 196), (1, .ref 1), (0, .ref 0)]) (st' := [.int 1]) (H' := _) (kc' := kc + 1) (ks' := ks + 6) rfl ?_
          apply RP.done
          rfl; rfl; rfl; rfl
        · omega
        · omega
      ·
        apply GR.mk
        ·
          refine seg_RP (f := 3000) (d := 1999) 6 (pc' := 991) (lv' := [(4, .int 1), (3, .ref 225), (2, .ref 196), (1, .ref 1), (0, .ref 0)]) (st' := [.int (xs 2), .ref 1]) (H' := _) (kc' := kc) (ks' := ks) rfl ?_
          rw [h0]
          refine seg_RP (f := 3000) (d := 1999) 13 (pc' := 1012) (lv' := [(4, .int 1), (3, .ref 225), (2, .ref 196), (1, .ref 1), (0, .ref 0)]) (st' := [.ref 225, .int (xs 4), .int (xs 3), .int 0, .ref 1]) (H' := _) (kc' := kc) (ks' := ks) rfl ?_
          apply RP.call
          rfl; rfl; rfl; rfl; rfl; rfl; rfl
          ·
            refine seg_RP (f := 3000) (d := 1998) 6 (pc' := 7) (lv' := [(0, .ref 1), (1, .int 0), (2, .int (xs 3)), (3, .int (xs 4)), (4, .ref 225)]) (st' := [.int (xs 4), .int (xs 3), .int 0, .ref 1, .int 0, .ref 225]) (H' := _) (kc' := 0) (ks' := 0) rfl ?_
            apply RP.call
            rfl; rfl; rfl; rfl; rfl; rfl; rfl
            ·
              refine seg_RP (f := 3000) (d := 1997) 4 (pc' := 6) (lv' := [(0, .ref 1), (1, .int 0), (2, .int (xs 3)), (3, .int (xs 4))]) (st' := [.int 2147483647, .int 0, .int (xs 3), .ref 1]) (H' := _) (kc' := 0) (ks' := 0) rfl ?_
              apply RP.call
              rfl; rfl; rfl; rfl; rfl; rfl; rfl
              ·
                refine seg_RP (f := 3000) (d := 1996) 2 (pc' := 2) (lv' := [(0, .ref 1), (1, .int (xs 3)), (2, .int 0), (3, .int 2147483647)]) (st' := [.int 0, .int (xs 3)]) (H' := _) (kc' := 0) (ks' := 0) rfl ?_
                apply RP.brF
                rfl; rfl; rfl
                exact decide_eq_false (h1)
                refine seg_RP (f := 3000) (d := 1996) 2 (pc' := 7) (lv' := [(0, .ref 1), (1, .int (xs 3)), (2, .int 0), (3, .int 2147483647)]) (st' := [.int 2147483647, .int (xs 3)]) (H' := _) (kc' := 0) (ks' := 0) rfl ?_
                apply RP.brT
                rfl; rfl; rfl
                exact decide_eq_true (Int32.not_lt.mp (i32_max))
                apply RP.done
                rfl; rfl; rfl; rfl
              refine seg_RP (f := 3000) (d := 1997) 4 (pc' := 15) (lv' := [(0, .ref 1), (1, .int 0), (2, .int (xs 3)), (3, .int (xs 4))]) (st' := [.int 2147483647, .int 0, .int (xs 4), .ref 1]) (H' := _) (kc' := 0) (ks' := 0) rfl ?_
              apply RP.call
              rfl; rfl; rfl; rfl; rfl; rfl; rfl
              ·
                refine seg_RP (f := 3000) (d := 1996) 2 (pc' := 2) (lv' := [(0, .ref 1), (1, .int (xs 4)), (2, .int 0), (3, .int 2147483647)]) (st' := [.int 0, .int (xs 4)]) (H' := _) (kc' := 0) (ks' := 0) rfl ?_
                apply RP.brF
                rfl; rfl; rfl
                exact decide_eq_false (h2)
                refine seg_RP (f := 3000) (d := 1996) 2 (pc' := 7) (lv' := [(0, .ref 1), (1, .int (xs 4)), (2, .int 0), (3, .int 2147483647)]) (st' := [.int 2147483647, .int (xs 4)]) (H' := _) (kc' := 0) (ks' := 0) rfl ?_
                apply RP.brT
                rfl; rfl; rfl
                exact decide_eq_true (Int32.not_lt.mp (i32_max))
                apply RP.done
                rfl; rfl; rfl; rfl
              refine seg_RP (f := 3000) (d := 1997) 18 (pc' := 54) (lv' := [(4, .int 0), (0, .ref 1), (1, .int 0), (2, .int (xs 3)), (3, .int (xs 4))]) (st' := [.int 0]) (H' := _) (kc' := 0) (ks' := 0) rfl ?_
              apply RP.done
              rfl; rfl; rfl; rfl
            refine seg_RP (f := 3000) (d := 1998) 4 (pc' := 20) (lv' := [(0, .ref 1), (1, .int 0), (2, .int (xs 3)), (3, .int (xs 4)), (4, .ref 225)]) (st' := [.int 0]) (H' := _) (kc' := 0) (ks' := 0) rfl ?_
            apply RP.done
            rfl; rfl; rfl; rfl
          refine seg_RP (f := 3000) (d := 1999) 7 (pc' := 1024) (lv' := [(5, .int 0), (4, .int 1), (3, .ref 225), (2, .ref 196), (1, .ref 1), (0, .ref 0)]) (st' := [.int (xs 2), .ref 196]) (H' := _) (kc' := kc) (ks' := ks) rfl ?_
          rw [h0]
          refine seg_RP (f := 3000) (d := 1999) 12 (pc' := 1044) (lv' := [(5, .int 0), (4, .int 1), (3, .ref 225), (2, .ref 196), (1, .ref 1), (0, .ref 0)]) (st' := [.int (xs 4), .int (xs 3), .int 0, .ref 196]) (H' := _) (kc' := kc) (ks' := ks) rfl ?_
          apply RP.call
          rfl; rfl; rfl; rfl; rfl; rfl; rfl
          ·
            refine seg_RP (f := 3000) (d := 1998) 4 (pc' := 6) (lv' := [(0, .ref 196), (1, .int 0), (2, .int (xs 3)), (3, .int (xs 4))]) (st' := [.int (xs 3)]) (H' := _) (kc' := 0) (ks' := 0) rfl ?_
            apply RP.brF
            rfl; rfl; rfl
            exact decide_eq_false (h1)
            refine seg_RP (f := 3000) (d := 1998) 1 (pc' := 10) (lv' := [(0, .ref 196), (1, .int 0), (2, .int (xs 3)), (3, .int (xs 4))]) (st' := [.int (xs 4)]) (H' := _) (kc' := 0) (ks' := 0) rfl ?_
            apply RP.brT
            rfl; rfl; rfl
            exact decide_eq_true (Int32.not_lt.mp (h2))
            refine seg_RP (f := 3000) (d := 1998) 12 (pc' := 45) (lv' := [(4, .int 0), (0, .ref 196), (1, .int 0), (2, .int (xs 3)), (3, .int (xs 4))]) (st' := [.int 0]) (H' := _) (kc' := 0) (ks' := 0) rfl ?_
            apply RP.done
            rfl; rfl; rfl; rfl
          refine seg_RP (f := 3000) (d := 1999) 20 (pc' := 37) (lv' := [(4, .int 7), (6, .int 0), (5, .int 0), (3, .ref 225), (2, .ref 196), (1, .ref 1), (0, .ref 0)]) (st' := [.int 7, .int 7]) (H' := _) (kc' := kc) (ks' := ks) rfl ?_
          refine seg_RP (f := 3000) (d := 1999) 4 (pc' := 1958) (lv' := [(4, .int 7), (6, .int 0), (5, .int 0), (3, .ref 225), (2, .ref 196), (1, .ref 1), (0, .ref 0)]) (st' := [.int 1]) (H' := _) (kc' := kc) (ks' := ks) rfl ?_
          apply RP.done
          rfl; rfl; rfl; rfl
        · omega
        · omega
  ·
    by_cases h1 : (xs 3) < 0
    ·
      apply GR.mk
      ·
        refine seg_RP (f := 3000) (d := 1999) 6 (pc' := 991) (lv' := [(4, .int 1), (3, .ref 225), (2, .ref 196), (1, .ref 1), (0, .ref 0)]) (st' := [.int (xs 2), .ref 1]) (H' := _) (kc' := kc) (ks' := ks) rfl ?_
        apply RP.brF
        rfl; rfl; rfl
        exact decide_eq_false (h0)
        refine seg_RP (f := 3000) (d := 1999) 13 (pc' := 1012) (lv' := [(4, .int 1), (3, .ref 225), (2, .ref 196), (1, .ref 1), (0, .ref 0)]) (st' := [.ref 225, .int (xs 4), .int (xs 3), .int 1, .ref 1]) (H' := _) (kc' := kc) (ks' := ks) rfl ?_
        apply RP.call
        rfl; rfl; rfl; rfl; rfl; rfl; rfl
        ·
          refine seg_RP (f := 3000) (d := 1998) 6 (pc' := 7) (lv' := [(0, .ref 1), (1, .int 1), (2, .int (xs 3)), (3, .int (xs 4)), (4, .ref 225)]) (st' := [.int (xs 4), .int (xs 3), .int 1, .ref 1, .int 0, .ref 225]) (H' := _) (kc' := 0) (ks' := 0) rfl ?_
          apply RP.callX
          rfl; rfl; rfl; rfl; rfl; rfl; rfl
          ·
            refine seg_RP (f := 3000) (d := 1997) 4 (pc' := 6) (lv' := [(0, .ref 1), (1, .int 1), (2, .int (xs 3)), (3, .int (xs 4))]) (st' := [.int 2147483647, .int 0, .int (xs 3), .ref 1]) (H' := _) (kc' := 0) (ks' := 0) rfl ?_
            apply RP.callP
            rfl; rfl; rfl; rfl; rfl; rfl; rfl
            ·
              refine seg_RP (f := 3000) (d := 1996) 2 (pc' := 2) (lv' := [(0, .ref 1), (1, .int (xs 3)), (2, .int 0), (3, .int 2147483647)]) (st' := [.int 0, .int (xs 3)]) (H' := _) (kc' := 0) (ks' := 0) rfl ?_
              apply RP.brT
              rfl; rfl; rfl
              exact decide_eq_true (h1)
              apply RP.done
              rfl; rfl; rfl; rfl
            rfl
          rfl
          refine seg_RP (f := 3000) (d := 1998) 1 (pc' := 18) (lv' := [(0, .ref 1), (1, .int 1), (2, .int (xs 3)), (3, .int (xs 4)), (4, .ref 225)]) (st' := [.int 1]) (H' := _) (kc' := 1) (ks' := 6) rfl ?_
          apply RP.done
          rfl; rfl; rfl; rfl
        refine seg_RP (f := 3000) (d := 1999) 7 (pc' := 1024) (lv' := [(5, .int 1), (4, .int 1), (3, .ref 225), (2, .ref 196), (1, .ref 1), (0, .ref 0)]) (st' := [.int (xs 2), .ref 196]) (H' := _) (kc' := kc + 1) (ks' := ks + 6) rfl ?_
        apply RP.brF
        rfl; rfl; rfl
        exact decide_eq_false (h0)
        refine seg_RP (f := 3000) (d := 1999) 12 (pc' := 1044) (lv' := [(5, .int 1), (4, .int 1), (3, .ref 225), (2, .ref 196), (1, .ref 1), (0, .ref 0)]) (st' := [.int (xs 4), .int (xs 3), .int 1, .ref 196]) (H' := _) (kc' := kc + 1) (ks' := ks + 6) rfl ?_
        apply RP.call
        rfl; rfl; rfl; rfl; rfl; rfl; rfl
        ·
          refine seg_RP (f := 3000) (d := 1998) 4 (pc' := 6) (lv' := [(0, .ref 196), (1, .int 1), (2, .int (xs 3)), (3, .int (xs 4))]) (st' := [.int (xs 3)]) (H' := _) (kc' := 0) (ks' := 0) rfl ?_
          apply RP.brT
          rfl; rfl; rfl
          exact decide_eq_true (h1)
          refine seg_RP (f := 3000) (d := 1998) 3 (pc' := 18) (lv' := [(0, .ref 196), (1, .int 1), (2, .int (xs 3)), (3, .int (xs 4))]) (st' := [.int 0]) (H' := _) (kc' := 0) (ks' := 0) rfl ?_
          apply RP.done
          rfl; rfl; rfl; rfl
        refine seg_RP (f := 3000) (d := 1999) 13 (pc' := 37) (lv' := [(4, .int 7), (6, .int 0), (5, .int 1), (3, .ref 225), (2, .ref 196), (1, .ref 1), (0, .ref 0)]) (st' := [.int 7, .int 7]) (H' := _) (kc' := kc + 1) (ks' := ks + 6) rfl ?_
        refine seg_RP (f := 3000) (d := 1999) 4 (pc' := 1958) (lv' := [(4, .int 7), (6, .int 0), (5, .int 1), (3, .ref 225), (2, .ref 196), (1, .ref 1), (0, .ref 0)]) (st' := [.int 1]) (H' := _) (kc' := kc + 1) (ks' := ks + 6) rfl ?_
        apply RP.done
        rfl; rfl; rfl; rfl
      · omega
      · omega
    ·
      by_cases h2 : (xs 4) < 0
      ·
        apply GR.mk
        ·
          refine seg_RP (f := 3000) (d := 1999) 6 (pc' := 991) (lv' := [(4, .int 1), (3, .ref 225), (2, .ref 196), (1, .ref 1), (0, .ref 0)]) (st' := [.int (xs 2), .ref 1]) (H' := _) (kc' := kc) (ks' := ks) rfl ?_
          apply RP.brF
          rfl; rfl; rfl
          exact decide_eq_false (h0)
          refine seg_RP (f := 3000) (d := 1999) 13 (pc' := 1012) (lv' := [(4, .int 1), (3, .ref 225), (2, .ref 196), (1, .ref 1), (0, .ref 0)]) (st' := [.ref 225, .int (xs 4), .int (xs 3), .int 1, .ref 1]) (H' := _) (kc' := kc) (ks' := ks) rfl ?_
          apply RP.call
          rfl; rfl; rfl; rfl; rfl; rfl; rfl
          ·
            refine seg_RP (f := 3000) (d := 1998) 6 (pc' := 7) (lv' := [(0, .ref 1), (1, .int 1), (2, .int (xs 3)), (3, .int (xs 4)), (4, .ref 225)]) (st' := [.int (xs 4), .int (xs 3), .int 1, .ref 1, .int 0, .ref 225]) (H' := _) (kc' := 0) (ks' := 0) rfl ?_
            apply RP.callX
            rfl; rfl; rfl; rfl; rfl; rfl; rfl
            ·
              refine seg_RP (f := 3000) (d := 1997) 4 (pc' := 6) (lv' := [(0, .ref 1), (1, .int 1), (2, .int (xs 3)), (3, .int (xs 4))]) (st' := [.int 2147483647, .int 0, .int (xs 3), .ref 1]) (H' := _) (kc' := 0) (ks' := 0) rfl ?_
              apply RP.call
              rfl; rfl; rfl; rfl; rfl; rfl; rfl
              ·
                refine seg_RP (f := 3000) (d := 1996) 2 (pc' := 2) (lv' := [(0, .ref 1), (1, .int (xs 3)), (2, .int 0), (3, .int 2147483647)]) (st' := [.int 0, .int (xs 3)]) (H' := _) (kc' := 0) (ks' := 0) rfl ?_
                apply RP.brF
                rfl; rfl; rfl
                exact decide_eq_false (h1)
                refine seg_RP (f := 3000) (d := 1996) 2 (pc' := 7) (lv' := [(0, .ref 1), (1, .int (xs 3)), (2, .int 0), (3, .int 2147483647)]) (st' := [.int 2147483647, .int (xs 3)]) (H' := _) (kc' := 0) (ks' := 0) rfl ?_
                apply RP.brT
                rfl; rfl; rfl
                exact decide_eq_true (Int32.not_lt.mp (i32_max))
                apply RP.done
                rfl; rfl; rfl; rfl
              refine seg_RP (f := 3000) (d := 1997) 4 (pc' := 15) (lv' := [(0, .ref 1), (1, .int 1), (2, .int (xs 3)), (3, .int (xs 4))]) (st' := [.int 2147483647, .int 0, .int (xs 4), .ref 1]) (H' := _) (kc' := 0) (ks' := 0) rfl ?_
              apply RP.callP
              rfl; rfl; rfl; rfl; rfl; rfl; rfl
              ·
                refine seg_RP (f := 3000) (d := 1996) 2 (pc' := 2) (lv' := [(0, .ref 1), (1, .int (xs 4)), (2, .int 0), (3, .int 2147483647)]) (st' := [.int 0, .int (xs 4)]) (H' := _) (kc' := 0) (ks' := 0) rfl ?_
                apply RP.brT
                rfl; rfl; rfl
                exact decide_eq_true (h2)
                apply RP.done
                rfl; rfl; rfl; rfl
              rfl
            rfl
            refine seg_RP (f := 3000) (d := 1998) 1 (pc' := 18) (lv' := [(0, .ref 1), (1, .int 1), (2, .int (xs 3)), (3, .int (xs 4)), (4, .ref 225)]) (st' := [.int 1]) (H' := _) (kc' := 1) (ks' := 6) rfl ?_
            apply RP.done
            rfl; rfl; rfl; rfl
          refine seg_RP (f := 3000) (d := 1999) 7 (pc' := 1024) (lv' := [(5, .int 1), (4, .int 1), (3, .ref 225), (2, .ref 196), (1, .ref 1), (0, .ref 0)]) (st' := [.int (xs 2), .ref 196]) (H' := _) (kc' := kc + 1) (ks' := ks + 6) rfl ?_
          apply RP.brF
          rfl; rfl; rfl
          exact decide_eq_false (h0)
          refine seg_RP (f := 3000) (d := 1999) 12 (pc' := 1044) (lv' := [(5, .int 1), (4, .int 1), (3, .ref 225), (2, .ref 196), (1, .ref 1), (0, .ref 0)]) (st' := [.int (xs 4), .int (xs 3), .int 1, .ref 196]) (H' := _) (kc' := kc + 1) (ks' := ks + 6) rfl ?_
          apply RP.call
          rfl; rfl; rfl; rfl; rfl; rfl; rfl
          ·
            refine seg_RP (f := 3000) (d := 1998) 4 (pc' := 6) (lv' := [(0, .ref 196), (1, .int 1), (2, .int (xs 3)), (3, .int (xs 4))]) (st' := [.int (xs 3)]) (H' := _) (kc' := 0) (ks' := 0) rfl ?_
            apply RP.brF
            rfl; rfl; rfl
            exact decide_eq_false (h1)
            refine seg_RP (f := 3000) (d := 1998) 1 (pc' := 10) (lv' := [(0, .ref 196), (1, .int 1), (2, .int (xs 3)), (3, .int (xs 4))]) (st' := [.int (xs 4)]) (H' := _) (kc' := 0) (ks' := 0) rfl ?_
            apply RP.brF
            rfl; rfl; rfl
            exact decide_eq_false (Int32.not_le.mpr (h2))
            refine seg_RP (f := 3000) (d := 1998) 3 (pc' := 18) (lv' := [(0, .ref 196), (1, .int 1), (2, .int (xs 3)), (3, .int (xs 4))]) (st' := [.int 0]) (H' := _) (kc' := 0) (ks' := 0) rfl ?_
            apply RP.done
            rfl; rfl; rfl; rfl
          refine seg_RP (f := 3000) (d := 1999) 13 (pc' := 37) (lv' := [(4, .int 7), (6, .int 0), (5, .int 1), (3, .ref 225), (2, .ref 196), (1, .ref 1), (0, .ref 0)]) (st' := [.int 7, .int 7]) (H' := _) (kc' := kc + 1) (ks' := ks + 6) rfl ?_
          refine seg_RP (f := 3000) (d := 1999) 4 (pc' := 1958) (lv' := [(4, .int 7), (6, .int 0), (5, .int 1), (3, .ref 225), (2, .ref 196), (1, .ref 1), (0, .ref 0)]) (st' := [.int 1]) (H' := _) (kc' := kc + 1) (ks' := ks + 6) rfl ?_
          apply RP.done
          rfl; rfl; rfl; rfl
        · omega
        · omega
      ·
        apply GR.mk
        ·
          refine seg_RP (f := 3000) (d := 1999) 6 (pc' := 991) (lv' := [(4, .int 1), (3, .ref 225), (2, .ref 196), (1, .ref 1), (0, .ref 0)]) (st' := [.int (xs 2), .ref 1]) (H' := _) (kc' := kc) (ks' := ks) rfl ?_
          apply RP.brF
          rfl; rfl; rfl
          exact decide_eq_false (h0)
          refine seg_RP (f := 3000) (d := 1999) 13 (pc' := 1012) (lv' := [(4, .int 1), (3, .ref 225), (2, .ref 196), (1, .ref 1), (0, .ref 0)]) (st' := [.ref 225, .int (xs 4), .int (xs 3), .int 1, .ref 1]) (H' := _) (kc' := kc) (ks' := ks) rfl ?_
          apply RP.call
          rfl; rfl; rfl; rfl; rfl; rfl; rfl
          ·
            refine seg_RP (f := 3000) (d := 1998) 6 (pc' := 7) (lv' := [(0, .ref 1), (1, .int 1), (2, .int (xs 3)), (3, .int (xs 4)), (4, .ref 225)]) (st' := [.int (xs 4), .int (xs 3), .int 1, .ref 1, .int 0, .ref 225]) (H' := _) (kc' := 0) (ks' := 0) rfl ?_
            apply RP.call
            rfl; rfl; rfl; rfl; rfl; rfl; rfl
            ·
              refine seg_RP (f := 3000) (d := 1997) 4 (pc' := 6) (lv' := [(0, .ref 1), (1, .int 1), (2, .int (xs 3)), (3, .int (xs 4))]) (st' := [.int 2147483647, .int 0, .int (xs 3), .ref 1]) (H' := _) (kc' := 0) (ks' := 0) rfl ?_
              apply RP.call
              rfl; rfl; rfl; rfl; rfl; rfl; rfl
              ·
                refine seg_RP (f := 3000) (d := 1996) 2 (pc' := 2) (lv' := [(0, .ref 1), (1, .int (xs 3)), (2, .int 0), (3, .int 2147483647)]) (st' := [.int 0, .int (xs 3)]) (H' := _) (kc' := 0) (ks' := 0) rfl ?_
                apply RP.brF
                rfl; rfl; rfl
                exact decide_eq_false (h1)
                refine seg_RP (f := 3000) (d := 1996) 2 (pc' := 7) (lv' := [(0, .ref 1), (1, .int (xs 3)), (2, .int 0), (3, .int 2147483647)]) (st' := [.int 2147483647, .int (xs 3)]) (H' := _) (kc' := 0) (ks' := 0) rfl ?_
                apply RP.brT
                rfl; rfl; rfl
                exact decide_eq_true (Int32.not_lt.mp (i32_max))
                apply RP.done
                rfl; rfl; rfl; rfl
              refine seg_RP (f := 3000) (d := 1997) 4 (pc' := 15) (lv' := [(0, .ref 1), (1, .int 1), (2, .int (xs 3)), (3, .int (xs 4))]) (st' := [.int 2147483647, .int 0, .int (xs 4), .ref 1]) (H' := _) (kc' := 0) (ks' := 0) rfl ?_
              apply RP.call
              rfl; rfl; rfl; rfl; rfl; rfl; rfl
              ·
                refine seg_RP (f := 3000) (d := 1996) 2 (pc' := 2) (lv' := [(0, .ref 1), (1, .int (xs 4)), (2, .int 0), (3, .int 2147483647)]) (st' := [.int 0, .int (xs 4)]) (H' := _) (kc' := 0) (ks' := 0) rfl ?_
                apply RP.brF
                rfl; rfl; rfl
                exact decide_eq_false (h2)
                refine seg_RP (f := 3000) (d := 1996) 2 (pc' := 7) (lv' := [(0, .ref 1), (1, .int (xs 4)), (2, .int 0), (3, .int 2147483647)]) (st' := [.int 2147483647, .int (xs 4)]) (H' := _) (kc' := 0) (ks' := 0) rfl ?_
                apply RP.brT
                rfl; rfl; rfl
                exact decide_eq_true (Int32.not_lt.mp (i32_max))
                apply RP.done
                rfl; rfl; rfl; rfl
              refine seg_RP (f := 3000) (d := 1997) 18 (pc' := 54) (lv' := [(4, .int 0), (0, .ref 1), (1, .int 1), (2, .int (xs 3)), (3, .int (xs 4))]) (st' := [.int 0]) (H' := _) (kc' := 0) (ks' := 0) rfl ?_
              apply RP.done
              rfl; rfl; rfl; rfl
            refine seg_RP (f := 3000) (d := 1998) 4 (pc' := 20) (lv' := [(0, .ref 1), (1, .int 1), (2, .int (xs 3)), (3, .int (xs 4)), (4, .ref 225)]) (st' := [.int 0]) (H' := _) (kc' := 0) (ks' := 0) rfl ?_
            apply RP.done
            rfl; rfl; rfl; rfl
          refine seg_RP (f := 3000) (d := 1999) 7 (pc' := 1024) (lv' := [(5, .int 0), (4, .int 1), (3, .ref 225), (2, .ref 196), (1, .ref 1), (0, .ref 0)]) (st' := [.int (xs 2), .ref 196]) (H' := _) (kc' := kc) (ks' := ks) rfl ?_
          apply RP.brF
          rfl; rfl; rfl
          exact decide_eq_false (h0)
          refine seg_RP (f := 3000) (d := 1999) 12 (pc' := 1044) (lv' := [(5, .int 0), (4, .int 1), (3, .ref 225), (2, .ref 196), (1, .ref 1), (0, .ref 0)]) (st' := [.int (xs 4), .int (xs 3), .int 1, .ref 196]) (H' := _) (kc' := kc) (ks' := ks) rfl ?_
          apply RP.call
          rfl; rfl; rfl; rfl; rfl; rfl; rfl
          ·
            refine seg_RP (f := 3000) (d := 1998) 4 (pc' := 6) (lv' := [(0, .ref 196), (1, .int 1), (2, .int (xs 3)), (3, .int (xs 4))]) (st' := [.int (xs 3)]) (H' := _) (kc' := 0) (ks' := 0) rfl ?_
            apply RP.brF
            rfl; rfl; rfl
            exact decide_eq_false (h1)
            refine seg_RP (f := 3000) (d := 1998) 1 (pc' := 10) (lv' := [(0, .ref 196), (1, .int 1), (2, .int (xs 3)), (3, .int (xs 4))]) (st' := [.int (xs 4)]) (H' := _) (kc' := 0) (ks' := 0) rfl ?_
            apply RP.brT
            rfl; rfl; rfl
            exact decide_eq_true (Int32.not_lt.mp (h2))
            refine seg_RP (f := 3000) (d := 1998) 12 (pc' := 45) (lv' := [(4, .int 0), (0, .ref 196), (1, .int 1), (2, .int (xs 3)), (3, .int (xs 4))]) (st' := [.int 0]) (H' := _) (kc' := 0) (ks' := 0) rfl ?_
            apply RP.done
            rfl; rfl; rfl; rfl
          refine seg_RP (f := 3000) (d := 1999) 20 (pc' := 37) (lv' := [(4, .int 7), (6, .int 0), (5, .int 0), (3, .ref 225), (2, .ref 196), (1, .ref 1), (0, .ref 0)]) (st' := [.int 7, .int 7]) (H' := _) (kc' := kc) (ks' := ks) rfl ?_
          refine seg_RP (f := 3000) (d := 1999) 4 (pc' := 1958) (lv' := [(4, .int 7), (6, .int 0), (5, .int 0), (3, .ref 225), (2, .ref 196), (1, .ref 1), (0, .ref 0)]) (st' := [.int 1]) (H' := _) (kc' := kc) (ks' := ks) rfl ?_
          apply RP.done
          rfl; rfl; rfl; rfl
        · omega
        · omega
set_option maxRecDepth 100000 in
set_option maxHeartbeats 4000000 in
theorem first_15 {xs : Nat → Int32} {kc ks : Nat} {v0 : Int32} {c1 : aC} {c2 : aC} {v3 : Int32} {c4 : aC} {c5 : aC} {c6 : aC} {c7 : aC} {c8 : aC} {c9 : aC} {c10 : aC} {c11 : aC} {v12 : Int32} {c13 : aC} {c14 : aC} {c15 : aC} {c16 : aC} {v17 : Int32} : GR xs 1124 (hpV v0 c1 c2 v3 c4 c5 c6 c7 c8 c9 c10 c11 v12 c13 c14 c15 c16 v17) kc ks := by
  by_cases h0 : (xs 2) < 0
  ·
    apply GR.mk
    ·
      refine seg_RP (f := 3000) (d := 1999) 7 (pc' := 1132) (lv' := [(4, .int 1), (3, .ref 225), (2, .ref 196), (1, .ref 1), (0, .ref 0)]) (st' := [.ref 225, .int (xs 2), .ref 1]) (H' := _) (kc' := kc) (ks' := ks) rfl ?_
      apply RP.call
      rfl; rfl; rfl; rfl; rfl; rfl; rfl
      ·
        refine seg_RP (f := 3000) (d := 1998) 4 (pc' := 4) (lv' := [(0, .ref 1), (1, .int (xs 2)), (2, .ref 225)]) (st' := [.int (xs 2), .ref 1, .int 0, .ref 225]) (H' := _) (kc' := 0) (ks' := 0) rfl ?_
        apply RP.callX
        rfl; rfl; rfl; rfl; rfl; rfl; rfl
        ·
          refine seg_RP (f := 3000) (d := 1997) 3 (pc' := 5) (lv' := [(0, .ref 1), (1, .int (xs 2))]) (st' := [.int (xs 2)]) (H' := _) (kc' := 0) (ks' := 0) rfl ?_
          apply RP.brT
          rfl; rfl; rfl
          exact decide_eq_true (h0)
          apply RP.done
          rfl; rfl; rfl; rfl
        rfl
        refine seg_RP (f := 3000) (d := 1998) 1 (pc' := 16) (lv' := [(0, .ref 1), (1, .int (xs 2)), (2, .ref 225)]) (st' := [.int 2]) (H' := _) (kc' := 1) (ks' := 6) rfl ?_
        apply RP.done
        rfl; rfl; rfl; rfl
      refine seg_RP (f := 3000) (d := 1999) 7 (pc' := 1144) (lv' := [(5, .int 2), (4, .int 1), (3, .ref 225), (2, .ref 196), (1, .ref 1), (0, .ref 0)]) (st' := [.int (xs 2), .ref 196]) (H' := _) (kc' := kc + 1) (ks' := ks + 6) rfl ?_
      apply RP.call
      rfl; rfl; rfl; rfl; rfl; rfl; rfl
      ·
        refine seg_RP (f := 3000) (d := 1998) 10 (pc' := 25) (lv' := [(0, .ref 196), (1, .int (xs 2))]) (st' := [.int 0, .int (xs 2), .ref 196]) (H' := _) (kc' := 0) (ks' := 0) rfl ?_
        apply RP.call
        rfl; rfl; rfl; rfl; rfl; rfl; rfl
        ·
          refine seg_RP (f := 3000) (d := 1997) 1 (pc' := 1) (lv' := [(0, .ref 196), (1, .int (xs 2)), (2, .int 0)]) (st' := [.int (xs 2)]) (H' := _) (kc' := 0) (ks' := 0) rfl ?_
          apply RP.brT
          rfl; rfl; rfl
          exact decide_eq_true (h0)
          refine seg_RP (f := 3000) (d := 1997) 2 (pc' := 14) (lv' := [(0, .ref 196), (1, .int (xs 2)), (2, .int 0)]) (st' := [.int 1]) (H' := _) (kc' := 0) (ks' := 0) rfl ?_
          apply RP.done
          rfl; rfl; rfl; rfl
        refine seg_RP (f := 3000) (d := 1998) 5 (pc' := 37) (lv' := [(0, .ref 196), (1, .int (xs 2))]) (st' := [.long 0]) (H' := _) (kc' := 0) (ks' := 0) rfl ?_
        apply RP.done
        rfl; rfl; rfl; rfl
      refine seg_RP (f := 3000) (d := 1999) 13 (pc' := 37) (lv' := [(4, .int 7), (6, .long 0), (5, .int 2), (3, .ref 225), (2, .ref 196), (1, .ref 1), (0, .ref 0)]) (st' := [.int 7, .int 7]) (H' := _) (kc' := kc + 1) (ks' := ks + 6) rfl ?_
      refine seg_RP (f := 3000) (d := 1999) 4 (pc' := 1958) (lv' := [(4, .int 7), (6, .long 0), (5, .int 2), (3, .ref 225), (2, .ref 196), (1, .ref 1), (0, .ref 0)]) (st' := [.int 1]) (H' := _) (kc' := kc + 1) (ks' := ks + 6) rfl ?_
      apply RP.done
      rfl; rfl; rfl; rfl
    · omega
    · omega
  ·
    apply GR.mk
    ·
      refine seg_RP (f := 3000) (d := 1999) 7 (pc' := 1132) (lv' := [(4, .int 1), (3, .ref 225), (2, .ref 196), (1, .ref 1), (0, .ref 0)]) (st' := [.ref 225, .int (xs 2), .ref 1]) (H' := _) (kc' := kc) (ks' := ks) rfl ?_
      apply RP.call
      rfl; rfl; rfl; rfl; rfl; rfl; rfl
      ·
        refine seg_RP (f := 3000) (d := 1998) 4 (pc' := 4) (lv' := [(0, .ref 1), (1, .int (xs 2)), (2, .ref 225)]) (st' := [.int (xs 2), .ref 1, .int 0, .ref 225]) (H' := _) (kc' := 0) (ks' := 0) rfl ?_
        apply RP.callX
        rfl; rfl; rfl; rfl; rfl; rfl; rfl
        ·
          refine seg_RP (f := 3000) (d := 1997) 3 (pc' := 5) (lv' := [(0, .ref 1), (1, .int (xs 2))]) (st' := [.int (xs 2)]) (H' := _) (kc' := 0) (ks' := 0) rfl ?_
          apply RP.brF
          rfl; rfl; rfl
          exact decide_eq_false (h0)
          refine seg_RP (f := 3000) (d := 1997) 4 (pc' := 16) (lv' := [(0, .ref 1), (1, .int (xs 2))]) (st' := [.int 0, .int (xs 2)]) (H' := _) (kc' := 0) (ks' := 0) rfl ?_
          apply RP.brF
          rfl; rfl; rfl
          exact decide_eq_false (h0)
          apply RP.done
          rfl; rfl; rfl; rfl
        rfl
        refine seg_RP (f := 3000) (d := 1998) 1 (pc' := 16) (lv' := [(0, .ref 1), (1, .int (xs 2)), (2, .ref 225)]) (st' := [.int 2]) (H' := _) (kc' := 1) (ks' := 6) rfl ?_
        apply RP.done
        rfl; rfl; rfl; rfl
      refine seg_RP (f := 3000) (d := 1999) 7 (pc' := 1144) (lv' := [(5, .int 2), (4, .int 1), (3, .ref 225), (2, .ref 196), (1, .ref 1), (0, .ref 0)]) (st' := [.int (xs 2), .ref 196]) (H' := _) (kc' := kc + 1) (ks' := ks + 6) rfl ?_
      apply RP.call
      rfl; rfl; rfl; rfl; rfl; rfl; rfl
      ·
        refine seg_RP (f := 3000) (d := 1998) 10 (pc' := 25) (lv' := [(0, .ref 196), (1, .int (xs 2))]) (st' := [.int 0, .int (xs 2), .ref 196]) (H' := _) (kc' := 0) (ks' := 0) rfl ?_
        apply RP.call
        rfl; rfl; rfl; rfl; rfl; rfl; rfl
        ·
          refine seg_RP (f := 3000) (d := 1997) 1 (pc' := 1) (lv' := [(0, .ref 196), (1, .int (xs 2)), (2, .int 0)]) (st' := [.int (xs 2)]) (H' := _) (kc' := 0) (ks' := 0) rfl ?_
          apply RP.brF
          rfl; rfl; rfl
          exact decide_eq_false (h0)
          refine seg_RP (f := 3000) (d := 1997) 2 (pc' := 6) (lv' := [(0, .ref 196), (1, .int (xs 2)), (2, .int 0)]) (st' := [.int 0, .int (xs 2)]) (H' := _) (kc' := 0) (ks' := 0) rfl ?_
          apply RP.brF
          rfl; rfl; rfl
          exact decide_eq_false (h0)
          refine seg_RP (f := 3000) (d := 1997) 2 (pc' := 14) (lv' := [(0, .ref 196), (1, .int (xs 2)), (2, .int 0)]) (st' := [.int 1]) (H' := _) (kc' := 0) (ks' := 0) rfl ?_
          apply RP.done
          rfl; rfl; rfl; rfl
        refine seg_RP (f := 3000) (d := 1998) 5 (pc' := 37) (lv' := [(0, .ref 196), (1, .int (xs 2))]) (st' := [.long 0]) (H' := _) (kc' := 0) (ks' := 0) rfl ?_
        apply RP.done
        rfl; rfl; rfl; rfl
      refine seg_RP (f := 3000) (d := 1999) 13 (pc' := 37) (lv' := [(4, .int 7), (6, .long 0), (5, .int 2), (3, .ref 225), (2, .ref 196), (1, .ref 1), (0, .ref 0)]) (st' := [.int 7, .int 7]) (H' := _) (kc' := kc + 1) (ks' := ks + 6) rfl ?_
      refine seg_RP (f := 3000) (d := 1999) 4 (pc' := 1958) (lv' := [(4, .int 7), (6, .long 0), (5, .int 2), (3, .ref 225), (2, .ref 196), (1, .ref 1), (0, .ref 0)]) (st' := [.int 1]) (H' := _) (kc' := kc + 1) (ks' := ks + 6) rfl ?_
      apply RP.done
      rfl; rfl; rfl; rfl
    · omega
    · omega
set_option maxRecDepth 100000 in
set_option maxHeartbeats 4000000 in
theorem first_17 {xs : Nat → Int32} {kc ks : Nat} {v0 : Int32} {c1 : aC} {c2 : aC} {v3 : Int32} {c4 : aC} {c5 : aC} {c6 : aC} {c7 : aC} {c8 : aC} {c9 : aC} {c10 : aC} {c11 : aC} {v12 : Int32} {c13 : aC} {c14 : aC} {c15 : aC} {c16 : aC} {v17 : Int32} : GR xs 1235 (hpV v0 c1 c2 v3 c4 c5 c6 c7 c8 c9 c10 c11 v12 c13 c14 c15 c16 v17) kc ks := by
  by_cases h0 : (xs 2) < 0
  ·
    apply GR.mk
    ·
      refine seg_RP (f := 3000) (d := 1999) 7 (pc' := 1243) (lv' := [(4, .int 1), (3, .ref 225), (2, .ref 196), (1, .ref 1), (0, .ref 0)]) (st' := [.ref 225, .int (xs 2), .ref 1]) (H' := _) (kc' := kc) (ks' := ks) rfl ?_
      apply RP.call
      rfl; rfl; rfl; rfl; rfl; rfl; rfl
      ·
        refine seg_RP (f := 3000) (d := 1998) 4 (pc' := 4) (lv' := [(0, .ref 1), (1, .int (xs 2)), (2, .ref 225)]) (st' := [.int (xs 2), .ref 1, .int 0, .ref 225]) (H' := _) (kc' := 0) (ks' := 0) rfl ?_
        apply RP.callX
        rfl; rfl; rfl; rfl; rfl; rfl; rfl
        ·
          refine seg_RP (f := 3000) (d := 1997) 4 (pc' := 4) (lv' := [(0, .ref 1), (1, .int (xs 2))]) (st' := [.int 5, .int 0, .int (xs 2), .ref 1]) (H' := _) (kc' := 0) (ks' := 0) rfl ?_
          apply RP.callP
          rfl; rfl; rfl; rfl; rfl; rfl; rfl
          ·
            refine seg_RP (f := 3000) (d := 1996) 2 (pc' := 2) (lv' := [(0, .ref 1), (1, .int (xs 2)), (2, .int 0), (3, .int 5)]) (st' := [.int 0, .int (xs 2)]) (H' := _) (kc' := 0) (ks' := 0) rfl ?_
            apply RP.brT
            rfl; rfl; rfl
            exact decide_eq_true (h0)
            apply RP.done
            rfl; rfl; rfl; rfl
          rfl
        rfl
        refine seg_RP (f := 3000) (d := 1998) 1 (pc' := 14) (lv' := [(0, .ref 1), (1, .int (xs 2)), (2, .ref 225)]) (st' := [.int 1]) (H' := _) (kc' := 1) (ks' := 6) rfl ?_
        apply RP.done
        rfl; rfl; rfl; rfl
      refine seg_RP (f := 3000) (d := 1999) 7 (pc' := 1255) (lv' := [(5, .int 1), (4, .int 1), (3, .ref 225), (2, .ref 196), (1, .ref 1), (0, .ref 0)]) (st' := [.int (xs 2), .ref 196]) (H' := _) (kc' := kc + 1) (ks' := ks + 6) rfl ?_
      apply RP.call
      rfl; rfl; rfl; rfl; rfl; rfl; rfl
      ·
        refine seg_RP (f := 3000) (d := 1998) 6 (pc' := 9) (lv' := [(0, .ref 196), (1, .int (xs 2))]) (st' := [.int 6, .int (xs 2), .ref 196]) (H' := _) (kc' := 0) (ks' := 0) rfl ?_
        apply RP.call
        rfl; rfl; rfl; rfl; rfl; rfl; rfl
        ·
          refine seg_RP (f := 3000) (d := 1997) 1 (pc' := 1) (lv' := [(0, .ref 196), (1, .int (xs 2)), (2, .int 6)]) (st' := [.int (xs 2)]) (H' := _) (kc' := 0) (ks' := 0) rfl ?_
          apply RP.brT
          rfl; rfl; rfl
          exact decide_eq_true (h0)
          refine seg_RP (f := 3000) (d := 1997) 2 (pc' := 14) (lv' := [(0, .ref 196), (1, .int (xs 2)), (2, .int 6)]) (st' := [.int 1]) (H' := _) (kc' := 0) (ks' := 0) rfl ?_
          apply RP.done
          rfl; rfl; rfl; rfl
        refine seg_RP (f := 3000) (d := 1998) 5 (pc' := 24) (lv' := [(0, .ref 196), (1, .int (xs 2))]) (st' := [.int 0]) (H' := _) (kc' := 0) (ks' := 0) rfl ?_
        apply RP.done
        rfl; rfl; rfl; rfl
      refine seg_RP (f := 3000) (d := 1999) 13 (pc' := 37) (lv' := [(4, .int 7), (6, .int 0), (5, .int 1), (3, .ref 225), (2, .ref 196), (1, .ref 1), (0, .ref 0)]) (st' := [.int 7, .int 7]) (H' := _) (kc' := kc + 1) (ks' := ks + 6) rfl ?_
      refine seg_RP (f := 3000) (d := 1999) 4 (pc' := 1958) (lv' := [(4, .int 7), (6, .int 0), (5, .int 1), (3, .ref 225), (2, .ref 196), (1, .ref 1), (0, .ref 0)]) (st' := [.int 1]) (H' := _) (kc' := kc + 1) (ks' := ks + 6) rfl ?_
      apply RP.done
      rfl; rfl; rfl; rfl
    · omega
    · omega
  ·
    by_cases h1 : (5 : Int32) < (xs 2)
    ·
      apply GR.mk
      ·
        refine seg_RP (f := 3000) (d := 1999) 7 (pc' := 1243) (lv' := [(4, .int 1), (3, .ref 225), (2, .ref 196), (1, .ref 1), (0, .ref 0)]) (st' := [.ref 225, .int (xs 2), .ref 1]) (H' := _) (kc' := kc) (ks' := ks) rfl ?_
        apply RP.call
        rfl; rfl; rfl; rfl; rfl; rfl; rfl
        ·
          refine seg_RP (f := 3000) (d := 1998) 4 (pc' := 4) (lv' := [(0, .ref 1), (1, .int (xs 2)), (2, .ref 225)]) (st' := [.int (xs 2), .ref 1, .int 0, .ref 225]) (H' := _) (kc' := 0) (ks' := 0) rfl ?_
          apply RP.callX
          rfl; rfl; rfl; rfl; rfl; rfl; rfl
          ·
            refine seg_RP (f := 3000) (d := 1997) 4 (pc' := 4) (lv' := [(0, .ref 1), (1, .int (xs 2))]) (st' := [.int 5, .int 0, .int (xs 2), .ref 1]) (H' := _) (kc' := 0) (ks' := 0) rfl ?_
            apply RP.callP
            rfl; rfl; rfl; rfl; rfl; rfl; rfl
            ·
              refine seg_RP (f := 3000) (d := 1996) 2 (pc' := 2) (lv' := [(0, .ref 1), (1, .int (xs 2)), (2, .int 0), (3, .int 5)]) (st' := [.int 0, .int (xs 2)]) (H' := _) (kc' := 0) (ks' := 0) rfl ?_
              apply RP.brF
              rfl; rfl; rfl
              exact decide_eq_false (h0)
              refine seg_RP (f := 3000) (d := 1996) 2 (pc' := 7) (lv' := [(0, .ref 1), (1, .int (xs 2)), (2, .int 0), (3, .int 5)]) (st' := [.int 5, .int (xs 2)]) (H' := _) (kc' := 0) (ks' := 0) rfl ?_
              apply RP.brF
              rfl; rfl; rfl
              exact decide_eq_false (Int32.not_le.mpr (h1))
              apply RP.done
              rfl; rfl; rfl; rfl
            rfl
          rfl
          refine seg_RP (f := 3000) (d := 1998) 1 (pc' := 14) (lv' := [(0, .ref 1), (1, .int (xs 2)), (2, .ref 225)]) (st' := [.int 1]) (H' := _) (kc' := 1) (ks' := 6) rfl ?_
          apply RP.done
          rfl; rfl; rfl; rfl
        refine seg_RP (f := 3000) (d := 1999) 7 (pc' := 1255) (lv' := [(5, .int 1), (4, .int 1), (3, .ref 225), (2, .ref 196), (1, .ref 1), (0, .ref 0)]) (st' := [.int (xs 2), .ref 196]) (H' := _) (kc' := kc + 1) (ks' := ks + 6) rfl ?_
        apply RP.call
        rfl; rfl; rfl; rfl; rfl; rfl; rfl
        ·
          refine seg_RP (f := 3000) (d := 1998) 6 (pc' := 9) (lv' := [(0, .ref 196), (1, .int (xs 2))]) (st' := [.int 6, .int (xs 2), .ref 196]) (H' := _) (kc' := 0) (ks' := 0) rfl ?_
          apply RP.call
          rfl; rfl; rfl; rfl; rfl; rfl; rfl
          ·
            refine seg_RP (f := 3000) (d := 1997) 1 (pc' := 1) (lv' := [(0, .ref 196), (1, .int (xs 2)), (2, .int 6)]) (st' := [.int (xs 2)]) (H' := _) (kc' := 0) (ks' := 0) rfl ?_
            apply RP.brF
            rfl; rfl; rfl
            exact decide_eq_false (h0)
            refine seg_RP (f := 3000) (d := 1997) 2 (pc' := 6) (lv' := [(0, .ref 196), (1, .int (xs 2)), (2, .int 6)]) (st' := [.int 6, .int (xs 2)]) (H' := _) (kc' := 0) (ks' := 0) rfl ?_
            apply RP.brF
            rfl; rfl; rfl
            exact decide_eq_false (i32_gap (h1) (show (6 : Int32) ≤ 5 + 1 by decide) (by decide))
            refine seg_RP (f := 3000) (d := 1997) 2 (pc' := 14) (lv' := [(0, .ref 196), (1, .int (xs 2)), (2, .int 6)]) (st' := [.int 1]) (H' := _) (kc' := 0) (ks' := 0) rfl ?_
            apply RP.done
            rfl; rfl; rfl; rfl
          refine seg_RP (f := 3000) (d := 1998) 5 (pc' := 24) (lv' := [(0, .ref 196), (1, .int (xs 2))]) (st' := [.int 0]) (H' := _) (kc' := 0) (ks' := 0) rfl ?_
          apply RP.done
          rfl; rfl; rfl; rfl
        refine seg_RP (f := 3000) (d := 1999) 13 (pc' := 37) (lv' := [(4, .int 7), (6, .int 0), (5, .int 1), (3, .ref 225), (2, .ref 196), (1, .ref 1), (0, .ref 0)]) (st' := [.int 7, .int 7]) (H' := _) (kc' := kc + 1) (ks' := ks + 6) rfl ?_
        refine seg_RP (f := 3000) (d := 1999) 4 (pc' := 1958) (lv' := [(4, .int 7), (6, .int 0), (5, .int 1), (3, .ref 225), (2, .ref 196), (1, .ref 1), (0, .ref 0)]) (st' := [.int 1]) (H' := _) (kc' := kc + 1) (ks' := ks + 6) rfl ?_
        apply RP.done
        rfl; rfl; rfl; rfl
      · omega
      · omega
    ·
      by_cases h2 : (xs 2) = 0
      ·
        apply GR.mk
        ·
          refine seg_RP (f := 3000) (d := 1999) 6 (pc' := 1242) (lv' := [(4, .int 1), (3, .ref 225), (2, .ref 196), (1, .ref 1), (0, .ref 0)]) (st' := [.int (xs 2), .ref 1]) (H' := _) (kc' := kc) (ks' := ks) rfl ?_
          rw [h2]
          refine seg_RP (f := 3000) (d := 1999) 9 (pc' := 1255) (lv' := [(5, .int 0), (4, .int 1), (3, .ref 225), (2, .ref 196), (1, .ref 1), (0, .ref 0)]) (st' := [.int (xs 2), .ref 196]) (H' := _) (kc' := kc) (ks' := ks) rfl ?_
          rw [h2]
          refine seg_RP (f := 3000) (d := 1999) 21 (pc' := 37) (lv' := [(4, .int 7), (6, .int 0), (5, .int 0), (3, .ref 225), (2, .ref 196), (1, .ref 1), (0, .ref 0)]) (st' := [.int 7, .int 7]) (H' := _) (kc' := kc) (ks' := ks) rfl ?_
          refine seg_RP (f := 3000) (d := 1999) 4 (pc' := 1958) (lv' := [(4, .int 7), (6, .int 0), (5, .int 0), (3, .ref 225), (2, .ref 196), (1, .ref 1), (0, .ref 0)]) (st' := [.int 1]) (H' := _) (kc' := kc) (ks' := ks) rfl ?_
          apply RP.done
          rfl; rfl; rfl; rfl
        · omega
        · omega
      ·
        by_cases h3 : (xs 2) = 1
        ·
          apply GR.mk
          ·
            refine seg_RP (f := 3000) (d := 1999) 6 (pc' := 1242) (lv' := [(4, .int 1), (3, .ref 225), (2, .ref 196), (1, .ref 1), (0, .ref 0)]) (st' := [.int (xs 2), .ref 1]) (H' := _) (kc' := kc) (ks' := ks) rfl ?_
            rw [h3]
            refine seg_RP (f := 3000) (d := 1999) 9 (pc' := 1255) (lv' := [(5, .int 0), (4, .int 1), (3, .ref 225), (2, .ref 196), (1, .ref 1), (0, .ref 0)]) (st' := [.int (xs 2), .ref 196]) (H' := _) (kc' := kc) (ks' := ks) rfl ?_
            rw [h3]
            refine seg_RP (f := 3000) (d := 1999) 21 (pc' := 37) (lv' := [(4, .int 7), (6, .int 0), (5, .int 0), (3, .ref 225), (2, .ref 196), (1, .ref 1), (0, .ref 0)]) (st' := [.int 7, .int 7]) (H' := _) (kc' := kc) (ks' := ks) rfl ?_
            refine seg_RP (f := 3000) (d := 1999) 4 (pc' := 1958) (lv' := [(4, .int 7), (6, .int 0), (5, .int 0), (3, .ref 225), (2, .ref 196), (1, .ref 1), (0, .ref 0)]) (st' := [.int 1]) (H' := _) (kc' := kc) (ks' := ks) rfl ?_
            apply RP.done
            rfl; rfl; rfl; rfl
          · omega
          · omega
        ·
          by_cases h4 : (xs 2) = 2
          ·
            apply GR.mk
            ·
              refine seg_RP (f := 3000) (d := 1999) 6 (pc' := 1242) (lv' := [(4, .int 1), (3, .ref 225), (2, .ref 196), (1, .ref 1), (0, .ref 0)]) (st' := [.int (xs 2), .ref 1]) (H' := _) (kc' := kc) (ks' := ks) rfl ?_
              rw [h4]
              refine seg_RP (f := 3000) (d := 1999) 9 (pc' := 1255) (lv' := [(5, .int 0), (4, .int 1), (3, .ref 225), (2, .ref 196), (1, .ref 1), (0, .ref 0)]) (st' := [.int (xs 2), .ref 196]) (H' := _) (kc' := kc) (ks' := ks) rfl ?_
              rw [h4]
              refine seg_RP (f := 3000) (d := 1999) 21 (pc' := 37) (lv' := [(4, .int 7), (6, .int 0), (5, .int 0), (3, .ref 225), (2, .ref 196), (1, .ref 1), (0, .ref 0)]) (st' := [.int 7, .int 7]) (H' := _) (kc' := kc) (ks' := ks) rfl ?_
              refine seg_RP (f := 3000) (d := 1999) 4 (pc' := 1958) (lv' := [(4, .int 7), (6, .int 0), (5, .int 0), (3, .ref 225), (2, .ref 196), (1, .ref 1), (0, .ref 0)]) (st' := [.int 1]) (H' := _) (kc' := kc) (ks' := ks) rfl ?_
              apply RP.done
              rfl; rfl; rfl; rfl
            · omega
            · omega
          ·
            by_cases h5 : (xs 2) = 3
            ·
              apply GR.mk
              ·
                refine seg_RP (f := 3000) (d := 1999) 6 (pc' := 1242) (lv' := [(4, .int 1), (3, .ref 225), (2, .ref 196), (1, .ref 1), (0, .ref 0)]) (st' := [.int (xs 2), .ref 1]) (H' := _) (kc' := kc) (ks' := ks) rfl ?_
                rw [h5]
                refine seg_RP (f := 3000) (d := 1999) 9 (pc' := 1255) (lv' := [(5, .int 0), (4, .int 1), (3, .ref 225), (2, .ref 196), (1, .ref 1), (0, .ref 0)]) (st' := [.int (xs 2), .ref 196]) (H' := _) (kc' := kc) (ks' := ks) rfl ?_
                rw [h5]
                refine seg_RP (f := 3000) (d := 1999) 21 (pc' := 37) (lv' := [(4, .int 7), (6, .int 0), (5, .int 0), (3, .ref 225), (2, .ref 196), (1, .ref 1), (0, .ref 0)]) (st' := [.int 7, .int 7]) (H' := _) (kc' := kc) (ks' := ks) rfl ?_
                refine seg_RP (f := 3000) (d := 1999) 4 (pc' := 1958) (lv' := [(4, .int 7), (6, .int 0), (5, .int 0), (3, .ref 225), (2, .ref 196), (1, .ref 1), (0, .ref 0)]) (st' := [.int 1]) (H' := _) (kc' := kc) (ks' := ks) rfl ?_
                apply RP.done
                rfl; rfl; rfl; rfl
              · omega
              · omega
            ·
              by_cases h6 : (xs 2) = 4
              ·
                apply GR.mk
                ·
                  refine seg_RP (f := 3000) (d := 1999) 6 (pc' := 1242) (lv' := [(4, .int 1), (3, .ref 225), (2, .ref 196), (1, .ref 1), (0, .ref 0)]) (st' := [.int (xs 2), .ref 1]) (H' := _) (kc' := kc) (ks' := ks) rfl ?_
                  rw [h6]
                  refine seg_RP (f := 3000) (d := 1999) 9 (pc' := 1255) (lv' := [(5, .int 0), (4, .int 1), (3, .ref 225), (2, .ref 196), (1, .ref 1), (0, .ref 0)]) (st' := [.int (xs 2), .ref 196]) (H' := _) (kc' := kc) (ks' := ks) rfl ?_
                  rw [h6]
                  refine seg_RP (f := 3000) (d := 1999) 21 (pc' := 37) (lv' := [(4, .int 7), (6, .int 0), (5, .int 0), (3, .ref 225), (2, .ref 196), (1, .ref 1), (0, .ref 0)]) (st' := [.int 7, .int 7]) (H' := _) (kc' := kc) (ks' := ks) rfl ?_
                  refine seg_RP (f := 3000) (d := 1999) 4 (pc' := 1958) (lv' := [(4, .int 7), (6, .int 0), (5, .int 0), (3, .ref 225), (2, .ref 196), (1, .ref 1), (0, .ref 0)]) (st' := [.int 1]) (H' := _) (kc' := kc) (ks' := ks) rfl ?_
                  apply RP.done
                  rfl; rfl; rfl; rfl
                · omega
                · omega
              ·
                by_cases h7 : (xs 2) = 5
                ·
                  apply GR.mk
                  ·
                    refine seg_RP (f := 3000) (d := 1999) 6 (pc' := 1242) (lv' := [(4, .int 1), (3, .ref 225), (2, .ref 196), (1, .ref 1), (0, .ref 0)]) (st' := [.int (xs 2), .ref 1]) (H' := _) (kc' := kc) (ks' := ks) rfl ?_
                    rw [h7]
                    refine seg_RP (f := 3000) (d := 1999) 9 (pc' := 1255) (lv' := [(5, .int 0), (4, .int 1), (3, .ref 225), (2, .ref 196), (1, .ref 1), (0, .ref 0)]) (st' := [.int (xs 2), .ref 196]) (H' := _) (kc' := kc) (ks' := ks) rfl ?_
                    rw [h7]
                    refine seg_RP (f := 3000) (d := 1999) 21 (pc' := 37) (lv' := [(4, .int 7), (6, .int 0), (5, .int 0), (3, .ref 225), (2, .ref 196), (1, .ref 1), (0, .ref 0)]) (st' := [.int 7, .int 7]) (H' := _) (kc' := kc) (ks' := ks) rfl ?_
                    refine seg_RP (f := 3000) (d := 1999) 4 (pc' := 1958) (lv' := [(4, .int 7), (6, .int 0), (5, .int 0), (3, .ref 225), (2, .ref 196), (1, .ref 1), (0, .ref 0)]) (st' := [.int 1]) (H' := _) (kc' := kc) (ks' := ks) rfl ?_
                    apply RP.done
                    rfl; rfl; rfl; rfl
                  · omega
                  · omega
                ·
                  exact (i32_none (n := 6) (by decide) (h0) (Int32.lt_of_le_of_lt (Int32.not_lt.mp (h1)) (show (5 : Int32) < 6 by decide)) (by intro k hk; match k, hk with | 0, _ => exact h2 | 1, _ => exact h3 | 2, _ => exact h4 | 3, _ => exact h5 | 4, _ => exact h6 | 5, _ => exact h7)).elim
set_option maxRecDepth 100000 in
set_option maxHeartbeats 4000000 in
theorem first_19 {xs : Nat → Int32} {kc ks : Nat} {v0 : Int32} {c1 : aC} {c2 : aC} {v3 : Int32} {c4 : aC} {c5 : aC} {c6 : aC} {c7 : aC} {c8 : aC} {c9 : aC} {c10 : aC} {c11 : aC} {v12 : Int32} {c13 : aC} {c14 : aC} {c15 : aC} {c16 : aC} {v17 : Int32} : GR xs 1335 (hpV v0 c1 c2 v3 c4 c5 c6 c7 c8 c9 c10 c11 v12 c13 c14 c15 c16 v17) kc ks := by
  by_cases h0 : (xs 3) = 0
  ·
    by_cases h1 : (xs 2) < 0
    ·
      apply GR.mk
      ·
        refine seg_RP (f := 3000) (d := 1999) 11 (pc' := 1348) (lv' := [(4, .int 1), (3, .ref 225), (2, .ref 196), (1, .ref 1), (0, .ref 0)]) (st' := [.int (xs 3), .int (xs 2), .ref 1]) (H' := _) (kc' := kc) (ks' := ks) rfl ?_
        rw [h0]
        refine seg_RP (f := 3000) (d := 1999) 3 (pc' := 1357) (lv' := [(4, .int 1), (3, .ref 225), (2, .ref 196), (1, .ref 1), (0, .ref 0)]) (st' := [.ref 225, .int 0, .int (xs 2), .ref 1]) (H' := _) (kc' := kc) (ks' := ks) rfl ?_
        apply RP.call
        rfl; rfl; rfl; rfl; rfl; rfl; rfl
        ·
          refine seg_RP (f := 3000) (d := 1998) 5 (pc' := 5) (lv' := [(0, .ref 1), (1, .int (xs 2)), (2, .int 0), (3, .ref 225)]) (st' := [.int 0, .int (xs 2), .ref 1, .int 0, .ref 225]) (H' := _) (kc' := 0) (ks' := 0) rfl ?_
          apply RP.callX
          rfl; rfl; rfl; rfl; rfl; rfl; rfl
          ·
            refine seg_RP (f := 3000) (d := 1997) 2 (pc' := 2) (lv' := [(0, .ref 1), (1, .int (xs 2)), (2, .int 0)]) (st' := [.int (xs 2), .ref 1]) (H' := _) (kc' := 0) (ks' := 0) rfl ?_
            apply RP.callP
            rfl; rfl; rfl; rfl; rfl; rfl; rfl
            ·
              refine seg_RP (f := 3000) (d := 1996) 4 (pc' := 6) (lv' := [(0, .ref 1), (1, .int (xs 2))]) (st' := [.int 200, .int 0, .int (xs 2), .ref 1]) (H' := _) (kc' := 0) (ks' := 0) rfl ?_
              apply RP.callP
              rfl; rfl; rfl; rfl; rfl; rfl; rfl
              ·
                refine seg_RP (f := 3000) (d := 1995) 2 (pc' := 2) (lv' := [(0, .ref 1), (1, .int (xs 2)), (2, .int 0), (3, .int 200)]) (st' := [.int 0, .int (xs 2)]) (H' := _) (kc' := 0) (ks' := 0) rfl ?_
                apply RP.brT
                rfl; rfl; rfl
                exact decide_eq_true (h1)
                apply RP.done
                rfl; rfl; rfl; rfl
              rfl
            rfl
          rfl
          refine seg_RP (f := 3000) (d := 1998) 1 (pc' := 16) (lv' := [(0, .ref 1), (1, .int (xs 2)), (2, .int 0), (3, .ref 225)]) (st' := [.int 1]) (H' := _) (kc' := 1) (ks' := 6) rfl ?_
          apply RP.done
          rfl; rfl; rfl; rfl
        refine seg_RP (f := 3000) (d := 1999) 12 (pc' := 1375) (lv' := [(5, .int 1), (4, .int 1), (3, .ref 225), (2, .ref 196), (1, .ref 1), (0, .ref 0)]) (st' := [.int (xs 3), .int (xs 2), .ref 196]) (H' := _) (kc' := kc + 1) (ks' := ks + 6) rfl ?_
        rw [h0]
        refine seg_RP (f := 3000) (d := 1999) 2 (pc' := 1383) (lv' := [(5, .int 1), (4, .int 1), (3, .ref 225), (2, .ref 196), (1, .ref 1), (0, .ref 0)]) (st' := [.int 0, .int (xs 2), .ref 196]) (H' := _) (kc' := kc + 1) (ks' := ks + 6) rfl ?_
        apply RP.call
        rfl; rfl; rfl; rfl; rfl; rfl; rfl
        ·
          refine seg_RP (f := 3000) (d := 1998) 6 (pc' := 10) (lv' := [(0, .ref 196), (1, .int (xs 2)), (2, .int 0)]) (st' := [.int 201, .int (xs 2), .ref 196]) (H' := _) (kc' := 0) (ks' := 0) rfl ?_
          apply RP.call
          rfl; rfl; rfl; rfl; rfl; rfl; rfl
          ·
            refine seg_RP (f := 3000) (d := 1997) 1 (pc' := 1) (lv' := [(0, .ref 196), (1, .int (xs 2)), (2, .int 201)]) (st' := [.int (xs 2)]) (H' := _) (kc' := 0) (ks' := 0) rfl ?_
            apply RP.brT
            rfl; rfl; rfl
            exact decide_eq_true (h1)
            refine seg_RP (f := 3000) (d := 1997) 2 (pc' := 14) (lv' := [(0, .ref 196), (1, .int (xs 2)), (2, .int 201)]) (st' := [.int 1]) (H' := _) (kc' := 0) (ks' := 0) rfl ?_
            apply RP.done
            rfl; rfl; rfl; rfl
          refine seg_RP (f := 3000) (d := 1998) 4 (pc' := 33) (lv' := [(0, .ref 196), (1, .int (xs 2)), (2, .int 0)]) (st' := [.int 0]) (H' := _) (kc' := 0) (ks' := 0) rfl ?_
          apply RP.done
          rfl; rfl; rfl; rfl
        refine seg_RP (f := 3000) (d := 1999) 13 (pc' := 37) (lv' := [(4, .int 7), (6, .int 0), (5, .int 1), (3, .ref 225), (2, .ref 196), (1, .ref 1), (0, .ref 0)]) (st' := [.int 7, .int 7]) (H' := _) (kc' := kc + 1) (ks' := ks + 6) rfl ?_
        refine seg_RP (f := 3000) (d := 1999) 4 (pc' := 1958) (lv' := [(4, .int 7), (6, .int 0), (5, .int 1), (3, .ref 225), (2, .ref 196), (1, .ref 1), (0, .ref 0)]) (st' := [.int 1]) (H' := _) (kc' := kc + 1) (ks' := ks + 6) rfl ?_
        apply RP.done
        rfl; rfl; rfl; rfl
      · omega
      · omega
    ·
      by_cases h2 : (200 : Int32) < (xs 2)
      ·
        apply GR.mk
        ·
          refine seg_RP (f := 3000) (d := 1999) 11 (pc' := 1348) (lv' := [(4, .int 1), (3, .ref 225), (2, .ref 196), (1, .ref 1), (0, .ref 0)]) (st' := [.int (xs 3), .int (xs 2), .ref 1]) (H' := _) (kc' := kc) (ks' := ks) rfl ?_
          rw [h0]
          refine seg_RP (f := 3000) (d := 1999) 3 (pc' := 1357) (lv' := [(4, .int 1), (3, .ref 225), (2, .ref 196), (1, .ref 1), (0, .ref 0)]) (st' := [.ref 225, .int 0, .int (xs 2), .ref 1]) (H' := _) (kc' := kc) (ks' := ks) rfl ?_
          apply RP.call
          rfl; rfl; rfl; rfl; rfl; rfl; rfl
          ·
            refine seg_RP (f := 3000) (d := 1998) 5 (pc' := 5) (lv' := [(0, .ref 1), (1, .int (xs 2)), (2, .int 0), (3, .ref 225)]) (st' := [.int 0, .int (xs 2), .ref 1, .int 0, .ref 225]) (H' := _) (kc' := 0) (ks' := 0) rfl ?_
            apply RP.callX
            rfl; rfl; rfl; rfl; rfl; rfl; rfl
            ·
              refine seg_RP (f := 3000) (d := 1997) 2 (pc' := 2) (lv' := [(0, .ref 1), (1, .int (xs 2)), (2, .int 0)]) (st' := [.int (xs 2), .ref 1]) (H' := _) (kc' := 0) (ks' := 0) rfl ?_
              apply RP.callP
              rfl; rfl; rfl; rfl; rfl; rfl; rfl
              ·
                refine seg_RP (f := 3000) (d := 1996) 4 (pc' := 6) (lv' := [(0, .ref 1), (1, .int (xs 2))]) (st' := [.int 200, .int 0, .int (xs 2), .ref 1]) (H' := _) (kc' := 0) (ks' := 0) rfl ?_
                apply RP.callP
                rfl; rfl; rfl; rfl; rfl; rfl; rfl
                ·
                  refine seg_RP (f := 3000) (d := 1995) 2 (pc' := 2) (lv' := [(0, .ref 1), (1, .int (xs 2)), (2, .int 0), (3, .int 200)]) (st' := [.int 0, .int (xs 2)]) (H' := _) (kc' := 0) (ks' := 0) rfl ?_
                  apply RP.brF
                  rfl; rfl; rfl
                  exact decide_eq_false (h1)
                  refine seg_RP (f := 3000) (d := 1995) 2 (pc' := 7) (lv' := [(0, .ref 1), (1, .int (xs 2)), (2, .int 0), (3, .int 200)]) (st' := [.int 200, .int (xs 2)]) (H' := _) (kc' := 0) (ks' := 0) rfl ?_
                  apply RP.brF
                  rfl; rfl; rfl
                  exact decide_eq_false (Int32.not_le.mpr (h2))
                  apply RP.done
                  rfl; rfl; rfl; rfl
                rfl
              rfl
            rfl
            refine seg_RP (f := 3000) (d := 1998) 1 (pc' := 16) (lv' := [(0, .ref 1), (1, .int (xs 2)), (2, .int 0), (3, .ref 225)]) (st' := [.int 1]) (H' := _) (kc' := 1) (ks' := 6) rfl ?_
            apply RP.done
            rfl; rfl; rfl; rfl
          refine seg_RP (f := 3000) (d := 1999) 12 (pc' := 1375) (lv' := [(5, .int 1), (4, .int 1), (3, .ref 225), (2, .ref 196), (1, .ref 1), (0, .ref 0)]) (st' := [.int (xs 3), .int (xs 2), .ref 196]) (H' := _) (kc' := kc + 1) (ks' := ks + 6) rfl ?_
          rw [h0]
          refine seg_RP (f := 3000) (d := 1999) 2 (pc' := 1383) (lv' := [(5, .int 1), (4, .int 1), (3, .ref 225), (2, .ref 196), (1, .ref 1), (0, .ref 0)]) (st' := [.int 0, .int (xs 2), .ref 196]) (H' := _) (kc' := kc + 1) (ks' := ks + 6) rfl ?_
          apply RP.call
          rfl; rfl; rfl; rfl; rfl; rfl; rfl
          ·
            refine seg_RP (f := 3000) (d := 1998) 6 (pc' := 10) (lv' := [(0, .ref 196), (1, .int (xs 2)), (2, .int 0)]) (st' := [.int 201, .int (xs 2), .ref 196]) (H' := _) (kc' := 0) (ks' := 0) rfl ?_
            apply RP.call
            rfl; rfl; rfl; rfl; rfl; rfl; rfl
            ·
              refine seg_RP (f := 3000) (d := 1997) 1 (pc' := 1) (lv' := [(0, .ref 196), (1, .int (xs 2)), (2, .int 201)]) (st' := [.int (xs 2)]) (H' := _) (kc' := 0) (ks' := 0) rfl ?_
              apply RP.brF
              rfl; rfl; rfl
              exact decide_eq_false (h1)
              refine seg_RP (f := 3000) (d := 1997) 2 (pc' := 6) (lv' := [(0, .ref 196), (1, .int (xs 2)), (2, .int 201)]) (st' := [.int 201, .int (xs 2)]) (H' := _) (kc' := 0) (ks' := 0) rfl ?_
              apply RP.brF
              rfl; rfl; rfl
              exact decide_eq_false (i32_gap (h2) (show (201 : Int32) ≤ 200 + 1 by decide) (by decide))
              refine seg_RP (f := 3000) (d := 1997) 2 (pc' := 14) (lv' := [(0, .ref 196), (1, .int (xs 2)), (2, .int 201)]) (st' := [.int 1]) (H' := _) (kc' := 0) (ks' := 0) rfl ?_
              apply RP.done
              rfl; rfl; rfl; rfl
            refine seg_RP (f := 3000) (d := 1998) 4 (pc' := 33) (lv' := [(0, .ref 196), (1, .int (xs 2)), (2, .int 0)]) (st' := [.int 0]) (H' := _) (kc' := 0) (ks' := 0) rfl ?_
            apply RP.done
            rfl; rfl; rfl; rfl
          refine seg_RP (f := 3000) (d := 1999) 13 (pc' := 37) (lv' := [(4, .int 7), (6, .int 0), (5, .int 1), (3, .ref 225), (2, .ref 196), (1, .ref 1), (0, .ref 0)]) (st' := [.int 7, .int 7]) (H' := _) (kc' := kc + 1) (ks' := ks + 6) rfl ?_
          refine seg_RP (f := 3000) (d := 1999) 4 (pc' := 1958) (lv' := [(4, .int 7), (6, .int 0), (5, .int 1), (3, .ref 225), (2, .ref 196), (1, .ref 1), (0, .ref 0)]) (st' := [.int 1]) (H' := _) (kc' := kc + 1) (ks' := ks + 6) rfl ?_
          apply RP.done
          rfl; rfl; rfl; rfl
        · omega
        · omega
      ·
        apply GR.mk
        ·
          refine seg_RP (f := 3000) (d := 1999) 11 (pc' := 1348) (lv' := [(4, .int 1), (3, .ref 225), (2, .ref 196), (1, .ref 1), (0, .ref 0)]) (st' := [.int (xs 3), .int (xs 2), .ref 1]) (H' := _) (kc' := kc) (ks' := ks) rfl ?_
          rw [h0]
          refine seg_RP (f := 3000) (d := 1999) 3 (pc' := 1357) (lv' := [(4, .int 1), (3, .ref 225), (2, .ref 196), (1, .ref 1), (0, .ref 0)]) (st' := [.ref 225, .int 0, .int (xs 2), .ref 1]) (H' := _) (kc' := kc) (ks' := ks) rfl ?_
          apply RP.call
          rfl; rfl; rfl; rfl; rfl; rfl; rfl
          ·
            refine seg_RP (f := 3000) (d := 1998) 5 (pc' := 5) (lv' := [(0, .ref 1), (1, .int (xs 2)), (2, .int 0), (3, .ref 225)]) (st' := [.int 0, .int (xs 2), .ref 1, .int 0, .ref 225]) (H' := _) (kc' := 0) (ks' := 0) rfl ?_
            apply RP.callX
            rfl; rfl; rfl; rfl; rfl; rfl; rfl
            ·
              refine seg_RP (f := 3000) (d := 1997) 2 (pc' := 2) (lv' := [(0, .ref 1), (1, .int (xs 2)), (2, .int 0)]) (st' := [.int (xs 2), .ref 1]) (H' := _) (kc' := 0) (ks' := 0) rfl ?_
              apply RP.call
              rfl; rfl; rfl; rfl; rfl; rfl; rfl
              ·
                refine seg_RP (f := 3000) (d := 1996) 4 (pc' := 6) (lv' := [(0, .ref 1), (1, .int (xs 2))]) (st' := [.int 200, .int 0, .int (xs 2), .ref 1]) (H' := _) (kc' := 0) (ks' := 0) rfl ?_
                apply RP.call
                rfl; rfl; rfl; rfl; rfl; rfl; rfl
                ·
                  refine seg_RP (f := 3000) (d := 1995) 2 (pc' := 2) (lv' := [(0, .ref 1), (1, .int (xs 2)), (2, .int 0), (3, .int 200)]) (st' := [.int 0, .int (xs 2)]) (H' := _) (kc' := 0) (ks' := 0) rfl ?_
                  apply RP.brF
                  rfl; rfl; rfl
                  exact decide_eq_false (h1)
                  refine seg_RP (f := 3000) (d := 1995) 2 (pc' := 7) (lv' := [(0, .ref 1), (1, .int (xs 2)), (2, .int 0), (3, .int 200)]) (st' := [.int 200, .int (xs 2)]) (H' := _) (kc' := 0) (ks' := 0) rfl ?_
                  apply RP.brT
                  rfl; rfl; rfl
                  exact decide_eq_true (Int32.not_lt.mp (h2))
                  apply RP.done
                  rfl; rfl; rfl; rfl
                apply RP.done
                rfl; rfl; rfl; rfl
              refine seg_RP (f := 3000) (d := 1997) 5 (pc' := 14) (lv' := [(0, .ref 1), (1, .int (xs 2)), (2, .int 0)]) (st' := [.int 0, .int 0, .ref 1]) (H' := _) (kc' := 0) (ks' := 0) rfl ?_
              apply RP.callP
              rfl; rfl; rfl; rfl; rfl; rfl; rfl
              ·
                refine seg_RP (f := 3000) (d := 1996) 4 (pc' := 5) (lv' := [(0, .ref 1), (1, .int 0), (2, .int 0)]) (st' := [.int 30, .int 1, .int 0, .ref 1]) (H' := _) (kc' := 0) (ks' := 0) rfl ?_
                apply RP.callP
                rfl; rfl; rfl; rfl; rfl; rfl; rfl
                ·
                  refine seg_RP (f := 3000) (d := 1995) 3 (pc' := 10) (lv' := [(0, .ref 1), (1, .int 0), (2, .int 1), (3, .int 30)]) (st' := []) (H' := _) (kc' := 0) (ks' := 0) rfl ?_
                  apply RP.done
                  rfl; rfl; rfl; rfl
                rfl
              rfl
            rfl
            refine seg_RP (f := 3000) (d := 1998) 1 (pc' := 16) (lv' := [(0, .ref 1), (1, .int (xs 2)), (2, .int 0), (3, .ref 225)]) (st' := [.int 1]) (H' := _) (kc' := 1) (ks' := 6) rfl ?_
            apply RP.done
            rfl; rfl; rfl; rfl
          refine seg_RP (f := 3000) (d := 1999) 12 (pc' := 1375) (lv' := [(5, .int 1), (4, .int 1), (3, .ref 225), (2, .ref 196), (1, .ref 1), (0, .ref 0)]) (st' := [.int (xs 3), .int (xs 2), .ref 196]) (H' := _) (kc' := kc + 1) (ks' := ks + 6) rfl ?_
          rw [h0]
          refine seg_RP (f := 3000) (d := 1999) 2 (pc' := 1383) (lv' := [(5, .int 1), (4, .int 1), (3, .ref 225), (2, .ref 196), (1, .ref 1), (0, .ref 0)]) (st' := [.int 0, .int (xs 2), .ref 196]) (H' := _) (kc' := kc + 1) (ks' := ks + 6) rfl ?_
          apply RP.call
          rfl; rfl; rfl; rfl; rfl; rfl; rfl
          ·
            refine seg_RP (f := 3000) (d := 1998) 6 (pc' := 10) (lv' := [(0, .ref 196), (1, .int (xs 2)), (2, .int 0)]) (st' := [.int 201, .int (xs 2), .ref 196]) (H' := _) (kc' := 0) (ks' := 0) rfl ?_
            apply RP.call
            rfl; rfl; rfl; rfl; rfl; rfl; rfl
            ·
              refine seg_RP (f := 3000) (d := 1997) 1 (pc' := 1) (lv' := [(0, .ref 196), (1, .int (xs 2)), (2, .int 201)]) (st' := [.int (xs 2)]) (H' := _) (kc' := 0) (ks' := 0) rfl ?_
              apply RP.brF
              rfl; rfl; rfl
              exact decide_eq_false (h1)
              refine seg_RP (f := 3000) (d := 1997) 2 (pc' := 6) (lv' := [(0, .ref 196), (1, .int (xs 2)), (2, .int 201)]) (st' := [.int 201, .int (xs 2)]) (H' := _) (kc' := 0) (ks' := 0) rfl ?_
              apply RP.brT
              rfl; rfl; rfl
              exact decide_eq_true (Int32.lt_of_le_of_lt (Int32.not_lt.mp (h2)) (show (200 : Int32) < 201 by decide))
              refine seg_RP (f := 3000) (d := 1997) 1 (pc' := 14) (lv' := [(0, .ref 196), (1, .int (xs 2)), (2, .int 201)]) (st' := [.int 0]) (H' := _) (kc' := 0) (ks' := 0) rfl ?_
              apply RP.done
              rfl; rfl; rfl; rfl
            refine seg_RP (f := 3000) (d := 1998) 10 (pc' := 33) (lv' := [(0, .ref 196), (1, .int (xs 2)), (2, .int 0)]) (st' := [.int 0]) (H' := _) (kc' := 0) (ks' := 0) rfl ?_
            apply RP.done
            rfl; rfl; rfl; rfl
          refine seg_RP (f := 3000) (d := 1999) 13 (pc' := 37) (lv' := [(4, .int 7), (6, .int 0), (5, .int 1), (3, .ref 225), (2, .ref 196), (1, .ref 1), (0, .ref 0)]) (st' := [.int 7, .int 7]) (H' := _) (kc' := kc + 1) (ks' := ks + 6) rfl ?_
          refine seg_RP (f := 3000) (d := 1999) 4 (pc' := 1958) (lv' := [(4, .int 7), (6, .int 0), (5, .int 1), (3, .ref 225), (2, .ref 196), (1, .ref 1), (0, .ref 0)]) (st' := [.int 1]) (H' := _) (kc' := kc + 1) (ks' := ks + 6) rfl ?_
          apply RP.done
          rfl; rfl; rfl; rfl
        · omega
        · omega
  ·
    by_cases h1 : (xs 2) < 0
    ·
      apply GR.mk
      ·
        refine seg_RP (f := 3000) (d := 1999) 11 (pc' := 1348) (lv' := [(4, .int 1), (3, .ref 225), (2, .ref 196), (1, .ref 1), (0, .ref 0)]) (st' := [.int (xs 3), .int (xs 2), .ref 1]) (H' := _) (kc' := kc) (ks' := ks) rfl ?_
        apply RP.brF
        rfl; rfl; rfl
        exact decide_eq_false (h0)
        refine seg_RP (f := 3000) (d := 1999) 3 (pc' := 1357) (lv' := [(4, .int 1), (3, .ref 225), (2, .ref 196), (1, .ref 1), (0, .ref 0)]) (st' := [.ref 225, .int 1, .int (xs 2), .ref 1]) (H' := _) (kc' := kc) (ks' := ks) rfl ?_
        apply RP.call
        rfl; rfl; rfl; rfl; rfl; rfl; rfl
        ·
          refine seg_RP (f := 3000) (d := 1998) 5 (pc' := 5) (lv' := [(0, .ref 1), (1, .int (xs 2)), (2, .int 1), (3, .ref 225)]) (st' := [.int 1, .int (xs 2), .ref 1, .int 0, .ref 225]) (H' := _) (kc' := 0) (ks' := 0) rfl ?_
          apply RP.callX
          rfl; rfl; rfl; rfl; rfl; rfl; rfl
          ·
            refine seg_RP (f := 3000) (d := 1997) 2 (pc' := 2) (lv' := [(0, .ref 1), (1, .int (xs 2)), (2, .int 1)]) (st' := [.int (xs 2), .ref 1]) (H' := _) (kc' := 0) (ks' := 0) rfl ?_
            apply RP.callP
            rfl; rfl; rfl; rfl; rfl; rfl; rfl
            ·
              refine seg_RP (f := 3000) (d := 1996) 4 (pc' := 6) (lv' := [(0, .ref 1), (1, .int (xs 2))]) (st' := [.int 200, .int 0, .int (xs 2), .ref 1]) (H' := _) (kc' := 0) (ks' := 0) rfl ?_
              apply RP.callP
              rfl; rfl; rfl; rfl; rfl; rfl; rfl
              ·
                refine seg_RP (f := 3000) (d := 1995) 2 (pc' := 2) (lv' := [(0, .ref 1), (1, .int (xs 2)), (2, .int 0), (3, .int 200)]) (st' := [.int 0, .int (xs 2)]) (H' := _) (kc' := 0) (ks' := 0) rfl ?_
                apply RP.brT
                rfl; rfl; rfl
                exact decide_eq_true (h1)
                apply RP.done
                rfl; rfl; rfl; rfl
              rfl
            rfl
          rfl
          refine seg_RP (f := 3000) (d := 1998) 1 (pc' := 16) (lv' := [(0, .ref 1), (1, .int (xs 2)), (2, .int 1), (3, .ref 225)]) (st' := [.int 1]) (H' := _) (kc' := 1) (ks' := 6) rfl ?_
          apply RP.done
          rfl; rfl; rfl; rfl
        refine seg_RP (f := 3000) (d := 1999) 12 (pc' := 1375) (lv' := [(5, .int 1), (4, .int 1), (3, .ref 225), (2, .ref 196), (1, .ref 1), (0, .ref 0)]) (st' := [.int (xs 3), .int (xs 2), .ref 196]) (H' := _) (kc' := kc + 1) (ks' := ks + 6) rfl ?_
        apply RP.brF
        rfl; rfl; rfl
        exact decide_eq_false (h0)
        refine seg_RP (f := 3000) (d := 1999) 2 (pc' := 1383) (lv' := [(5, .int 1), (4, .int 1), (3, .ref 225), (2, .ref 196), (1, .ref 1), (0, .ref 0)]) (st' := [.int 1, .int (xs 2), .ref 196]) (H' := _) (kc' := kc + 1) (ks' := ks + 6) rfl ?_
        apply RP.call
        rfl; rfl; rfl; rfl; rfl; rfl; rfl
        ·
          refine seg_RP (f := 3000) (d := 1998) 6 (pc' := 10) (lv' := [(0, .ref 196), (1, .int (xs 2)), (2, .int 1)]) (st' := [.int 201, .int (xs 2), .ref 196]) (H' := _) (kc' := 0) (ks' := 0) rfl ?_
          apply RP.call
          rfl; rfl; rfl; rfl; rfl; rfl; rfl
          ·
            refine seg_RP (f := 3000) (d := 1997) 1 (pc' := 1) (lv' := [(0, .ref 196), (1, .int (xs 2)), (2, .int 201)]) (st' := [.int (xs 2)]) (H' := _) (kc' := 0) (ks' := 0) rfl ?_
            apply RP.brT
            rfl; rfl; rfl
            exact decide_eq_true (h1)
            refine seg_RP (f := 3000) (d := 1997) 2 (pc' := 14) (lv' := [(0, .ref 196), (1, .int (xs 2)), (2, .int 201)]) (st' := [.int 1]) (H' := _) (kc' := 0) (ks' := 0) rfl ?_
            apply RP.done
            rfl; rfl; rfl; rfl
          refine seg_RP (f := 3000) (d := 1998) 4 (pc' := 33) (lv' := [(0, .ref 196), (1, .int (xs 2)), (2, .int 1)]) (st' := [.int 0]) (H' := _) (kc' := 0) (ks' := 0) rfl ?_
          apply RP.done
          rfl; rfl; rfl; rfl
        refine seg_RP (f := 3000) (d := 1999) 13 (pc' := 37) (lv' := [(4, .int 7), (6, .int 0), (5, .int 1), (3, .ref 225), (2, .ref 196), (1, .ref 1), (0, .ref 0)]) (st' := [.int 7, .int 7]) (H' := _) (kc' := kc + 1) (ks' := ks + 6) rfl ?_
        refine seg_RP (f := 3000) (d := 1999) 4 (pc' := 1958) (lv' := [(4, .int 7), (6, .int 0), (5, .int 1), (3, .ref 225), (2, .ref 196), (1, .ref 1), (0, .ref 0)]) (st' := [.int 1]) (H' := _) (kc' := kc + 1) (ks' := ks + 6) rfl ?_
        apply RP.done
        rfl; rfl; rfl; rfl
      · omega
      · omega
    ·
      by_cases h2 : (200 : Int32) < (xs 2)
      ·
        apply GR.mk
        ·
          refine seg_RP (f := 3000) (d := 1999) 11 (pc' := 1348) (lv' := [(4, .int 1), (3, .ref 225), (2, .ref 196), (1, .ref 1), (0, .ref 0)]) (st' := [.int (xs 3), .int (xs 2), .ref 1]) (H' := _) (kc' := kc) (ks' := ks) rfl ?_
          apply RP.brF
          rfl; rfl; rfl
          exact decide_eq_false (h0)
          refine seg_RP (f := 3000) (d := 1999) 3 (pc' := 1357) (lv' := [(4, .int 1), (3, .ref 225), (2, .ref 196), (1, .ref 1), (0, .ref 0)]) (st' := [.ref 225, .int 1, .int (xs 2), .ref 1]) (H' := _) (kc' := kc) (ks' := ks) rfl ?_
          apply RP.call
          rfl; rfl; rfl; rfl; rfl; rfl; rfl
          ·
            refine seg_RP (f := 3000) (d := 1998) 5 (pc' := 5) (lv' := [(0, .ref 1), (1, .int (xs 2)), (2, .int 1), (3, .ref 225)]) (st' := [.int 1, .int (xs 2), .ref 1, .int 0, .ref 225]) (H' := _) (kc' := 0) (ks' := 0) rfl ?_
            apply RP.callX
            rfl; rfl; rfl; rfl; rfl; rfl; rfl
            ·
              refine seg_RP (f := 3000) (d := 1997) 2 (pc' := 2) (lv' := [(0, .ref 1), (1, .int (xs 2)), (2, .int 1)]) (st' := [.int (xs 2), .ref 1]) (H' := _) (kc' := 0) (ks' := 0) rfl ?_
              apply RP.callP
              rfl; rfl; rfl; rfl; rfl; rfl; rfl
              ·
                refine seg_RP (f := 3000) (d := 1996) 4 (pc' := 6) (lv' := [(0, .ref 1), (1, .int (xs 2))]) (st' := [.int 200, .int 0, .int (xs 2), .ref 1]) (H' := _) (kc' := 0) (ks' := 0) rfl ?_
                apply RP.callP
                rfl; rfl; rfl; rfl; rfl; rfl; rfl
                ·
                  refine seg_RP (f := 3000) (d := 1995) 2 (pc' := 2) (lv' := [(0, .ref 1), (1, .int (xs 2)), (2, .int 0), (3, .int 200)]) (st' := [.int 0, .int (xs 2)]) (H' := _) (kc' := 0) (ks' := 0) rfl ?_
                  apply RP.brF
                  rfl; rfl; rfl
                  exact decide_eq_false (h1)
                  refine seg_RP (f := 3000) (d := 1995) 2 (pc' := 7) (lv' := [(0, .ref 1), (1, .int (xs 2)), (2, .int 0), (3, .int 200)]) (st' := [.int 200, .int (xs 2)]) (H' := _) (kc' := 0) (ks' := 0) rfl ?_
                  apply RP.brF
                  rfl; rfl; rfl
                  exact decide_eq_false (Int32.not_le.mpr (h2))
                  apply RP.done
                  rfl; rfl; rfl; rfl
                rfl
              rfl
            rfl
            refine seg_RP (f := 3000) (d := 1998) 1 (pc' := 16) (lv' := [(0, .ref 1), (1, .int (xs 2)), (2, .int 1), (3, .ref 225)]) (st' := [.int 1]) (H' := _) (kc' := 1) (ks' := 6) rfl ?_
            apply RP.done
            rfl; rfl; rfl; rfl
          refine seg_RP (f := 3000) (d := 1999) 12 (pc' := 1375) (lv' := [(5, .int 1), (4, .int 1), (3, .ref 225), (2, .ref 196), (1, .ref 1), (0, .ref 0)]) (st' := [.int (xs 3), .int (xs 2), .ref 196]) (H' := _) (kc' := kc + 1) (ks' := ks + 6) rfl ?_
          apply RP.brF
          rfl; rfl; rfl
          exact decide_eq_false (h0)
          refine seg_RP (f := 3000) (d := 1999) 2 (pc' := 1383) (lv' := [(5, .int 1), (4, .int 1), (3, .ref 225), (2, .ref 196), (1, .ref 1), (0, .ref 0)]) (st' := [.int 1, .int (xs 2), .ref 196]) (H' := _) (kc' := kc + 1) (ks' := ks + 6) rfl ?_
          apply RP.call
          rfl; rfl; rfl; rfl; rfl; rfl; rfl
          ·
            refine seg_RP (f := 3000) (d := 1998) 6 (pc' := 10) (lv' := [(0, .ref 196), (1, .int (xs 2)), (2, .int 1)]) (st' := [.int 201, .int (xs 2), .ref 196]) (H' := _) (kc' := 0) (ks' := 0) rfl ?_
            apply RP.call
            rfl; rfl; rfl; rfl; rfl; rfl; rfl
            ·
              refine seg_RP (f := 3000) (d := 1997) 1 (pc' := 1) (lv' := [(0, .ref 196), (1, .int (xs 2)), (2, .int 201)]) (st' := [.int (xs 2)]) (H' := _) (kc' := 0) (ks' := 0) rfl ?_
              apply RP.brF
              rfl; rfl; rfl
              exact decide_eq_false (h1)
              refine seg_RP (f := 3000) (d := 1997) 2 (pc' := 6) (lv' := [(0, .ref 196), (1, .int (xs 2)), (2, .int 201)]) (st' := [.int 201, .int (xs 2)]) (H' := _) (kc' := 0) (ks' := 0) rfl ?_
              apply RP.brF
              rfl; rfl; rfl
              exact decide_eq_false (i32_gap (h2) (show (201 : Int32) ≤ 200 + 1 by decide) (by decide))
              refine seg_RP (f := 3000) (d := 1997) 2 (pc' := 14) (lv' := [(0, .ref 196), (1, .int (xs 2)), (2, .int 201)]) (st' := [.int 1]) (H' := _) (kc' := 0) (ks' := 0) rfl ?_
              apply RP.done
              rfl; rfl; rfl; rfl
            refine seg_RP (f := 3000) (d := 1998) 4 (pc' := 33) (lv' := [(0, .ref 196), (1, .int (xs 2)), (2, .int 1)]) (st' := [.int 0]) (H' := _) (kc' := 0) (ks' := 0) rfl ?_
            apply RP.done
            rfl; rfl; rfl; rfl
          refine seg_RP (f := 3000) (d := 1999) 13 (pc' := 37) (lv' := [(4, .int 7), (6, .int 0), (5, .int 1), (3, .ref 225), (2, .ref 196), (1, .ref 1), (0, .ref 0)]) (st' := [.int 7, .int 7]) (H' := _) (kc' := kc + 1) (ks' := ks + 6) rfl ?_
          refine seg_RP (f := 3000) (d := 1999) 4 (pc' := 1958) (lv' := [(4, .int 7), (6, .int 0), (5, .int 1), (3, .ref 225), (2, .ref 196), (1, .ref 1), (0, .ref 0)]) (st' := [.int 1]) (H' := _) (kc' := kc + 1) (ks' := ks + 6) rfl ?_
          apply RP.done
          rfl; rfl; rfl; rfl
        · omega
        · omega
      ·
        apply GR.mk
        ·
          refine seg_RP (f := 3000) (d := 1999) 11 (pc' := 1348) (lv' := [(4, .int 1), (3, .ref 225), (2, .ref 196), (1, .ref 1), (0, .ref 0)]) (st' := [.int (xs 3), .int (xs 2), .ref 1]) (H' := _) (kc' := kc) (ks' := ks) rfl ?_
          apply RP.brF
          rfl; rfl; rfl
          exact decide_eq_false (h0)
          refine seg_RP (f := 3000) (d := 1999) 3 (pc' := 1357) (lv' := [(4, .int 1), (3, .ref 225), (2, .ref 196), (1, .ref 1), (0, .ref 0)]) (st' := [.ref 225, .int 1, .int (xs 2), .ref 1]) (H' := _) (kc' := kc) (ks' := ks) rfl ?_
          apply RP.call
          rfl; rfl; rfl; rfl; rfl; rfl; rfl
          ·
            refine seg_RP (f := 3000) (d := 1998) 5 (pc' := 5) (lv' := [(0, .ref 1), (1, .int (xs 2)), (2, .int 1), (3, .ref 225)]) (st' := [.int 1, .int (xs 2), .ref 1, .int 0, .ref 225]) (H' := _) (kc' := 0) (ks' := 0) rfl ?_
            apply RP.callX
            rfl; rfl; rfl; rfl; rfl; rfl; rfl
            ·
              refine seg_RP (f := 3000) (d := 1997) 2 (pc' := 2) (lv' := [(0, .ref 1), (1, .int (xs 2)), (2, .int 1)]) (st' := [.int (xs 2), .ref 1]) (H' := _) (kc' := 0) (ks' := 0) rfl ?_
              apply RP.call
              rfl; rfl; rfl; rfl; rfl; rfl; rfl
              ·
                refine seg_RP (f := 3000) (d := 1996) 4 (pc' := 6) (lv' := [(0, .ref 1), (1, .int (xs 2))]) (st' := [.int 200, .int 0, .int (xs 2), .ref 1]) (H' := _) (kc' := 0) (ks' := 0) rfl ?_
                apply RP.call
                rfl; rfl; rfl; rfl; rfl; rfl; rfl
                ·
                  refine seg_RP (f := 3000) (d := 1995) 2 (pc' := 2) (lv' := [(0, .ref 1), (1, .int (xs 2)), (2, .int 0), (3, .int 200)]) (st' := [.int 0, .int (xs 2)]) (H' := _) (kc' := 0) (ks' := 0) rfl ?_
                  apply RP.brF
                  rfl; rfl; rfl
                  exact decide_eq_false (h1)
                  refine seg_RP (f := 3000) (d := 1995) 2 (pc' := 7) (lv' := [(0, .ref 1), (1, .int (xs 2)), (2, .int 0), (3, .int 200)]) (st' := [.int 200, .int (xs 2)]) (H' := _) (kc' := 0) (ks' := 0) rfl ?_
                  apply RP.brT
                  rfl; rfl; rfl
                  exact decide_eq_true (Int32.not_lt.mp (h2))
                  apply RP.done
                  rfl; rfl; rfl; rfl
                apply RP.done
                rfl; rfl; rfl; rfl
              refine seg_RP (f := 3000) (d := 1997) 5 (pc' := 14) (lv' := [(0, .ref 1), (1, .int (xs 2)), (2, .int 1)]) (st' := [.int 0, .int 0, .ref 1]) (H' := _) (kc' := 0) (ks' := 0) rfl ?_
              apply RP.callP
              rfl; rfl; rfl; rfl; rfl; rfl; rfl
              ·
                refine seg_RP (f := 3000) (d := 1996) 4 (pc' := 5) (lv' := [(0, .ref 1), (1, .int 0), (2, .int 0)]) (st' := [.int 30, .int 1, .int 0, .ref 1]) (H' := _) (kc' := 0) (ks' := 0) rfl ?_
                apply RP.callP
                rfl; rfl; rfl; rfl; rfl; rfl; rfl
                ·
                  refine seg_RP (f := 3000) (d := 1995) 3 (pc' := 10) (lv' := [(0, .ref 1), (1, .int 0), (2, .int 1), (3, .int 30)]) (st' := []) (H' := _) (kc' := 0) (ks' := 0) rfl ?_
                  apply RP.done
                  rfl; rfl; rfl; rfl
                rfl
              rfl
            rfl
            refine seg_RP (f := 3000) (d := 1998) 1 (pc' := 16) (lv' := [(0, .ref 1), (1, .int (xs 2)), (2, .int 1), (3, .ref 225)]) (st' := [.int 1]) (H' := _) (kc' := 1) (ks' := 6) rfl ?_
            apply RP.done
            rfl; rfl; rfl; rfl
          refine seg_RP (f := 3000) (d := 1999) 12 (pc' := 1375) (lv' := [(5, .int 1), (4, .int 1), (3, .ref 225), (2, .ref 196), (1, .ref 1), (0, .ref 0)]) (st' := [.int (xs 3), .int (xs 2), .ref 196]) (H' := _) (kc' := kc + 1) (ks' := ks + 6) rfl ?_
          apply RP.brF
          rfl; rfl; rfl
          exact decide_eq_false (h0)
          refine seg_RP (f := 3000) (d := 1999) 2 (pc' := 1383) (lv' := [(5, .int 1), (4, .int 1), (3, .ref 225), (2, .ref 196), (1, .ref 1), (0, .ref 0)]) (st' := [.int 1, .int (xs 2), .ref 196]) (H' := _) (kc' := kc + 1) (ks' := ks + 6) rfl ?_
          apply RP.call
          rfl; rfl; rfl; rfl; rfl; rfl; rfl
          ·
            refine seg_RP (f := 3000) (d := 1998) 6 (pc' := 10) (lv' := [(0, .ref 196), (1, .int (xs 2)), (2, .int 1)]) (st' := [.int 201, .int (xs 2), .ref 196]) (H' := _) (kc' := 0) (ks' := 0) rfl ?_
            apply RP.call
            rfl; rfl; rfl; rfl; rfl; rfl; rfl
            ·
              refine seg_RP (f := 3000) (d := 1997) 1 (pc' := 1) (lv' := [(0, .ref 196), (1, .int (xs 2)), (2, .int 201)]) (st' := [.int (xs 2)]) (H' := _) (kc' := 0) (ks' := 0) rfl ?_
              apply RP.brF
              rfl; rfl; rfl
              exact decide_eq_false (h1)
              refine seg_RP (f := 3000) (d := 1997) 2 (pc' := 6) (lv' := [(0, .ref 196), (1, .int (xs 2)), (2, .int 201)]) (st' := [.int 201, .int (xs 2)]) (H' := _) (kc' := 0) (ks' := 0) rfl ?_
              apply RP.brT
              rfl; rfl; rfl
              exact decide_eq_true (Int32.lt_of_le_of_lt (Int32.not_lt.mp (h2)) (show (200 : Int32) < 201 by decide))
              refine seg_RP (f := 3000) (d := 1997) 1 (pc' := 14) (lv' := [(0, .ref 196), (1, .int (xs 2)), (2, .int 201)]) (st' := [.int 0]) (H' := _) (kc' := 0) (ks' := 0) rfl ?_
              apply RP.done
              rfl; rfl; rfl; rfl
            refine seg_RP (f := 3000) (d := 1998) 10 (pc' := 33) (lv' := [(0, .ref 196), (1, .int (xs 2)), (2, .int 1)]) (st' := [.int 0]) (H' := _) (kc' := 0) (ks' := 0) rfl ?_
            apply RP.done
            rfl; rfl; rfl; rfl
          refine seg_RP (f := 3000) (d := 1999) 13 (pc' := 37) (lv' := [(4, .int 7), (6, .int 0), (5, .int 1), (3, .ref 225), (2, .ref 196), (1, .ref 1), (0, .ref 0)]) (st' := [.int 7, .int 7]) (H' := _) (kc' := kc + 1) (ks' := ks + 6) rfl ?_
          refine seg_RP (f := 3000) (d := 1999) 4 (pc' := 1958) (lv' := [(4, .int 7), (6, .int 0), (5, .int 1), (3, .ref 225), (2, .ref 196), (1, .ref 1), (0, .ref 0)]) (st' := [.int 1]) (H' := _) (kc' := kc + 1) (ks' := ks + 6) rfl ?_
          apply RP.done
          rfl; rfl; rfl; rfl
        · omega
        · omega
set_option maxRecDepth 100000 in
set_option maxHeartbeats 4000000 in
theorem first_20 {xs : Nat → Int32} {kc ks : Nat} {v0 : Int32} {c1 : aC} {c2 : aC} {v3 : Int32} {c4 : aC} {c5 : aC} {c6 : aC} {c7 : aC} {c8 : aC} {c9 : aC} {c10 : aC} {c11 : aC} {v12 : Int32} {c13 : aC} {c14 : aC} {c15 : aC} {c16 : aC} {v17 : Int32} : GR xs 1419 (hpV v0 c1 c2 v3 c4 c5 c6 c7 c8 c9 c10 c11 v12 c13 c14 c15 c16 v17) kc ks := by
  by_cases h0 : (xs 2) < 0
  ·
    apply GR.mk
    ·
      refine seg_RP (f := 3000) (d := 1999) 7 (pc' := 1427) (lv' := [(4, .int 1), (3, .ref 225), (2, .ref 196), (1, .ref 1), (0, .ref 0)]) (st' := [.ref 225, .int (xs 2), .ref 1]) (H' := _) (kc' := kc) (ks' := ks) rfl ?_
      apply RP.call
      rfl; rfl; rfl; rfl; rfl; rfl; rfl
      ·
        refine seg_RP (f := 3000) (d := 1998) 4 (pc' := 4) (lv' := [(0, .ref 1), (1, .int (xs 2)), (2, .ref 225)]) (st' := [.int (xs 2), .ref 1, .int 0, .ref 225]) (H' := _) (kc' := 0) (ks' := 0) rfl ?_
        apply RP.callX
        rfl; rfl; rfl; rfl; rfl; rfl; rfl
        ·
          refine seg_RP (f := 3000) (d := 1997) 2 (pc' := 2) (lv' := [(0, .ref 1), (1, .int (xs 2))]) (st' := [.int (xs 2), .ref 1]) (H' := _) (kc' := 0) (ks' := 0) rfl ?_
          apply RP.callP
          rfl; rfl; rfl; rfl; rfl; rfl; rfl
          ·
            refine seg_RP (f := 3000) (d := 1996) 4 (pc' := 6) (lv' := [(0, .ref 1), (1, .int (xs 2))]) (st' := [.int 200, .int 0, .int (xs 2), .ref 1]) (H' := _) (kc' := 0) (ks' := 0) rfl ?_
            apply RP.callP
            rfl; rfl; rfl; rfl; rfl; rfl; rfl
            ·
              refine seg_RP (f := 3000) (d := 1995) 2 (pc' := 2) (lv' := [(0, .ref 1), (1, .int (xs 2)), (2, .int 0), (3, .int 200)]) (st' := [.int 0, .int (xs 2)]) (H' := _) (kc' := 0) (ks' := 0) rfl ?_
              apply RP.brT
              rfl; rfl; rfl
              exact decide_eq_true (h0)
              apply RP.done
              rfl; rfl; rfl; rfl
            rfl
          rfl
        rfl
        refine seg_RP (f := 3000) (d := 1998) 1 (pc' := 14) (lv' := [(0, .ref 1), (1, .int (xs 2)), (2, .ref 225)]) (st' := [.int 1]) (H' := _) (kc' := 1) (ks' := 6) rfl ?_
        apply RP.done
        rfl; rfl; rfl; rfl
      refine seg_RP (f := 3000) (d := 1999) 7 (pc' := 1439) (lv' := [(5, .int 1), (4, .int 1), (3, .ref 225), (2, .ref 196), (1, .ref 1), (0, .ref 0)]) (st' := [.int (xs 2), .ref 196]) (H' := _) (kc' := kc + 1) (ks' := ks + 6) rfl ?_
      apply RP.call
      rfl; rfl; rfl; rfl; rfl; rfl; rfl
      ·
        refine seg_RP (f := 3000) (d := 1998) 6 (pc' := 10) (lv' := [(0, .ref 196), (1, .int (xs 2))]) (st' := [.int 201, .int (xs 2), .ref 196]) (H' := _) (kc' := 0) (ks' := 0) rfl ?_
        apply RP.call
        rfl; rfl; rfl; rfl; rfl; rfl; rfl
        ·
          refine seg_RP (f := 3000) (d := 1997) 1 (pc' := 1) (lv' := [(0, .ref 196), (1, .int (xs 2)), (2, .int 201)]) (st' := [.int (xs 2)]) (H' := _) (kc' := 0) (ks' := 0) rfl ?_
          apply RP.brT
          rfl; rfl; rfl
          exact decide_eq_true (h0)
          refine seg_RP (f := 3000) (d := 1997) 2 (pc' := 14) (lv' := [(0, .ref 196), (1, .int (xs 2)), (2, .int 201)]) (st' := [.int 1]) (H' := _) (kc' := 0) (ks' := 0) rfl ?_
          apply RP.done
          rfl; rfl; rfl; rfl
        refine seg_RP (f := 3000) (d := 1998) 4 (pc' := 33) (lv' := [(0, .ref 196), (1, .int (xs 2))]) (st' := [.int 0]) (H' := _) (kc' := 0) (ks' := 0) rfl ?_
        apply RP.done
        rfl; rfl; rfl; rfl
      refine seg_RP (f := 3000) (d := 1999) 13 (pc' := 37) (lv' := [(4, .int 7), (6, .int 0), (5, .int 1), (3, .ref 225), (2, .ref 196), (1, .ref 1), (0, .ref 0)]) (st' := [.int 7, .int 7]) (H' := _) (kc' := kc + 1) (ks' := ks + 6) rfl ?_
      refine seg_RP (f := 3000) (d := 1999) 4 (pc' := 1958) (lv' := [(4, .int 7), (6, .int 0), (5, .int 1), (3, .ref 225), (2, .ref 196), (1, .ref 1), (0, .ref 0)]) (st' := [.int 1]) (H' := _) (kc' := kc + 1) (ks' := ks + 6) rfl ?_
      apply RP.done
      rfl; rfl; rfl; rfl
    · omega
    · omega
  ·
    by_cases h1 : (200 : Int32) < (xs 2)
    ·
      apply GR.mk
      ·
        refine seg_RP (f := 3000) (d := 1999) 7 (pc' := 1427) (lv' := [(4, .int 1), (3, .ref 225), (2, .ref 196), (1, .ref 1), (0, .ref 0)]) (st' := [.ref 225, .int (xs 2), .ref 1]) (H' := _) (kc' := kc) (ks' := ks) rfl ?_
        apply RP.call
        rfl; rfl; rfl; rfl; rfl; rfl; rfl
        ·
          refine seg_RP (f := 3000) (d := 1998) 4 (pc' := 4) (lv' := [(0, .ref 1), (1, .int (xs 2)), (2, .ref 225)]) (st' := [.int (xs 2), .ref 1, .int 0, .ref 225]) (H' := _) (kc' := 0) (ks' := 0) rfl ?_
          apply RP.callX
          rfl; rfl; rfl; rfl; rfl; rfl; rfl
          ·
            refine seg_RP (f := 3000) (d := 1997) 2 (pc' := 2) (lv' := [(0, .ref 1), (1, .int (xs 2))]) (st' := [.int (xs 2), .ref 1]) (H' := _) (kc' := 0) (ks' := 0) rfl ?_
            apply RP.callP
            rfl; rfl; rfl; rfl; rfl; rfl; rfl
            ·
              refine seg_RP (f := 3000) (d := 1996) 4 (pc' := 6) (lv' := [(0, .ref 1), (1, .int (xs 2))]) (st' := [.int 200, .int 0, .int (xs 2), .ref 1]) (H' := _) (kc' := 0) (ks' := 0) rfl ?_
              apply RP.callP
              rfl; rfl; rfl; rfl; rfl; rfl; rfl
              ·
                refine seg_RP (f := 3000) (d := 1995) 2 (pc' := 2) (lv' := [(0, .ref 1), (1, .int (xs 2)), (2, .int 0), (3, .int 200)]) (st' := [.int 0, .int (xs 2)]) (H' := _) (kc' := 0) (ks' := 0) rfl ?_
                apply RP.brF
                rfl; rfl; rfl
                exact decide_eq_false (h0)
                refine seg_RP (f := 3000) (d := 1995) 2 (pc' := 7) (lv' := [(0, .ref 1), (1, .int (xs 2)), (2, .int 0), (3, .int 200)]) (st' := [.int 200, .int (xs 2)]) (H' := _) (kc' := 0) (ks' := 0) rfl ?_
                apply RP.brF
                rfl; rfl; rfl
                exact decide_eq_false (Int32.not_le.mpr (h1))
                apply RP.done
                rfl; rfl; rfl; rfl
              rfl
            rfl
          rfl
          refine seg_RP (f := 3000) (d := 1998) 1 (pc' := 14) (lv' := [(0, .ref 1), (1, .int (xs 2)), (2, .ref 225)]) (st' := [.int 1]) (H' := _) (kc' := 1) (ks' := 6) rfl ?_
          apply RP.done
          rfl; rfl; rfl; rfl
        refine seg_RP (f := 3000) (d := 1999) 7 (pc' := 1439) (lv' := [(5, .int 1), (4, .int 1), (3, .ref 225), (2, .ref 196), (1, .ref 1), (0, .ref 0)]) (st' := [.int (xs 2), .ref 196]) (H' := _) (kc' := kc + 1) (ks' := ks + 6) rfl ?_
        apply RP.call
        rfl; rfl; rfl; rfl; rfl; rfl; rfl
        ·
          refine seg_RP (f := 3000) (d := 1998) 6 (pc' := 10) (lv' := [(0, .ref 196), (1, .int (xs 2))]) (st' := [.int 201, .int (xs 2), .ref 196]) (H' := _) (kc' := 0) (ks' := 0) rfl ?_
          apply RP.call
          rfl; rfl; rfl; rfl; rfl; rfl; rfl
          ·
            refine seg_RP (f := 3000) (d := 1997) 1 (pc' := 1) (lv' := [(0, .ref 196), (1, .int (xs 2)), (2, .int 201)]) (st' := [.int (xs 2)]) (H' := _) (kc' := 0) (ks' := 0) rfl ?_
            apply RP.brF
            rfl; rfl; rfl
            exact decide_eq_false (h0)
            refine seg_RP (f := 3000) (d := 1997) 2 (pc' := 6) (lv' := [(0, .ref 196), (1, .int (xs 2)), (2, .int 201)]) (st' := [.int 201, .int (xs 2)]) (H' := _) (kc' := 0) (ks' := 0) rfl ?_
            apply RP.brF
            rfl; rfl; rfl
            exact decide_eq_false (i32_gap (h1) (show (201 : Int32) ≤ 200 + 1 by decide) (by decide))
            refine seg_RP (f := 3000) (d := 1997) 2 (pc' := 14) (lv' := [(0, .ref 196), (1, .int (xs 2)), (2, .int 201)]) (st' := [.int 1]) (H' := _) (kc' := 0) (ks' := 0) rfl ?_
            apply RP.done
            rfl; rfl; rfl; rfl
          refine seg_RP (f := 3000) (d := 1998) 4 (pc' := 33) (lv' := [(0, .ref 196), (1, .int (xs 2))]) (st' := [.int 0]) (H' := _) (kc' := 0) (ks' := 0) rfl ?_
          apply RP.done
          rfl; rfl; rfl; rfl
        refine seg_RP (f := 3000) (d := 1999) 13 (pc' := 37) (lv' := [(4, .int 7), (6, .int 0), (5, .int 1), (3, .ref 225), (2, .ref 196), (1, .ref 1), (0, .ref 0)]) (st' := [.int 7, .int 7]) (H' := _) (kc' := kc + 1) (ks' := ks + 6) rfl ?_
        refine seg_RP (f := 3000) (d := 1999) 4 (pc' := 1958) (lv' := [(4, .int 7), (6, .int 0), (5, .int 1), (3, .ref 225), (2, .ref 196), (1, .ref 1), (0, .ref 0)]) (st' := [.int 1]) (H' := _) (kc' := kc + 1) (ks' := ks + 6) rfl ?_
        apply RP.done
        rfl; rfl; rfl; rfl
      · omega
      · omega
    ·
      apply GR.mk
      ·
        refine seg_RP (f := 3000) (d := 1999) 7 (pc' := 1427) (lv' := [(4, .int 1), (3, .ref 225), (2, .ref 196), (1, .ref 1), (0, .ref 0)]) (st' := [.ref 225, .int (xs 2), .ref 1]) (H' := _) (kc' := kc) (ks' := ks) rfl ?_
        apply RP.call
        rfl; rfl; rfl; rfl; rfl; rfl; rfl
        ·
          refine seg_RP (f := 3000) (d := 1998) 4 (pc' := 4) (lv' := [(0, .ref 1), (1, .int (xs 2)), (2, .ref 225)]) (st' := [.int (xs 2), .ref 1, .int 0, .ref 225]) (H' := _) (kc' := 0) (ks' := 0) rfl ?_
          apply RP.callX
          rfl; rfl; rfl; rfl; rfl; rfl; rfl
          ·
            refine seg_RP (f := 3000) (d := 1997) 2 (pc' := 2) (lv' := [(0, .ref 1), (1, .int (xs 2))]) (st' := [.int (xs 2), .ref 1]) (H' := _) (kc' := 0) (ks' := 0) rfl ?_
            apply RP.call
            rfl; rfl; rfl; rfl; rfl; rfl; rfl
            ·
              refine seg_RP (f := 3000) (d := 1996) 4 (pc' := 6) (lv' := [(0, .ref 1), (1, .int (xs 2))]) (st' := [.int 200, .int 0, .int (xs 2), .ref 1]) (H' := _) (kc' := 0) (ks' := 0) rfl ?_
              apply RP.call
              rfl; rfl; rfl; rfl; rfl; rfl; rfl
              ·
                refine seg_RP (f := 3000) (d := 1995) 2 (pc' := 2) (lv' := [(0, .ref 1), (1, .int (xs 2)), (2, .int 0), (3, .int 200)]) (st' := [.int 0, .int (xs 2)]) (H' := _) (kc' := 0) (ks' := 0) rfl ?_
                apply RP.brF
                rfl; rfl; rfl
                exact decide_eq_false (h0)
                refine seg_RP (f := 3000) (d := 1995) 2 (pc' := 7) (lv' := [(0, .ref 1), (1, .int (xs 2)), (2, .int 0), (3, .int 200)]) (st' := [.int 200, .int (xs 2)]) (H' := _) (kc' := 0) (ks' := 0) rfl ?_
                apply RP.brT
                rfl; rfl; rfl
                exact decide_eq_true (Int32.not_lt.mp (h1))
                apply RP.done
                rfl; rfl; rfl; rfl
              apply RP.done
              rfl; rfl; rfl; rfl
            refine seg_RP (f := 3000) (d := 1997) 5 (pc' := 14) (lv' := [(0, .ref 1), (1, .int (xs 2))]) (st' := [.int 0, .int 0, .ref 1]) (H' := _) (kc' := 0) (ks' := 0) rfl ?_
            apply RP.callP
            rfl; rfl; rfl; rfl; rfl; rfl; rfl
            ·
              refine seg_RP (f := 3000) (d := 1996) 4 (pc' := 5) (lv' := [(0, .ref 1), (1, .int 0), (2, .int 0)]) (st' := [.int 30, .int 1, .int 0, .ref 1]) (H' := _) (kc' := 0) (ks' := 0) rfl ?_
              apply RP.callP
              rfl; rfl; rfl; rfl; rfl; rfl; rfl
              ·
                refine seg_RP (f := 3000) (d := 1995) 3 (pc' := 10) (lv' := [(0, .ref 1), (1, .int 0), (2, .int 1), (3, .int 30)]) (st' := []) (H' := _) (kc' := 0) (ks' := 0) rfl ?_
                apply RP.done
                rfl; rfl; rfl; rfl
              rfl
            rfl
          rfl
          refine seg_RP (f := 3000) (d := 1998) 1 (pc' := 14) (lv' := [(0, .ref 1), (1, .int (xs 2)), (2, .ref 225)]) (st' := [.int 1]) (H' := _) (kc' := 1) (ks' := 6) rfl ?_
          apply RP.done
          rfl; rfl; rfl; rfl
        refine seg_RP (f := 3000) (d := 1999) 7 (pc' := 1439) (lv' := [(5, .int 1), (4, .int 1), (3, .ref 225), (2, .ref 196), (1, .ref 1), (0, .ref 0)]) (st' := [.int (xs 2), .ref 196]) (H' := _) (kc' := kc + 1) (ks' := ks + 6) rfl ?_
        apply RP.call
        rfl; rfl; rfl; rfl; rfl; rfl; rfl
        ·
          refine seg_RP (f := 3000) (d := 1998) 6 (pc' := 10) (lv' := [(0, .ref 196), (1, .int (xs 2))]) (st' := [.int 201, .int (xs 2), .ref 196]) (H' := _) (kc' := 0) (ks' := 0) rfl ?_
          apply RP.call
          rfl; rfl; rfl; rfl; rfl; rfl; rfl
          ·
            refine seg_RP (f := 3000) (d := 1997) 1 (pc' := 1) (lv' := [(0, .ref 196), (1, .int (xs 2)), (2, .int 201)]) (st' := [.int (xs 2)]) (H' := _) (kc' := 0) (ks' := 0) rfl ?_
            apply RP.brF
            rfl; rfl; rfl
            exact decide_eq_false (h0)
            refine seg_RP (f := 3000) (d := 1997) 2 (pc' := 6) (lv' := [(0, .ref 196), (1, .int (xs 2)), (2, .int 201)]) (st' := [.int 201, .int (xs 2)]) (H' := _) (kc' := 0) (ks' := 0) rfl ?_
            apply RP.brT
            rfl; rfl; rfl
            exact decide_eq_true (Int32.lt_of_le_of_lt (Int32.not_lt.mp (h1)) (show (200 : Int32) < 201 by decide))
            refine seg_RP (f := 3000) (d := 1997) 1 (pc' := 14) (lv' := [(0, .ref 196), (1, .int (xs 2)), (2, .int 201)]) (st' := [.int 0]) (H' := _) (kc' := 0) (ks' := 0) rfl ?_
            apply RP.done
            rfl; rfl; rfl; rfl
          refine seg_RP (f := 3000) (d := 1998) 10 (pc' := 33) (lv' := [(0, .ref 196), (1, .int (xs 2))]) (st' := [.int 0]) (H' := _) (kc' := 0) (ks' := 0) rfl ?_
          apply RP.done
          rfl; rfl; rfl; rfl
        refine seg_RP (f := 3000) (d := 1999) 13 (pc' := 37) (lv' := [(4, .int 7), (6, .int 0), (5, .int 1), (3, .ref 225), (2, .ref 196), (1, .ref 1), (0, .ref 0)]) (st' := [.int 7, .int 7]) (H' := _) (kc' := kc + 1) (ks' := ks + 6) rfl ?_
        refine seg_RP (f := 3000) (d := 1999) 4 (pc' := 1958) (lv' := [(4, .int 7), (6, .int 0), (5, .int 1), (3, .ref 225), (2, .ref 196), (1, .ref 1), (0, .ref 0)]) (st' := [.int 1]) (H' := _) (kc' := kc + 1) (ks' := ks + 6) rfl ?_
        apply RP.done
        rfl; rfl; rfl; rfl
      · omega
      · omega
set_option maxRecDepth 100000 in
set_option maxHeartbeats 4000000 in
theorem first_21 {xs : Nat → Int32} {kc ks : Nat} {v0 : Int32} {c1 : aC} {c2 : aC} {v3 : Int32} {c4 : aC} {c5 : aC} {c6 : aC} {c7 : aC} {c8 : aC} {c9 : aC} {c10 : aC} {c11 : aC} {v12 : Int32} {c13 : aC} {c14 : aC} {c15 : aC} {c16 : aC} {v17 : Int32} : GR xs 1475 (hpV v0 c1 c2 v3 c4 c5 c6 c7 c8 c9 c10 c11 v12 c13 c14 c15 c16 v17) kc ks := by
  by_cases h0 : (xs 2) < 0
  ·
    apply GR.mk
    ·
      refine seg_RP (f := 3000) (d := 1999) 17 (pc' := 1495) (lv' := [(4, .int 1), (3, .ref 225), (2, .ref 196), (1, .ref 1), (0, .ref 0)]) (st' := [.ref 225, .int (xs 4), .int (xs 3), .int (xs 2), .ref 1]) (H' := _) (kc' := kc) (ks' := ks) rfl ?_
      apply RP.call
      rfl; rfl; rfl; rfl; rfl; rfl; rfl
      ·
        refine seg_RP (f := 3000) (d := 1998) 6 (pc' := 7) (lv' := [(0, .ref 1), (1, .int (xs 2)), (2, .int (xs 3)), (3, .int (xs 4)), (4, .ref 225)]) (st' := [.int (xs 4), .int (xs 3), .int (xs 2), .ref 1, .int 0, .ref 225]) (H' := _) (kc' := 0) (ks' := 0) rfl ?_
        apply RP.callX
        rfl; rfl; rfl; rfl; rfl; rfl; rfl
        ·
          refine seg_RP (f := 3000) (d := 1997) 2 (pc' := 2) (lv' := [(0, .ref 1), (1, .int (xs 2)), (2, .int (xs 3)), (3, .int (xs 4))]) (st' := [.int (xs 2), .ref 1]) (H' := _) (kc' := 0) (ks' := 0) rfl ?_
          apply RP.callP
          rfl; rfl; rfl; rfl; rfl; rfl; rfl
          ·
            refine seg_RP (f := 3000) (d := 1996) 4 (pc' := 6) (lv' := [(0, .ref 1), (1, .int (xs 2))]) (st' := [.int 200, .int 0, .int (xs 2), .ref 1]) (H' := _) (kc' := 0) (ks' := 0) rfl ?_
            apply RP.callP
            rfl; rfl; rfl; rfl; rfl; rfl; rfl
            ·
              refine seg_RP (f := 3000) (d := 1995) 2 (pc' := 2) (lv' := [(0, .ref 1), (1, .int (xs 2)), (2, .int 0), (3, .int 200)]) (st' := [.int 0, .int (xs 2)]) (H' := _) (kc' := 0) (ks' := 0) rfl ?_
              apply RP.brT
              rfl; rfl; rfl
              exact decide_eq_true (h0)
              apply RP.done
              rfl; rfl; rfl; rfl
            rfl
          rfl
        rfl
        refine seg_RP (f := 3000) (d := 1998) 1 (pc' := 18) (lv' := [(0, .ref 1), (1, .int (xs 2)), (2, .int (xs 3)), (3, .int (xs 4)), (4, .ref 225)]) (st' := [.int 1]) (H' := _) (kc' := 1) (ks' := 6) rfl ?_
        apply RP.done
        rfl; rfl; rfl; rfl
      refine seg_RP (f := 3000) (d := 1999) 17 (pc' := 1519) (lv' := [(5, .int 1), (4, .int 1), (3, .ref 225), (2, .ref 196), (1, .ref 1), (0, .ref 0)]) (st' := [.int (xs 4), .int (xs 3), .int (xs 2), .ref 196]) (H' := _) (kc' := kc + 1) (ks' := ks + 6) rfl ?_
      apply RP.call
      rfl; rfl; rfl; rfl; rfl; rfl; rfl
      ·
        refine seg_RP (f := 3000) (d := 1998) 6 (pc' := 10) (lv' := [(0, .ref 196), (1, .int (xs 2)), (2, .int (xs 3)), (3, .int (xs 4))]) (st' := [.int 201, .int (xs 2), .ref 196]) (H' := _) (kc' := 0) (ks' := 0) rfl ?_
        apply RP.call
        rfl; rfl; rfl; rfl; rfl; rfl; rfl
        ·
          refine seg_RP (f := 3000) (d := 1997) 1 (pc' := 1) (lv' := [(0, .ref 196), (1, .int (xs 2)), (2, .int 201)]) (st' := [.int (xs 2)]) (H' := _) (kc' := 0) (ks' := 0) rfl ?_
          apply RP.brT
          rfl; rfl; rfl
          exact decide_eq_true (h0)
          refine seg_RP (f := 3000) (d := 1997) 2 (pc' := 14) (lv' := [(0, .ref 196), (1, .int (xs 2)), (2, .int 201)]) (st' := [.int 1]) (H' := _) (kc' := 0) (ks' := 0) rfl ?_
          apply RP.done
          rfl; rfl; rfl; rfl
        refine seg_RP (f := 3000) (d := 1998) 4 (pc' := 71) (lv' := [(0, .ref 196), (1, .int (xs 2)), (2, .int (xs 3)), (3, .int (xs 4))]) (st' := [.int 0]) (H' := _) (kc' := 0) (ks' := 0) rfl ?_
        apply RP.done
        rfl; rfl; rfl; rfl
      refine seg_RP (f := 3000) (d := 1999) 13 (pc' := 37) (lv' := [(4, .int 7), (6, .int 0), (5, .int 1), (3, .ref 225), (2, .ref 196), (1, .ref 1), (0, .ref 0)]) (st' := [.int 7, .int 7]) (H' := _) (kc' := kc + 1) (ks' := ks + 6) rfl ?_
      refine seg_RP (f := 3000) (d := 1999) 4 (pc' := 1958) (lv' := [(4, .int 7), (6, .int 0), (5, .int 1), (3, .ref 225), (2, .ref 196), (1, .ref 1), (0, .ref 0)]) (st' := [.int 1]) (H' := _) (kc' := kc + 1) (ks' := ks + 6) rfl ?_
      apply RP.done
      rfl; rfl; rfl; rfl
    · omega
    · omega
  ·
    by_cases h1 : (200 : Int32) < (xs 2)
    ·
      apply GR.mk
      ·
        refine seg_RP (f := 3000) (d := 1999) 17 (pc' := 1495) (lv' := [(4, .int 1), (3, .ref 225), (2, .ref 196), (1, .ref 1), (0, .ref 0)]) (st' := [.ref 225, .int (xs 4), .int (xs 3), .int (xs 2), .ref 1]) (H' := _) (kc' := kc) (ks' := ks) rfl ?_
        apply RP.call
        rfl; rfl; rfl; rfl; rfl; rfl; rfl
        ·
          refine seg_RP (f := 3000) (d := 1998) 6 (pc' := 7) (lv' := [(0, .ref 1), (1, .int (xs 2)), (2, .int (xs 3)), (3, .int (xs 4)), (4, .ref 225)]) (st' := [.int (xs 4), .int (xs 3), .int (xs 2), .ref 1, .int 0, .ref 225]) (H' := _) (kc' := 0) (ks' := 0) rfl ?_
          apply RP.callX
          rfl; rfl; rfl; rfl; rfl; rfl; rfl
          ·
            refine seg_RP (f := 3000) (d := 1997) 2 (pc' := 2) (lv' := [(0, .ref 1), (1, .int (xs 2)), (2, .int (xs 3)), (3, .int (xs 4))]) (st' := [.int (xs 2), .ref 1]) (H' := _) (kc' := 0) (ks' := 0) rfl ?_
            apply RP.callP
            rfl; rfl; rfl; rfl; rfl; rfl; rfl
            ·
              refine seg_RP (f := 3000) (d := 1996) 4 (pc' := 6) (lv' := [(0, .ref 1), (1, .int (xs 2))]) (st' := [.int 200, .int 0, .int (xs 2), .ref 1]) (H' := _) (kc' := 0) (ks' := 0) rfl ?_
              apply RP.callP
              rfl; rfl; rfl; rfl; rfl; rfl; rfl
              ·
                refine seg_RP (f := 3000) (d := 1995) 2 (pc' := 2) (lv' := [(0, .ref 1), (1, .int (xs 2)), (2, .int 0), (3, .int 200)]) (st' := [.int 0, .int (xs 2)]) (H' := _) (kc' := 0) (ks' := 0) rfl ?_
                apply RP.brF
                rfl; rfl; rfl
                exact decide_eq_false (h0)
                refine seg_RP (f := 3000) (d := 1995) 2 (pc' := 7) (lv' := [(0, .ref 1), (1, .int (xs 2)), (2, .int 0), (3, .int 200)]) (st' := [.int 200, .int (xs 2)]) (H' := _) (kc' := 0) (ks' := 0) rfl ?_
                apply RP.brF
                rfl; rfl; rfl
                exact decide_eq_false (Int32.not_le.mpr (h1))
                apply RP.done
                rfl; rfl; rfl; rfl
              rfl
            rfl
          rfl
          refine seg_RP (f := 3000) (d := 1998) 1 (pc' := 18) (lv' := [(0, .ref 1), (1, .int (xs 2)), (2, .int (xs 3)), (3, .int (xs 4)), (4, .ref 225)]) (st' := [.int 1]) (H' := _) (kc' := 1) (ks' := 6) rfl ?_
          apply RP.done
          rfl; rfl; rfl; rfl
        refine seg_RP (f := 3000) (d := 1999) 17 (pc' := 1519) (lv' := [(5, .int 1), (4, .int 1), (3, .ref 225), (2, .ref 196), (1, .ref 1), (0, .ref 0)]) (st' := [.int (xs 4), .int (xs 3), .int (xs 2), .ref 196]) (H' := _) (kc' := kc + 1) (ks' := ks + 6) rfl ?_
        apply RP.call
        rfl; rfl; rfl; rfl; rfl; rfl; rfl
        ·
          refine seg_RP (f := 3000) (d := 1998) 6 (pc' := 10) (lv' := [(0, .ref 196), (1, .int (xs 2)), (2, .int (xs 3)), (3, .int (xs 4))]) (st' := [.int 201, .int (xs 2), .ref 196]) (H' := _) (kc' := 0) (ks' := 0) rfl ?_
          apply RP.call
          rfl; rfl; rfl; rfl; rfl; rfl; rfl
          ·
            refine seg_RP (f := 3000) (d := 1997) 1 (pc' := 1) (lv' := [(0, .ref 196), (1, .int (xs 2)), (2, .int 201)]) (st' := [.int (xs 2)]) (H' := _) (kc' := 0) (ks' := 0) rfl ?_
            apply RP.brF
            rfl; rfl; rfl
            exact decide_eq_false (h0)
            refine seg_RP (f := 3000) (d := 1997) 2 (pc' := 6) (lv' := [(0, .ref 196), (1, .int (xs 2)), (2, .int 201)]) (st' := [.int 201, .int (xs 2)]) (H' := _) (kc' := 0) (ks' := 0) rfl ?_
            apply RP.brF
            rfl; rfl; rfl
            exact decide_eq_false (i32_gap (h1) (show (201 : Int32) ≤ 200 + 1 by decide) (by decide))
            refine seg_RP (f := 3000) (d := 1997) 2 (pc' := 14) (lv' := [(0, .ref 196), (1, .int (xs 2)), (2, .int 201)]) (st' := [.int 1]) (H' := _) (kc' := 0) (ks' := 0) rfl ?_
            apply RP.done
            rfl; rfl; rfl; rfl
          refine seg_RP (f := 3000) (d := 1998) 4 (pc' := 71) (lv' := [(0, .ref 196), (1, .int (xs 2)), (2, .int (xs 3)), (3, .int (xs 4))]) (st' := [.int 0]) (H' := _) (kc' := 0) (ks' := 0) rfl ?_
          apply RP.done
          rfl; rfl; rfl; rfl
        refine seg_RP (f := 3000) (d := 1999) 13 (pc' := 37) (lv' := [(4, .int 7), (6, .int 0), (5, .int 1), (3, .ref 225), (2, .ref 196), (1, .ref 1), (0, .ref 0)]) (st' := [.int 7, .int 7]) (H' := _) (kc' := kc + 1) (ks' := ks + 6) rfl ?_
        refine seg_RP (f := 3000) (d := 1999) 4 (pc' := 1958) (lv' := [(4, .int 7), (6, .int 0), (5, .int 1), (3, .ref 225), (2, .ref 196), (1, .ref 1), (0, .ref 0)]) (st' := [.int 1]) (H' := _) (kc' := kc + 1) (ks' := ks + 6) rfl ?_
        apply RP.done
        rfl; rfl; rfl; rfl
      · omega
      · omega
    ·
      by_cases h2 : (xs 3) < 0
      ·
        apply GR.mk
        ·
          refine seg_RP (f := 3000) (d := 1999) 17 (pc' := 1495) (lv' := [(4, .int 1), (3, .ref 225), (2, .ref 196), (1, .ref 1), (0, .ref 0)]) (st' := [.ref 225, .int (xs 4), .int (xs 3), .int (xs 2), .ref 1]) (H' := _) (kc' := kc) (ks' := ks) rfl ?_
          apply RP.call
          rfl; rfl; rfl; rfl; rfl; rfl; rfl
          ·
            refine seg_RP (f := 3000) (d := 1998) 6 (pc' := 7) (lv' := [(0, .ref 1), (1, .int (xs 2)), (2, .int (xs 3)), (3, .int (xs 4)), (4, .ref 225)]) (st' := [.int (xs 4), .int (xs 3), .int (xs 2), .ref 1, .int 0, .ref 225]) (H' := _) (kc' := 0) (ks' := 0) rfl ?_
            apply RP.callX
            rfl; rfl; rfl; rfl; rfl; rfl; rfl
            ·
              refine seg_RP (f := 3000) (d := 1997) 2 (pc' := 2) (lv' := [(0, .ref 1), (1, .int (xs 2)), (2, .int (xs 3)), (3, .int (xs 4))]) (st' := [.int (xs 2), .ref 1]) (H' := _) (kc' := 0) (ks' := 0) rfl ?_
              apply RP.call
              rfl; rfl; rfl; rfl; rfl; rfl; rfl
              ·
                refine seg_RP (f := 3000) (d := 1996) 4 (pc' := 6) (lv' := [(0, .ref 1), (1, .int (xs 2))]) (st' := [.int 200, .int 0, .int (xs 2), .ref 1]) (H' := _) (kc' := 0) (ks' := 0) rfl ?_
                apply RP.call
                rfl; rfl; rfl; rfl; rfl; rfl; rfl
                ·
                  refine seg_RP (f := 3000) (d := 1995) 2 (pc' := 2) (lv' := [(0, .ref 1), (1, .int (xs 2)), (2, .int 0), (3, .int 200)]) (st' := [.int 0, .int (xs 2)]) (H' := _) (kc' := 0) (ks' := 0) rfl ?_
                  apply RP.brF
                  rfl; rfl; rfl
                  exact decide_eq_false (h0)
                  refine seg_RP (f := 3000) (d := 1995) 2 (pc' := 7) (lv' := [(0, .ref 1), (1, .int (xs 2)), (2, .int 0), (3, .int 200)]) (st' := [.int 200, .int (xs 2)]) (H' := _) (kc' := 0) (ks' := 0) rfl ?_
                  apply RP.brT
                  rfl; rfl; rfl
                  exact decide_eq_true (Int32.not_lt.mp (h1))
                  apply RP.done
                  rfl; rfl; rfl; rfl
                apply RP.done
                rfl; rfl; rfl; rfl
              refine seg_RP (f := 3000) (d := 1997) 2 (pc' := 7) (lv' := [(0, .ref 1), (1, .int (xs 2)), (2, .int (xs 3)), (3, .int (xs 4))]) (st' := [.int (xs 3), .ref 1]) (H' := _) (kc' := 0) (ks' := 0) rfl ?_
              apply RP.callP
              rfl; rfl; rfl; rfl; rfl; rfl; rfl
              ·
                refine seg_RP (f := 3000) (d := 1996) 4 (pc' := 6) (lv' := [(0, .ref 1), (1, .int (xs 3))]) (st' := [.int 200, .int 0, .int (xs 3), .ref 1]) (H' := _) (kc' := 0) (ks' := 0) rfl ?_
                apply RP.callP
                rfl; rfl; rfl; rfl; rfl; rfl; rfl
                ·
                  refine seg_RP (f := 3000) (d := 1995) 2 (pc' := 2) (lv' := [(0, .ref 1), (1, .int (xs 3)), (2, .int 0), (3, .int 200)]) (st' := [.int 0, .int (xs 3)]) (H' := _) (kc' := 0) (ks' := 0) rfl ?_
                  apply RP.brT
                  rfl; rfl; rfl
                  exact decide_eq_true (h2)
                  apply RP.done
                  rfl; rfl; rfl; rfl
                rfl
              rfl
            rfl
            refine seg_RP (f := 3000) (d := 1998) 1 (pc' := 18) (lv' := [(0, .ref 1), (1, .int (xs 2)), (2, .int (xs 3)), (3, .int (xs 4)), (4, .ref 225)]) (st' := [.int 1]) (H' := _) (kc' := 1) (ks' := 6) rfl ?_
            apply RP.done
            rfl; rfl; rfl; rfl
          refine seg_RP (f := 3000) (d := 1999) 17 (pc' := 1519) (lv' := [(5, .int 1), (4, .int 1), (3, .ref 225), (2, .ref 196), (1, .ref 1), (0, .ref 0)]) (st' := [.int (xs 4), .int (xs 3), .int (xs 2), .ref 196]) (H' := _) (kc' := kc + 1) (ks' := ks + 6) rfl ?_
          apply RP.call
          rfl; rfl; rfl; rfl; rfl; rfl; rfl
          ·
            refine seg_RP (f := 3000) (d := 1998) 6 (pc' := 10) (lv' := [(0, .ref 196), (1, .int (xs 2)), (2, .int (xs 3)), (3, .int (xs 4))]) (st' := [.int 201, .int (xs 2), .ref 196]) (H' := _) (kc' := 0) (ks' := 0) rfl ?_
            apply RP.call
            rfl; rfl; rfl; rfl; rfl; rfl; rfl
            ·
              refine seg_RP (f := 3000) (d := 1997) 1 (pc' := 1) (lv' := [(0, .ref 196), (1, .int (xs 2)), (2, .int 201)]) (st' := [.int (xs 2)]) (H' := _) (kc' := 0) (ks' := 0) rfl ?_
              apply RP.brF
              rfl; rfl; rfl
              exact decide_eq_false (h0)
              refine seg_RP (f := 3000) (d := 1997) 2 (pc' := 6) (lv' := [(0, .ref 196), (1, .int (xs 2)), (2, .int 201)]) (st' := [.int 201, .int (xs 2)]) (H' := _) (kc' := 0) (ks' := 0) rfl ?_
              apply RP.brT
              rfl; rfl; rfl
              exact decide_eq_true (Int32.lt_of_le_of_lt (Int32.not_lt.mp (h1)) (show (200 : Int32) < 201 by decide))
              refine seg_RP (f := 3000) (d := 1997) 1 (pc' := 14) (lv' := [(0, .ref 196), (1, .int (xs 2)), (2, .int 201)]) (st' := [.int 0]) (H' := _) (kc' := 0) (ks' := 0) rfl ?_
              apply RP.done
              rfl; rfl; rfl; rfl
            refine seg_RP (f := 3000) (d := 1998) 4 (pc' := 21) (lv' := [(0, .ref 196), (1, .int (xs 2)), (2, .int (xs 3)), (3, .int (xs 4))]) (st' := [.int 201, .int (xs 3), .ref 196]) (H' := _) (kc' := 0) (ks' := 0) rfl ?_
            apply RP.call
            rfl; rfl; rfl; rfl; rfl; rfl; rfl
            ·
              refine seg_RP (f := 3000) (d := 1997) 1 (pc' := 1) (lv' := [(0, .ref 196), (1, .int (xs 3)), (2, .int 201)]) (st' := [.int (xs 3)]) (H' := _) (kc' := 0) (ks' := 0) rfl ?_
              apply RP.brT
              rfl; rfl; rfl
              exact decide_eq_true (h2)
              refine seg_RP (f := 3000) (d := 1997) 2 (pc' := 14) (lv' := [(0, .ref 196), (1, .int (xs 3)), (2, .int 201)]) (st' := [.int 1]) (H' := _) (kc' := 0) (ks' := 0) rfl ?_
              apply RP.done
              rfl; rfl; rfl; rfl
            refine seg_RP (f := 3000) (d := 1998) 4 (pc' := 71) (lv' := [(0, .ref 196), (1, .int (xs 2)), (2, .int (xs 3)), (3, .int (xs 4))]) (st' := [.int 0]) (H' := _) (kc' := 0) (ks' := 0) rfl ?_
            apply RP.done
            rfl; rfl; rfl; rfl
          refine seg_RP (f := 3000) (d := 1999) 13 (pc' := 37) (lv' := [(4, .int 7), (6, .int 0), (5, .int 1), (3, .ref 225), (2, .ref 196), (1, .ref 1), (0, .ref 0)]) (st' := [.int 7, .int 7]) (H' := _) (kc' := kc + 1) (ks' := ks + 6) rfl ?_
          refine seg_RP (f := 3000) (d := 1999) 4 (pc' := 1958) (lv' := [(4, .int 7), (6, .int 0), (5, .int 1), (3, .ref 225), (2, .ref 196), (1, .ref 1), (0, .ref 0)]) (st' := [.int 1]) (H' := _) (kc' := kc + 1) (ks' := ks + 6) rfl ?_
          apply RP.done
          rfl; rfl; rfl; rfl
        · omega
        · omega
      ·
        by_cases h3 : (200 : Int32) < (xs 3)
        ·
          apply GR.mk
          ·
            refine seg_RP (f := 3000) (d := 1999) 17 (pc' := 1495) (lv' := [(4, .int 1), (3, .ref 225), (2, .ref 196), (1, .ref 1), (0, .ref 0)]) (st' := [.ref 225, .int (xs 4), .int (xs 3), .int (xs 2), .ref 1]) (H' := _) (kc' := kc) (ks' := ks) rfl ?_
            apply RP.call
            rfl; rfl; rfl; rfl; rfl; rfl; rfl
            ·
              refine seg_RP (f := 3000) (d := 1998) 6 (pc' := 7) (lv' := [(0, .ref 1), (1, .int (xs 2)), (2, .int (xs 3)), (3, .int (xs 4)), (4, .ref 225)]) (st' := [.int (xs 4), .int (xs 3), .int (xs 2), .ref 1, .int 0, .ref 225]) (H' := _) (kc' := 0) (ks' := 0) rfl ?_
              apply RP.callX
              rfl; rfl; rfl; rfl; rfl; rfl; rfl
              ·
                refine seg_RP (f := 3000) (d := 1997) 2 (pc' := 2) (lv' := [(0, .ref 1), (1, .int (xs 2)), (2, .int (xs 3)), (3, .int (xs 4))]) (st' := [.int (xs 2), .ref 1]) (H' := _) (kc' := 0) (ks' := 0) rfl ?_
                apply RP.call
                rfl; rfl; rfl; rfl; rfl; rfl; rfl
                ·
                  refine seg_RP (f := 3000) (d := 1996) 4 (pc' := 6) (lv' := [(0, .ref 1), (1, .int (xs 2))]) (st' := [.int 200, .int 0, .int (xs 2), .ref 1]) (H' := _) (kc' := 0) (ks' := 0) rfl ?_
                  apply RP.call
                  rfl; rfl; rfl; rfl; rfl; rfl; rfl
                  ·
                    refine seg_RP (f := 3000) (d := 1995) 2 (pc' := 2) (lv' := [(0, .ref 1), (1, .int (xs 2)), (2, .int 0), (3, .int 200)]) (st' := [.int 0, .int (xs 2)]) (H' := _) (kc' := 0) (ks' := 0) rfl ?_
                    apply RP.brF
                    rfl; rfl; rfl
                    exact decide_eq_false (h0)
                    refine seg_RP (f := 3000) (d := 1995) 2 (pc' := 7) (lv' := [(0, .ref 1), (1, .int (xs 2)), (2, .int 0), (3, .int 200)]) (st' := [.int 200, .int (xs 2)]) (H' := _) (kc' := 0) (ks' := 0) rfl ?_
                    apply RP.brT
                    rfl; rfl; rfl
                    exact decide_eq_true (Int32.not_lt.mp (h1))
                    apply RP.done
                    rfl; rfl; rfl; rfl
                  apply RP.done
                  rfl; rfl; rfl; rfl
                refine seg_RP (f := 3000) (d := 1997) 2 (pc' := 7) (lv' := [(0, .ref 1), (1, .int (xs 2)), (2, .int (xs 3)), (3, .int (xs 4))]) (st' := [.int (xs 3), .ref 1]) (H' := _) (kc' := 0) (ks' := 0) rfl ?_
                apply RP.callP
                rfl; rfl; rfl; rfl; rfl; rfl; rfl
                ·
                  refine seg_RP (f := 3000) (d := 1996) 4 (pc' := 6) (lv' := [(0, .ref 1), (1, .int (xs 3))]) (st' := [.int 200, .int 0, .int (xs 3), .ref 1]) (H' := _) (kc' := 0) (ks' := 0) rfl ?_
                  apply RP.callP
                  rfl; rfl; rfl; rfl; rfl; rfl; rfl
                  ·
                    refine seg_RP (f := 3000) (d := 1995) 2 (pc' := 2) (lv' := [(0, .ref 1), (1, .int (xs 3)), (2, .int 0), (3, .int 200)]) (st' := [.int 0, .int (xs 3)]) (H' := _) (kc' := 0) (ks' := 0) rfl ?_
                    apply RP.brF
                    rfl; rfl; rfl
                    exact decide_eq_false (h2)
                    refine seg_RP (f := 3000) (d := 1995) 2 (pc' := 7) (lv' := [(0, .ref 1), (1, .int (xs 3)), (2, .int 0), (3, .int 200)]) (st' := [.int 200, .int (xs 3)]) (H' := _) (kc' := 0) (ks' := 0) rfl ?_
                    apply RP.brF
                    rfl; rfl; rfl
                    exact decide_eq_false (Int32.not_le.mpr (h3))
                    apply RP.done
                    rfl; rfl; rfl; rfl
                  rfl
                rfl
              rfl
              refine seg_RP (f := 3000) (d := 1998) 1 (pc' := 18) (lv' := [(0, .ref 1), (1, .int (xs 2)), (2, .int (xs 3)), (3, .int (xs 4)), (4, .ref 225)]) (st' := [.int 1]) (H' := _) (kc' := 1) (ks' := 6) rfl ?_
              apply RP.done
              rfl; rfl; rfl; rfl
            refine seg_RP (f := 3000) (d := 1999) 17 (pc' := 1519) (lv' := [(5, .int 1), (4, .int 1), (3, .ref 225), (2, .ref 196), (1, .ref 1), (0, .ref 0)]) (st' := [.int (xs 4), .int (xs 3), .int (xs 2), .ref 196]) (H' := _) (kc' := kc + 1) (ks' := ks + 6) rfl ?_
            apply RP.call
            rfl; rfl; rfl; rfl; rfl; rfl; rfl
            ·
              refine seg_RP (f := 3000) (d := 1998) 6 (pc' := 10) (lv' := [(0, .ref 196), (1, .int (xs 2)), (2, .int (xs 3)), (3, .int (xs 4))]) (st' := [.int 201, .int (xs 2), .ref 196]) (H' := _) (kc' := 0) (ks' := 0) rfl ?_
              apply RP.call
              rfl; rfl; rfl; rfl; rfl; rfl; rfl
              ·
                refine seg_RP (f := 3000) (d := 1997) 1 (pc' := 1) (lv' := [(0, .ref 196), (1, .int (xs 2)), (2, .int 201)]) (st' := [.int (xs 2)]) (H' := _) (kc' := 0) (ks' := 0) rfl ?_
                apply RP.brF
                rfl; rfl; rfl
                exact decide_eq_false (h0)
                refine seg_RP (f := 3000) (d := 1997) 2 (pc' := 6) (lv' := [(0, .ref 196), (1, .int (xs 2)), (2, .int 201)]) (st' := [.int 201, .int (xs 2)]) (H' := _) (kc' := 0) (ks' := 0) rfl ?_
                apply RP.brT
                rfl; rfl; rfl
                exact decide_eq_true (Int32.lt_of_le_of_lt (Int32.not_lt.mp (h1)) (show (200 : Int32) < 201 by decide))
                refine seg_RP (f := 3000) (d := 1997) 1 (pc' := 14) (lv' := [(0, .ref 196), (1, .int (xs 2)), (2, .int 201)]) (st' := [.int 0]) (H' := _) (kc' := 0) (ks' := 0) rfl ?_
                apply RP.done
                rfl; rfl; rfl; rfl
              refine seg_RP (f := 3000) (d := 1998) 4 (pc' := 21) (lv' := [(0, .ref 196), (1, .int (xs 2)), (2, .int (xs 3)), (3, .int (xs 4))]) (st' := [.int 201, .int (xs 3), .ref 196]) (H' := _) (kc' := 0) (ks' := 0) rfl ?_
              apply RP.call
              rfl; rfl; rfl; rfl; rfl; rfl; rfl
              ·
                refine seg_RP (f := 3000) (d := 1997) 1 (pc' := 1) (lv' := [(0, .ref 196), (1, .int (xs 3)), (2, .int 201)]) (st' := [.int (xs 3)]) (H' := _) (kc' := 0) (ks' := 0) rfl ?_
                apply RP.brF
                rfl; rfl; rfl
                exact decide_eq_false (h2)
                refine seg_RP (f := 3000) (d := 1997) 2 (pc' := 6) (lv' := [(0, .ref 196), (1, .int (xs 3)), (2, .int 201)]) (st' := [.int 201, .int (xs 3)]) (H' := _) (kc' := 0) (ks' := 0) rfl ?_
                apply RP.brF
                rfl; rfl; rfl
                exact decide_eq_false (i32_gap (h3) (show (201 : Int32) ≤ 200 + 1 by decide) (by decide))
                refine seg_RP (f := 3000) (d := 1997) 2 (pc' := 14) (lv' := [(0, .ref 196), (1, .int (xs 3)), (2, .int 201)]) (st' := [.int 1]) (H' := _) (kc' := 0) (ks' := 0) rfl ?_
                apply RP.done
                rfl; rfl; rfl; rfl
              refine seg_RP (f := 3000) (d := 1998) 4 (pc' := 71) (lv' := [(0, .ref 196), (1, .int (xs 2)), (2, .int (xs 3)), (3, .int (xs 4))]) (st' := [.int 0]) (H' := _) (kc' := 0) (ks' := 0) rfl ?_
              apply RP.done
              rfl; rfl; rfl; rfl
            refine seg_RP (f := 3000) (d := 1999) 13 (pc' := 37) (lv' := [(4, .int 7), (6, .int 0), (5, .int 1), (3, .ref 225), (2, .ref 196), (1, .ref 1), (0, .ref 0)]) (st' := [.int 7, .int 7]) (H' := _) (kc' := kc + 1) (ks' := ks + 6) rfl ?_
            refine seg_RP (f := 3000) (d := 1999) 4 (pc' := 1958) (lv' := [(4, .int 7), (6, .int 0), (5, .int 1), (3, .ref 225), (2, .ref 196), (1, .ref 1), (0, .ref 0)]) (st' := [.int 1]) (H' := _) (kc' := kc + 1) (ks' := ks + 6) rfl ?_
            apply RP.done
            rfl; rfl; rfl; rfl
          · omega
          · omega
        ·
          by_cases h4 : (xs 4) < 1
          ·
            by_cases h5 : (xs 4) < 0
            ·
              apply GR.mk
              ·
                refine seg_RP (f := 3000) (d := 1999) 17 (pc' := 1495) (lv' := [(4, .int 1), (3, .ref 225), (2, .ref 196), (1, .ref 1), (0, .ref 0)]) (st' := [.ref 225, .int (xs 4), .int (xs 3), .int (xs 2), .ref 1]) (H' := _) (kc' := kc) (ks' := ks) rfl ?_
                apply RP.call
                rfl; rfl; rfl; rfl; rfl; rfl; rfl
                ·
                  refine seg_RP (f := 3000) (d := 1998) 6 (pc' := 7) (lv' := [(0, .ref 1), (1, .int (xs 2)), (2, .int (xs 3)), (3, .int (xs 4)), (4, .ref 225)]) (st' := [.int (xs 4), .int (xs 3), .int (xs 2), .ref 1, .int 0, .ref 225]) (H' := _) (kc' := 0) (ks' := 0) rfl ?_
                  apply RP.callX
                  rfl; rfl; rfl; rfl; rfl; rfl; rfl
                  ·
                    refine seg_RP (f := 3000) (d := 1997) 2 (pc' := 2) (lv' := [(0, .ref 1), (1, .int (xs 2)), (2, .int (xs 3)), (3, .int (xs 4))]) (st' := [.int (xs 2), .ref 1]) (H' := _) (kc' := 0) (ks' := 0) rfl ?_
                    apply RP.call
                    rfl; rfl; rfl; rfl; rfl; rfl; rfl
                    ·
                      refine seg_RP (f := 3000) (d := 1996) 4 (pc' := 6) (lv' := [(0, .ref 1), (1, .int (xs 2))]) (st' := [.int 200, .int 0, .int (xs 2), .ref 1]) (H' := _) (kc' := 0) (ks' := 0) rfl ?_
                      apply RP.call
                      rfl; rfl; rfl; rfl; rfl; rfl; rfl
                      ·
                        refine seg_RP (f := 3000) (d := 1995) 2 (pc' := 2) (lv' := [(0, .ref 1), (1, .int (xs 2)), (2, .int 0), (3, .int 200)]) (st' := [.int 0, .int (xs 2)]) (H' := _) (kc' := 0) (ks' := 0) rfl ?_
                        apply RP.brF
                        rfl; rfl; rfl
                        exact decide_eq_false (h0)
                        refine seg_RP (f := 3000) (d := 1995) 2 (pc' := 7) (lv' := [(0, .ref 1), (1, .int (xs 2)), (2, .int 0), (3, .int 200)]) (st' := [.int 200, .int (xs 2)]) (H' := _) (kc' := 0) (ks' := 0) rfl ?_
                        apply RP.brT
                        rfl; rfl; rfl
                        exact decide_eq_true (Int32.not_lt.mp (h1))
                        apply RP.done
                        rfl; rfl; rfl; rfl
                      apply RP.done
                      rfl; rfl; rfl; rfl
                    refine seg_RP (f := 3000) (d := 1997) 2 (pc' := 7) (lv' := [(0, .ref 1), (1, .int (xs 2)), (2, .int (xs 3)), (3, .int (xs 4))]) (st' := [.int (xs 3), .ref 1]) (H' := _) (kc' := 0) (ks' := 0) rfl ?_
                    apply RP.call
                    rfl; rfl; rfl; rfl; rfl; rfl; rfl
                    ·
                      refine seg_RP (f := 3000) (d := 1996) 4 (pc' := 6) (lv' := [(0, .ref 1), (1, .int (xs 3))]) (st' := [.int 200, .int 0, .int (xs 3), .ref 1]) (H' := _) (kc' := 0) (ks' := 0) rfl ?_
                      apply RP.call
                      rfl; rfl; rfl; rfl; rfl; rfl; rfl
                      ·
                        refine seg_RP (f := 3000) (d := 1995) 2 (pc' := 2) (lv' := [(0, .ref 1), (1, .int (xs 3)), (2, .int 0), (3, .int 200)]) (st' := [.int 0, .int (xs 3)]) (H' := _) (kc' := 0) (ks' := 0) rfl ?_
                        apply RP.brF
                        rfl; rfl; rfl
                        exact decide_eq_false (h2)
                        refine seg_RP (f := 3000) (d := 1995) 2 (pc' := 7) (lv' := [(0, .ref 1), (1, .int (xs 3)), (2, .int 0), (3, .int 200)]) (st' := [.int 200, .int (xs 3)]) (H' := _) (kc' := 0) (ks' := 0) rfl ?_
                        apply RP.brT
                        rfl; rfl; rfl
                        exact decide_eq_true (Int32.not_lt.mp (h3))
                        apply RP.done
                        rfl; rfl; rfl; rfl
                      apply RP.done
                      rfl; rfl; rfl; rfl
                    refine seg_RP (f := 3000) (d := 1997) 8 (pc' := 25) (lv' := [(0, .ref 1), (1, .int (xs 2)), (2, .int (xs 3)), (3, .int (xs 4))]) (st' := [.int 0, .int 1, .int (xs 4), .ref 1]) (H' := _) (kc' := 0) (ks' := 0) rfl ?_
                    apply RP.callP
                    rfl; rfl; rfl; rfl; rfl; rfl; rfl
                    ·
                      refine seg_RP (f := 3000) (d := 1996) 2 (pc' := 2) (lv' := [(0, .ref 1), (1, .int (xs 4)), (2, .int 1), (3, .int 0)]) (st' := [.int 1, .int (xs 4)]) (H' := _) (kc' := 0) (ks' := 0) rfl ?_
                      apply RP.brT
                      rfl; rfl; rfl
                      exact decide_eq_true (h4)
                      apply RP.done
                      rfl; rfl; rfl; rfl
                    rfl
                  rfl
                  refine seg_RP (f := 3000) (d := 1998) 1 (pc' := 18) (lv' := [(0, .ref 1), (1, .int (xs 2)), (2, .int (xs 3)), (3, .int (xs 4)), (4, .ref 225)]) (st' := [.int 1]) (H' := _) (kc' := 1) (ks' := 6) rfl ?_
                  apply RP.done
                  rfl; rfl; rfl; rfl
                refine seg_RP (f := 3000) (d := 1999) 17 (pc' := 1519) (lv' := [(5, .int 1), (4, .int 1), (3, .ref 225), (2, .ref 196), (1, .ref 1), (0, .ref 0)]) (st' := [.int (xs 4), .int (xs 3), .int (xs 2), .ref 196]) (H' := _) (kc' := kc + 1) (ks' := ks + 6) rfl ?_
                apply RP.call
                rfl; rfl; rfl; rfl; rfl; rfl; rfl
                ·
                  refine seg_RP (f := 3000) (d := 1998) 6 (pc' := 10) (lv' := [(0, .ref 196), (1, .int (xs 2)), (2, .int (xs 3)), (3, .int (xs 4))]) (st' := [.int 201, .int (xs 2), .ref 196]) (H' := _) (kc' := 0) (ks' := 0) rfl ?_
                  apply RP.call
                  rfl; rfl; rfl; rfl; rfl; rfl; rfl
                  ·
                    refine seg_RP (f := 3000) (d := 1997) 1 (pc' := 1) (lv' := [(0, .ref 196), (1, .int (xs 2)), (2, .int 201)]) (st' := [.int (xs 2)]) (H' := _) (kc' := 0) (ks' := 0) rfl ?_
                    apply RP.brF
                    rfl; rfl; rfl
                    exact decide_eq_false (h0)
                    refine seg_RP (f := 3000) (d := 1997) 2 (pc' := 6) (lv' := [(0, .ref 196), (1, .int (xs 2)), (2, .int 201)]) (st' := [.int 201, .int (xs 2)]) (H' := _) (kc' := 0) (ks' := 0) rfl ?_
                    apply RP.brT
                    rfl; rfl; rfl
                    exact decide_eq_true (Int32.lt_of_le_of_lt (Int32.not_lt.mp (h1)) (show (200 : Int32) < 201 by decide))
                    refine seg_RP (f := 3000) (d := 1997) 1 (pc' := 14) (lv' := [(0, .ref 196), (1, .int (xs 2)), (2, .int 201)]) (st' := [.int 0]) (H' := _) (kc' := 0) (ks' := 0) rfl ?_
                    apply RP.done
                    rfl; rfl; rfl; rfl
                  refine seg_RP (f := 3000) (d := 1998) 4 (pc' := 21) (lv' := [(0, .ref 196), (1, .int (xs 2)), (2, .int (xs 3)), (3, .int (xs 4))]) (st' := [.int 201, .int (xs 3), .ref 196]) (H' := _) (kc' := 0) (ks' := 0) rfl ?_
                  apply RP.call
                  rfl; rfl; rfl; rfl; rfl; rfl; rfl
                  ·
                    refine seg_RP (f := 3000) (d := 1997) 1 (pc' := 1) (lv' := [(0, .ref 196), (1, .int (xs 3)), (2, .int 201)]) (st' := [.int (xs 3)]) (H' := _) (kc' := 0) (ks' := 0) rfl ?_
                    apply RP.brF
                    rfl; rfl; rfl
                    exact decide_eq_false (h2)
                    refine seg_RP (f := 3000) (d := 1997) 2 (pc' := 6) (lv' := [(0, .ref 196), (1, .int (xs 3)), (2, .int 201)]) (st' := [.int 201, .int (xs 3)]) (H' := _) (kc' := 0) (ks' := 0) rfl ?_
                    apply RP.brT
                    rfl; rfl; rfl
                    exact decide_eq_true (Int32.lt_of_le_of_lt (Int32.not_lt.mp (h3)) (show (200 : Int32) < 201 by decide))
                    refine seg_RP (f := 3000) (d := 1997) 1 (pc' := 14) (lv' := [(0, .ref 196), (1, .int (xs 3)), (2, .int 201)]) (st' := [.int 0]) (H' := _) (kc' := 0) (ks' := 0) rfl ?_
                    apply RP.done
                    rfl; rfl; rfl; rfl
                  refine seg_RP (f := 3000) (d := 1998) 7 (pc' := 35) (lv' := [(0, .ref 196), (1, .int (xs 2)), (2, .int (xs 3)), (3, .int (xs 4))]) (st' := [.int 0, .int (xs 4), .ref 196, .int 0, .ref 196]) (H' := _) (kc' := 0) (ks' := 0) rfl ?_
                  apply RP.call
                  rfl; rfl; rfl; rfl; rfl; rfl; rfl
                  ·
                    refine seg_RP (f := 3000) (d := 1997) 2 (pc' := 2) (lv' := [(0, .ref 196), (1, .int (xs 4)), (2, .int 0)]) (st' := [.int 0, .int (xs 4)]) (H' := _) (kc' := 0) (ks' := 0) rfl ?_
                    apply RP.brF
                    rfl; rfl; rfl
                    exact decide_eq_false (Int32.not_le.mpr (h5))
                    refine seg_RP (f := 3000) (d := 1997) 2 (pc' := 10) (lv' := [(0, .ref 196), (1, .int (xs 4)), (2, .int 0)]) (st' := [.int (xs 4)]) (H' := _) (kc' := 0) (ks' := 0) rfl ?_
                    apply RP.done
                    rfl; rfl; rfl; rfl
                  apply RP.call
                  rfl; rfl; rfl; rfl; rfl; rfl; rfl
                  ·
                    refine seg_RP (f := 3000) (d := 1997) 2 (pc' := 2) (lv' := [(0, .ref 196), (1, .int 0), (2, .int (xs 4))]) (st' := [.int 1, .int (xs 4)]) (H' := _) (kc' := 0) (ks' := 0) rfl ?_
                    apply RP.brT
                    rfl; rfl; rfl
                    exact decide_eq_true (h4)
                    refine seg_RP (f := 3000) (d := 1997) 1 (pc' := 12) (lv' := [(0, .ref 196), (1, .int 0), (2, .int (xs 4))]) (st' := [.int 0]) (H' := _) (kc' := 0) (ks' := 0) rfl ?_
                    apply RP.done
                    rfl; rfl; rfl; rfl
                  refine seg_RP (f := 3000) (d := 1998) 4 (pc' := 71) (lv' := [(0, .ref 196), (1, .int (xs 2)), (2, .int (xs 3)), (3, .int (xs 4))]) (st' := [.int 0]) (H' := _) (kc' := 0) (ks' := 0) rfl ?_
                  apply RP.done
                  rfl; rfl; rfl; rfl
                refine seg_RP (f := 3000) (d := 1999) 13 (pc' := 37) (lv' := [(4, .int 7), (6, .int 0), (5, .int 1), (3, .ref 225), (2, .ref 196), (1, .ref 1), (0, .ref 0)]) (st' := [.int 7, .int 7]) (H' := _) (kc' := kc + 1) (ks' := ks + 6) rfl ?_
                refine seg_RP (f := 3000) (d := 1999) 4 (pc' := 1958) (lv' := [(4, .int 7), (6, .int 0), (5, .int 1), (3, .ref 225), (2, .ref 196), (1, .ref 1), (0, .ref 0)]) (st' := [.int 1]) (H' := _) (kc' := kc + 1) (ks' := ks + 6) rfl ?_
                apply RP.done
                rfl; rfl; rfl; rfl
              · omega
              · omega
            ·
              apply GR.mk
              ·
                refine seg_RP (f := 3000) (d := 1999) 17 (pc' := 1495) (lv' := [(4, .int 1), (3, .ref 225), (2, .ref 196), (1, .ref 1), (0, .ref 0)]) (st' := [.ref 225, .int (xs 4), .int (xs 3), .int (xs 2), .ref 1]) (H' := _) (kc' := kc) (ks' := ks) rfl ?_
                apply RP.call
                rfl; rfl; rfl; rfl; rfl; rfl; rfl
                ·
                  refine seg_RP (f := 3000) (d := 1998) 6 (pc' := 7) (lv' := [(0, .ref 1), (1, .int (xs 2)), (2, .int (xs 3)), (3, .int (xs 4)), (4, .ref 225)]) (st' := [.int (xs 4), .int (xs 3), .int (xs 2), .ref 1, .int 0, .ref 225]) (H' := _) (kc' := 0) (ks' := 0) rfl ?_
                  apply RP.callX
                  rfl; rfl; rfl; rfl; rfl; rfl; rfl
                  ·
                    refine seg_RP (f := 3000) (d := 1997) 2 (pc' := 2) (lv' := [(0, .ref 1), (1, .int (xs 2)), (2, .int (xs 3)), (3, .int (xs 4))]) (st' := [.int (xs 2), .ref 1]) (H' := _) (kc' := 0) (ks' := 0) rfl ?_
                    apply RP.call
                    rfl; rfl; rfl; rfl; rfl; rfl; rfl
                    ·
                      refine seg_RP (f := 3000) (d := 1996) 4 (pc' := 6) (lv' := [(0, .ref 1), (1, .int (xs 2))]) (st' := [.int 200, .int 0, .int (xs 2), .ref 1]) (H' := _) (kc' := 0) (ks' := 0) rfl ?_
                      apply RP.call
                      rfl; rfl; rfl; rfl; rfl; rfl; rfl
                      ·
                        refine seg_RP (f := 3000) (d := 1995) 2 (pc' := 2) (lv' := [(0, .ref 1), (1, .int (xs 2)), (2, .int 0), (3, .int 200)]) (st' := [.int 0, .int (xs 2)]) (H' := _) (kc' := 0) (ks' := 0) rfl ?_
                        apply RP.brF
                        rfl; rfl; rfl
                        exact decide_eq_false (h0)
                        refine seg_RP (f := 3000) (d := 1995) 2 (pc' := 7) (lv' := [(0, .ref 1), (1, .int (xs 2)), (2, .int 0), (3, .int 200)]) (st' := [.int 200, .int (xs 2)]) (H' := _) (kc' := 0) (ks' := 0) rfl ?_
                        apply RP.brT
                        rfl; rfl; rfl
                        exact decide_eq_true (Int32.not_lt.mp (h1))
                        apply RP.done
                        rfl; rfl; rfl; rfl
                      apply RP.done
                      rfl; rfl; rfl; rfl
                    refine seg_RP (f := 3000) (d := 1997) 2 (pc' := 7) (lv' := [(0, .ref 1), (1, .int (xs 2)), (2, .int (xs 3)), (3, .int (xs 4))]) (st' := [.int (xs 3), .ref 1]) (H' := _) (kc' := 0) (ks' := 0) rfl ?_
                    apply RP.call
                    rfl; rfl; rfl; rfl; rfl; rfl; rfl
                    ·
                      refine seg_RP (f := 3000) (d := 1996) 4 (pc' := 6) (lv' := [(0, .ref 1), (1, .int (xs 3))]) (st' := [.int 200, .int 0, .int (xs 3), .ref 1]) (H' := _) (kc' := 0) (ks' := 0) rfl ?_
                      apply RP.call
                      rfl; rfl; rfl; rfl; rfl; rfl; rfl
                      ·
                        refine seg_RP (f := 3000) (d := 1995) 2 (pc' := 2) (lv' := [(0, .ref 1), (1, .int (xs 3)), (2, .int 0), (3, .int 200)]) (st' := [.int 0, .int (xs 3)]) (H' := _) (kc' := 0) (ks' := 0) rfl ?_
                        apply RP.brF
                        rfl; rfl; rfl
                        exact decide_eq_false (h2)
                        refine seg_RP (f := 3000) (d := 1995) 2 (pc' := 7) (lv' := [(0, .ref 1), (1, .int (xs 3)), (2, .int 0), (3, .int 200)]) (st' := [.int 200, .int (xs 3)]) (H' := _) (kc' := 0) (ks' := 0) rfl ?_
                        apply RP.brT
                        rfl; rfl; rfl
                        exact decide_eq_true (Int32.not_lt.mp (h3))
                        apply RP.done
                        rfl; rfl; rfl; rfl
                      apply RP.done
                      rfl; rfl; rfl; rfl
                    refine seg_RP (f := 3000) (d := 1997) 8 (pc' := 25) (lv' := [(0, .ref 1), (1, .int (xs 2)), (2, .int (xs 3)), (3, .int (xs 4))]) (st' := [.int 0, .int 1, .int (xs 4), .ref 1]) (H' := _) (kc' := 0) (ks' := 0) rfl ?_
                    apply RP.callP
                    rfl; rfl; rfl; rfl; rfl; rfl; rfl
                    ·
                      refine seg_RP (f := 3000) (d := 1996) 2 (pc' := 2) (lv' := [(0, .ref 1), (1, .int (xs 4)), (2, .int 1), (3, .int 0)]) (st' := [.int 1, .int (xs 4)]) (H' := _) (kc' := 0) (ks' := 0) rfl ?_
                      apply RP.brT
                      rfl; rfl; rfl
                      exact decide_eq_true (h4)
                      apply RP.done
                      rfl; rfl; rfl; rfl
                    rfl
                  rfl
                  refine seg_RP (f := 3000) (d := 1998) 1 (pc' := 18) (lv' := [(0, .ref 1), (1, .int (xs 2)), (2, .int (xs 3)), (3, .int (xs 4)), (4, .ref 225)]) (st' := [.int 1]) (H' := _) (kc' := 1) (ks' := 6) rfl ?_
                  apply RP.done
                  rfl; rfl; rfl; rfl
                refine seg_RP (f := 3000) (d := 1999) 17 (pc' := 1519) (lv' := [(5, .int 1), (4, .int 1), (3, .ref 225), (2, .ref 196), (1, .ref 1), (0, .ref 0)]) (st' := [.int (xs 4), .int (xs 3), .int (xs 2), .ref 196]) (H' := _) (kc' := kc + 1) (ks' := ks + 6) rfl ?_
                apply RP.call
                rfl; rfl; rfl; rfl; rfl; rfl; rfl
                ·
                  refine seg_RP (f := 3000) (d := 1998) 6 (pc' := 10) (lv' := [(0, .ref 196), (1, .int (xs 2)), (2, .int (xs 3)), (3, .int (xs 4))]) (st' := [.int 201, .int (xs 2), .ref 196]) (H' := _) (kc' := 0) (ks' := 0) rfl ?_
                  apply RP.call
                  rfl; rfl; rfl; rfl; rfl; rfl; rfl
                  ·
                    refine seg_RP (f := 3000) (d := 1997) 1 (pc' := 1) (lv' := [(0, .ref 196), (1, .int (xs 2)), (2, .int 201)]) (st' := [.int (xs 2)]) (H' := _) (kc' := 0) (ks' := 0) rfl ?_
                    apply RP.brF
                    rfl; rfl; rfl
                    exact decide_eq_false (h0)
                    refine seg_RP (f := 3000) (d := 1997) 2 (pc' := 6) (lv' := [(0, .ref 196), (1, .int (xs 2)), (2, .int 201)]) (st' := [.int 201, .int (xs 2)]) (H' := _) (kc' := 0) (ks' := 0) rfl ?_
                    apply RP.brT
                    rfl; rfl; rfl
                    exact decide_eq_true (Int32.lt_of_le_of_lt (Int32.not_lt.mp (h1)) (show (200 : Int32) < 201 by decide))
                    refine seg_RP (f := 3000) (d := 1997) 1 (pc' := 14) (lv' := [(0, .ref 196), (1, .int (xs 2)), (2, .int 201)]) (st' := [.int 0]) (H' := _) (kc' := 0) (ks' := 0) rfl ?_
                    apply RP.done
                    rfl; rfl; rfl; rfl
                  refine seg_RP (f := 3000) (d := 1998) 4 (pc' := 21) (lv' := [(0, .ref 196), (1, .int (xs 2)), (2, .int (xs 3)), (3, .int (xs 4))]) (st' := [.int 201, .int (xs 3), .ref 196]) (H' := _) (kc' := 0) (ks' := 0) rfl ?_
                  apply RP.call
                  rfl; rfl; rfl; rfl; rfl; rfl; rfl
                  ·
                    refine seg_RP (f := 3000) (d := 1997) 1 (pc' := 1) (lv' := [(0, .ref 196), (1, .int (xs 3)), (2, .int 201)]) (st' := [.int (xs 3)]) (H' := _) (kc' := 0) (ks' := 0) rfl ?_
                    apply RP.brF
                    rfl; rfl; rfl
                    exact decide_eq_false (h2)
                    refine seg_RP (f := 3000) (d := 1997) 2 (pc' := 6) (lv' := [(0, .ref 196), (1, .int (xs 3)), (2, .int 201)]) (st' := [.int 201, .int (xs 3)]) (H' := _) (kc' := 0) (ks' := 0) rfl ?_
                    apply RP.brT
                    rfl; rfl; rfl
                    exact decide_eq_true (Int32.lt_of_le_of_lt (Int32.not_lt.mp (h3)) (show (200 : Int32) < 201 by decide))
                    refine seg_RP (f := 3000) (d := 1997) 1 (pc' := 14) (lv' := [(0, .ref 196), (1, .int (xs 3)), (2, .int 201)]) (st' := [.int 0]) (H' := _) (kc' := 0) (ks' := 0) rfl ?_
                    apply RP.done
                    rfl; rfl; rfl; rfl
                  refine seg_RP (f := 3000) (d := 1998) 7 (pc' := 35) (lv' := [(0, .ref 196), (1, .int (xs 2)), (2, .int (xs 3)), (3, .int (xs 4))]) (st' := [.int 0, .int (xs 4), .ref 196, .int 0, .ref 196]) (H' := _) (kc' := 0) (ks' := 0) rfl ?_
                  apply RP.call
                  rfl; rfl; rfl; rfl; rfl; rfl; rfl
                  ·
                    refine seg_RP (f := 3000) (d := 1997) 2 (pc' := 2) (lv' := [(0, .ref 196), (1, .int (xs 4)), (2, .int 0)]) (st' := [.int 0, .int (xs 4)]) (H' := _) (kc' := 0) (ks' := 0) rfl ?_
                    apply RP.brT
                    rfl; rfl; rfl
                    exact decide_eq_true (Int32.not_lt.mp (h5))
                    refine seg_RP (f := 3000) (d := 1997) 1 (pc' := 10) (lv' := [(0, .ref 196), (1, .int (xs 4)), (2, .int 0)]) (st' := [.int 0]) (H' := _) (kc' := 0) (ks' := 0) rfl ?_
                    apply RP.done
                    rfl; rfl; rfl; rfl
                  refine seg_RP (f := 3000) (d := 1998) 5 (pc' := 71) (lv' := [(0, .ref 196), (1, .int (xs 2)), (2, .int (xs 3)), (3, .int (xs 4))]) (st' := [.int 0]) (H' := _) (kc' := 0) (ks' := 0) rfl ?_
                  apply RP.done
                  rfl; rfl; rfl; rfl
                refine seg_RP (f := 3000) (d := 1999) 13 (pc' := 37) (lv' := [(4, .int 7), (6, .int 0), (5, .int 1), (3, .ref 225), (2, .ref 196), (1, .ref 1), (0, .ref 0)]) (st' := [.int 7, .int 7]) (H' := _) (kc' := kc + 1) (ks' := ks + 6) rfl ?_
                refine seg_RP (f := 3000) (d := 1999) 4 (pc' := 1958) (lv' := [(4, .int 7), (6, .int 0), (5, .int 1), (3, .ref 225), (2, .ref 196), (1, .ref 1), (0, .ref 0)]) (st' := [.int 1]) (H' := _) (kc' := kc + 1) (ks' := ks + 6) rfl ?_
                apply RP.done
                rfl; rfl; rfl; rfl
              · omega
              · omega
          ·
            apply GR.mk
            ·
              refine seg_RP (f := 3000) (d := 1999) 17 (pc' := 1495) (lv' := [(4, .int 1), (3, .ref 225), (2, .ref 196), (1, .ref 1), (0, .ref 0)]) (st' := [.ref 225, .int (xs 4), .int (xs 3), .int (xs 2), .ref 1]) (H' := _) (kc' := kc) (ks' := ks) rfl ?_
              apply RP.call
              rfl; rfl; rfl; rfl; rfl; rfl; rfl
              ·
                refine seg_RP (f := 3000) (d := 1998) 6 (pc' := 7) (lv' := [(0, .ref 1), (1, .int (xs 2)), (2, .int (xs 3)), (3, .int (xs 4)), (4, .ref 225)]) (st' := [.int (xs 4), .int (xs 3), .int (xs 2), .ref 1, .int 0, .ref 225]) (H' := _) (kc' := 0) (ks' := 0) rfl ?_
                apply RP.callX
                rfl; rfl; rfl; rfl; rfl; rfl; rfl
                ·
                  refine seg_RP (f := 3000) (d := 1997) 2 (pc' := 2) (lv' := [(0, .ref 1), (1, .int (xs 2)), (2, .int (xs 3)), (3, .int (xs 4))]) (st' := [.int (xs 2), .ref 1]) (H' := _) (kc' := 0) (ks' := 0) rfl ?_
                  apply RP.call
                  rfl; rfl; rfl; rfl; rfl; rfl; rfl
                  ·
                    refine seg_RP (f := 3000) (d := 1996) 4 (pc' := 6) (lv' := [(0, .ref 1), (1, .int (xs 2))]) (st' := [.int 200, .int 0, .int (xs 2), .ref 1]) (H' := _) (kc' := 0) (ks' := 0) rfl ?_
                    apply RP.call
                    rfl; rfl; rfl; rfl; rfl; rfl; rfl
                    ·
                      refine seg_RP (f := 3000) (d := 1995) 2 (pc' := 2) (lv' := [(0, .ref 1), (1, .int (xs 2)), (2, .int 0), (3, .int 200)]) (st' := [.int 0, .int (xs 2)]) (H' := _) (kc' := 0) (ks' := 0) rfl ?_
                      apply RP.brF
                      rfl; rfl; rfl
                      exact decide_eq_false (h0)
                      refine seg_RP (f := 3000) (d := 1995) 2 (pc' := 7) (lv' := [(0, .ref 1), (1, .int (xs 2)), (2, .int 0), (3, .int 200)]) (st' := [.int 200, .int (xs 2)]) (H' := _) (kc' := 0) (ks' := 0) rfl ?_
                      apply RP.brT
                      rfl; rfl; rfl
                      exact decide_eq_true (Int32.not_lt.mp (h1))
                      apply RP.done
                      rfl; rfl; rfl; rfl
                    apply RP.done
                    rfl; rfl; rfl; rfl
                  refine seg_RP (f := 3000) (d := 1997) 2 (pc' := 7) (lv' := [(0, .ref 1), (1, .int (xs 2)), (2, .int (xs 3)), (3, .int (xs 4))]) (st' := [.int (xs 3), .ref 1]) (H' := _) (kc' := 0) (ks' := 0) rfl ?_
                  apply RP.call
                  rfl; rfl; rfl; rfl; rfl; rfl; rfl
                  ·
                    refine seg_RP (f := 3000) (d := 1996) 4 (pc' := 6) (lv' := [(0, .ref 1), (1, .int (xs 3))]) (st' := [.int 200, .int 0, .int (xs 3), .ref 1]) (H' := _) (kc' := 0) (ks' := 0) rfl ?_
                    apply RP.call
                    rfl; rfl; rfl; rfl; rfl; rfl; rfl
                    ·
                      refine seg_RP (f := 3000) (d := 1995) 2 (pc' := 2) (lv' := [(0, .ref 1), (1, .int (xs 3)), (2, .int 0), (3, .int 200)]) (st' := [.int 0, .int (xs 3)]) (H' := _) (kc' := 0) (ks' := 0) rfl ?_
                      apply RP.brF
                      rfl; rfl; rfl
                      exact decide_eq_false (h2)
                      refine seg_RP (f := 3000) (d := 1995) 2 (pc' := 7) (lv' := [(0, .ref 1), (1, .int (xs 3)), (2, .int 0), (3, .int 200)]) (st' := [.int 200, .int (xs 3)]) (H' := _) (kc' := 0) (ks' := 0) rfl ?_
                      apply RP.brT
                      rfl; rfl; rfl
                      exact decide_eq_true (Int32.not_lt.mp (h3))
                      apply RP.done
                      rfl; rfl; rfl; rfl
                    apply RP.done
                    rfl; rfl; rfl; rfl
                  refine seg_RP (f := 3000) (d := 1997) 8 (pc' := 25) (lv' := [(0, .ref 1), (1, .int (xs 2)), (2, .int (xs 3)), (3, .int (xs 4))]) (st' := [.int 0, .int 1, .int (xs 4), .ref 1]) (H' := _) (kc' := 0) (ks' := 0) rfl ?_
                  apply RP.callP
                  rfl; rfl; rfl; rfl; rfl; rfl; rfl
                  ·
                    refine seg_RP (f := 3000) (d := 1996) 2 (pc' := 2) (lv' := [(0, .ref 1), (1, .int (xs 4)), (2, .int 1), (3, .int 0)]) (st' := [.int 1, .int (xs 4)]) (H' := _) (kc' := 0) (ks' := 0) rfl ?_
                    apply RP.brF
                    rfl; rfl; rfl
                    exact decide_eq_false (h4)
                    refine seg_RP (f := 3000) (d := 1996) 2 (pc' := 7) (lv' := [(0, .ref 1), (1, .int (xs 4)), (2, .int 1), (3, .int 0)]) (st' := [.int 0, .int (xs 4)]) (H' := _) (kc' := 0) (ks' := 0) rfl ?_
                    apply RP.brF
                    rfl; rfl; rfl
                    exact decide_eq_false (Int32.not_le.mpr (Int32.lt_of_lt_of_le (show (0 : Int32) < 1 by decide) (Int32.not_lt.mp (h4))))
                    apply RP.done
                    rfl; rfl; rfl; rfl
                  rfl
                rfl
                refine seg_RP (f := 3000) (d := 1998) 1 (pc' := 18) (lv' := [(0, .ref 1), (1, .int (xs 2)), (2, .int (xs 3)), (3, .int (xs 4)), (4, .ref 225)]) (st' := [.int 1]) (H' := _) (kc' := 1) (ks' := 6) rfl ?_
                apply RP.done
                rfl; rfl; rfl; rfl
              refine seg_RP (f := 3000) (d := 1999) 17 (pc' := 1519) (lv' := [(5, .int 1), (4, .int 1), (3, .ref 225), (2, .ref 196), (1, .ref 1), (0, .ref 0)]) (st' := [.int (xs 4), .int (xs 3), .int (xs 2), .ref 196]) (H' := _) (kc' := kc + 1) (ks' := ks + 6) rfl ?_
              apply RP.call
              rfl; rfl; rfl; rfl; rfl; rfl; rfl
              ·
                refine seg_RP (f := 3000) (d := 1998) 6 (pc' := 10) (lv' := [(0, .ref 196), (1, .int (xs 2)), (2, .int (xs 3)), (3, .int (xs 4))]) (st' := [.int 201, .int (xs 2), .ref 196]) (H' := _) (kc' := 0) (ks' := 0) rfl ?_
                apply RP.call
                rfl; rfl; rfl; rfl; rfl; rfl; rfl
                ·
                  refine seg_RP (f := 3000) (d := 1997) 1 (pc' := 1) (lv' := [(0, .ref 196), (1, .int (xs 2)), (2, .int 201)]) (st' := [.int (xs 2)]) (H' := _) (kc' := 0) (ks' := 0) rfl ?_
                  apply RP.brF
                  rfl; rfl; rfl
                  exact decide_eq_false (h0)
                  refine seg_RP (f := 3000) (d := 1997) 2 (pc' := 6) (lv' := [(0, .ref 196), (1, .int (xs 2)), (2, .int 201)]) (st' := [.int 201, .int (xs 2)]) (H' := _) (kc' := 0) (ks' := 0) rfl ?_
                  apply RP.brT
                  rfl; rfl; rfl
                  exact decide_eq_true (Int32.lt_of_le_of_lt (Int32.not_lt.mp (h1)) (show (200 : Int32) < 201 by decide))
                  refine seg_RP (f := 3000) (d := 1997) 1 (pc' := 14) (lv' := [(0, .ref 196), (1, .int (xs 2)), (2, .int 201)]) (st' := [.int 0]) (H' := _) (kc' := 0) (ks' := 0) rfl ?_
                  apply RP.done
                  rfl; rfl; rfl; rfl
                refine seg_RP (f := 3000) (d := 1998) 4 (pc' := 21) (lv' := [(0, .ref 196), (1, .int (xs 2)), (2, .int (xs 3)), (3, .int (xs 4))]) (st' := [.int 201, .int (xs 3), .ref 196]) (H' := _) (kc' := 0) (ks' := 0) rfl ?_
                apply RP.call
                rfl; rfl; rfl; rfl; rfl; rfl; rfl
                ·
                  refine seg_RP (f := 3000) (d := 1997) 1 (pc' := 1) (lv' := [(0, .ref 196), (1, .int (xs 3)), (2, .int 201)]) (st' := [.int (xs 3)]) (H' := _) (kc' := 0) (ks' := 0) rfl ?_
                  apply RP.brF
                  rfl; rfl; rfl
                  exact decide_eq_false (h2)
                  refine seg_RP (f := 3000) (d := 1997) 2 (pc' := 6) (lv' := [(0, .ref 196), (1, .int (xs 3)), (2, .int 201)]) (st' := [.int 201, .int (xs 3)]) (H' := _) (kc' := 0) (ks' := 0) rfl ?_
                  apply RP.brT
                  rfl; rfl; rfl
                  exact decide_eq_true (Int32.lt_of_le_of_lt (Int32.not_lt.mp (h3)) (show (200 : Int32) < 201 by decide))
                  refine seg_RP (f := 3000) (d := 1997) 1 (pc' := 14) (lv' := [(0, .ref 196), (1, .int (xs 3)), (2, .int 201)]) (st' := [.int 0]) (H' := _) (kc' := 0) (ks' := 0) rfl ?_
                  apply RP.done
                  rfl; rfl; rfl; rfl
                refine seg_RP (f := 3000) (d := 1998) 7 (pc' := 35) (lv' := [(0, .ref 196), (1, .int (xs 2)), (2, .int (xs 3)), (3, .int (xs 4))]) (st' := [.int 0, .int (xs 4), .ref 196, .int 0, .ref 196]) (H' := _) (kc' := 0) (ks' := 0) rfl ?_
                apply RP.call
                rfl; rfl; rfl; rfl; rfl; rfl; rfl
                ·
                  refine seg_RP (f := 3000) (d := 1997) 2 (pc' := 2) (lv' := [(0, .ref 196), (1, .int (xs 4)), (2, .int 0)]) (st' := [.int 0, .int (xs 4)]) (H' := _) (kc' := 0) (ks' := 0) rfl ?_
                  apply RP.brT
                  rfl; rfl; rfl
                  exact decide_eq_true (Int32.not_lt.mp (fun g => (h4) (Int32.lt_of_lt_of_le g (show (0 : Int32) ≤ 1 by decide))))
                  refine seg_RP (f := 3000) (d := 1997) 1 (pc' := 10) (lv' := [(0, .ref 196), (1, .int (xs 4)), (2, .int 0)]) (st' := [.int 0]) (H' := _) (kc' := 0) (ks' := 0) rfl ?_
                  apply RP.done
                  rfl; rfl; rfl; rfl
                refine seg_RP (f := 3000) (d := 1998) 5 (pc' := 71) (lv' := [(0, .ref 196), (1, .int (xs 2)), (2, .int (xs 3)), (3, .int (xs 4))]) (st' := [.int 0]) (H' := _) (kc' := 0) (ks' := 0) rfl ?_
                apply RP.done
                rfl; rfl; rfl; rfl
              refine seg_RP (f := 3000) (d := 1999) 13 (pc' := 37) (lv' := [(4, .int 7), (6, .int 0), (5, .int 1), (3, .ref 225), (2, .ref 196), (1, .ref 1), (0, .ref 0)]) (st' := [.int 7, .int 7]) (H' := _) (kc' := kc + 1) (ks' := ks + 6) rfl ?_
              refine seg_RP (f := 3000) (d := 1999) 4 (pc' := 1958) (lv' := [(4, .int 7), (6, .int 0), (5, .int 1), (3, .ref 225), (2, .ref 196), (1, .ref 1), (0, .ref 0)]) (st' := [.int 1]) (H' := _) (kc' := kc + 1) (ks' := ks + 6) rfl ?_
              apply RP.done
              rfl; rfl; rfl; rfl
            · omega
            · omega
