/-! ===== the law's case end as one step, in every state ===== -/
theorem step_end_bad {L i : Nat} {xs : Nat → Int32} {kc ks l n b : Nat} {H : aH} {f0 fs : List Value} {f : Nat → Int8} {r : tO × aH × Nat × Nat} (hL : L < 2 ^ 30) (h : i + 6 ≤ L) (h0 : H[0]? = some (kO 11 f0)) (ht : f0[1]? = some (.ref 2)) (hr : RowAt H 1 b n f l) (hm : H[195]? = some (kO 12 fs)) (hl : fs.length = 40) (hmt : fs[6]? = some (.int (nI l))) (hx : xs (i + 1) < 0 ∨ ¬ xs (i + 1) ≤ nI l)
    (k : RP (L, xs) 2000 mr_law 33 [(4, .int (nI (i + 6))), (3, .ref 225), (2, .ref 196), (1, .ref 1), (0, .ref 0)] [] (H.set 195 (kO 12 (fs.set 0 (.int 1)))) (kc + 1) (ks + 6) r) :
    RP (L, xs) 2000 mr_law 348 [(4, .int (nI i)), (3, .ref 225), (2, .ref 196), (1, .ref 1), (0, .ref 0)] [] H kc ks r := by
  refine law_op2 (c1 := 1) (s1 := 6) (c2 := 0) (s2 := 0) hL h (rc_w2X0 h0 (rc_end_bad (o := 0) (a := 1) h0 ht hr hx)) hm (rc_mend_bad hm hl hmt hx) ?_
  exact tailX_2 (fs := fs.set 0 (.int 1)) (get_set hm) (by rw [List.getElem?_set, if_pos rfl, if_pos (by omega)]) (by decide) k
theorem step_end_down {L i : Nat} {xs : Nat → Int32} {kc ks l n b m : Nat} {H : aH} {f0 fs : List Value} {f : Nat → Int8} {r : tO × aH × Nat × Nat} (hL : L < 2 ^ 30) (h : i + 6 ≤ L) (h0 : H[0]? = some (kO 11 f0)) (hu : f0[13]? = some (.int 0)) (ht : f0[1]? = some (.ref 2)) (hr : RowAt H 1 b n f l) (hm : H[195]? = some (kO 12 fs)) (hl : fs.length = 40) (hmt : fs[6]? = some (.int (nI l))) (hd : fs[2]? = some (.int 1)) (hlb : l < 2 ^ 31) (hx : xs (i + 1) = nI m) (hml : m ≤ l)
    (k : RP (L, xs) 2000 mr_law 33 [(4, .int (nI (i + 6))), (3, .ref 225), (2, .ref 196), (1, .ref 1), (0, .ref 0)] [] (H.set 195 (kO 12 (fs.set 0 (.int 2)))) (kc + 1) (ks + 6) r) :
    RP (L, xs) 2000 mr_law 348 [(4, .int (nI i)), (3, .ref 225), (2, .ref 196), (1, .ref 1), (0, .ref 0)] [] H kc ks r := by
  refine law_op2 (c1 := 1) (s1 := 6) (c2 := 0) (s2 := 0) (kk := 2) (v := 0) (H1 := H) (H2 := H.set 195 (kO 12 (fs.set 0 (.int 2)))) hL h ?_ hm ?_ ?_
  · rw [hx]; exact rc_w2X1 h0 (rc_end_down (o := 0) (a := 1) h0 hu ht hr hlb hml)
  · rw [hx]; exact rc_mend_down hm hl hmt hlb hml hd
  · exact tailX_2 (fs := fs.set 0 (.int 2)) (get_set hm) (by rw [List.getElem?_set, if_pos rfl, if_pos (by omega)]) (by decide) k
theorem step_end_ok {L i : Nat} {xs : Nat → Int32} {kc ks l n b m : Nat} {H : aH} {f0 fs : List Value} {f : Nat → Int8} {e : Nat → Int64} {r : tO × aH × Nat × Nat} (hL : L < 2 ^ 30) (h : i + 6 ≤ L) (h0 : H[0]? = some (kO 11 f0)) (hu : f0[13]? = some (.int 1)) (ht : f0[1]? = some (.ref 2)) (hr : RowAt H 1 b n f l) (hm : H[195]? = some (kO 12 fs)) (hl : fs.length = 40) (hmt : fs[6]? = some (.int (nI l))) (hd : fs[2]? = some (.int 0)) (h224 : H[224]? = some (kJ 1 e)) (hlb : l < 2 ^ 31) (hx : xs (i + 1) = nI m) (hml : m ≤ l)
    (k : RP (L, xs) 2000 mr_law 33 [(4, .int (nI (i + 6))), (3, .ref 225), (2, .ref 196), (1, .ref 1), (0, .ref 0)] [] (((H.set 1 (kO 5 [.ref (b + 1), .int (nI m)])).set 224 (kJ 1 (va_up e 0 (nI m).toInt64))).set 195 (kO 12 ((fs.set 0 (.int 0)).set 6 (.int (nI m))))) kc ks r) :
    RP (L, xs) 2000 mr_law 348 [(4, .int (nI i)), (3, .ref 225), (2, .ref 196), (1, .ref 1), (0, .ref 0)] [] H kc ks r := by
  have q224 : (H.set 1 (kO 5 [.ref (b + 1), .int (nI m)]))[224]? = some (kJ 1 e) := (set_far (by decide)).trans h224
  have q195 : ((H.set 1 (kO 5 [.ref (b + 1), .int (nI m)])).set 224 (kJ 1 (va_up e 0 (nI m).toInt64)))[195]? = some (kO 12 fs) := ((set_far (by decide)).trans (set_far (by decide))).trans hm
  refine law_op2 (c1 := 0) (s1 := 0) (c2 := 0) (s2 := 0) (kk := 0) (v := nI m) (H1 := (H.set 1 (kO 5 [.ref (b + 1), .int (nI m)])).set 224 (kJ 1 (va_up e 0 (nI m).toInt64))) (H2 := ((H.set 1 (kO 5 [.ref (b + 1), .int (nI m)])).set 224 (kJ 1 (va_up e 0 (nI m).toInt64))).set 195 (kO 12 ((fs.set 0 (.int 0)).set 6 (.int (nI m))))) hL h ?_ q195 ?_ ?_
  · rw [hx]; exact rc_w2 h0 (rc_end_ok (o := 0) (a := 1) h0 hu ht hr hlb hml) q224
  · rw [hx]; exact rc_mend_ok q195 hl hmt hlb hml hd
  · refine tail_2 (fs := (fs.set 0 (.int 0)).set 6 (.int (nI m))) (f := va_up e 0 (nI m).toInt64) (get_set q195) ?_ ((set_far (by decide)).trans (get_set q224)) rfl k
    rw [List.getElem?_set, if_neg (by decide), List.getElem?_set, if_pos rfl, if_pos (by omega)]
