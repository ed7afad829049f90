/-! ===== begin and cut as one step of the law, in every state ===== -/
theorem bz_01 (x : Int32) : bz x = 0 ∨ bz x = 1 := by
  unfold bz
  by_cases h : x = 0
  · exact Or.inl (if_pos h)
  · exact Or.inr (if_neg h)
section ST
variable {L i : Nat} {xs : Nat → Int32} {kc ks : Nat} {H : aH} {r : tO × aH × Nat × Nat} {bl pr cw cl cp cb fa li mcw mcl tp rs ve us pi hu : Int32} {ba bo : Nat}
theorem step_begin_down {mpr : Int32} (hL : L < 2 ^ 30) (h : i + 6 ≤ L) (h0 : H[0]? = some (kO 11 (fvs bl pr 0 cw cl cp cb))) (hm : H[195]? = some (kO 12 (mfs fa li 1 mcw mcl tp rs mpr ve us pi hu ba bo)))
    (k : RP (L, xs) 2000 mr_law 33 [(4, .int (nI (i + 6))), (3, .ref 225), (2, .ref 196), (1, .ref 1), (0, .ref 0)] [] (H.set 195 (kO 12 (mfs 1 li 1 mcw mcl tp rs mpr ve us pi hu ba bo))) (kc + 1) (ks + 6) r) :
    RP (L, xs) 2000 mr_law 404 [(4, .int (nI i)), (3, .ref 225), (2, .ref 196), (1, .ref 1), (0, .ref 0)] [] H kc ks r := by
  refine law_op3 (c1 := 1) (s1 := 6) (c2 := 0) (s2 := 0) hL h (rc_w3X1 h0 (rc_begin_down h0)) hm (rc_mbegin_down hm) ?_
  exact tailX_3 (get_set hm) rfl (by decide) k
theorem step_begin_full {p : Nat} {op : Nat → Bool} {mo se : Nat → Nat} {ro fi : Nat → Int32} (hL : L < 2 ^ 30) (h : i + 6 ≤ L) (h0 : H[0]? = some (kO 11 (fvs bl (nI p) 1 cw cl cp cb))) (hs : SightAt H op mo) (hm : H[195]? = some (kO 12 (mfs fa li 0 mcw mcl tp rs (nI p) ve us pi hu ba bo))) (h5 : H[205]? = some (kZ 8 op)) (h6 : H[206]? = some (kI 8 (fun j => nI (se j)))) (h7 : H[207]? = some (kI 8 ro)) (h8 : H[208]? = some (kI 8 fi)) (hb : ∀ s, s < 8 → op s = true)
    (k : RP (L, xs) 2000 mr_law 33 [(4, .int (nI (i + 6))), (3, .ref 225), (2, .ref 196), (1, .ref 1), (0, .ref 0)] [] (H.set 195 (kO 12 (mfs 2 li 0 mcw mcl tp rs (nI p) ve us pi hu ba bo))) (kc + 1) (ks + 6) r) :
    RP (L, xs) 2000 mr_law 404 [(4, .int (nI i)), (3, .ref 225), (2, .ref 196), (1, .ref 1), (0, .ref 0)] [] H kc ks r := by
  refine law_op3 (c1 := 1) (s1 := 6) (c2 := 0) (s2 := 0) hL h (rc_w3X2 h0 (rc_begin_full h0 hs hb)) hm (rc_mbegin_full hm h5 h6 h7 h8 hb) ?_
  exact tailX_3 (get_set hm) rfl (by decide) k
theorem step_begin_ok {p t b : Nat} {op : Nat → Bool} {mo se : Nat → Nat} {ro fi : Nat → Int32} {wq : Nat → Option Nat} {fb : List Value} {e : Nat → Int64} (hL : L < 2 ^ 30) (h : i + 6 ≤ L) (h0 : H[0]? = some (kO 11 (fvs bl (nI p) 1 cw cl cp cb))) (hs : SightAt H op mo) (hw : H[10]? = some (kQ 4 8 wq)) (hq : wq t = some b) (hB : H[b]? = some (kO 0 fb)) (hl : fb.length = 7) (hb1 : 10 < b) (hb2 : b < 195) (hm : H[195]? = some (kO 12 (mfs fa li 0 mcw mcl tp rs (nI p) ve us pi hu ba bo))) (h5 : H[205]? = some (kZ 8 op)) (h6 : H[206]? = some (kI 8 (fun j => nI (se j)))) (h7 : H[207]? = some (kI 8 ro)) (h8 : H[208]? = some (kI 8 fi)) (h224 : H[224]? = some (kJ 1 e)) (ht : t < 8) (hf : op t = false) (hb : ∀ s, s < t → op s = true)
    (k : RP (L, xs) 2000 mr_law 33 [(4, .int (nI (i + 6))), (3, .ref 225), (2, .ref 196), (1, .ref 1), (0, .ref 0)] [] ((((((((((H.set 8 (kZ 8 (va_up op t true))).set 9 (kI 8 (va_up (fun j => nI (mo j)) t (nI p)))).set b (kO 0 ((fb.set 5 (.int 0)).set 6 (.int 0))))).set 224 (kJ 1 (va_up e 0 (nI t).toInt64))).set 195 (kO 12 (mfs 0 li 0 mcw mcl tp rs (nI p) ve us pi hu ba bo))).set 205 (kZ 8 (va_up op t true))).set 206 (kI 8 (va_up (fun j => nI (se j)) t (nI p)))).set 207 (kI 8 (va_up ro t 0))).set 208 (kI 8 (va_up fi t 0))) kc ks r) :
    RP (L, xs) 2000 mr_law 404 [(4, .int (nI i)), (3, .ref 225), (2, .ref 196), (1, .ref 1), (0, .ref 0)] [] H kc ks r := by
  have far : ∀ a, 194 < a → ((((H.set 8 (kZ 8 (va_up op t true))).set 9 (kI 8 (va_up (fun j => nI (mo j)) t (nI p)))).set b (kO 0 ((fb.set 5 (.int 0)).set 6 (.int 0)))))[a]? = H[a]? := fun a ha => (set_far (by omega)).trans ((set_far (by omega)).trans (set_far (by omega)))
  have g : ∀ a, 194 < a → a ≠ 224 → (((((H.set 8 (kZ 8 (va_up op t true))).set 9 (kI 8 (va_up (fun j => nI (mo j)) t (nI p)))).set b (kO 0 ((fb.set 5 (.int 0)).set 6 (.int 0))))).set 224 (kJ 1 (va_up e 0 (nI t).toInt64)))[a]? = H[a]? := fun a ha hn => (set_far hn).trans (far a ha)
  refine law_op3 (c1 := 0) (s1 := 0) (c2 := 0) (s2 := 0) (kk := 0) (v := nI t) hL h (rc_w3 h0 (rc_begin_ok h0 hs hw hq hB hl (by omega) (by omega) (by omega) (by omega) ht hf hb) ((far 224 (by decide)).trans h224)) ((g 195 (by decide) (by decide)).trans hm) (rc_mbegin_ok ((g 195 (by decide) (by decide)).trans hm) ((g 205 (by decide) (by decide)).trans h5) ((g 206 (by decide) (by decide)).trans h6) ((g 207 (by decide) (by decide)).trans h7) ((g 208 (by decide) (by decide)).trans h8) ht hf hb) ?_
  refine tail_3 (fs := mfs 0 li 0 mcw mcl tp rs (nI p) ve us pi hu ba bo) (f := va_up e 0 (nI t).toInt64) ?_ rfl ?_ rfl k
  · exact (set_far (by decide)).trans ((set_far (by decide)).trans ((set_far (by decide)).trans ((set_far (by decide)).trans (get_set ((g 195 (by decide) (by decide)).trans hm)))))
  · exact (set_far (by decide)).trans ((set_far (by decide)).trans ((set_far (by decide)).trans ((set_far (by decide)).trans ((set_far (by decide)).trans (get_set ((far 224 (by decide)).trans h224))))))
theorem step_cut_bad {up dn mpr : Int32} (hL : L < 2 ^ 30) (h : i + 6 ≤ L) (h0 : H[0]? = some (kO 11 (fvs bl pr up cw cl cp cb))) (hm : H[195]? = some (kO 12 (mfs fa li dn mcw mcl tp rs mpr ve us pi hu ba bo))) (hx : xs (i + 2) < 0 ∨ xs (i + 3) < 0)
    (k : RP (L, xs) 2000 mr_law 33 [(4, .int (nI (i + 6))), (3, .ref 225), (2, .ref 196), (1, .ref 1), (0, .ref 0)] [] (H.set 195 (kO 12 (mfs 1 li dn mcw mcl tp rs mpr ve us pi hu ba bo))) (kc + 1) (ks + 6) r) :
    RP (L, xs) 2000 mr_law 984 [(4, .int (nI i)), (3, .ref 225), (2, .ref 196), (1, .ref 1), (0, .ref 0)] [] H kc ks r := by
  refine law_op13 (c1 := 1) (s1 := 6) (c2 := 0) (s2 := 0) hL h (rc_w13X0 h0 (rc_cut_bad h0 hx)) hm (rc_mcut_bad hm hx) ?_
  exact tailX_13 (get_set hm) rfl (by decide) k
theorem step_cut_ok {up dn mpr w : Int32} {e : Nat → Int64} (hL : L < 2 ^ 30) (h : i + 6 ≤ L) (hw : w = 0 ∨ w = 1) (h0 : H[0]? = some (kO 11 (fvs bl pr up w cl cp cb))) (hm : H[195]? = some (kO 12 (mfs fa li dn w mcl tp rs mpr ve us pi hu ba bo))) (h224 : H[224]? = some (kJ 1 e)) (hy : ¬ xs (i + 2) < 0) (hz : ¬ xs (i + 3) < 0)
    (k : RP (L, xs) 2000 mr_law 33 [(4, .int (nI (i + 6))), (3, .ref 225), (2, .ref 196), (1, .ref 1), (0, .ref 0)] [] (((H.set 0 (kO 11 (fvs bl pr up 1 (bz (xs (i + 1))) (xs (i + 2)) (xs (i + 3))))).set 224 (kJ 1 (va_up e 0 w.toInt64))).set 195 (kO 12 (mfs 0 li dn 1 (bz (xs (i + 1))) tp rs mpr ve us pi hu ba bo))) kc ks r) :
    RP (L, xs) 2000 mr_law 984 [(4, .int (nI i)), (3, .ref 225), (2, .ref 196), (1, .ref 1), (0, .ref 0)] [] H kc ks r := by
  rcases hw with rfl | rfl
  · refine law_op13 (c1 := 0) (s1 := 0) (c2 := 0) (s2 := 0) (kk := 0) (v := 0) hL h (rc_w13 h0 (rc_cut0 h0 (bz_01 _) hy hz) ((set_far (by decide)).trans h224)) (((set_far (by decide)).trans (set_far (by decide))).trans hm) (rc_mcut0 (((set_far (by decide)).trans (set_far (by decide))).trans hm) (bz_01 _) hy hz) ?_
    exact tail_13 (fs := mfs 0 li dn 1 (bz (xs (i + 1))) tp rs mpr ve us pi hu ba bo) (f := va_up e 0 (0 : Int32).toInt64) (get_set (((set_far (by decide)).trans (set_far (by decide))).trans hm)) rfl ((set_far (by decide)).trans (get_set ((set_far (by decide)).trans h224))) rfl k
  · refine law_op13 (c1 := 0) (s1 := 0) (c2 := 0) (s2 := 0) (kk := 0) (v := 1) hL h (rc_w13 h0 (rc_cut1 h0 (bz_01 _) hy hz) ((set_far (by decide)).trans h224)) (((set_far (by decide)).trans (set_far (by decide))).trans hm) (rc_mcut1 (((set_far (by decide)).trans (set_far (by decide))).trans hm) (bz_01 _) hy hz) ?_
    exact tail_13 (fs := mfs 0 li dn 1 (bz (xs (i + 1))) tp rs mpr ve us pi hu ba bo) (f := va_up e 0 (1 : Int32).toInt64) (get_set (((set_far (by decide)).trans (set_far (by decide))).trans hm)) rfl ((set_far (by decide)).trans (get_set ((set_far (by decide)).trans h224))) rfl k
end ST
