/-! ===== the law's case feed as one step: class and reference answer alike, in every state ===== -/
/-- what five ints make of a tape -/
def up20 (f : Nat → Int8) (l : Nat) (xs : Nat → Int32) (i : Nat) : Nat → Int8 := up4 (up4 (up4 (up4 (up4 f l (xs (i + 1))) (l + 4) (xs (i + 2))) (l + 8) (xs (i + 3))) (l + 12) (xs (i + 4))) (l + 16) (xs (i + 5))
theorem row_far {H : aH} {a b n o : Nat} {f : Nat → Int8} {l : Nat} (h1 : o ≠ a) (h2 : o ≠ b) : (rowSet H a b n f l)[o]? = H[o]? := by
  unfold rowSet
  rw [List.getElem?_set, if_neg (Ne.symm h1), List.getElem?_set, if_neg (Ne.symm h2)]
theorem set_far {H : aH} {a o : Nat} {c : aC} (h : o ≠ a) : (H.set a c)[o]? = H[o]? := by rw [List.getElem?_set, if_neg (Ne.symm h)]
theorem step_feed_ok {L i : Nat} {xs : Nat → Int32} {kc ks l : Nat} {H : aH} {f0 fs : List Value} {f g : Nat → Int8} {e : Nat → Int64} {r : tO × aH × Nat × Nat} (hL : L < 2 ^ 30) (h : i + 6 ≤ L) (h0 : H[0]? = some (kO 11 f0)) (hu : f0[13]? = some (.int 1)) (ht : f0[1]? = some (.ref 2)) (hr : RowAt H 1 2 2000 f l) (hm : ModAt H 195 196 2000 g fs l) (hd : fs[2]? = some (.int 0)) (h224 : H[224]? = some (kJ 1 e)) (hk : l + 20 ≤ 2000)
    (k : RP (L, xs) 2000 mr_law 33 [(4, .int (nI (i + 6))), (3, .ref 225), (2, .ref 196), (1, .ref 1), (0, .ref 0)] [] (modSet ((rowSet H 1 2 2000 (up20 f l xs i) (l + 20)).set 224 (kJ 1 (va_up e 0 (nI (l + 20)).toInt64))) 195 196 2000 (up20 g l xs i) (fs.set 0 (.int 0)) (l + 20)) kc ks r) :
    RP (L, xs) 2000 mr_law 176 [(4, .int (nI i)), (3, .ref 225), (2, .ref 196), (1, .ref 1), (0, .ref 0)] [] H kc ks r := by
  have q224 : (rowSet H 1 2 2000 (up20 f l xs i) (l + 20))[224]? = some (kJ 1 e) := (row_far (by decide) (by decide)).trans h224
  obtain ⟨m1, m2, m3, m4, m5, m6, m7⟩ := hm
  have hm1 : ModAt ((rowSet H 1 2 2000 (up20 f l xs i) (l + 20)).set 224 (kJ 1 (va_up e 0 (nI (l + 20)).toInt64))) 195 196 2000 g fs l := ⟨((set_far (by decide)).trans (row_far (by decide) (by decide))).trans m1, m2, m3, m4, ((set_far (by decide)).trans (row_far (by decide) (by decide))).trans m5, m6, m7⟩
  refine law_feed (c1 := 0) (s1 := 0) hL h (rc_wfeed h0 (rc_feed (o := 0) (a := 1) (b := 2) h0 hu ht hr (by decide) (by decide) (Nat.le_refl _) hk) q224) hm1.1 (rc_mfeed hm1 hd (Nat.le_refl _) hk) ?_
  refine tail_0 (fs := (fs.set 0 (.int 0)).set 6 (.int (nI (l + 20)))) (f := va_up e 0 (nI (l + 20)).toInt64) ?_ ?_ ?_ rfl k
  · unfold modSet
    exact get_set (c := kO 12 fs) ((set_far (by decide)).trans hm1.1)
  · rw [List.getElem?_set, if_neg (by decide), List.getElem?_set, if_pos rfl, if_pos (by omega)]
  · unfold modSet
    exact ((set_far (by decide)).trans (set_far (by decide))).trans (get_set q224)
theorem step_feed_down {L i : Nat} {xs : Nat → Int32} {kc ks : Nat} {H : aH} {f0 fs : List Value} {r : tO × aH × Nat × Nat} (hL : L < 2 ^ 30) (h : i + 6 ≤ L) (h0 : H[0]? = some (kO 11 f0)) (hu : f0[13]? = some (.int 0)) (hm : H[195]? = some (kO 12 fs)) (hl : fs.length = 40) (hd : fs[2]? = some (.int 1))
    (k : RP (L, xs) 2000 mr_law 33 [(4, .int (nI (i + 6))), (3, .ref 225), (2, .ref 196), (1, .ref 1), (0, .ref 0)] [] (H.set 195 (kO 12 (fs.set 0 (.int 1)))) (kc + 1) (ks + 6) r) :
    RP (L, xs) 2000 mr_law 176 [(4, .int (nI i)), (3, .ref 225), (2, .ref 196), (1, .ref 1), (0, .ref 0)] [] H kc ks r := by
  refine law_feed (c1 := 1) (s1 := 6) hL h (rc_wfeedX1 h0 (rc_feed_down (o := 0) h0 hu)) hm (rc_mfeed_down hm hl hd) ?_
  exact tailX_0 (fs := fs.set 0 (.int 1)) (get_set hm) (by rw [List.getElem?_set, if_pos rfl, if_pos (by omega)]) (by decide) k
