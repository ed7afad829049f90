/-! ===== the first call, op by op, for each size; written by wip/gen/p1gen.py ===== -/
theorem okv_ref {lo hi k : Nat} (h : lo ≤ k ∧ k < hi) : okV (fun a => lo ≤ a ∧ a < hi) (.ref (k + 1)) := h
theorem av_ok {lo hi k : Nat} {l : List Int32} (h : lo ≤ k ∧ k < hi) : ∀ w ∈ (.ref (k + 1) :: l.map Value.int : List Value), okV (fun a => lo ≤ a ∧ a < hi) w := by
  intro w hw
  rcases List.mem_cons.mp hw with rfl | hw
  · exact h
  · obtain ⟨x, -, rfl⟩ := List.mem_map.mp hw
    trivial
set_option maxRecDepth 100000 in
set_option maxHeartbeats 4000000 in
theorem g64_0 {xs : Nat → Int32} {kc ks : Nat} : GR xs 176 hp64i kc ks := by
  apply GR.mk (k := kc) (n := ks)
  · refine step_feed_ok (L := 7) (i := 1) (l := 0) (by decide) (by decide) rfl rfl rfl ⟨rfl, rfl, by decide, by decide⟩ ⟨rfl, rfl, rfl, rfl, rfl, by decide, by decide⟩ rfl rfl (by decide) ?_
    exact head_exit (i := 7) (by decide) (by decide) (by decide)
  · omega
  · omega
set_option maxRecDepth 100000 in
set_option maxHeartbeats 4000000 in
theorem g64_1 {xs : Nat → Int32} {kc ks : Nat} : GR xs 280 hp64i kc ks := by
  by_cases hx : (xs (1 + 1) < 0 ∨ ¬ xs (1 + 1) ≤ 255) ∨ (xs (1 + 2) < 1 ∨ ¬ xs (1 + 2) ≤ 1000)
  · apply GR.mk (k := kc + 1) (n := ks + 6)
    · refine step_fill_bad (L := 7) (i := 1) (n := 0) (f := fun _ => 0) (by decide) (by decide) rfl rfl rfl hx ?_
      exact head_exit (i := 7) (by decide) (by decide) (by decide)
    · omega
    · omega
  · obtain ⟨v, hv, ev⟩ := nI_of2 (M := 255) (n := 255) rfl (fun e => hx (Or.inl (Or.inl e))) (Classical.not_not.mp (fun e => hx (Or.inl (Or.inr e))))
    obtain ⟨m, hm, em⟩ := nI_of2 (x := xs (1 + 2)) (M := 1000) (n := 1000) rfl (fun e => hx (Or.inr (Or.inl (Int32.lt_trans e (by decide))))) (Classical.not_not.mp (fun e => hx (Or.inr (Or.inr e))))
    have hm1 : 1 ≤ m := by
      rcases Nat.eq_zero_or_pos m with rfl | h
      · exact absurd (Or.inr (Or.inl (by rw [em]; decide))) hx
      · exact h
    apply GR.mk (k := kc) (n := ks)
    · refine step_fill_ok (H := hp64i) (L := 7) (i := 1) (b := 2) (l := 0) (n := 2000) (c := 196) (n2 := 2000) (v := v) (m := m) (by decide) (by decide) rfl rfl rfl ⟨rfl, rfl, by decide, by decide⟩ (by decide) (by decide) (by decide) (by decide) (by decide) ⟨rfl, rfl, rfl, rfl, rfl, by decide, by decide⟩ (by decide) (by decide) (by decide) rfl rfl ev em hv hm1 hm (by omega) ?_
      exact head_exit (i := 7) (by decide) (by decide) (by decide)
    · omega
    · omega
theorem g64_2 {xs : Nat → Int32} {kc ks : Nat} : GR xs 348 hp64i kc ks := by rw [hp64_V]; exact first_2
theorem g64_3 {xs : Nat → Int32} {kc ks : Nat} : GR xs 404 hp64i kc ks := by rw [hp64_V]; exact first_3
theorem g64_4 {xs : Nat → Int32} {kc ks : Nat} : GR xs 448 hp64i kc ks := by rw [hp64_V]; exact first_4
theorem g64_5 {xs : Nat → Int32} {kc ks : Nat} : GR xs 516 hp64i kc ks := by rw [hp64_V]; exact first_5
theorem g64_6 {xs : Nat → Int32} {kc ks : Nat} : GR xs 572 hp64i kc ks := by rw [hp64_V]; exact first_6
theorem g64_7 {xs : Nat → Int32} {kc ks : Nat} : GR xs 628 hp64i kc ks := by rw [hp64_V]; exact first_7
theorem g64_8 {xs : Nat → Int32} {kc ks : Nat} : GR xs 712 hp64i kc ks := by rw [hp64_V]; exact first_8
theorem g64_9 {xs : Nat → Int32} {kc ks : Nat} : GR xs 768 hp64i kc ks := by rw [hp64_V]; exact first_9
theorem g64_13 {xs : Nat → Int32} {kc ks : Nat} : GR xs 984 hp64i kc ks := by rw [hp64_V]; exact first_13
theorem g64_15 {xs : Nat → Int32} {kc ks : Nat} : GR xs 1124 hp64i kc ks := by rw [hp64_V]; exact first_15
theorem g64_17 {xs : Nat → Int32} {kc ks : Nat} : GR xs 1235 hp64i kc ks := by rw [hp64_V]; exact first_17
theorem g64_19 {xs : Nat → Int32} {kc ks : Nat} : GR xs 1335 hp64i kc ks := by rw [hp64_V]; exact first_19
theorem g64_20 {xs : Nat → Int32} {kc ks : Nat} : GR xs 1419 hp64i kc ks := by rw [hp64_V]; exact first_20
theorem g64_21 {xs : Nat → Int32} {kc ks : Nat} : GR xs 1475 hp64i kc ks := by rw [hp64_V]; exact first_21
theorem g64_22 {xs : Nat → Int32} {kc ks : Nat} : GR xs 1555 hp64i kc ks := by rw [hp64_V]; exact first_22
theorem g64_23 {xs : Nat → Int32} {kc ks : Nat} : GR xs 1599 hp64i kc ks := by rw [hp64_V]; exact first_23
theorem g64_24 {xs : Nat → Int32} {kc ks : Nat} : GR xs 1667 hp64i kc ks := by rw [hp64_V]; exact first_24
theorem g64_25 {xs : Nat → Int32} {kc ks : Nat} : GR xs 1747 hp64i kc ks := by rw [hp64_V]; exact first_25
set_option maxRecDepth 100000 in
set_option maxHeartbeats 4000000 in
theorem g64_10 {xs : Nat → Int32} {kc ks : Nat} : GR xs 824 hp64i kc ks := gr_10 (h0 := rfl) (h195 := rfl) (h224 := rfl) (class_rc fr64_c (av_ok (k := 0) (l := []) (by decide)) eC10_64) (fun H2 hl h2 => model_rc fr64_m hl h2 (av_ok (k := 195) (l := []) (by decide)) eM10_64)
set_option maxRecDepth 100000 in
set_option maxHeartbeats 4000000 in
theorem g64_12 {xs : Nat → Int32} {kc ks : Nat} : GR xs 940 hp64i kc ks := gr_12 (h0 := rfl) (h195 := rfl) (h224 := rfl) (class_rc fr64_c (av_ok (k := 0) (l := []) (by decide)) eC12_64) (fun H2 hl h2 => model_rc fr64_m hl h2 (av_ok (k := 195) (l := []) (by decide)) eM12_64)
set_option maxRecDepth 100000 in
set_option maxHeartbeats 4000000 in
theorem g64_14 {xs : Nat → Int32} {kc ks : Nat} : GR xs 1080 hp64i kc ks := gr_14 (h0 := rfl) (h195 := rfl) (h224 := rfl) (class_rc fr64_c (av_ok (k := 0) (l := []) (by decide)) eC14_64) (fun H2 hl h2 => model_rc fr64_m hl h2 (av_ok (k := 195) (l := []) (by decide)) eM14_64)
set_option maxRecDepth 100000 in
set_option maxHeartbeats 4000000 in
theorem g64_18 {xs : Nat → Int32} {kc ks : Nat} : GR xs 1291 hp64i kc ks := gr_18 (h0 := rfl) (h195 := rfl) (h224 := rfl) (class_rc fr64_c (av_ok (k := 0) (l := []) (by decide)) eC18_64) (fun H2 hl h2 => model_rc fr64_m hl h2 (av_ok (k := 195) (l := []) (by decide)) eM18_64)
set_option maxRecDepth 100000 in
set_option maxHeartbeats 4000000 in
theorem g64_11 {xs : Nat → Int32} {kc ks : Nat} : GR xs 868 hp64i kc ks := by
  by_cases h : xs (1 + 1) = 0
  · exact gr_11 (x := 0) (hx := if_pos h) (h0 := rfl) (h195 := rfl) (h224 := rfl) (class_rc fr64_c (av_ok (k := 0) (l := [0]) (by decide)) eC11_0_64) (fun H2 hl h2 => model_rc fr64_m hl h2 (av_ok (k := 195) (l := [0]) (by decide)) eM11_0_64)
  · exact gr_11 (x := 1) (hx := if_neg h) (h0 := rfl) (h195 := rfl) (h224 := rfl) (class_rc fr64_c (av_ok (k := 0) (l := [1]) (by decide)) eC11_1_64) (fun H2 hl h2 => model_rc fr64_m hl h2 (av_ok (k := 195) (l := [1]) (by decide)) eM11_1_64)
set_option maxRecDepth 100000 in
set_option maxHeartbeats 4000000 in
theorem g64_16 {xs : Nat → Int32} {kc ks : Nat} : GR xs 1179 hp64i kc ks := by
  by_cases hx : xs (1 + 1) < 0 ∨ ¬ xs (1 + 1) ≤ 9
  · exact grX_16_0 rfl rfl rfl rfl (rc_count_bad (o := 0) rfl hx) (rc_mcount_bad (a := 195) (y := 0) rfl rfl (hx.imp_right (fun e g => e ((le_pred (n := 9) (by decide)).mpr g))))
  · obtain ⟨j, hj, ej⟩ := nI_of2 (M := 9) (n := 9) rfl (fun e => hx (Or.inl e)) (Classical.not_not.mp (fun e => hx (Or.inr e)))
    match j, hj, ej with
    | 0, _, ej => exact gr_16 (x := nI 0) (hx := ej) (h0 := rfl) (h195 := rfl) (h224 := rfl) (class_rc fr64_c (av_ok (k := 0) (l := [nI 0]) (by decide)) eC16_0_64) (fun H2 hl h2 => model_rc fr64_m hl h2 (av_ok (k := 195) (l := [nI 0]) (by decide)) eM16_0_64)
    | 1, _, ej => exact gr_16 (x := nI 1) (hx := ej) (h0 := rfl) (h195 := rfl) (h224 := rfl) (class_rc fr64_c (av_ok (k := 0) (l := [nI 1]) (by decide)) eC16_1_64) (fun H2 hl h2 => model_rc fr64_m hl h2 (av_ok (k := 195) (l := [nI 1]) (by decide)) eM16_1_64)
    | 2, _, ej => exact gr_16 (x := nI 2) (hx := ej) (h0 := rfl) (h195 := rfl) (h224 := rfl) (class_rc fr64_c (av_ok (k := 0) (l := [nI 2]) (by decide)) eC16_2_64) (fun H2 hl h2 => model_rc fr64_m hl h2 (av_ok (k := 195) (l := [nI 2]) (by decide)) eM16_2_64)
    | 3, _, ej => exact gr_16 (x := nI 3) (hx := ej) (h0 := rfl) (h195 := rfl) (h224 := rfl) (class_rc fr64_c (av_ok (k := 0) (l := [nI 3]) (by decide)) eC16_3_64) (fun H2 hl h2 => model_rc fr64_m hl h2 (av_ok (k := 195) (l := [nI 3]) (by decide)) eM16_3_64)
    | 4, _, ej => exact gr_16 (x := nI 4) (hx := ej) (h0 := rfl) (h195 := rfl) (h224 := rfl) (class_rc fr64_c (av_ok (k := 0) (l := [nI 4]) (by decide)) eC16_4_64) (fun H2 hl h2 => model_rc fr64_m hl h2 (av_ok (k := 195) (l := [nI 4]) (by decide)) eM16_4_64)
    | 5, _, ej => exact gr_16 (x := nI 5) (hx := ej) (h0 := rfl) (h195 := rfl) (h224 := rfl) (class_rc fr64_c (av_ok (k := 0) (l := [nI 5]) (by decide)) eC16_5_64) (fun H2 hl h2 => model_rc fr64_m hl h2 (av_ok (k := 195) (l := [nI 5]) (by decide)) eM16_5_64)
    | 6, _, ej => exact gr_16 (x := nI 6) (hx := ej) (h0 := rfl) (h195 := rfl) (h224 := rfl) (class_rc fr64_c (av_ok (k := 0) (l := [nI 6]) (by decide)) eC16_6_64) (fun H2 hl h2 => model_rc fr64_m hl h2 (av_ok (k := 195) (l := [nI 6]) (by decide)) eM16_6_64)
    | 7, _, ej => exact gr_16 (x := nI 7) (hx := ej) (h0 := rfl) (h195 := rfl) (h224 := rfl) (class_rc fr64_c (av_ok (k := 0) (l := [nI 7]) (by decide)) eC16_7_64) (fun H2 hl h2 => model_rc fr64_m hl h2 (av_ok (k := 195) (l := [nI 7]) (by decide)) eM16_7_64)
    | 8, _, ej => exact gr_16 (x := nI 8) (hx := ej) (h0 := rfl) (h195 := rfl) (h224 := rfl) (class_rc fr64_c (av_ok (k := 0) (l := [nI 8]) (by decide)) eC16_8_64) (fun H2 hl h2 => model_rc fr64_m hl h2 (av_ok (k := 195) (l := [nI 8]) (by decide)) eM16_8_64)
    | 9, _, ej => exact gr_16 (x := nI 9) (hx := ej) (h0 := rfl) (h195 := rfl) (h224 := rfl) (class_rc fr64_c (av_ok (k := 0) (l := [nI 9]) (by decide)) eC16_9_64) (fun H2 hl h2 => model_rc fr64_m hl h2 (av_ok (k := 195) (l := [nI 9]) (by decide)) eM16_9_64)
    | j + 10, h, _ => exact absurd h (by omega)
set_option maxRecDepth 100000 in
set_option maxHeartbeats 4000000 in
theorem g64_26 {xs : Nat → Int32} {kc ks : Nat} : GR xs 1815 hp64i kc ks := by
  by_cases hx : xs (1 + 1) < 0 ∨ ¬ xs (1 + 1) ≤ 200
  · exact grX_26_0 rfl rfl rfl rfl rfl (rc_list_bad (o := 0) rfl hx) (rc_mlist_bad (a := 195) rfl rfl (hx.imp_right (fun e g => e ((le_pred (n := 200) (by decide)).mpr g))))
  · obtain ⟨v, hv, ev⟩ := nI_of2 (M := 200) (n := 200) rfl (fun e => hx (Or.inl e)) (Classical.not_not.mp (fun e => hx (Or.inr e)))
    by_cases h0 : v = 0
    · subst h0
      exact grX_26_3 ev rfl rfl rfl rfl (rc_list0 (o := 0) (a := 65) (k := 66) rfl rfl rfl rfl rfl rfl (by decide) rfl (fun w h1 h2 => if_neg (show ¬ w = 0 by omega))) (rc_mlist0 (a := 195) (k := 213) rfl rfl rfl rfl (by decide) rfl (by decide) rfl (fun w h1 h2 => if_neg (show ¬ w = 0 by omega)))
    · exact grX_26_3 ev rfl rfl rfl rfl (rc_list_no (o := 0) (a := 65) (k := 66) rfl rfl rfl rfl rfl rfl hv (by show ¬ (if v = 0 then (2 : Int32) else 0) = 2; rw [if_neg h0]; decide)) (rc_mlist_no (a := 195) (k := 213) rfl rfl rfl rfl (by decide) rfl hv (by show ¬ (if v = 0 then (2 : Int32) else 0) = 2; rw [if_neg h0]; decide))
set_option maxRecDepth 100000 in
set_option maxHeartbeats 4000000 in
theorem g64_27 {xs : Nat → Int32} {kc ks : Nat} : GR xs 1883 hp64i kc ks := by
  by_cases hx : (xs (1 + 1) < 0 ∨ ¬ xs (1 + 1) ≤ 200) ∨ (xs (1 + 2) < 0 ∨ ¬ xs (1 + 2) ≤ 3)
  · exact grX_27_0 rfl rfl rfl rfl rfl (rc_about_bad (o := 0) rfl hx) (rc_mabout_bad (a := 195) rfl rfl (hx.imp (fun h => h.imp_right (fun e g => e ((le_pred (n := 200) (by decide)).mpr g))) (fun h => h.imp_right (fun e g => e ((le_pred (n := 3) (by decide)).mpr g)))))
  · obtain ⟨v, hv, ev⟩ := nI_of2 (M := 200) (n := 200) rfl (fun e => hx (Or.inl (Or.inl e))) (Classical.not_not.mp (fun e => hx (Or.inl (Or.inr e))))
    obtain ⟨j, hj, ej⟩ := nI_of2 (x := xs (1 + 2)) (M := 3) (n := 3) rfl (fun e => hx (Or.inr (Or.inl e))) (Classical.not_not.mp (fun e => hx (Or.inr (Or.inr e))))
    by_cases h0 : v = 0
    · subst h0
      match j, hj, ej with
      | 0, _, ej => exact gr_27 (x := nI 0) (y := nI 0) (hx := ev) (hy := ej) (h0 := rfl) (h195 := rfl) (h224 := rfl) (class_rc fr64_c (av_ok (k := 0) (l := [nI 0, nI 0]) (by decide)) eC27_0_64) (fun H2 hl h2 => model_rc fr64_m hl h2 (av_ok (k := 195) (l := [nI 0, nI 0]) (by decide)) eM27_0_64)
      | 1, _, ej => exact gr_27 (x := nI 0) (y := nI 1) (hx := ev) (hy := ej) (h0 := rfl) (h195 := rfl) (h224 := rfl) (class_rc fr64_c (av_ok (k := 0) (l := [nI 0, nI 1]) (by decide)) eC27_1_64) (fun H2 hl h2 => model_rc fr64_m hl h2 (av_ok (k := 195) (l := [nI 0, nI 1]) (by decide)) eM27_1_64)
      | 2, _, ej => exact gr_27 (x := nI 0) (y := nI 2) (hx := ev) (hy := ej) (h0 := rfl) (h195 := rfl) (h224 := rfl) (class_rc fr64_c (av_ok (k := 0) (l := [nI 0, nI 2]) (by decide)) eC27_2_64) (fun H2 hl h2 => model_rc fr64_m hl h2 (av_ok (k := 195) (l := [nI 0, nI 2]) (by decide)) eM27_2_64)
      | 3, _, ej => exact gr_27 (x := nI 0) (y := nI 3) (hx := ev) (hy := ej) (h0 := rfl) (h195 := rfl) (h224 := rfl) (class_rc fr64_c (av_ok (k := 0) (l := [nI 0, nI 3]) (by decide)) eC27_3_64) (fun H2 hl h2 => model_rc fr64_m hl h2 (av_ok (k := 195) (l := [nI 0, nI 3]) (by decide)) eM27_3_64)
      | j + 4, h, _ => exact absurd h (by omega)
    · exact grX_27_3 ev ej rfl rfl rfl (rc_about_no (o := 0) (a := 65) (k := 66) rfl rfl rfl rfl rfl rfl hv hj (by show (if v = 0 then (2 : Int32) else 0) = 0; rw [if_neg h0])) (rc_mabout_no (a := 195) (k := 213) rfl rfl rfl rfl (by decide) rfl hv hj (by show (if v = 0 then (2 : Int32) else 0) = 0; rw [if_neg h0]))
set_option maxRecDepth 100000 in
set_option maxHeartbeats 4000000 in
theorem g96_0 {xs : Nat → Int32} {kc ks : Nat} : GR xs 176 hp96i kc ks := by
  apply GR.mk (k := kc) (n := ks)
  · refine step_feed_ok (L := 7) (i := 1) (l := 0) (by decide) (by decide) rfl rfl rfl ⟨rfl, rfl, by decide, by decide⟩ ⟨rfl, rfl, rfl, rfl, rfl, by decide, by decide⟩ rfl rfl (by decide) ?_
    exact head_exit (i := 7) (by decide) (by decide) (by decide)
  · omega
  · omega
set_option maxRecDepth 100000 in
set_option maxHeartbeats 4000000 in
theorem g96_1 {xs : Nat → Int32} {kc ks : Nat} : GR xs 280 hp96i kc ks := by
  by_cases hx : (xs (1 + 1) < 0 ∨ ¬ xs (1 + 1) ≤ 255) ∨ (xs (1 + 2) < 1 ∨ ¬ xs (1 + 2) ≤ 1000)
  · apply GR.mk (k := kc + 1) (n := ks + 6)
    · refine step_fill_bad (L := 7) (i := 1) (n := 0) (f := fun _ => 0) (by decide) (by decide) rfl rfl rfl hx ?_
      exact head_exit (i := 7) (by decide) (by decide) (by decide)
    · omega
    · omega
  · obtain ⟨v, hv, ev⟩ := nI_of2 (M := 255) (n := 255) rfl (fun e => hx (Or.inl (Or.inl e))) (Classical.not_not.mp (fun e => hx (Or.inl (Or.inr e))))
    obtain ⟨m, hm, em⟩ := nI_of2 (x := xs (1 + 2)) (M := 1000) (n := 1000) rfl (fun e => hx (Or.inr (Or.inl (Int32.lt_trans e (by decide))))) (Classical.not_not.mp (fun e => hx (Or.inr (Or.inr e))))
    have hm1 : 1 ≤ m := by
      rcases Nat.eq_zero_or_pos m with rfl | h
      · exact absurd (Or.inr (Or.inl (by rw [em]; decide))) hx
      · exact h
    apply GR.mk (k := kc) (n := ks)
    · refine step_fill_ok (H := hp96i) (L := 7) (i := 1) (b := 2) (l := 0) (n := 2000) (c := 196) (n2 := 2000) (v := v) (m := m) (by decide) (by decide) rfl rfl rfl ⟨rfl, rfl, by decide, by decide⟩ (by decide) (by decide) (by decide) (by decide) (by decide) ⟨rfl, rfl, rfl, rfl, rfl, by decide, by decide⟩ (by decide) (by decide) (by decide) rfl rfl ev em hv hm1 hm (by omega) ?_
      exact head_exit (i := 7) (by decide) (by decide) (by decide)
    · omega
    · omega
theorem g96_2 {xs : Nat → Int32} {kc ks : Nat} : GR xs 348 hp96i kc ks := by rw [hp96_V]; exact first_2
theorem g96_3 {xs : Nat → Int32} {kc ks : Nat} : GR xs 404 hp96i kc ks := by rw [hp96_V]; exact first_3
theorem g96_4 {xs : Nat → Int32} {kc ks : Nat} : GR xs 448 hp96i kc ks := by rw [hp96_V]; exact first_4
theorem g96_5 {xs : Nat → Int32} {kc ks : Nat} : GR xs 516 hp96i kc ks := by rw [hp96_V]; exact first_5
theorem g96_6 {xs : Nat → Int32} {kc ks : Nat} : GR xs 572 hp96i kc ks := by rw [hp96_V]; exact first_6
theorem g96_7 {xs : Nat → Int32} {kc ks : Nat} : GR xs 628 hp96i kc ks := by rw [hp96_V]; exact first_7
theorem g96_8 {xs : Nat → Int32} {kc ks : Nat} : GR xs 712 hp96i kc ks := by rw [hp96_V]; exact first_8
theorem g96_9 {xs : Nat → Int32} {kc ks : Nat} : GR xs 768 hp96i kc ks := by rw [hp96_V]; exact first_9
theorem g96_13 {xs : Nat → Int32} {kc ks : Nat} : GR xs 984 hp96i kc ks := by rw [hp96_V]; exact first_13
theorem g96_15 {xs : Nat → Int32} {kc ks : Nat} : GR xs 1124 hp96i kc ks := by rw [hp96_V]; exact first_15
theorem g96_17 {xs : Nat → Int32} {kc ks : Nat} : GR xs 1235 hp96i kc ks := by rw [hp96_V]; exact first_17
theorem g96_19 {xs : Nat → Int32} {kc ks : Nat} : GR xs 1335 hp96i kc ks := by rw [hp96_V]; exact first_19
theorem g96_20 {xs : Nat → Int32} {kc ks : Nat} : GR xs 1419 hp96i kc ks := by rw [hp96_V]; exact first_20
theorem g96_21 {xs : Nat → Int32} {kc ks : Nat} : GR xs 1475 hp96i kc ks := by rw [hp96_V]; exact first_21
theorem g96_22 {xs : Nat → Int32} {kc ks : Nat} : GR xs 1555 hp96i kc ks := by rw [hp96_V]; exact first_22
theorem g96_23 {xs : Nat → Int32} {kc ks : Nat} : GR xs 1599 hp96i kc ks := by rw [hp96_V]; exact first_23
theorem g96_24 {xs : Nat → Int32} {kc ks : Nat} : GR xs 1667 hp96i kc ks := by rw [hp96_V]; exact first_24
theorem g96_25 {xs : Nat → Int32} {kc ks : Nat} : GR xs 1747 hp96i kc ks := by rw [hp96_V]; exact first_25
set_option maxRecDepth 100000 in
set_option maxHeartbeats 4000000 in
theorem g96_10 {xs : Nat → Int32} {kc ks : Nat} : GR xs 824 hp96i kc ks := gr_10 (h0 := rfl) (h195 := rfl) (h224 := rfl) (class_rc fr96_c (av_ok (k := 0) (l := []) (by decide)) eC10_96) (fun H2 hl h2 => model_rc fr96_m hl h2 (av_ok (k := 195) (l := []) (by decide)) eM10_96)
set_option maxRecDepth 100000 in
set_option maxHeartbeats 4000000 in
theorem g96_12 {xs : Nat → Int32} {kc ks : Nat} : GR xs 940 hp96i kc ks := gr_12 (h0 := rfl) (h195 := rfl) (h224 := rfl) (class_rc fr96_c (av_ok (k := 0) (l := []) (by decide)) eC12_96) (fun H2 hl h2 => model_rc fr96_m hl h2 (av_ok (k := 195) (l := []) (by decide)) eM12_96)
set_option maxRecDepth 100000 in
set_option maxHeartbeats 4000000 in
theorem g96_14 {xs : Nat → Int32} {kc ks : Nat} : GR xs 1080 hp96i kc ks := gr_14 (h0 := rfl) (h195 := rfl) (h224 := rfl) (class_rc fr96_c (av_ok (k := 0) (l := []) (by decide)) eC14_96) (fun H2 hl h2 => model_rc fr96_m hl h2 (av_ok (k := 195) (l := []) (by decide)) eM14_96)
set_option maxRecDepth 100000 in
set_option maxHeartbeats 4000000 in
theorem g96_18 {xs : Nat → Int32} {kc ks : Nat} : GR xs 1291 hp96i kc ks := gr_18 (h0 := rfl) (h195 := rfl) (h224 := rfl) (class_rc fr96_c (av_ok (k := 0) (l := []) (by decide)) eC18_96) (fun H2 hl h2 => model_rc fr96_m hl h2 (av_ok (k := 195) (l := []) (by decide)) eM18_96)
set_option maxRecDepth 100000 in
set_option maxHeartbeats 4000000 in
theorem g96_11 {xs : Nat → Int32} {kc ks : Nat} : GR xs 868 hp96i kc ks := by
  by_cases h : xs (1 + 1) = 0
  · exact gr_11 (x := 0) (hx := if_pos h) (h0 := rfl) (h195 := rfl) (h224 := rfl) (class_rc fr96_c (av_ok (k := 0) (l := [0]) (by decide)) eC11_0_96) (fun H2 hl h2 => model_rc fr96_m hl h2 (av_ok (k := 195) (l := [0]) (by decide)) eM11_0_96)
  · exact gr_11 (x := 1) (hx := if_neg h) (h0 := rfl) (h195 := rfl) (h224 := rfl) (class_rc fr96_c (av_ok (k := 0) (l := [1]) (by decide)) eC11_1_96) (fun H2 hl h2 => model_rc fr96_m hl h2 (av_ok (k := 195) (l := [1]) (by decide)) eM11_1_96)
set_option maxRecDepth 100000 in
set_option maxHeartbeats 4000000 in
theorem g96_16 {xs : Nat → Int32} {kc ks : Nat} : GR xs 1179 hp96i kc ks := by
  by_cases hx : xs (1 + 1) < 0 ∨ ¬ xs (1 + 1) ≤ 9
  · exact grX_16_0 rfl rfl rfl rfl (rc_count_bad (o := 0) rfl hx) (rc_mcount_bad (a := 195) (y := 0) rfl rfl (hx.imp_right (fun e g => e ((le_pred (n := 9) (by decide)).mpr g))))
  · obtain ⟨j, hj, ej⟩ := nI_of2 (M := 9) (n := 9) rfl (fun e => hx (Or.inl e)) (Classical.not_not.mp (fun e => hx (Or.inr e)))
    match j, hj, ej with
    | 0, _, ej => exact gr_16 (x := nI 0) (hx := ej) (h0 := rfl) (h195 := rfl) (h224 := rfl) (class_rc fr96_c (av_ok (k := 0) (l := [nI 0]) (by decide)) eC16_0_96) (fun H2 hl h2 => model_rc fr96_m hl h2 (av_ok (k := 195) (l := [nI 0]) (by decide)) eM16_0_96)
    | 1, _, ej => exact gr_16 (x := nI 1) (hx := ej) (h0 := rfl) (h195 := rfl) (h224 := rfl) (class_rc fr96_c (av_ok (k := 0) (l := [nI 1]) (by decide)) eC16_1_96) (fun H2 hl h2 => model_rc fr96_m hl h2 (av_ok (k := 195) (l := [nI 1]) (by decide)) eM16_1_96)
    | 2, _, ej => exact gr_16 (x := nI 2) (hx := ej) (h0 := rfl) (h195 := rfl) (h224 := rfl) (class_rc fr96_c (av_ok (k := 0) (l := [nI 2]) (by decide)) eC16_2_96) (fun H2 hl h2 => model_rc fr96_m hl h2 (av_ok (k := 195) (l := [nI 2]) (by decide)) eM16_2_96)
    | 3, _, ej => exact gr_16 (x := nI 3) (hx := ej) (h0 := rfl) (h195 := rfl) (h224 := rfl) (class_rc fr96_c (av_ok (k := 0) (l := [nI 3]) (by decide)) eC16_3_96) (fun H2 hl h2 => model_rc fr96_m hl h2 (av_ok (k := 195) (l := [nI 3]) (by decide)) eM16_3_96)
    | 4, _, ej => exact gr_16 (x := nI 4) (hx := ej) (h0 := rfl) (h195 := rfl) (h224 := rfl) (class_rc fr96_c (av_ok (k := 0) (l := [nI 4]) (by decide)) eC16_4_96) (fun H2 hl h2 => model_rc fr96_m hl h2 (av_ok (k := 195) (l := [nI 4]) (by decide)) eM16_4_96)
    | 5, _, ej => exact gr_16 (x := nI 5) (hx := ej) (h0 := rfl) (h195 := rfl) (h224 := rfl) (class_rc fr96_c (av_ok (k := 0) (l := [nI 5]) (by decide)) eC16_5_96) (fun H2 hl h2 => model_rc fr96_m hl h2 (av_ok (k := 195) (l := [nI 5]) (by decide)) eM16_5_96)
    | 6, _, ej => exact gr_16 (x := nI 6) (hx := ej) (h0 := rfl) (h195 := rfl) (h224 := rfl) (class_rc fr96_c (av_ok (k := 0) (l := [nI 6]) (by decide)) eC16_6_96) (fun H2 hl h2 => model_rc fr96_m hl h2 (av_ok (k := 195) (l := [nI 6]) (by decide)) eM16_6_96)
    | 7, _, ej => exact gr_16 (x := nI 7) (hx := ej) (h0 := rfl) (h195 := rfl) (h224 := rfl) (class_rc fr96_c (av_ok (k := 0) (l := [nI 7]) (by decide)) eC16_7_96) (fun H2 hl h2 => model_rc fr96_m hl h2 (av_ok (k := 195) (l := [nI 7]) (by decide)) eM16_7_96)
    | 8, _, ej => exact gr_16 (x := nI 8) (hx := ej) (h0 := rfl) (h195 := rfl) (h224 := rfl) (class_rc fr96_c (av_ok (k := 0) (l := [nI 8]) (by decide)) eC16_8_96) (fun H2 hl h2 => model_rc fr96_m hl h2 (av_ok (k := 195) (l := [nI 8]) (by decide)) eM16_8_96)
    | 9, _, ej => exact gr_16 (x := nI 9) (hx := ej) (h0 := rfl) (h195 := rfl) (h224 := rfl) (class_rc fr96_c (av_ok (k := 0) (l := [nI 9]) (by decide)) eC16_9_96) (fun H2 hl h2 => model_rc fr96_m hl h2 (av_ok (k := 195) (l := [nI 9]) (by decide)) eM16_9_96)
    | j + 10, h, _ => exact absurd h (by omega)
set_option maxRecDepth 100000 in
set_option maxHeartbeats 4000000 in
theorem g96_26 {xs : Nat → Int32} {kc ks : Nat} : GR xs 1815 hp96i kc ks := by
  by_cases hx : xs (1 + 1) < 0 ∨ ¬ xs (1 + 1) ≤ 200
  · exact grX_26_0 rfl rfl rfl rfl rfl (rc_list_bad (o := 0) rfl hx) (rc_mlist_bad (a := 195) rfl rfl (hx.imp_right (fun e g => e ((le_pred (n := 200) (by decide)).mpr g))))
  · obtain ⟨v, hv, ev⟩ := nI_of2 (M := 200) (n := 200) rfl (fun e => hx (Or.inl e)) (Classical.not_not.mp (fun e => hx (Or.inr e)))
    by_cases h0 : v = 0
    · subst h0
      exact grX_26_3 ev rfl rfl rfl rfl (rc_list0 (o := 0) (a := 65) (k := 66) rfl rfl rfl rfl rfl rfl (by decide) rfl (fun w h1 h2 => if_neg (show ¬ w = 0 by omega))) (rc_mlist0 (a := 195) (k := 213) rfl rfl rfl rfl (by decide) rfl (by decide) rfl (fun w h1 h2 => if_neg (show ¬ w = 0 by omega)))
    · exact grX_26_3 ev rfl rfl rfl rfl (rc_list_no (o := 0) (a := 65) (k := 66) rfl rfl rfl rfl rfl rfl hv (by show ¬ (if v = 0 then (2 : Int32) else 0) = 2; rw [if_neg h0]; decide)) (rc_mlist_no (a := 195) (k := 213) rfl rfl rfl rfl (by decide) rfl hv (by show ¬ (if v = 0 then (2 : Int32) else 0) = 2; rw [if_neg h0]; decide))
set_option maxRecDepth 100000 in
set_option maxHeartbeats 4000000 in
theorem g96_27 {xs : Nat → Int32} {kc ks : Nat} : GR xs 1883 hp96i kc ks := by
  by_cases hx : (xs (1 + 1) < 0 ∨ ¬ xs (1 + 1) ≤ 200) ∨ (xs (1 + 2) < 0 ∨ ¬ xs (1 + 2) ≤ 3)
  · exact grX_27_0 rfl rfl rfl rfl rfl (rc_about_bad (o := 0) rfl hx) (rc_mabout_bad (a := 195) rfl rfl (hx.imp (fun h => h.imp_right (fun e g => e ((le_pred (n := 200) (by decide)).mpr g))) (fun h => h.imp_right (fun e g => e ((le_pred (n := 3) (by decide)).mpr g)))))
  · obtain ⟨v, hv, ev⟩ := nI_of2 (M := 200) (n := 200) rfl (fun e => hx (Or.inl (Or.inl e))) (Classical.not_not.mp (fun e => hx (Or.inl (Or.inr e))))
    obtain ⟨j, hj, ej⟩ := nI_of2 (x := xs (1 + 2)) (M := 3) (n := 3) rfl (fun e => hx (Or.inr (Or.inl e))) (Classical.not_not.mp (fun e => hx (Or.inr (Or.inr e))))
    by_cases h0 : v = 0
    · subst h0
      match j, hj, ej with
      | 0, _, ej => exact gr_27 (x := nI 0) (y := nI 0) (hx := ev) (hy := ej) (h0 := rfl) (h195 := rfl) (h224 := rfl) (class_rc fr96_c (av_ok (k := 0) (l := [nI 0, nI 0]) (by decide)) eC27_0_96) (fun H2 hl h2 => model_rc fr96_m hl h2 (av_ok (k := 195) (l := [nI 0, nI 0]) (by decide)) eM27_0_96)
      | 1, _, ej => exact gr_27 (x := nI 0) (y := nI 1) (hx := ev) (hy := ej) (h0 := rfl) (h195 := rfl) (h224 := rfl) (class_rc fr96_c (av_ok (k := 0) (l := [nI 0, nI 1]) (by decide)) eC27_1_96) (fun H2 hl h2 => model_rc fr96_m hl h2 (av_ok (k := 195) (l := [nI 0, nI 1]) (by decide)) eM27_1_96)
      | 2, _, ej => exact gr_27 (x := nI 0) (y := nI 2) (hx := ev) (hy := ej) (h0 := rfl) (h195 := rfl) (h224 := rfl) (class_rc fr96_c (av_ok (k := 0) (l := [nI 0, nI 2]) (by decide)) eC27_2_96) (fun H2 hl h2 => model_rc fr96_m hl h2 (av_ok (k := 195) (l := [nI 0, nI 2]) (by decide)) eM27_2_96)
      | 3, _, ej => exact gr_27 (x := nI 0) (y := nI 3) (hx := ev) (hy := ej) (h0 := rfl) (h195 := rfl) (h224 := rfl) (class_rc fr96_c (av_ok (k := 0) (l := [nI 0, nI 3]) (by decide)) eC27_3_96) (fun H2 hl h2 => model_rc fr96_m hl h2 (av_ok (k := 195) (l := [nI 0, nI 3]) (by decide)) eM27_3_96)
      | j + 4, h, _ => exact absurd h (by omega)
    · exact grX_27_3 ev ej rfl rfl rfl (rc_about_no (o := 0) (a := 65) (k := 66) rfl rfl rfl rfl rfl rfl hv hj (by show (if v = 0 then (2 : Int32) else 0) = 0; rw [if_neg h0])) (rc_mabout_no (a := 195) (k := 213) rfl rfl rfl rfl (by decide) rfl hv hj (by show (if v = 0 then (2 : Int32) else 0) = 0; rw [if_neg h0]))
set_option maxRecDepth 100000 in
set_option maxHeartbeats 4000000 in
theorem g128_0 {xs : Nat → Int32} {kc ks : Nat} : GR xs 176 hp128i kc ks := by
  apply GR.mk (k := kc) (n := ks)
  · refine step_feed_ok (L := 7) (i := 1) (l := 0) (by decide) (by decide) rfl rfl rfl ⟨rfl, rfl, by decide, by decide⟩ ⟨rfl, rfl, rfl, rfl, rfl, by decide, by decide⟩ rfl rfl (by decide) ?_
    exact head_exit (i := 7) (by decide) (by decide) (by decide)
  · omega
  · omega
set_option maxRecDepth 100000 in
set_option maxHeartbeats 4000000 in
theorem g128_1 {xs : Nat → Int32} {kc ks : Nat} : GR xs 280 hp128i kc ks := by
  by_cases hx : (xs (1 + 1) < 0 ∨ ¬ xs (1 + 1) ≤ 255) ∨ (xs (1 + 2) < 1 ∨ ¬ xs (1 + 2) ≤ 1000)
  · apply GR.mk (k := kc + 1) (n := ks + 6)
    · refine step_fill_bad (L := 7) (i := 1) (n := 0) (f := fun _ => 0) (by decide) (by decide) rfl rfl rfl hx ?_
      exact head_exit (i := 7) (by decide) (by decide) (by decide)
    · omega
    · omega
  · obtain ⟨v, hv, ev⟩ := nI_of2 (M := 255) (n := 255) rfl (fun e => hx (Or.inl (Or.inl e))) (Classical.not_not.mp (fun e => hx (Or.inl (Or.inr e))))
    obtain ⟨m, hm, em⟩ := nI_of2 (x := xs (1 + 2)) (M := 1000) (n := 1000) rfl (fun e => hx (Or.inr (Or.inl (Int32.lt_trans e (by decide))))) (Classical.not_not.mp (fun e => hx (Or.inr (Or.inr e))))
    have hm1 : 1 ≤ m := by
      rcases Nat.eq_zero_or_pos m with rfl | h
      · exact absurd (Or.inr (Or.inl (by rw [em]; decide))) hx
      · exact h
    apply GR.mk (k := kc) (n := ks)
    · refine step_fill_ok (H := hp128i) (L := 7) (i := 1) (b := 2) (l := 0) (n := 2000) (c := 196) (n2 := 2000) (v := v) (m := m) (by decide) (by decide) rfl rfl rfl ⟨rfl, rfl, by decide, by decide⟩ (by decide) (by decide) (by decide) (by decide) (by decide) ⟨rfl, rfl, rfl, rfl, rfl, by decide, by decide⟩ (by decide) (by decide) (by decide) rfl rfl ev em hv hm1 hm (by omega) ?_
      exact head_exit (i := 7) (by decide) (by decide) (by decide)
    · omega
    · omega
theorem g128_2 {xs : Nat → Int32} {kc ks : Nat} : GR xs 348 hp128i kc ks := by rw [hp128_V]; exact first_2
theorem g128_3 {xs : Nat → Int32} {kc ks : Nat} : GR xs 404 hp128i kc ks := by rw [hp128_V]; exact first_3
theorem g128_4 {xs : Nat → Int32} {kc ks : Nat} : GR xs 448 hp128i kc ks := by rw [hp128_V]; exact first_4
theorem g128_5 {xs : Nat → Int32} {kc ks : Nat} : GR xs 516 hp128i kc ks := by rw [hp128_V]; exact first_5
theorem g128_6 {xs : Nat → Int32} {kc ks : Nat} : GR xs 572 hp128i kc ks := by rw [hp128_V]; exact first_6
theorem g128_7 {xs : Nat → Int32} {kc ks : Nat} : GR xs 628 hp128i kc ks := by rw [hp128_V]; exact first_7
theorem g128_8 {xs : Nat → Int32} {kc ks : Nat} : GR xs 712 hp128i kc ks := by rw [hp128_V]; exact first_8
theorem g128_9 {xs : Nat → Int32} {kc ks : Nat} : GR xs 768 hp128i kc ks := by rw [hp128_V]; exact first_9
theorem g128_13 {xs : Nat → Int32} {kc ks : Nat} : GR xs 984 hp128i kc ks := by rw [hp128_V]; exact first_13
theorem g128_15 {xs : Nat → Int32} {kc ks : Nat} : GR xs 1124 hp128i kc ks := by rw [hp128_V]; exact first_15
theorem g128_17 {xs : Nat → Int32} {kc ks : Nat} : GR xs 1235 hp128i kc ks := by rw [hp128_V]; exact first_17
theorem g128_19 {xs : Nat → Int32} {kc ks : Nat} : GR xs 1335 hp128i kc ks := by rw [hp128_V]; exact first_19
theorem g128_20 {xs : Nat → Int32} {kc ks : Nat} : GR xs 1419 hp128i kc ks := by rw [hp128_V]; exact first_20
theorem g128_21 {xs : Nat → Int32} {kc ks : Nat} : GR xs 1475 hp128i kc ks := by rw [hp128_V]; exact first_21
theorem g128_22 {xs : Nat → Int32} {kc ks : Nat} : GR xs 1555 hp128i kc ks := by rw [hp128_V]; exact first_22
theorem g128_23 {xs : Nat → Int32} {kc ks : Nat} : GR xs 1599 hp128i kc ks := by rw [hp128_V]; exact first_23
theorem g128_24 {xs : Nat → Int32} {kc ks : Nat} : GR xs 1667 hp128i kc ks := by rw [hp128_V]; exact first_24
theorem g128_25 {xs : Nat → Int32} {kc ks : Nat} : GR xs 1747 hp128i kc ks := by rw [hp128_V]; exact first_25
set_option maxRecDepth 100000 in
set_option maxHeartbeats 4000000 in
theorem g128_10 {xs : Nat → Int32} {kc ks : Nat} : GR xs 824 hp128i kc ks := gr_10 (h0 := rfl) (h195 := rfl) (h224 := rfl) (class_rc fr128_c (av_ok (k := 0) (l := []) (by decide)) eC10_128) (fun H2 hl h2 => model_rc fr128_m hl h2 (av_ok (k := 195) (l := []) (by decide)) eM10_128)
set_option maxRecDepth 100000 in
set_option maxHeartbeats 4000000 in
theorem g128_12 {xs : Nat → Int32} {kc ks : Nat} : GR xs 940 hp128i kc ks := gr_12 (h0 := rfl) (h195 := rfl) (h224 := rfl) (class_rc fr128_c (av_ok (k := 0) (l := []) (by decide)) eC12_128) (fun H2 hl h2 => model_rc fr128_m hl h2 (av_ok (k := 195) (l := []) (by decide)) eM12_128)
set_option maxRecDepth 100000 in
set_option maxHeartbeats 4000000 in
theorem g128_14 {xs : Nat → Int32} {kc ks : Nat} : GR xs 1080 hp128i kc ks := gr_14 (h0 := rfl) (h195 := rfl) (h224 := rfl) (class_rc fr128_c (av_ok (k := 0) (l := []) (by decide)) eC14_128) (fun H2 hl h2 => model_rc fr128_m hl h2 (av_ok (k := 195) (l := []) (by decide)) eM14_128)
set_option maxRecDepth 100000 in
set_option maxHeartbeats 4000000 in
theorem g128_18 {xs : Nat → Int32} {kc ks : Nat} : GR xs 1291 hp128i kc ks := gr_18 (h0 := rfl) (h195 := rfl) (h224 := rfl) (class_rc fr128_c (av_ok (k := 0) (l := []) (by decide)) eC18_128) (fun H2 hl h2 => model_rc fr128_m hl h2 (av_ok (k := 195) (l := []) (by decide)) eM18_128)
set_option maxRecDepth 100000 in
set_option maxHeartbeats 4000000 in
theorem g128_11 {xs : Nat → Int32} {kc ks : Nat} : GR xs 868 hp128i kc ks := by
  by_cases h : xs (1 + 1) = 0
  · exact gr_11 (x := 0) (hx := if_pos h) (h0 := rfl) (h195 := rfl) (h224 := rfl) (class_rc fr128_c (av_ok (k := 0) (l := [0]) (by decide)) eC11_0_128) (fun H2 hl h2 => model_rc fr128_m hl h2 (av_ok (k := 195) (l := [0]) (by decide)) eM11_0_128)
  · exact gr_11 (x := 1) (hx := if_neg h) (h0 := rfl) (h195 := rfl) (h224 := rfl) (class_rc fr128_c (av_ok (k := 0) (l := [1]) (by decide)) eC11_1_128) (fun H2 hl h2 => model_rc fr128_m hl h2 (av_ok (k := 195) (l := [1]) (by decide)) eM11_1_128)
set_option maxRecDepth 100000 in
set_option maxHeartbeats 4000000 in
theorem g128_16 {xs : Nat → Int32} {kc ks : Nat} : GR xs 1179 hp128i kc ks := by
  by_cases hx : xs (1 + 1) < 0 ∨ ¬ xs (1 + 1) ≤ 9
  · exact grX_16_0 rfl rfl rfl rfl (rc_count_bad (o := 0) rfl hx) (rc_mcount_bad (a := 195) (y := 0) rfl rfl (hx.imp_right (fun e g => e ((le_pred (n := 9) (by decide)).mpr g))))
  · obtain ⟨j, hj, ej⟩ := nI_of2 (M := 9) (n := 9) rfl (fun e => hx (Or.inl e)) (Classical.not_not.mp (fun e => hx (Or.inr e)))
    match j, hj, ej with
    | 0, _, ej => exact gr_16 (x := nI 0) (hx := ej) (h0 := rfl) (h195 := rfl) (h224 := rfl) (class_rc fr128_c (av_ok (k := 0) (l := [nI 0]) (by decide)) eC16_0_128) (fun H2 hl h2 => model_rc fr128_m hl h2 (av_ok (k := 195) (l := [nI 0]) (by decide)) eM16_0_128)
    | 1, _, ej => exact gr_16 (x := nI 1) (hx := ej) (h0 := rfl) (h195 := rfl) (h224 := rfl) (class_rc fr128_c (av_ok (k := 0) (l := [nI 1]) (by decide)) eC16_1_128) (fun H2 hl h2 => model_rc fr128_m hl h2 (av_ok (k := 195) (l := [nI 1]) (by decide)) eM16_1_128)
    | 2, _, ej => exact gr_16 (x := nI 2) (hx := ej) (h0 := rfl) (h195 := rfl) (h224 := rfl) (class_rc fr128_c (av_ok (k := 0) (l := [nI 2]) (by decide)) eC16_2_128) (fun H2 hl h2 => model_rc fr128_m hl h2 (av_ok (k := 195) (l := [nI 2]) (by decide)) eM16_2_128)
    | 3, _, ej => exact gr_16 (x := nI 3) (hx := ej) (h0 := rfl) (h195 := rfl) (h224 := rfl) (class_rc fr128_c (av_ok (k := 0) (l := [nI 3]) (by decide)) eC16_3_128) (fun H2 hl h2 => model_rc fr128_m hl h2 (av_ok (k := 195) (l := [nI 3]) (by decide)) eM16_3_128)
    | 4, _, ej => exact gr_16 (x := nI 4) (hx := ej) (h0 := rfl) (h195 := rfl) (h224 := rfl) (class_rc fr128_c (av_ok (k := 0) (l := [nI 4]) (by decide)) eC16_4_128) (fun H2 hl h2 => model_rc fr128_m hl h2 (av_ok (k := 195) (l := [nI 4]) (by decide)) eM16_4_128)
    | 5, _, ej => exact gr_16 (x := nI 5) (hx := ej) (h0 := rfl) (h195 := rfl) (h224 := rfl) (class_rc fr128_c (av_ok (k := 0) (l := [nI 5]) (by decide)) eC16_5_128) (fun H2 hl h2 => model_rc fr128_m hl h2 (av_ok (k := 195) (l := [nI 5]) (by decide)) eM16_5_128)
    | 6, _, ej => exact gr_16 (x := nI 6) (hx := ej) (h0 := rfl) (h195 := rfl) (h224 := rfl) (class_rc fr128_c (av_ok (k := 0) (l := [nI 6]) (by decide)) eC16_6_128) (fun H2 hl h2 => model_rc fr128_m hl h2 (av_ok (k := 195) (l := [nI 6]) (by decide)) eM16_6_128)
    | 7, _, ej => exact gr_16 (x := nI 7) (hx := ej) (h0 := rfl) (h195 := rfl) (h224 := rfl) (class_rc fr128_c (av_ok (k := 0) (l := [nI 7]) (by decide)) eC16_7_128) (fun H2 hl h2 => model_rc fr128_m hl h2 (av_ok (k := 195) (l := [nI 7]) (by decide)) eM16_7_128)
    | 8, _, ej => exact gr_16 (x := nI 8) (hx := ej) (h0 := rfl) (h195 := rfl) (h224 := rfl) (class_rc fr128_c (av_ok (k := 0) (l := [nI 8]) (by decide)) eC16_8_128) (fun H2 hl h2 => model_rc fr128_m hl h2 (av_ok (k := 195) (l := [nI 8]) (by decide)) eM16_8_128)
    | 9, _, ej => exact gr_16 (x := nI 9) (hx := ej) (h0 := rfl) (h195 := rfl) (h224 := rfl) (class_rc fr128_c (av_ok (k := 0) (l := [nI 9]) (by decide)) eC16_9_128) (fun H2 hl h2 => model_rc fr128_m hl h2 (av_ok (k := 195) (l := [nI 9]) (by decide)) eM16_9_128)
    | j + 10, h, _ => exact absurd h (by omega)
set_option maxRecDepth 100000 in
set_option maxHeartbeats 4000000 in
theorem g128_26 {xs : Nat → Int32} {kc ks : Nat} : GR xs 1815 hp128i kc ks := by
  by_cases hx : xs (1 + 1) < 0 ∨ ¬ xs (1 + 1) ≤ 200
  · exact grX_26_0 rfl rfl rfl rfl rfl (rc_list_bad (o := 0) rfl hx) (rc_mlist_bad (a := 195) rfl rfl (hx.imp_right (fun e g => e ((le_pred (n := 200) (by decide)).mpr g))))
  · obtain ⟨v, hv, ev⟩ := nI_of2 (M := 200) (n := 200) rfl (fun e => hx (Or.inl e)) (Classical.not_not.mp (fun e => hx (Or.inr e)))
    by_cases h0 : v = 0
    · subst h0
      exact grX_26_3 ev rfl rfl rfl rfl (rc_list0 (o := 0) (a := 65) (k := 66) rfl rfl rfl rfl rfl rfl (by decide) rfl (fun w h1 h2 => if_neg (show ¬ w = 0 by omega))) (rc_mlist0 (a := 195) (k := 213) rfl rfl rfl rfl (by decide) rfl (by decide) rfl (fun w h1 h2 => if_neg (show ¬ w = 0 by omega)))
    · exact grX_26_3 ev rfl rfl rfl rfl (rc_list_no (o := 0) (a := 65) (k := 66) rfl rfl rfl rfl rfl rfl hv (by show ¬ (if v = 0 then (2 : Int32) else 0) = 2; rw [if_neg h0]; decide)) (rc_mlist_no (a := 195) (k := 213) rfl rfl rfl rfl (by decide) rfl hv (by show ¬ (if v = 0 then (2 : Int32) else 0) = 2; rw [if_neg h0]; decide))
set_option maxRecDepth 100000 in
set_option maxHeartbeats 4000000 in
theorem g128_27 {xs : Nat → Int32} {kc ks : Nat} : GR xs 1883 hp128i kc ks := by
  by_cases hx : (xs (1 + 1) < 0 ∨ ¬ xs (1 + 1) ≤ 200) ∨ (xs (1 + 2) < 0 ∨ ¬ xs (1 + 2) ≤ 3)
  · exact grX_27_0 rfl rfl rfl rfl rfl (rc_about_bad (o := 0) rfl hx) (rc_mabout_bad (a := 195) rfl rfl (hx.imp (fun h => h.imp_right (fun e g => e ((le_pred (n := 200) (by decide)).mpr g))) (fun h => h.imp_right (fun e g => e ((le_pred (n := 3) (by decide)).mpr g)))))
  · obtain ⟨v, hv, ev⟩ := nI_of2 (M := 200) (n := 200) rfl (fun e => hx (Or.inl (Or.inl e))) (Classical.not_not.mp (fun e => hx (Or.inl (Or.inr e))))
    obtain ⟨j, hj, ej⟩ := nI_of2 (x := xs (1 + 2)) (M := 3) (n := 3) rfl (fun e => hx (Or.inr (Or.inl e))) (Classical.not_not.mp (fun e => hx (Or.inr (Or.inr e))))
    by_cases h0 : v = 0
    · subst h0
      match j, hj, ej with
      | 0, _, ej => exact gr_27 (x := nI 0) (y := nI 0) (hx := ev) (hy := ej) (h0 := rfl) (h195 := rfl) (h224 := rfl) (class_rc fr128_c (av_ok (k := 0) (l := [nI 0, nI 0]) (by decide)) eC27_0_128) (fun H2 hl h2 => model_rc fr128_m hl h2 (av_ok (k := 195) (l := [nI 0, nI 0]) (by decide)) eM27_0_128)
      | 1, _, ej => exact gr_27 (x := nI 0) (y := nI 1) (hx := ev) (hy := ej) (h0 := rfl) (h195 := rfl) (h224 := rfl) (class_rc fr128_c (av_ok (k := 0) (l := [nI 0, nI 1]) (by decide)) eC27_1_128) (fun H2 hl h2 => model_rc fr128_m hl h2 (av_ok (k := 195) (l := [nI 0, nI 1]) (by decide)) eM27_1_128)
      | 2, _, ej => exact gr_27 (x := nI 0) (y := nI 2) (hx := ev) (hy := ej) (h0 := rfl) (h195 := rfl) (h224 := rfl) (class_rc fr128_c (av_ok (k := 0) (l := [nI 0, nI 2]) (by decide)) eC27_2_128) (fun H2 hl h2 => model_rc fr128_m hl h2 (av_ok (k := 195) (l := [nI 0, nI 2]) (by decide)) eM27_2_128)
      | 3, _, ej => exact gr_27 (x := nI 0) (y := nI 3) (hx := ev) (hy := ej) (h0 := rfl) (h195 := rfl) (h224 := rfl) (class_rc fr128_c (av_ok (k := 0) (l := [nI 0, nI 3]) (by decide)) eC27_3_128) (fun H2 hl h2 => model_rc fr128_m hl h2 (av_ok (k := 195) (l := [nI 0, nI 3]) (by decide)) eM27_3_128)
      | j + 4, h, _ => exact absurd h (by omega)
    · exact grX_27_3 ev ej rfl rfl rfl (rc_about_no (o := 0) (a := 65) (k := 66) rfl rfl rfl rfl rfl rfl hv hj (by show (if v = 0 then (2 : Int32) else 0) = 0; rw [if_neg h0])) (rc_mabout_no (a := 195) (k := 213) rfl rfl rfl rfl (by decide) rfl hv hj (by show (if v = 0 then (2 : Int32) else 0) = 0; rw [if_neg h0]))
