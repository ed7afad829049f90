/-! ===== a log is cleared, out of its parts; how many are alone; class; written by wip/gen/clearz.py ===== -/
def aloN (vs : List aV) : Nat := (vs.filter (fun v => v.2.2.2.2)).length
theorem aloN_vsL {kf : Nat → Int8} {kl mo pl : Nat → Nat} {le : Nat → Option Nat} {al : Nat → Bool} {od : Nat → Nat} : ∀ (sz : Nat), aloN (vsL kf kl mo pl le al od sz) = cntB (fun j => al (od j)) sz
  | 0 => rfl
  | n + 1 => by
    have ih := aloN_vsL (kf := kf) (kl := kl) (mo := mo) (pl := pl) (le := le) (al := al) (od := od) n
    unfold aloN vsL at ih ⊢
    rw [List.range_succ, List.map_append, List.filter_append, List.length_append, ih, cntB]
    show _ + (List.filter _ [verO kf kl mo pl le al (od n)]).length = _
    rw [List.filter_cons]
    show _ + List.length (if al (od n) = true then _ else _) = _
    cases al (od n) <;> rfl
theorem VersIs.alo {H : aH} {N : Nat} {vs : List aV} (h : VersIs H N vs) : ∃ kf kl mo pl le al od sp sz ss, VersAt H N kf kl mo pl le al od sp sz ss (aloN vs) ∧ sz = vs.length ∧ aloN vs < 2 ^ 31 := by
  obtain ⟨kf, kl, mo, pl, le, al, od, sp, sz, ss, ac, hA, hW, hvs⟩ := h
  have e : aloN vs = ac := by rw [hvs, aloN_vsL]; exact hW.2.2.2.2.2.2.1.symm
  have hs : sz = vs.length := by rw [hvs]; unfold vsL; rw [List.length_map, List.length_range]
  have hl : aloN vs ≤ vs.length := List.length_filter_le _ _
  have := hW.1.1
  have := hW.1.2.1
  rw [e] at hl ⊢
  exact ⟨kf, kl, mo, pl, le, al, od, sp, sz, ss, hA, hs, by omega⟩
theorem aloN_0 {vs : List aV} (h : aloN vs = 0) : ∀ v ∈ vs, v.2.2.2.2 = false := fun v hv => by
  cases e : v.2.2.2.2 with
  | false => rfl
  | true =>
    have : v ∈ vs.filter (fun v => v.2.2.2.2) := List.mem_filter.mpr ⟨hv, e⟩
    rw [List.length_eq_zero_iff.mp h] at this
    exact absurd this List.not_mem_nil
theorem re_clear {sc : Nat × (Nat → Int32)} {d P N : Nat} {H : aH} {vs : List aV} {ok1 ok bad : aH → Prop} (hG : H[190]? = some (kO 4 (logF 0 0))) (hT : ∃ tfs, H[136]? = some (kO 8 tfs)) (hV : VersIs H N vs) (h1 : 1 ≤ aloN vs → RE sc (d + 5) mr_97 [.ref 137, .int 0, .int (nI P)] H ok1 bad) (h2 : ∀ H', ok1 H' → RQ sc (d + 6) mr_140 19 [(0, .ref 191), (1, .int (nI P))] [] H' 0 0 (EQ ok bad)) (h3 : aloN vs = 0 → RQ sc (d + 6) mr_140 19 [(0, .ref 191), (1, .int (nI P))] [] H 0 0 (EQ ok bad)) : RE sc (d + 6) mr_140 [.ref 191, .int (nI P)] H ok bad := by
  obtain ⟨kf, kl, mo, pl, le, al, od, sp, sz, ss, hA, hsz, hac⟩ := hV.alo
  obtain ⟨tfs, hT⟩ := hT
  refine RE.of ?_
  refine RQ.blk 1 (pc' := 1) (lv' := [(0, .ref 191), (1, .int (nI P))]) (st' := [.ref 191]) (H' := _) (kc' := 0) (ks' := 0) rfl ?_
  refine RQ.get (ci := 4) rfl hG rfl rfl ?_
  refine RQ.get (ci := 10) rfl hA.1 rfl rfl ?_
  by_cases hz : aloN vs = 0
  · refine RQ.brT rfl rfl rfl (cT_le (aloN vs) 0) ?_
    exact h3 hz
  · refine RQ.brF rfl rfl rfl (cF_le (aloN vs) 0) ?_
    refine RQ.blk 1 (pc' := 11) (lv' := [(0, .ref 191), (1, .int (nI P))]) (st' := [.ref 191]) (H' := _) (kc' := 0) (ks' := 0) rfl ?_
    refine RQ.get (ci := 4) rfl hG rfl rfl ?_
    refine RQ.blk 2 (pc' := 16) (lv' := [(0, .ref 191), (1, .int (nI P))]) (st' := [.int (nI P), .int 0, .ref 137]) (H' := _) (kc' := 0) (ks' := 0) rfl ?_
    refine RQ.callT (st' := []) rfl rfl rfl rfl rfl rfl (args_v [.int (nI P), .int 0] [] rfl rfl (Nat.le_of_ble_eq_true rfl) rfl hT (Nat.le_of_ble_eq_true rfl)) (h1 (by omega)) rfl (fun H2 hx2 => ?_) (fun H9 hbad => Or.inr ⟨_, rfl, hbad⟩)
    exact h2 H2 hx2
