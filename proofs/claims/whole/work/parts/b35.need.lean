/-! ===== what is needed: class and reference tell the same number; by hand ===== -/
theorem sum_if {α : Type} {p : α → Bool} {w : α → Nat} : ∀ (l : List α), (l.map (fun v => if p v then w v else 0)).sum = ((l.filter p).map w).sum
  | [] => rfl
  | a :: t => by
    rw [List.map_cons, List.sum_cons, sum_if t, List.filter_cons]
    cases e : p a with
    | true => rw [if_pos rfl, if_pos rfl, List.map_cons, List.sum_cons]
    | false => rw [if_neg Bool.noConfusion, if_neg Bool.noConfusion, Nat.zero_add]
theorem sumF_range {g : Nat → Nat} : ∀ (n : Nat), sumF g n = ((List.range n).map (fun j => g (j + 1))).sum
  | 0 => rfl
  | n + 1 => by
    rw [List.range_succ, List.map_append, List.sum_append, ← sumF_range n]
    show sumF g n + g (n + 1) = _
    rw [List.map_cons, List.map_nil, List.sum_cons, List.sum_nil]
    omega
theorem plen_sum : ∀ (ps : List aPc), (ps.map (fun x => 27 + x.2.2.length)).sum = 27 * ps.length + plen ps
  | [] => rfl
  | x :: t => by
    have h := plen_sum t
    unfold plen at h ⊢
    rw [List.map_cons, List.sum_cons, h, List.map_cons, List.sum_cons, List.length_cons]
    omega
theorem need_file {op : Nat → Bool} {sm : Nat → Nat} {x : Int32} {pr : Nat} {vs : List aV} {v : aV} (hM : ∀ v ∈ vs, v.2.1 ≤ pr) (hv : v ∈ vs) (hu : usV v = false) : needS op sm x pr (kmV vs) (usV v) (ouV v) v.1 v.2.1 = true ↔ NwV vs v ∧ v.2.2.2.1 ≠ none := by
  unfold needS
  rw [if_pos hu, Bool.and_eq_true, stk_nw hM hv]
  refine and_congr_right (fun _ => ?_)
  unfold ouV
  by_cases e : v.2.2.2.1 = none
  · rw [decide_eq_true e]
    exact ⟨fun h => Bool.noConfusion h, fun h => absurd e h⟩
  · rw [decide_eq_false e]
    exact ⟨fun _ => e, fun _ => rfl⟩
/-- the nodes and pieces of the reference, with what they weigh -/
def refF (kd nl : Nat → Nat) (ps : List aPc) : List (List Nat × Nat) := ((List.range 200).filter (fun j => !(decide (kd (j + 1) = 0)))).map (fun j => ([1, j + 1], 62 + nl (j + 1))) ++ ps.map (fun x => ([2, x.1, x.2.1], 27 + x.2.2.length))
theorem nod_sum {kd nl : Nat → Nat} (n : Nat) : ((((List.range n).filter (fun j => !(decide (kd (j + 1) = 0)))).map (fun j => (([1, j + 1], 62 + nl (j + 1)) : List Nat × Nat))).map (fun z => z.2)).sum = sumF (fun f => if kd f = 0 then 0 else 62 + nl f) n := by
  rw [List.map_map, sumF_range]
  have := sum_if (p := fun j => !(decide (kd (j + 1) = 0))) (w := fun j => 62 + nl (j + 1)) (List.range n)
  refine this.symm.trans ?_
  congr 1
  refine List.map_congr_left (fun j _ => ?_)
  by_cases e : kd (j + 1) = 0
  · rw [decide_eq_true e, if_pos e]; rfl
  · rw [decide_eq_false e, if_neg e]; rfl
theorem pcs_sum (ps : List aPc) : ((ps.map (fun x => (([2, x.1, x.2.1], 27 + x.2.2.length) : List Nat × Nat))).map (fun z => z.2)).sum = 27 * ps.length + plen ps := by
  rw [List.map_map, ← plen_sum]
  rfl
theorem refF_sum {kd nl : Nat → Nat} {ps : List aPc} : ((refF kd nl ps).map (fun z => z.2)).sum = sumF (fun f => if kd f = 0 then 0 else 62 + nl f) 200 + (27 * ps.length + plen ps) := by
  unfold refF
  rw [List.map_append, List.sum_append, nod_sum, pcs_sum]
theorem refF_nd {kd nl : Nat → Nat} {ps : List aPc} (hp : OneP ps) : (refF kd nl ps).Nodup := by
  unfold refF
  refine List.pairwise_append.mpr ⟨?_, ?_, fun a ha b hb e => ?_⟩
  · refine List.pairwise_map.mpr (List.Pairwise.imp ?_ (List.Pairwise.sublist List.filter_sublist List.nodup_range))
    intro a b hab e
    injection e with e _
    injection e with _ e
    injection e with e _
    exact hab (by omega)
  · refine List.pairwise_map.mpr (hp.1.imp ?_)
    intro a b hab e
    injection e with e _
    injection e with _ e
    injection e with e1 e
    injection e with e2 _
    exact hab ⟨e1, e2⟩
  · obtain ⟨j, -, j2⟩ := List.mem_map.mp ha
    obtain ⟨x, -, x2⟩ := List.mem_map.mp hb
    rw [← j2, ← x2] at e
    injection e with e _
    injection e with e _
    exact absurd e (by decide)
theorem need_files {ky : List (List Nat)} {op : Nat → Bool} {sm : Nat → Nat} {x : Int32} {pr P : Nat} {c : Nat → Int8} {vs : List aV} {kd pa sz nl : Nat → Nat} {nm : Nat → Int8} {ps : List aPc} (hs : SrtV vs) (hV : ∀ v ∈ vs, VOk ky P v) (hM : ∀ v ∈ vs, v.2.1 ≤ pr) (hN : NodR c vs kd pa sz nl nm) (hPc : PcR c vs ps) (hp : OneP ps) : sumN op sm x pr (kmV vs) (vs.filter (fun v => !(usV v))) = sumF (fun f => if kd f = 0 then 0 else 62 + nl f) 200 + (27 * ps.length + plen ps) := by
  rw [← refF_sum]
  unfold sumN
  rw [sum_if (p := fun v => needS op sm x pr (kmV vs) (usV v) (ouV v) v.1 v.2.1) (w := wgV)]
  have hm : ∀ v, v ∈ (vs.filter (fun v => !(usV v))).filter (fun v => needS op sm x pr (kmV vs) (usV v) (ouV v) v.1 v.2.1) ↔ usV v = false ∧ NwV vs v ∧ v.2.2.2.1 ≠ none := fun v => by
    rw [List.mem_filter, List.mem_filter]
    constructor
    · rintro ⟨⟨h1, h2⟩, h3⟩
      have hu : usV v = false := by
        cases e : usV v with
        | false => rfl
        | true => rw [e] at h2; exact Bool.noConfusion h2
      exact ⟨hu, (need_file hM h1 hu).mp h3⟩
    · rintro ⟨h1, h2, h3⟩
      exact ⟨⟨h2.1, by rw [h1]; rfl⟩, (need_file hM h2.1 h1).mpr ⟨h2, h3⟩⟩
  have hperm : (((vs.filter (fun v => !(usV v))).filter (fun v => needS op sm x pr (kmV vs) (usV v) (ouV v) v.1 v.2.1)).map (fun v => (v.1, wgV v))).Perm (refF kd nl ps) := by
    refine perm_nd ?_ (refF_nd hp) (fun z => ?_)
    · refine List.pairwise_map.mpr (List.Pairwise.imp_of_mem ?_ (List.Pairwise.sublist (List.filter_sublist.trans List.filter_sublist) hs))
      intro u v hu hv q e
      have e1 : u.1 = v.1 := congrArg (fun z : List Nat × Nat => z.1) e
      have hu := (hm u).mp hu
      have hv := (hm v).mp hv
      rcases q with q | q
      · rw [e1, cmpL_self] at q; exact absurd q (by decide)
      · have := hv.2.1.2 u hu.2.1.1 e1
        omega
    · constructor
      · intro hz
        obtain ⟨v, hv, ez⟩ := List.mem_map.mp hz
        obtain ⟨v1, v2, v3⟩ := (hm v).mp hv
        unfold refF
        rw [List.mem_append, ← ez]
        obtain ⟨n, hn⟩ := Option.ne_none_iff_exists'.mp v3
        rcases (hV v v2.1).2.1 with ⟨k, q1, -⟩ | ⟨f, q1, q2, q3, q4⟩ | ⟨f, i, q1, q2, q3, q4⟩
        · rw [show usV v = true from decide_eq_true (by rw [q1]; rfl)] at v1
          exact Bool.noConfusion v1
        · left
          obtain ⟨k1, k2⟩ := (hN f q2 q3 _).mp ⟨v, v2, q1, valV_of v3⟩
          have hl := congrArg List.length k2
          rw [valB_len hn] at hl
          unfold nodB at hl
          rw [List.length_append, List.length_append, beB_length, sl_length] at hl
          have hl : n = 2 + (2 + nl f) := hl
          refine List.mem_map.mpr ⟨f - 1, List.mem_filter.mpr ⟨List.mem_range.mpr (by omega), ?_⟩, ?_⟩
          · rw [show f - 1 + 1 = f by omega, decide_eq_false k1]; rfl
          · rw [show f - 1 + 1 = f by omega]
            unfold wgV wgt
            rw [q1, hn]
            show ([1, f], 62 + nl f) = ([1, f], 62 + n - 4)
            rw [show 62 + n - 4 = 62 + nl f by omega]
        · right
          obtain ⟨b8, k1, k2⟩ := (hPc f i _).mp ⟨v, v2, q1, valV_of v3⟩
          have hl := congrArg List.length k2
          rw [valB_len hn, List.length_map] at hl
          refine List.mem_map.mpr ⟨_, k1, ?_⟩
          unfold wgV wgt
          rw [q1, hn]
          show ([2, f, i], 27 + b8.length) = ([2, f, i], 27 + n)
          rw [hl]
      · intro hz
        unfold refF at hz
        rcases List.mem_append.mp hz with hz | hz
        · obtain ⟨j, j1, j2⟩ := List.mem_map.mp hz
          obtain ⟨j3, j4⟩ := List.mem_filter.mp j1
          have j3 := List.mem_range.mp j3
          have hk : kd (j + 1) ≠ 0 := fun e => by
            rw [decide_eq_true e] at j4
            exact Bool.noConfusion j4
          obtain ⟨v, v1, v2, v3⟩ := (hN (j + 1) (by omega) (by omega) _).mpr ⟨hk, rfl⟩
          obtain ⟨s1, s2⟩ := valV_some v3
          obtain ⟨n, hn⟩ := Option.ne_none_iff_exists'.mp s1
          have hl := congrArg List.length s2
          rw [valB_len hn] at hl
          unfold nodB at hl
          rw [List.length_append, List.length_append, beB_length, sl_length] at hl
          have hl : 2 + (2 + nl (j + 1)) = n := hl
          refine List.mem_map.mpr ⟨v, (hm v).mpr ⟨decide_eq_false (by rw [v2]; exact fun e => absurd (Option.some.inj e) (by decide)), v1, s1⟩, ?_⟩
          rw [← j2]
          unfold wgV wgt
          rw [v2, hn]
          show ([1, j + 1], 62 + n - 4) = ([1, j + 1], 62 + nl (j + 1))
          rw [show 62 + n - 4 = 62 + nl (j + 1) by omega]
        · obtain ⟨y, y1, y2⟩ := List.mem_map.mp hz
          obtain ⟨f, i, b8⟩ := y
          obtain ⟨v, v1, v2, v3⟩ := (hPc f i _).mpr ⟨b8, y1, rfl⟩
          obtain ⟨s1, s2⟩ := valV_some v3
          obtain ⟨n, hn⟩ := Option.ne_none_iff_exists'.mp s1
          have hl := congrArg List.length s2
          rw [valB_len hn, List.length_map] at hl
          refine List.mem_map.mpr ⟨v, (hm v).mpr ⟨decide_eq_false (by rw [v2]; exact fun e => absurd (Option.some.inj e) (by decide)), v1, s1⟩, ?_⟩
          rw [← y2]
          unfold wgV wgt
          rw [v2, hn]
          show ([2, f, i], 27 + n) = ([2, f, i], 27 + b8.length)
          rw [hl]
  have h2 := perm_sum (hperm.map (fun z => z.2))
  rw [← h2, List.map_map]
  rfl
/-- NEEDED of the class is the reference's -/
theorem need_same {ky : List (List Nat)} {op : Nat → Bool} {sm : Nat → Nat} {x : Int32} {pr P : Nat} {c : Nat → Int8} {vs : List aV} {ms : List aMV} {kd pa sz nl : Nat → Nat} {nm : Nat → Int8} {ps : List aPc} (hs : SrtV vs) (hV : ∀ v ∈ vs, VOk ky P v) (hM : ∀ v ∈ vs, v.2.1 ≤ pr) (hR : RelU op sm c vs ms) (hN : NodR c vs kd pa sz nl nm) (hPc : PcR c vs ps) (hp : OneP ps) : sumN op sm x pr (kmV vs) vs = ndR op sm x pr ms kd nl ps := by
  rw [rel_sum hR x pr, need_files hs hV hM hN hPc hp]
  unfold ndR
  omega
