/-! ===== what a mount finds: the newest values, as class and reference have them; by hand ===== -/
theorem perm_nd {α : Type} : ∀ {l1 l2 : List α}, l1.Nodup → l2.Nodup → (∀ a, a ∈ l1 ↔ a ∈ l2) → l1.Perm l2
  | [], l2, _, _, h => by
    have : l2 = [] := List.eq_nil_iff_forall_not_mem.mpr (fun a ha => List.not_mem_nil ((h a).mpr ha))
    rw [this]
  | a :: t, l2, h1, h2, h => by
    obtain ⟨s, r, e⟩ := List.append_of_mem ((h a).mp List.mem_cons_self)
    subst e
    have hp : (s ++ a :: r).Perm (a :: (s ++ r)) := List.perm_middle
    have h3 := hp.nodup_iff.mp h2
    refine (List.Perm.cons a (perm_nd (List.nodup_cons.mp h1).2 (List.nodup_cons.mp h3).2 (fun b => ?_))).trans hp.symm
    constructor
    · intro hb
      have hb2 := hp.mem_iff.mp ((h b).mp (List.mem_cons_of_mem _ hb))
      rcases List.mem_cons.mp hb2 with q | q
      · rw [q] at hb; exact absurd hb (List.nodup_cons.mp h1).1
      · exact q
    · intro hb
      have hb2 := (h b).mpr (hp.mem_iff.mpr (List.mem_cons_of_mem _ hb))
      rcases List.mem_cons.mp hb2 with q | q
      · rw [q] at hb; exact absurd hb (List.nodup_cons.mp h3).1
      · exact q
theorem ss_nw {vs : List aV} {v : aV} (h : SS vs) (hv : v ∈ vs) : NwV vs v := ⟨hv, fun u hu e => by rw [h.one u hu v hv e]; exact Nat.le_refl _⟩
theorem ss_told {vs : List aV} (h : SS vs) : SS (vs.map toldV) := List.pairwise_map.mpr (h.imp (fun q => q))
/-- what is in memory behind a mount -/
def fnV (op : Nat → Bool) (sm : Nat → Nat) (P : Nat) (es : List aT) (L : List aCh) : List aV := ((mtV op sm P es L).map toldV).filter (keepS op sm P (kmV ((mtV op sm P es L).map toldV)))
theorem mt_ss {op : Nat → Bool} {sm : Nat → Nat} {P : Nat} {es : List aT} {L : List aCh} : SS (mtV op sm P es L) := List.Pairwise.sublist List.filter_sublist (durV_ss es L)
theorem fn_ss {op : Nat → Bool} {sm : Nat → Nat} {P : Nat} {es : List aT} {L : List aCh} : SS (fnV op sm P es L) := List.Pairwise.sublist List.filter_sublist (ss_told mt_ss)
theorem mt_fin {op : Nat → Bool} {sm : Nat → Nat} {P : Nat} {vg : List aV} {es : List aT} {L : List aCh} (ho : ∀ t, t < 8 → op t = false) (hT : WTab vg es) (hL : WLog vg es L) (h1 : OneV vg) (hP : ∀ v ∈ vg, v.2.1 ≤ P) (w : aV) : w ∈ fnV op sm P es L ↔ w.2.2.2.1 ≠ none ∧ w.2.2.2.2 = false ∧ ∃ a, NwV vg (w.1, w.2.1, w.2.2.1, w.2.2.2.1, a) := by
  constructor
  · intro hw
    obtain ⟨q1, q2⟩ := List.mem_filter.mp hw
    obtain ⟨u, hu, e⟩ := List.mem_map.mp q1
    have hf : w.2.2.2.2 = false := by rw [← e]; rfl
    refine ⟨fun hn => ?_, hf, ?_⟩
    · have := (keep_closed ho q2).2 hn
      rw [hf] at this
      exact Bool.noConfusion this
    · obtain ⟨a, ha⟩ := mt_nw ho hT hL h1 hu
      rw [← e]
      exact ⟨a, ha⟩
  · rintro ⟨hn, hf, a, ha⟩
    obtain ⟨k, m, p, l, b⟩ := w
    cases l with
    | none => exact absurd rfl hn
    | some n =>
      have hf : b = false := hf
      subst hf
      obtain ⟨a', ha'⟩ : ∃ a', ((k, m, p, some n, a') : aV) ∈ durV es L := (dur_val hT hL h1).mpr ⟨a, ha⟩
      have hm : m ≤ P := hP _ ha.1
      have k1 : keepS op sm P (kmV (durV es L)) (k, m, p, some n, a') = true := by
        cases e : keepS op sm P (kmV (durV es L)) (k, m, p, some n, a') with
        | true => rfl
        | false => exact absurd (keep_out (w := (k, m, p, some n, a')) hm (ss_nw (durV_ss es L) ha') e).1 (Option.some_ne_none n)
      have m1 : (k, m, p, some n, a') ∈ mtV op sm P es L := List.mem_filter.mpr ⟨ha', k1⟩
      have m2 : ((k, m, p, some n, false) : aV) ∈ (mtV op sm P es L).map toldV := List.mem_map.mpr ⟨_, m1, rfl⟩
      refine List.mem_filter.mpr ⟨m2, ?_⟩
      cases e : keepS op sm P (kmV ((mtV op sm P es L).map toldV)) (k, m, p, some n, false) with
      | true => rfl
      | false => exact absurd (keep_out (w := (k, m, p, some n, false)) hm (ss_nw (ss_told mt_ss) m2) e).1 (Option.some_ne_none n)
/-- every key has behind a mount the value that it had -/
theorem val_mount {op : Nat → Bool} {sm : Nat → Nat} {P : Nat} {c c' : Nat → Int8} {vg : List aV} {es : List aT} {L : List aCh} (ho : ∀ t, t < 8 → op t = false) (hT : WTab vg es) (hL : WLog vg es L) (h1 : OneV vg) (hP : ∀ v ∈ vg, v.2.1 ≤ P) (hval : ∀ v ∈ vg, v.2.2.2.1 ≠ none → valB c' v = valB c v) (k b : List Nat) : ValAt c' (fnV op sm P es L) k b ↔ ValAt c vg k b := by
  constructor
  · rintro ⟨v, n1, n2, n3⟩
    obtain ⟨hn, hf, a, ha⟩ := (mt_fin ho hT hL h1 hP v).mp n1.1
    refine ⟨_, ha, n2, ?_⟩
    rw [valV_of (v := (v.1, v.2.1, v.2.2.1, v.2.2.2.1, a)) hn, ← hval _ ha.1 hn, ← n3, valV_of hn]
    rfl
  · rintro ⟨v, n1, n2, n3⟩
    have hn := (valV_some n3).1
    have hm : toldV v ∈ fnV op sm P es L := (mt_fin ho hT hL h1 hP _).mpr ⟨hn, rfl, v.2.2.2.2, n1⟩
    refine ⟨toldV v, ss_nw fn_ss hm, n2, ?_⟩
    rw [valV_of (v := toldV v) hn, ← n3, valV_of hn, ← hval v n1.1 hn]
    rfl
theorem rel_nd {op : Nat → Bool} {sm : Nat → Nat} {c : Nat → Int8} {vs : List aV} {ms : List aMV} (h : RelU op sm c vs ms) (hs : SrtV vs) : ms.Nodup := by
  obtain ⟨zb, hP, -⟩ := h
  refine hP.nodup_iff.mp ?_
  refine List.pairwise_map.mpr (List.Pairwise.imp_of_mem ?_ (List.Pairwise.sublist List.filter_sublist hs))
  intro u v hu hv q e
  have hu := (List.mem_filter.mp hu).2
  have hv := (List.mem_filter.mp hv).2
  rw [Bool.and_eq_true] at hu hv
  have e1 : u.1.tail = v.1.tail := congrArg (fun z : aMV => z.1) e
  have e2 : u.2.1 = v.2.1 := congrArg (fun z : aMV => z.2.1) e
  have e3 : u.1 = v.1 := by rw [usV_cons hu.1, usV_cons hv.1, e1]
  rcases q with q | q
  · rw [e3, cmpL_self] at q; exact absurd q (by decide)
  · omega
theorem stk_nw {vs : List aV} {v : aV} {P : Nat} (hP : ∀ v ∈ vs, v.2.1 ≤ P) (hv : v ∈ vs) : stK (kmV vs) v.1 v.2.1 P = true ↔ NwV vs v := by
  rw [stK_iff]
  constructor
  · rintro ⟨-, h⟩
    refine ⟨hv, fun u hu e => Nat.le_of_not_lt (fun hlt => Nat.not_lt.mpr (hP u hu) (h u.2.1 (mem_km.mpr ⟨u, hu, e, rfl⟩) hlt))⟩
  · rintro ⟨-, h⟩
    refine ⟨hP v hv, fun b hb hlt => ?_⟩
    obtain ⟨u, hu, e1, e2⟩ := mem_km.mp hb
    have := h u hu e1
    omega
/-- of the user's versions class and reference have the same behind a mount -/
theorem rel_mount {op opr : Nat → Bool} {sm smr : Nat → Nat} {P : Nat} {c c' : Nat → Int8} {vg : List aV} {es : List aT} {L : List aCh} {ms : List aMV} (ho : ∀ t, t < 8 → op t = false) (hor : ∀ t, t < 8 → opr t = false) (hT : WTab vg es) (hL : WLog vg es L) (h1 : OneV vg) (hP : ∀ v ∈ vg, v.2.1 ≤ P) (hval : ∀ v ∈ vg, v.2.2.2.1 ≠ none → valB c' v = valB c v) (hR : RelU opr smr c vg ms) (hnd : ms.Nodup) (op' : Nat → Bool) (sm' : Nat → Nat) : RelU op' sm' c' (fnV op sm P es L) (ms.filter (keepM opr smr P (kmM ms))) := by
  obtain ⟨zb, hPm, hz⟩ := hR
  refine ⟨fun _ => false, perm_nd ?_ (hnd.sublist List.filter_sublist) (fun x => ?_), fun z _ _ hz3 => Bool.noConfusion hz3⟩
  · refine List.pairwise_map.mpr (List.Pairwise.imp_of_mem ?_ (List.Pairwise.sublist List.filter_sublist fn_ss))
    intro u v hu hv q e
    have hu := (List.mem_filter.mp hu).2
    have hv := (List.mem_filter.mp hv).2
    rw [Bool.and_eq_true] at hu hv
    have e1 : u.1.tail = v.1.tail := congrArg (fun z : aMV => z.1) e
    have e3 : u.1 = v.1 := by rw [usV_cons hu.1, usV_cons hv.1, e1]
    rw [e3, cmpL_self] at q
    exact absurd q (by decide)
  have hneed : ∀ v, usV v = true → needS opr smr (-1) P (kmV vg) (usV v) (ouV v) v.1 v.2.1 = (!(ouV v) && stK (kmV vg) v.1 v.2.1 P) := fun v hu => by
    unfold needS
    rw [opA_closed hor, opA_closed hor, Bool.or_false, Bool.or_false, if_neg (by rw [hu]; exact Bool.noConfusion)]
  constructor
  · intro hx
    obtain ⟨w, hw, e⟩ := List.mem_map.mp hx
    obtain ⟨w1, w2⟩ := List.mem_filter.mp hw
    rw [Bool.and_eq_true] at w2
    obtain ⟨hn, hf, a, ha⟩ := (mt_fin ho hT hL h1 hP w).mp w1
    have hu : usV (w.1, w.2.1, w.2.2.1, w.2.2.2.1, a) = true := w2.1
    have hou : ouV (w.1, w.2.1, w.2.2.1, w.2.2.2.1, a) = false := decide_eq_false hn
    have hzb : zb (w.1, w.2.1, w.2.2.1, w.2.2.2.1, a) = false := by
      cases ez : zb (w.1, w.2.1, w.2.2.1, w.2.2.2.1, a) with
      | false => rfl
      | true =>
        have := (hz _ ha.1 hu ez).1
        rw [hou] at this
        exact Bool.noConfusion this
    have ex : x = toM c (w.1, w.2.1, w.2.2.1, w.2.2.2.1, a) := by
      rw [← e]
      exact toM_eq (v := (w.1, w.2.1, w.2.2.1, w.2.2.2.1, a)) rfl rfl rfl (fun _ => hval (w.1, w.2.1, w.2.2.1, w.2.2.2.1, a) ha.1 hn)
    have hwt := (rel_wt hPm hz ha.1 hu hzb (-1) P).2
    rw [hneed _ hu, hou, (stk_nw hP ha.1).mpr ha] at hwt
    refine List.mem_filter.mpr ⟨hPm.mem_iff.mp (List.mem_map.mpr ⟨_, List.mem_filter.mpr ⟨ha.1, by rw [hu, hzb]; rfl⟩, ex.symm⟩), ?_⟩
    rw [ex]
    exact hwt.symm
  · intro hx
    obtain ⟨x1, x2⟩ := List.mem_filter.mp hx
    obtain ⟨v, hv, e⟩ := List.mem_map.mp (hPm.mem_iff.mpr x1)
    obtain ⟨v1, v2⟩ := List.mem_filter.mp hv
    rw [Bool.and_eq_true] at v2
    have hzb : zb v = false := by
      cases ez : zb v with
      | false => rfl
      | true => rw [ez] at v2; exact Bool.noConfusion v2.2
    have hwt := (rel_wt hPm hz v1 v2.1 hzb (-1) P).2
    rw [← e] at x2
    have x2 : (!(decide (wM opr smr (-1) P (kmM ms) (toM c v) = 0))) = true := x2
    rw [x2, hneed _ v2.1, Bool.and_eq_true] at hwt
    have hn : v.2.2.2.1 ≠ none := fun hn => by
      rw [show ouV v = true from decide_eq_true hn] at hwt
      exact Bool.noConfusion hwt.1
    have hnw := (stk_nw hP v1).mp hwt.2
    refine List.mem_map.mpr ⟨toldV v, List.mem_filter.mpr ⟨(mt_fin ho hT hL h1 hP _).mpr ⟨hn, rfl, v.2.2.2.2, hnw⟩, by rw [show usV (toldV v) = usV v from rfl, v2.1]; rfl⟩, ?_⟩
    rw [← e]
    exact toM_eq (v := v) rfl rfl rfl (fun _ => hval v v1 hn)
