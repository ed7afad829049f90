/-! ===== what would be needed behind a batch: class and reference say the same; by hand ===== -/
def stp (v : aV) : List Nat × Nat × Option Nat := (v.1, v.2.1, v.2.2.2.1)
theorem km_stp {vs vs' : List aV} (h : vs.map stp = vs'.map stp) : kmV vs = kmV vs' := by
  have e : ∀ l : List aV, kmV l = (l.map stp).map (fun z => (z.1, z.2.1)) := fun l => by
    unfold kmV
    rw [List.map_map]
    rfl
  rw [e, e, h]
theorem sum_stp {op : Nat → Bool} {sm : Nat → Nat} {x : Int32} {pr : Nat} {L : List (List Nat × Nat)} {vs vs' : List aV} (h : vs.map stp = vs'.map stp) : sumN op sm x pr L vs = sumN op sm x pr L vs' := by
  have e : ∀ l : List aV, sumN op sm x pr L l = ((l.map stp).map (fun z => if needS op sm x pr L (decide (z.1.head? = some 0)) (decide (z.2.2 = none)) z.1 z.2.1 then wgt (z.1.headD 0) z.1.length z.2.2 else 0)).sum := fun l => by
    unfold sumN
    rw [List.map_map]
    rfl
  rw [e, e, h]
theorem ins_stp {v v' : aV} (hv : stp v = stp v') : ∀ {vs vs' : List aV}, vs.map stp = vs'.map stp → (insV v vs).map stp = (insV v' vs').map stp
  | [], [], _ => by
    show [stp v] = [stp v']
    rw [hv]
  | [], _ :: _, h => (List.cons_ne_nil _ _ h.symm).elim
  | _ :: _, [], h => (List.cons_ne_nil _ _ h).elim
  | w :: t, w' :: t', h => by
    have h1 : stp w = stp w' := (List.cons.inj h).1
    have h2 : t.map stp = t'.map stp := (List.cons.inj h).2
    have k1 : w.1 = w'.1 := congrArg (fun z : List Nat × Nat × Option Nat => z.1) h1
    have k2 : v.1 = v'.1 := congrArg (fun z : List Nat × Nat × Option Nat => z.1) hv
    have ih := ins_stp hv h2
    show List.map stp (if cmpL w.1 v.1 < 0 then w :: insV v t else v :: w :: t) = List.map stp (if cmpL w'.1 v'.1 < 0 then w' :: insV v' t' else v' :: w' :: t')
    rw [← k1, ← k2]
    by_cases hc : cmpL w.1 v.1 < 0
    · rw [if_pos hc, if_pos hc, List.map_cons, List.map_cons, h1, ih]
    · rw [if_neg hc, if_neg hc, List.map_cons, List.map_cons, List.map_cons, List.map_cons, hv, h1, h2]
theorem incl_stp {m : Nat} {Q Q' : Nat → Nat} : ∀ (ws : List aE) (i : Nat) {vs vs' : List aV}, vs.map stp = vs'.map stp → (inclV m Q i ws vs).map stp = (inclV m Q' i ws vs').map stp
  | [], _, _, _, h => h
  | e :: ws, i, _, _, h => incl_stp ws (i + 1) (ins_stp (v := (e.1, m, Q i, e.2.map List.length, true)) (v' := (e.1, m, Q' i, e.2.map List.length, true)) rfl h)
/-- places beyond the chip, and bytes there -/
def bQ (i : Nat) : Nat := 8388608 + i * 4096
def bC (c : Nat → Int8) (ws : List aE) (q : Nat) : Int8 := if q < 8388608 then c q else match ws[(q - 8388608) / 4096]? with
  | some e => (nI ((e.2.getD []).getD ((q - 8388608) % 4096 - (8 + e.1.length)) 0)).toInt8
  | none => 0
theorem bC_new {c : Nat → Int8} {ws : List aE} {i m : Nat} {e : aE} {l : List Nat} (h : ws[i]? = some e) (hl : e.2 = some l) (hb : ∀ b ∈ l, b < 256) (hk : e.1.length ≤ 41) (hn : l.length ≤ 2048) : valB (bC c ws) (e.1, m, bQ i, e.2.map List.length, true) = l := by
  unfold valB
  show sl (bC c ws) (bQ i + 8 + e.1.length) ((e.2.map List.length).getD 0) = l
  rw [hl]
  show sl (bC c ws) (bQ i + 8 + e.1.length) l.length = l
  refine List.ext_getElem? (fun q => ?_)
  by_cases hq : q < l.length
  · rw [sl_get _ _ _ hq]
    obtain ⟨b, hbq⟩ := lt_get hq
    rw [hbq]
    have hb2 := hb b (List.mem_of_getElem? hbq)
    congr 1
    have e1 : bC c ws (bQ i + 8 + e.1.length + q) = (nI ((e.2.getD []).getD ((bQ i + 8 + e.1.length + q - 8388608) % 4096 - (8 + e.1.length)) 0)).toInt8 := by
      unfold bC
      rw [if_neg (by unfold bQ; omega), show (bQ i + 8 + e.1.length + q - 8388608) / 4096 = i by unfold bQ; omega, h]
    rw [e1, hl, show (bQ i + 8 + e.1.length + q - 8388608) % 4096 - (8 + e.1.length) = q by unfold bQ; omega]
    show ub (nI (l.getD q 0)).toInt8 = b
    rw [List.getD_eq_getElem?_getD, hbq]
    show ub (nI b).toInt8 = b
    rw [ub_i8 (by omega)]
    omega
  · rw [List.getElem?_eq_none (by rw [sl_length]; omega), List.getElem?_eq_none (by omega)]
theorem bC_old {c : Nat → Int8} {ws : List aE} {v : aV} (hp : v.2.2.1 < 4194304) (hk : v.1.length ≤ 41) (hn : v.2.2.2.1.getD 0 ≤ 2048) : valB (bC c ws) v = valB c v := by
  unfold valB
  refine sl_congr _ _ _ (fun q hq => ?_)
  unfold bC
  exact if_pos (by omega)
theorem SrtV.ins {v : aV} : ∀ {vs : List aV}, SrtV vs → (∀ w ∈ vs, w.1 = v.1 → w.2.1 < v.2.1) → SrtV (insV v vs)
  | [], _, _ => List.pairwise_singleton _ _
  | w :: t, h, hm => by
    obtain ⟨h1, h2⟩ := List.pairwise_cons.mp h
    show SrtV (if cmpL w.1 v.1 < 0 then w :: insV v t else v :: w :: t)
    by_cases hc : cmpL w.1 v.1 < 0
    · rw [if_pos hc]
      refine List.pairwise_cons.mpr ⟨fun u hu => ?_, SrtV.ins h2 (fun u hu => hm u (List.mem_cons_of_mem _ hu))⟩
      rcases List.mem_cons.mp ((insV_perm v t).mem_iff.mp hu) with e | e
      · rw [e]; exact Or.inl hc
      · exact h1 u e
    · rw [if_neg hc]
      refine List.pairwise_cons.mpr ⟨fun u hu => ?_, h⟩
      have key : ∀ u ∈ w :: t, ¬ cmpL u.1 v.1 < 0 := fun u hu => by
        rcases List.mem_cons.mp hu with e | e
        · rw [e]; exact hc
        · rcases h1 u e with q | q
          · exact fun e2 => hc (cmpL_trans q e2)
          · rw [← q.1]; exact hc
      by_cases e : u.1 = v.1
      · exact Or.inr ⟨e.symm, hm u hu e⟩
      · exact Or.inl (cmpL_tri (key u hu) e)
theorem SrtV.incl {m : Nat} {Q : Nat → Nat} : ∀ (ws : List aE) (i : Nat) {vs : List aV}, SrtV vs → OneW ws → (∀ w ∈ vs, ∀ e ∈ ws, w.1 = e.1 → w.2.1 < m) → SrtV (inclV m Q i ws vs)
  | [], _, _, h, _, _ => h
  | e :: ws, i, vs, h, h1, hm => by
    refine SrtV.incl ws (i + 1) (SrtV.ins h (fun w hw ek => hm w hw e List.mem_cons_self ek)) (fun a b x y ha hb hxy => ?_) (fun w hw f hf ek => ?_)
    · have := h1 (a + 1) (b + 1) x y ha hb hxy
      omega
    · rcases List.mem_cons.mp ((insV_perm _ vs).mem_iff.mp hw) with r | r
      · rw [r] at ek
        obtain ⟨j, hj⟩ := List.getElem?_of_mem hf
        have := h1 0 (j + 1) e f rfl hj ek
        omega
      · exact hm w r f (List.mem_cons_of_mem _ hf) ek
/-- what would be needed with a batch, is what the reference says -/
theorem need_bat {ky : List (List Nat)} {op : Nat → Bool} {sm : Nat → Nat} {x : Int32} {P : Nat} {c : Nat → Int8} {vs : List aV} {ms : List aMV} {kd pa sz nl : Nat → Nat} {nm : Nat → Int8} {ps : List aPc} {ws : List aE} (h : RlX op sm ms kd pa sz nl nm ps c vs) (hV : ∀ v ∈ vs, VOk ky P v) (hpl : ∀ v ∈ vs, v.2.2.2.1 ≠ none → v.2.2.1 < 4194304) (hp : OneP ps) (h1 : OneW (ws.map pfx)) (hK : ∀ e ∈ ws.map pfx, EntK ky e) (hb : ∀ e ∈ ws, ∀ l, e.2 = some l → ∀ b ∈ l, b < 256) (hn : ws.length ≤ 40) : sumN op sm x (P + 1) (kmV (inclV (P + 1) (fun _ => 0) 0 (ws.map pfx) vs)) (inclV (P + 1) (fun _ => 0) 0 (ws.map pfx) vs) = ndR op sm x (P + 1) (ms ++ addM (P + 1) ws) kd nl ps := by
  obtain ⟨r1, r2, r3, r4⟩ := h
  have e := incl_stp (m := P + 1) (Q := fun _ => 0) (Q' := bQ) (ws.map pfx) 0 (vs := vs) (vs' := vs) rfl
  rw [km_stp e, sum_stp e]
  have hlt : ∀ v ∈ vs, v.2.1 < P + 1 := fun v hv => by have := (hV v hv).1; omega
  have hold : ∀ v ∈ vs, v.2.2.2.1 ≠ none → valB (bC c (ws.map pfx)) v = valB c v := fun v hv hn => bC_old (hpl v hv hn) (KeyV.w (hV v hv).2.1).2.1 (by have := KeyV.len (hV v hv).2.1; omega)
  have hnew : ∀ i e l, (ws.map pfx)[i]? = some e → e.2 = some l → valB (bC c (ws.map pfx)) (e.1, P + 1, bQ i, e.2.map List.length, true) = l := fun i e l hi hl => by
    have hm := List.mem_of_getElem? hi
    have hk := (hK e hm).len
    obtain ⟨w, hw, e2⟩ := List.mem_map.mp hm
    refine bC_new hi hl (fun b hbl => hb w hw l (by rw [← hl, ← e2]; rfl) b hbl) hk.2.1 ?_
    have := hk.2.2
    rw [hl] at this
    have h3 : l.length ≤ 1000 := this
    omega
  have hI : InV c (bC c (ws.map pfx)) vs (inclV (P + 1) bQ 0 (ws.map pfx) vs) (ws.map pfx) := fun k b => val_incl h1 hlt hold hnew k b
  have hk0 : ∀ e ∈ ws.map pfx, e.1.headD 0 = 0 := fun e he => by
    obtain ⟨w, hw, rfl⟩ := List.mem_map.mp he
    rfl
  have hV2 : ∀ v ∈ inclV (P + 1) bQ 0 (ws.map pfx) vs, VOk ky (P + 1) v := fun v hv => by
    rcases mem_incl.mp hv with r | r
    · obtain ⟨a1, a2, a3⟩ := hV v r
      exact ⟨by omega, a2, a3⟩
    · obtain ⟨i, e, hi, ev⟩ := mem_verB.mp r
      have hil : i < (ws.map pfx).length := (List.getElem?_eq_some_iff.mp hi).1
      rw [List.length_map] at hil
      rw [ev]
      refine ⟨Nat.le_refl _, KeyV.same (hK e (List.mem_of_getElem? hi)).1 rfl rfl, ?_, (hK e (List.mem_of_getElem? hi)).2⟩
      show bQ (0 + i) < 2 ^ 24
      unfold bQ
      omega
  exact need_same (SrtV.incl _ 0 r1 h1 (fun w hw _ _ _ => hlt w hw)) hV2 (fun v hv => (hV2 v hv).1) (r2.incl r1.one hlt hold hnew) (r3.user hI (fun e he => by rw [hk0 e he]; decide)) (r4.user hI (fun e he => by rw [hk0 e he]; decide)) hp
