/-! ===== the reference's versions as a list; by hand ===== -/
/-- a version of the reference: key, moment, value -/
abbrev aMV : Type := List Nat × Nat × Option (List Nat)
def eMV (w : aMV) : aE := (w.1, w.2.2)
def kmM (ms : List aMV) : List (List Nat × Nat) := ms.map (fun w => (w.1, w.2.1))
def MVLay (bf : Nat → Int8) (ko kn vo : Nat → Nat) (vz : Nat → Option Nat) (vm : Nat → Nat) (ms : List aMV) : Prop := LayE bf 0 ko kn vz (ms.map eMV) ∧ ∀ v w, ms[v]? = some w → vo v = ko v + kn v ∧ vm v = w.2.1
def MSOk (ms : List aMV) : Prop := ms.length ≤ 1500 ∧ eOff (ms.map eMV) ms.length ≤ 48000 ∧ ∀ w ∈ ms, w.1.length ≤ 40 ∧ w.2.1 < 2 ^ 30
theorem eMV_get {ms : List aMV} {v : Nat} {w : aMV} (h : ms[v]? = some w) : (ms.map eMV)[v]? = some (eMV w) := by
  rw [List.getElem?_map, h]
  rfl
theorem get_lt {α : Type} {l : List α} {i : Nat} {x : α} (h : l[i]? = some x) : i < l.length := by
  rcases Nat.lt_or_ge i l.length with e | e
  · exact e
  · rw [List.getElem?_eq_none e] at h; cases h
theorem lt_get {α : Type} {l : List α} {i : Nat} (h : i < l.length) : ∃ x, l[i]? = some x := ⟨l[i], List.getElem?_eq_getElem h⟩
theorem MVLay.key {bf : Nat → Int8} {ko kn vo : Nat → Nat} {vz : Nat → Option Nat} {vm : Nat → Nat} {ms : List aMV} (h : MVLay bf ko kn vo vz vm ms) {v : Nat} {w : aMV} (hv : ms[v]? = some w) : sl bf (ko v) (kn v) = w.1 ∧ kn v = w.1.length ∧ vz v = w.2.2.map List.length ∧ vm v = w.2.1 := by
  have h1 := h.1 v _ (eMV_get hv)
  exact ⟨h.1.key (eMV_get hv), h1.2.1, h1.2.2.1, (h.2 v w hv).2⟩
theorem MVLay.val {bf : Nat → Int8} {ko kn vo : Nat → Nat} {vz : Nat → Option Nat} {vm : Nat → Nat} {ms : List aMV} (h : MVLay bf ko kn vo vz vm ms) {v : Nat} {w : aMV} (hv : ms[v]? = some w) : sl bf (vo v) ((vz v).getD 0) = w.2.2.getD [] := by
  obtain ⟨k, m, z⟩ := w
  rw [(h.key hv).2.2.1, (h.2 v _ hv).1]
  cases z with
  | none => rfl
  | some x => exact h.1.val (eMV_get hv)
theorem MVLay.off {bf : Nat → Int8} {ko kn vo : Nat → Nat} {vz : Nat → Option Nat} {vm : Nat → Nat} {ms : List aMV} (h : MVLay bf ko kn vo vz vm ms) {v : Nat} {w : aMV} (hv : ms[v]? = some w) : ko v + kn v + (vz v).getD 0 ≤ eOff (ms.map eMV) ms.length := by
  have h1 := h.1 v _ (eMV_get hv)
  have h2 := eOff_succ (eMV_get hv)
  have h3 := eOff_mono (ms.map eMV) (i := v + 1) (j := ms.length) (get_lt hv)
  rw [eGet h1.2.2.1, h1.1, h1.2.1]
  unfold eLen at h2
  omega
theorem MVLay.ok {bf : Nat → Int8} {ko kn vo : Nat → Nat} {vz : Nat → Option Nat} {vm : Nat → Nat} {ms : List aMV} (h : MVLay bf ko kn vo vz vm ms) (hk : MSOk ms) : MVOk ko kn vo vz vm ms.length := by
  refine ⟨hk.1, fun v hv => ?_⟩
  obtain ⟨w, hw⟩ := lt_get hv
  have h1 := h.off hw
  have h2 := h.key hw
  have h3 := hk.2.2 w (List.mem_of_getElem? hw)
  have h4 := (h.2 v w hw).1
  have h5 := hk.2.1
  rw [h2.2.2.2, h4]
  refine ⟨by omega, by omega, by omega, by omega⟩
theorem mem_kmM {ms : List aMV} {k : List Nat} {b : Nat} : (k, b) ∈ kmM ms ↔ ∃ (v : Nat) (w : aMV), ms[v]? = some w ∧ w.1 = k ∧ w.2.1 = b := by
  unfold kmM
  rw [List.mem_map]
  constructor
  · rintro ⟨w, hw, e⟩
    obtain ⟨v, hv⟩ := List.mem_iff_getElem?.mp hw
    have e := Prod.mk.inj e
    exact ⟨v, w, hv, e.1, e.2⟩
  · rintro ⟨v, w, hv, e1, e2⟩
    exact ⟨w, List.mem_of_getElem? hv, Prod.ext e1 e2⟩
theorem st_m {bf : Nat → Int8} {ko kn vo : Nat → Nat} {vz : Nat → Option Nat} {vm : Nat → Nat} {ms : List aMV} (h : MVLay bf ko kn vo vz vm ms) {v m : Nat} {w : aMV} (hv : ms[v]? = some w) : stB' bf ko kn vm ms.length v m = stK (kmM ms) w.1 w.2.1 m := by
  have hkv := h.key hv
  unfold stB'
  rw [Bool.eq_iff_iff, stK_iff, Bool.and_eq_true, decide_eq_true_iff, hkv.2.2.2, Bool.not_eq_true', List.any_eq_false]
  constructor
  · rintro ⟨h1, h2⟩
    refine ⟨h1, fun b hb hab => Nat.lt_of_not_le (fun hbm => ?_)⟩
    obtain ⟨u, y, hu, e1, e2⟩ := mem_kmM.mp hb
    have hku := h.key hu
    refine h2 u (List.mem_range.mpr (get_lt hu)) ?_
    unfold hidB
    rw [hkv.1, hku.1, hkv.2.2.2, hku.2.2.2, e1, e2, decide_eq_true hab, decide_eq_true hbm, decide_eq_true rfl]
    rfl
  · rintro ⟨h1, h2⟩
    refine ⟨h1, fun u hu he => ?_⟩
    obtain ⟨y, hy⟩ := lt_get (List.mem_range.mp hu)
    have hku := h.key hy
    unfold hidB at he
    rw [hkv.1, hku.1, hkv.2.2.2, hku.2.2.2, Bool.and_eq_true, Bool.and_eq_true, decide_eq_true_iff, decide_eq_true_iff, decide_eq_true_iff] at he
    have := h2 y.2.1 (mem_kmM.mpr ⟨u, y, hy, he.2.symm, rfl⟩) he.1.1
    omega
/-- what a version of the reference weighs -/
def wM (op : Nat → Bool) (se : Nat → Nat) (x : Int32) (pr : Nat) (L : List (List Nat × Nat)) (w : aMV) : Nat := mwg (stK L w.1 w.2.1 pr || opA op x (fun t => stK L w.1 w.2.1 (se t)) 8) (opA op x (fun t => decide (se t < w.2.1)) 8) w.1.length (w.2.2.map List.length)
theorem wV_m {bf : Nat → Int8} {ko kn vo : Nat → Nat} {vz : Nat → Option Nat} {vm : Nat → Nat} {ms : List aMV} (h : MVLay bf ko kn vo vz vm ms) {op : Nat → Bool} {se : Nat → Nat} {x : Int32} {v pr : Nat} {w : aMV} (hv : ms[v]? = some w) : wV bf ko kn vz vm ms.length pr op se x v = wM op se x pr (kmM ms) w := by
  have hkv := h.key hv
  unfold wV wM
  rw [st_m h hv, hkv.2.1, hkv.2.2.1, hkv.2.2.2]
  congr 2
  exact opA_congr (fun t _ _ => st_m h hv)
theorem sum0_list {f : Nat → Nat} {g : aMV → Nat} : ∀ {n : Nat} {ms : List aMV}, n ≤ ms.length → (∀ v w, ms[v]? = some w → f v = g w) → sum0 f n = ((ms.take n).map g).sum
  | 0, ms, _, _ => rfl
  | n + 1, ms, hn, h => by
    obtain ⟨w, hw⟩ := lt_get (l := ms) (i := n) (by omega)
    rw [sum0, sum0_list (by omega) h, List.take_succ, hw, List.map_append, List.sum_append, h n w hw]
    rfl
theorem rc_mneededL {sc : Nat × (Nat → Int32)} {d p : Nat} {H : aH} {fa li dn cw cl tp rs us hu : Int32} {ba bo pc : Nat} {bf : Nat → Int8} {ko kn vo : Nat → Nat} {vz : Nat → Option Nat} {vm : Nat → Nat} {ms : List aMV} {op : Nat → Bool} {se : Nat → Nat} {x : Int32} {kd pa sz nl ps : Nat → Nat} {nm : Nat → Int8} (hm : H[195]? = some (kO 12 (mfs fa li dn cw cl tp rs (nI p) (nI ms.length) us (nI pc) hu ba bo))) (h : MVAt H ba bf ko kn vo vz vm) (hl : MVLay bf ko kn vo vz vm ms) (hk : MSOk ms) (h5 : H[205]? = some (kZ 8 op)) (h6 : H[206]? = some (kI 8 (fun j => nI (se j)))) (hse : ∀ t, t < 8 → se t < 2 ^ 31) (hT : MTreeAt H kd pa sz nl nm) (hkT : TreeOk kd pa sz nl) (hps : H[220]? = some (kI 1300 (fun j => nI (ps j)))) (hpc : pc ≤ 1300) (hp : p < 2 ^ 31) : RC sc (d + 3) mr_277 [.ref 196, .int x] H (.inl (some (.int (nI (sumF (fun f => if kd f = 0 then 0 else 62 + nl f) 200 + sum0 (fun p => 27 + ps p) pc + (ms.map (wM op se x p (kmM ms))).sum))))) H 0 0 := by
  have r := rc_mneeded (sc := sc) (d := d) (x := x) hm h (hl.ok hk) h5 h6 hse hT hkT hps hpc hp
  rw [sum0_list (ms := ms) (g := wM op se x p (kmM ms)) (Nat.le_refl _) (fun v w hv => wV_m hl hv), List.take_of_length_le (Nat.le_refl _)] at r
  exact r
/-- keys that have a value -/
def keysM (pr : Nat) (L : List (List Nat × Nat)) (ms : List aMV) : Nat := (ms.filter (fun w => !(decide (w.2.2 = none)) && stK L w.1 w.2.1 pr)).length
theorem cnt_list {f : Nat → Bool} {g : aMV → Bool} : ∀ {n : Nat} {ms : List aMV}, n ≤ ms.length → (∀ v w, ms[v]? = some w → f v = g w) → cntB f n = ((ms.take n).filter g).length
  | 0, ms, _, _ => rfl
  | n + 1, ms, hn, h => by
    obtain ⟨w, hw⟩ := lt_get (l := ms) (i := n) (by omega)
    rw [cntB, cnt_list (by omega) h, List.take_succ, hw, List.filter_append, List.length_append, h n w hw]
    cases hg : g w with
    | true => rw [if_pos rfl]; show _ = _ + (List.filter g [w]).length; rw [List.filter_cons_of_pos hg]; rfl
    | false => rw [if_neg (by decide)]; show _ = _ + (List.filter g [w]).length; rw [List.filter_cons_of_neg (by rw [hg]; decide)]; rfl
theorem rc_mkeysL {sc : Nat × (Nat → Int32)} {d p : Nat} {H : aH} {fa li dn cw cl tp rs us pi hu : Int32} {ba bo : Nat} {bf : Nat → Int8} {ko kn vo : Nat → Nat} {vz : Nat → Option Nat} {vm : Nat → Nat} {ms : List aMV} (hm : H[195]? = some (kO 12 (mfs fa li dn cw cl tp rs (nI p) (nI ms.length) us pi hu ba bo))) (h : MVAt H ba bf ko kn vo vz vm) (hl : MVLay bf ko kn vo vz vm ms) (hk : MSOk ms) (hp : p < 2 ^ 31) : RC sc (d + 2) mr_301 [.ref 196] H (.inl (some (.int (nI (keysM p (kmM ms) ms))))) H 0 0 := by
  have r := rc_mkeys (sc := sc) (d := d) hm h (hl.ok hk) hp
  rw [cnt_list (ms := ms) (g := fun w => !(decide (w.2.2 = none)) && stK (kmM ms) w.1 w.2.1 p) (Nat.le_refl _) (fun v w hv => ?_), List.take_of_length_le (Nat.le_refl _)] at r
  · exact r
  · rw [st_m hl hv, (hl.key hv).2.2.1]
    obtain ⟨k, m, z⟩ := w
    cases z <;> rfl
theorem prune_step {bf ob : Nat → Int8} {ko kn vo : Nat → Nat} {vz : Nat → Option Nat} {vm : Nat → Nat} {ms : List aMV} {kp : Nat → Bool} {P : aMV → Bool} (h : MVLay bf ko kn vo vz vm ms) (hP : ∀ v w, ms[v]? = some w → kp v = P w) : ∀ (i : Nat), i ≤ ms.length → MVLay (obP kp bf ko kn vo vz ob i) (odG kp ko (usP kp kn vz) i) (odG kp kn kn i) (odG kp vo (fun q => usP kp kn vz q + kn q) i) (odG kp vz vz i) (odG kp vm vm i) ((ms.take i).filter P) ∧ usP kp kn vz i = eOff (((ms.take i).filter P).map eMV) ((ms.take i).filter P).length ∧ cntB kp i = ((ms.take i).filter P).length
  | 0, _ => by
    refine ⟨⟨fun i e he => ?_, fun v w hw => ?_⟩, rfl, rfl⟩
    · have he : ([] : List aE)[i]? = some e := he
      rw [List.getElem?_nil] at he
      cases he
    · have hw : ([] : List aMV)[v]? = some w := hw
      rw [List.getElem?_nil] at hw
      cases hw
  | i + 1, hi => by
    obtain ⟨h1, h2, h3⟩ := prune_step h hP i (by omega)
    obtain ⟨w, hw⟩ := lt_get (l := ms) (i := i) (by omega)
    have hk := hP i w hw
    rw [List.take_succ, hw, List.filter_append, show (some w).toList = [w] from rfl]
    generalize (ms.take i).filter P = fl at h1 h2 h3
    cases hg : P w with
    | false =>
      rw [hg] at hk
      rw [List.filter_cons_of_neg (by rw [hg]; decide), List.filter_nil, List.append_nil, obP, odG, odG, odG, odG, odG, usP, cntB, hk]
      exact ⟨h1, h2, h3⟩
    | true =>
      rw [hg] at hk
      have hkw := h.key hw
      have hvw := h.val hw
      rw [List.filter_cons_of_pos hg, List.filter_nil, obP, odG, odG, odG, odG, odG, usP, cntB, hk, if_pos rfl, if_pos rfl, if_pos rfl, if_pos rfl, if_pos rfl, if_pos rfl, if_pos rfl, if_pos rfl, List.map_append]
      have hlen : (fl.map eMV).length = fl.length := List.length_map _
      have hel : eLen (eMV w) = kn i + (vz i).getD 0 := by
        unfold eLen eMV
        rw [hkw.2.1, hkw.2.2.1]
        obtain ⟨k, m, z⟩ := w
        cases z <;> rfl
      refine ⟨⟨?_, ?_⟩, ?_, ?_⟩
      · rw [h2, h3, List.map_append]
        refine LayE.snoc h1.1 (fun q hq1 hq2 => ?_) (fun j hj => ?_) ?_ ?_ ?_ ?_
        · rw [hlen] at hq2
          rw [cpy_out (by omega), cpy_out (by omega)]
        · rw [hlen] at hj
          rw [up_ne (by omega), up_ne (by omega), up_ne (by omega)]
          exact ⟨rfl, rfl, rfl⟩
        · rw [hlen, up_at, Nat.zero_add]
        · rw [hlen, up_at]
          exact hkw.2.1
        · rw [hlen, up_at]
          exact hkw.2.2.1
        · rw [hel, hlen, Nat.zero_add, sl_append, sl_cpy_out (by omega), sl_cpy, sl_cpy, hkw.1, hvw]
          rfl
      · intro v y hy
        rw [List.getElem?_append] at hy
        by_cases hv : v < fl.length
        · rw [if_pos hv] at hy
          have := h1.2 v y hy
          rw [h3, up_ne (by omega), up_ne (by omega), up_ne (by omega), up_ne (by omega)]
          exact this
        · rw [if_neg hv] at hy
          have hv0 : v - fl.length = 0 := by have := get_lt hy; simp at this; omega
          rw [hv0] at hy
          have e : y = w := (Option.some.inj hy).symm
          have e2 : v = cntB kp i := by omega
          rw [e, e2, up_at, up_at, up_at, up_at]
          exact ⟨rfl, hkw.2.2.2⟩
      · rw [List.length_append, h2]
        show _ = eOff (List.map eMV fl ++ [eMV w]) (fl.length + 1)
        have e3 := eOff_end (fl.map eMV) (eMV w)
        rw [hlen] at e3
        rw [e3, hel]
      · rw [List.length_append, h3]
        rfl
