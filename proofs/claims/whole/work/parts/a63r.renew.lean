/-! ===== all that is needed is written anew, with one table; class; written by wip/gen/renew.py ===== -/
def fK (v : aV) : Nat := v.1.length + 10
theorem mapE_bytes : ∀ (vs : List aV), ((vs.map entV).flatMap encE).length = (vs.map fK).sum
  | [] => rfl
  | v :: vs => by
    rw [List.map_cons, List.flatMap_cons, List.length_append, encE_len, mapE_bytes vs, List.map_cons, List.sum_cons]
    rfl
theorem fK_filter {p : aV → Bool} : ∀ (vs : List aV), ((vs.filter p).map fK).sum ≤ (vs.map fK).sum
  | [] => Nat.le_refl _
  | v :: vs => by
    have ih := fK_filter (p := p) vs
    rw [List.filter_cons, List.map_cons, List.sum_cons]
    split
    · rw [List.map_cons, List.sum_cons]
      omega
    · omega
theorem fK_mvL {blk : Option Nat} {Q : Nat → Nat} : ∀ (vs : List aV) (i : Nat), ((mvL blk Q i vs).map toldV).map fK = vs.map fK
  | [], _ => rfl
  | v :: vs, i => by
    show fK (toldV (mvV blk Q i v)) :: ((mvL blk Q (i + 1) vs).map toldV).map fK = fK v :: vs.map fK
    rw [fK_mvL vs (i + 1)]
    congr 1
    unfold mvV
    split <;> rfl
theorem usedB_sub {l l' : List Nat} {rs : List aR} {b : Nat} (hs : ∀ x ∈ l', x ∈ l) (h : usedB l rs b = false) : usedB l' rs b = false := by
  cases e : usedB l' rs b with
  | false => rfl
  | true =>
    rw [← h]
    refine (usedB_iff.mpr ?_).symm
    rcases usedB_iff.mp e with e | e | e
    · exact Or.inl e
    · exact Or.inr (Or.inl (hs _ e))
    · exact Or.inr (Or.inr e)
theorem LsOk.drop {B k : Nat} {lgs : List Nat} {rs : List aR} (h : LsOk B lgs rs) : LsOk B (lgs.drop k) rs := ⟨fun x hx => h.1 x (List.mem_of_mem_drop hx), h.2.1, h.2.2.sublist ((List.drop_sublist k _).append (List.Sublist.refl _))⟩
/-- what memory tells behind a renewal -/
def rnW (op : Nat → Bool) (sm : Nat → Nat) (pr : Nat) (Q : Nat → Nat) (vs : List aV) : List aV := ((mvL none Q 0 vs).map toldV).filter (keepS op sm pr (kmV ((mvL none Q 0 vs).map toldV)))
set_option maxRecDepth 20000 in
theorem re_renew {sc : Nat × (Nat → Int32)} {d N P pr T : Nat} {H : aH} {B bb S : Nat} {op : Nat → Bool} {sm : Nat → Nat} {lgs : List Nat} {fr ff : Nat} {wr : Bool} {tp : Nat} {rs : List aR} {us : Nat → Bool} {c : Nat → Int8} {P0 fr0 ff0 : Nat} {lgs0 : List Nat} {rs0 : List aR} {gs0 : List aSg} {vs : List aV} (h : Dk H B bb S lgs fr ff wr tp rs us c P0 fr0 ff0 lgs0 rs0) (hO : LsOk B lgs rs) (hO0 : LsOk B lgs0 rs0) (hU : ∀ b, b < B → us b = false → usedB lgs rs b = false ∧ usedB lgs0 rs0 b = false) (hF0 : FrC c lgs0 fr0 ff0 gs0) (hff0 : ff0 ≤ 2048) (hff : ff ≤ 2048) (htp : tp ≤ 2048) (hV : VersIs H N vs) (hR : ∀ v ∈ vs, RecX c lgs wr tp v) (hsi : SightAt H op sm) (hsm : ∀ t, t < 8 → sm t < 2 ^ 31) (hpr : ∀ v ∈ vs, v.2.1 ≤ pr) (hA : AuxA H B N) (hB : B ≤ 128) (hB1 : 3 ≤ B) (hbb : bb % 2 ^ 32 < 2 ^ 31) (hS : S + 1 < 2 ^ 31) (hP : P < 2 ^ 31) (hrl : rs.length < 24) (hvE : ∀ v ∈ vs, v.2.2.1 < 2 ^ 24 ∧ v.2.2.2.1.getD 0 ≤ 2048) (hkey : ∀ v ∈ vs, KeyW v) (hdue : (mvS none vs).sum ≤ sumN op sm (-1) pr (kmV vs) vs) (hd31 : sumN op sm (-1) pr (kmV vs) vs < 2 ^ 31) (hvl : vs.length < 65536) (hKT : opnN false tp (mvS none vs) + T ≤ freeN us B) (hT : ∀ Q, ((rnW op sm pr Q vs).map fK).sum ≤ 2048 * T) (hT64 : T ≤ 64) (hlK : lgs.length + opnN false tp (mvS none vs) ≤ B) : RE sc (d + 5) mr_333 [.ref 191, .int (nI P)] H (fun H' => ∃ Q l1 wr1 tp1 x c' us' gs', l1.length = opnN false tp (mvS none vs) ∧ RunOk c' B x ((rnW op sm pr Q vs).map entV) ∧ x.1 = 3 ∧ x.2.2.2.length * 2048 < ((rnW op sm pr Q vs).map fK).sum + 2048 ∧ UpS H' B N bb (S + 1) op sm l1 (if wr1 then 1 else 0) (if wr1 then tp1 else 0) wr1 tp1 (if 0 < x.2.1 then [x] else []) us' c' P gs' (((rnW op sm pr Q vs).map toldV).filter (keepS op sm pr (kmV ((rnW op sm pr Q vs).map toldV)))) ∧ gs'.flatMap flG = [] ∧ (∀ j v, vs[j]? = some v → RecX c' l1 wr1 tp1 (mvV none Q j v) ∧ (v.2.2.2.1 ≠ none → valB c' (mvV none Q j v) = valB c v)) ∧ FrU H H') (fun H' => ∃ c', DnS H' B N bb S op sm c' P0 fr0 ff0 lgs0 rs0 gs0 ∧ (∀ q, 4096 ≤ q → us (q / 2048) = true → c' q = c q) ∧ FrU H H') := by
  obtain ⟨A1, ⟨lm, bf, A2, A3⟩, A4, A5, ⟨ldf, A6⟩, A7, A8, A9, A10⟩ := id hA
  obtain ⟨tf, pq, ms, mt, sq, tu, hL, -⟩ := id h
  obtain ⟨lg0, pi0, hY0, -⟩ := id hL
  have huL : ∀ b ∈ lgs, us b = true := fun b hb => used_us hU (hO.1 b hb).2 (Or.inl (usedB_iff.mpr (Or.inr (Or.inl hb))))
  have huL0 : ∀ b ∈ lgs0, us b = true := fun b hb => used_us hU (hO0.1 b hb).2 (Or.inr (usedB_iff.mpr (Or.inr (Or.inl hb))))
  have hTl : ∀ q, 4096 ≤ q → us (q / 2048) = true → TlU us lgs false tp q := fun q q1 q2 => ⟨q1, q2, fun e => Bool.noConfusion e.1⟩
  have hF9 : ∀ c', (∀ q, 4096 ≤ q → us (q / 2048) = true → c' q = c q) → FrC c' lgs0 fr0 ff0 gs0 := fun c' hc => hF0.far (fun q hq => hc q (by have := (hO0.1 _ hq).1; omega) (huL0 _ hq))
  refine RE.of ?_
  refine RQ.blk 1 (pc' := 1) (lv' := [(0, .ref 191), (1, .int (nI P))]) (st' := [.ref 191]) (H' := _) (kc' := 0) (ks' := 0) rfl ?_
  refine RQ.get (ci := 4) rfl A1 rfl rfl ?_
  obtain ⟨lg2, ms2, mt2, sq2, tu2, hY2, hD2⟩ := h.seal
  refine RQ.call (v := none) (st' := []) rfl rfl rfl rfl rfl rfl (args_v [] [] rfl rfl (Nat.le_of_ble_eq_true rfl) rfl hY0.1 (Nat.le_of_ble_eq_true rfl)) (rc_seal hY2 hB) ?_
  have fG2 : ∀ a, a ≠ 83 → (H.set 83 (kO 3 (layF B lgs.length 0 ff false tp rs.length ms2 mt2 sq2 tu2 0 0)))[a]? = H[a]? := fun a a1 => set_far a1
  generalize (H.set 83 (kO 3 (layF B lgs.length 0 ff false tp rs.length ms2 mt2 sq2 tu2 0 0))) = H2 at hD2 fG2 ⊢
  have hA2 : AuxA H2 B N := hA.far (fun a a1 a2 a3 a4 => fG2 a (by omega))
  have fU2 : FrU H H2 := fun a ha => fG2 a (by omega)
  have hV2 := hV.far (H' := H2) (fun a a1 a2 => fG2 a (by omega))
  have hsi2 := hsi.frU fU2
  obtain ⟨C1, -⟩ := id hA2
  obtain ⟨vf2, hv2⟩ : ∃ vf, H2[74]? = some (kO 10 vf) := by obtain ⟨_, _, _, _, _, _, _, _, _, _, _, q1, _, _⟩ := id hV2; exact ⟨_, q1.1⟩
  obtain ⟨tf2, pq2, ms3, mt3, sq3, tu3, hL2, -⟩ := id hD2
  obtain ⟨lg3, pi3, hY3, hlg3, hlc3, -⟩ := id hL2
  refine RQ.blk 1 (pc' := 8) (lv' := [(0, .ref 191), (1, .int (nI P))]) (st' := [.ref 191]) (H' := _) (kc' := 0) (ks' := 0) rfl ?_
  refine RQ.get (ci := 4) rfl C1 rfl rfl ?_
  refine RQ.get (ci := 3) rfl hY3.1 rfl rfl ?_
  refine RQ.blk 4 (pc' := 18) (lv' := [(2, .int (nI lgs.length)), (0, .ref 191), (1, .int (nI P))]) (st' := [.ref 191, .int (-1), .ref 191]) (H' := _) (kc' := 0) (ks' := 0) rfl ?_
  refine RQ.get (ci := 4) rfl C1 rfl rfl ?_
  refine RQ.blk 1 (pc' := 22) (lv' := [(2, .int (nI lgs.length)), (0, .ref 191), (1, .int (nI P))]) (st' := [.int (-1), .ref 75, .int (-1), .ref 191]) (H' := _) (kc' := 0) (ks' := 0) rfl ?_
  refine RQ.call (v := some (.int (nI (sumN op sm (-1) pr (kmV vs) vs)))) (st' := [.int (-1), .ref 191]) rfl rfl rfl rfl rfl rfl (args_v [.int (-1)] [.int (-1), .ref 191] rfl rfl (Nat.le_of_ble_eq_true rfl) rfl hv2 (Nat.le_of_ble_eq_true rfl)) (rc_neededL (x := -1) hsi2 hsm hV2 hpr) ?_
  have hI : MvI H2 B bb S rs (mvS none vs) lgs 0 ff false tp us c [] P0 fr0 ff0 lgs0 rs0 (gs0.flatMap flG) True := ⟨hD2, hO, hO0, hU, ⟨⟨rfl, Nat.zero_le _, by rw [Nat.sub_zero, List.drop_length]; rfl, fun i s hs => absurd (get_lt hs) (Nat.not_lt_zero _), fun s hs => absurd hs List.not_mem_nil⟩, fun e => Bool.noConfusion e⟩, ⟨gs0, [], hF0, (List.append_nil _).symm, fun x hx => absurd hx List.not_mem_nil, Or.inl rfl, fun e => Bool.noConfusion e⟩, htp, hff, hff0, by omega, hlK⟩
  have hRf : ∀ v ∈ vs, RecX c lgs false tp v := fun v hv => ⟨(hR v hv).1, fun e => Bool.noConfusion e⟩
  refine RQ.callT (st' := []) rfl rfl rfl rfl rfl rfl (args_v [.int (nI (sumN op sm (-1) pr (kmV vs) vs)), .int (-1)] [] rfl rfl (Nat.le_of_ble_eq_true rfl) rfl C1 (Nat.le_of_ble_eq_true rfl)) (re_moveOut (d := d) (mp := 0) (hv := 0) (blk := none) (due := sumN op sm (-1) pr (kmV vs) vs) hV2 hI hRf (Or.inl ⟨rfl, rfl⟩) hdue hd31 C1 hB hB1 hbb) rfl (fun H3 hx3 => ?_) (fun H9 hbad => Or.inr (by obtain ⟨⟨vs9, hV9⟩, ⟨c9, gs9, xs9, z0, z1, z2, z3, z4, z5, -, z6⟩, f9⟩ := hbad; exact ⟨_, rfl, c9, ⟨z1, hO0, hF9 c9 (fun q q1 q2 => z6 q (hTl q q1 q2)), hff0, ⟨_, hV9⟩, hsi.frU (fun a ha => (f9 a (by omega) (by omega)).trans (fU2 a ha)), hA2.far (fun a a1 a2 a3 a4 => f9 a (by omega) a4)⟩, fun q q1 q2 => z6 q (hTl q q1 q2), fun a ha => (f9 a (by omega) (by omega)).trans (fU2 a ha)⟩))
  obtain ⟨Q, lgs1, l1, fr1, ff1, wr1, tp1, us1, c1, gs1, hV3, hQ, hbw3, hS3, f3⟩ := hx3
  have hG3 := (f3 190 (by decide) (by decide)).trans C1
  obtain ⟨⟨hD3, hO3, -, hU3, hF3, -, htp3, -⟩, hl3, hM3, hfl3, hT3, hfre, hmon⟩ := id hS3
  have hfl3 : gs1.flatMap flG = mvX c none Q 0 vs := by rw [hfl3]; exact List.nil_append _
  have hll : lgs1.length = lgs.length + l1.length := by rw [hl3, List.length_append]
  have hM3 : l1.length = opnN false tp (mvS none vs) := hM3
  have hin1 : ∀ x, (x ∈ l1 ∨ (false = true ∧ lgs[lgs.length - 1]? = some x)) → x ∈ l1 := fun x hx => hx.elim id (fun e => Bool.noConfusion e.1)
  have hlast : ∀ x, l1[l1.length - 1]? = some x → lgs1[lgs1.length - 1]? = some x := fun x e => by
    have := get_lt e
    rw [hl3, List.getElem?_append_right (by rw [List.length_append]; omega), List.length_append, show lgs.length + l1.length - 1 - lgs.length = l1.length - 1 by omega]
    exact e
  have hne1 : wr1 = true → 1 ≤ l1.length := fun e => by
    obtain ⟨b, b1, -⟩ := hS3.last e
    have := List.length_pos_of_mem (hin1 b (hbw3 e b b1))
    omega
  have hrec := mv_recs (lgs2 := l1) hO huL hO3 hF3 hfl3 hRf hT3 (fun j v hv hb => hin1 _ (hQ j v hv hb).2) (fun v hv e hb => absurd (inB_none.mpr e) hb) (fun x _ e => hlast x e) hkey
  have hA3 : AuxA H3 B N := hA2.far (fun a a1 a2 a3 a4 => f3 a (by omega) a4)
  have fU3 : FrU H H3 := fun a ha => (f3 a (by omega) (by omega)).trans (fU2 a ha)
  refine RQ.blk 2 (pc' := 30) (lv' := [(3, .int 0), (2, .int (nI lgs.length)), (0, .ref 191), (1, .int (nI P))]) (st' := []) (H' := _) (kc' := 0) (ks' := 0) rfl ?_
  refine RQ.while (S := Nat) (pc := 30) (fun k H' => k ≤ lgs.length ∧ Dk H' B bb S (lgs1.drop k) fr1 ff1 wr1 tp1 rs us1 c1 P0 fr0 ff0 lgs0 rs0 ∧ ∀ a, a ≠ 83 → a ≠ 87 → H'[a]? = H3[a]?) (fun k => [(3, .int (nI k)), (2, .int (nI lgs.length)), (0, .ref 191), (1, .int (nI P))]) (fun k => lgs.length - k) ?_ 0 _ ⟨Nat.zero_le _, hD3, fun a _ _ => rfl⟩
  rintro k H4 ⟨hk, hD4, f4⟩ ih
  have hG4 := (f4 190 (by decide) (by decide)).trans hG3
  by_cases hkl : k < lgs.length
  ·
    have hdl : (lgs1.drop k).length = lgs1.length - k := List.length_drop
    obtain ⟨lg4, ms4, mt4, sq4, tu4, hY4, hlc4, hD5⟩ := hD4.drop (i := 0) (by omega) (fun e => by have := hne1 e; omega)
    rw [show (lgs1.drop k).eraseIdx 0 = lgs1.drop (k + 1) by rw [List.eraseIdx_zero, List.tail_drop]] at hD5
    refine RQ.blk 2 (pc' := 32) (lv' := [(3, .int (nI k)), (2, .int (nI lgs.length)), (0, .ref 191), (1, .int (nI P))]) (st' := [.int (nI lgs.length), .int (nI k)]) (H' := _) (kc' := 0) (ks' := 0) rfl ?_
    refine RQ.brF rfl rfl rfl (cF_ge k lgs.length) ?_
    refine RQ.blk 1 (pc' := 36) (lv' := [(3, .int (nI k)), (2, .int (nI lgs.length)), (0, .ref 191), (1, .int (nI P))]) (st' := [.ref 191]) (H' := _) (kc' := 0) (ks' := 0) rfl ?_
    refine RQ.get (ci := 4) rfl hG4 rfl rfl ?_
    refine RQ.blk 1 (pc' := 40) (lv' := [(3, .int (nI k)), (2, .int (nI lgs.length)), (0, .ref 191), (1, .int (nI P))]) (st' := [.int 0, .ref 84]) (H' := _) (kc' := 0) (ks' := 0) rfl ?_
    refine RQ.call (v := none) (st' := []) rfl rfl rfl rfl rfl rfl (args_v [.int 0] [] rfl rfl (Nat.le_of_ble_eq_true rfl) rfl hY4.1 (Nat.le_of_ble_eq_true rfl)) (rc_dropLog (i := 0) hY4 hB (by omega) hlc4) ?_
    refine RQ.blk 1 (pc' := 46) (lv' := [(3, .int (nI k + 1)), (2, .int (nI lgs.length)), (0, .ref 191), (1, .int (nI P))]) (st' := []) (H' := _) (kc' := 0) (ks' := 0) rfl ?_
    rw [show (nI k + 1 : Int32) = nI (k + 1) from nI_add k 1]
    refine RQ.blk 1 (pc' := 30) (lv' := [(3, .int (nI (k + 1))), (2, .int (nI lgs.length)), (0, .ref 191), (1, .int (nI P))]) (st' := []) (H' := _) (kc' := 0) (ks' := 0) rfl ?_
    refine RQ.pick (a := [(3, .int (nI (k + 1))), (2, .int (nI lgs.length)), (0, .ref 191), (1, .int (nI P))]) [0, 1, 2, 3] [3, 2, 0, 1] rfl rfl (by decide) ?_
    exact ih (k + 1) _ ⟨hkl, hD5, fun a a1 a2 => (set_far a1).trans ((set_far a2).trans (f4 a a1 a2))⟩ (by omega)
  ·
    have hke : k = lgs.length := by omega
    rw [hke, hl3, List.drop_left] at hD4
    have hO4 : LsOk B l1 rs := by have := hO3.drop (k := lgs.length); rw [hl3, List.drop_left] at this; exact this
    have hV4 := hV3.far (H' := H4) (fun a a1 a2 => f4 a (by omega) (by omega))
    have hA4 : AuxA H4 B N := hA3.far (fun a a1 a2 a3 a4 => f4 a (by omega) (by omega))
    have fU4 : FrU H H4 := fun a ha => (f4 a (by omega) (by omega)).trans (fU3 a ha)
    obtain ⟨vf4, hv4⟩ : ∃ vf, H4[74]? = some (kO 10 vf) := by obtain ⟨_, _, _, _, _, _, _, _, _, _, _, q1, _, _⟩ := id hV4; exact ⟨_, q1.1⟩
    refine RQ.blk 2 (pc' := 32) (lv' := [(3, .int (nI k)), (2, .int (nI lgs.length)), (0, .ref 191), (1, .int (nI P))]) (st' := [.int (nI lgs.length), .int (nI k)]) (H' := _) (kc' := 0) (ks' := 0) rfl ?_
    refine RQ.brT rfl rfl rfl (cT_ge k lgs.length) ?_
    refine RQ.blk 1 (pc' := 50) (lv' := [(3, .int (nI k)), (2, .int (nI lgs.length)), (0, .ref 191), (1, .int (nI P))]) (st' := [.ref 191]) (H' := _) (kc' := 0) (ks' := 0) rfl ?_
    refine RQ.get (ci := 4) rfl hG4 rfl rfl ?_
    refine RQ.callN (st' := []) rfl rfl rfl rfl rfl rfl (args_v [] [] rfl rfl (Nat.le_of_ble_eq_true rfl) rfl hv4 (Nat.le_of_ble_eq_true rfl)) (rn_allIn hV4) (fun H5 hx5 => ?_)
    obtain ⟨hV5, f5⟩ := hx5
    obtain ⟨vf5, hv5⟩ : ∃ vf, H5[74]? = some (kO 10 vf) := by obtain ⟨_, _, _, _, _, _, _, _, _, _, _, q1, _, _⟩ := id hV5; exact ⟨_, q1.1⟩
    have hG5 := (f5 190 (by decide)).trans hG4
    have fU5 : FrU H H5 := fun a ha => (f5 a (by omega)).trans (fU4 a ha)
    refine RQ.blk 1 (pc' := 57) (lv' := [(3, .int (nI k)), (2, .int (nI lgs.length)), (0, .ref 191), (1, .int (nI P))]) (st' := [.ref 191]) (H' := _) (kc' := 0) (ks' := 0) rfl ?_
    refine RQ.get (ci := 4) rfl hG5 rfl rfl ?_
    have hpr5 : ∀ v ∈ (mvL none Q 0 vs).map toldV, v.2.1 ≤ pr := fun w hw => by
      obtain ⟨u, hu, e⟩ := List.mem_map.mp hw
      obtain ⟨j, v, hv, e2⟩ := mem_mvL hu
      rw [← e, e2]
      show (mvV none Q j v).2.1 ≤ pr
      unfold mvV
      split <;> exact hpr v (List.mem_of_getElem? hv)
    refine RQ.callN (st' := []) rfl rfl rfl rfl rfl rfl (args_v [] [] rfl rfl (Nat.le_of_ble_eq_true rfl) rfl hv5 (Nat.le_of_ble_eq_true rfl)) (rn_purgeL (pr := pr) (hsi.frU fU5) hsm hV5 hpr5) (fun H6 hx6 => ?_)
    obtain ⟨hV6, f6⟩ := hx6
    have hV6 : VersIs H6 N (rnW op sm pr Q vs) := hV6
    have f7 : ∀ a, ¬ (74 ≤ a ∧ a < 83) → H6[a]? = H4[a]? := fun a a1 => (f6 a a1).trans (f5 a a1)
    have hD6 := hD4.far (H' := H6) (fun a ha => f7 a (by omega))
    have hA6 : AuxA H6 B N := hA4.far (fun a a1 a2 a3 a4 => f7 a (by omega))
    have fU6 : FrU H H6 := fun a ha => (f7 a (by omega)).trans (fU4 a ha)
    have hG6 := (f7 190 (by decide)).trans hG4
    have hmw : ∀ w ∈ rnW op sm pr Q vs, ∃ j v, vs[j]? = some v ∧ w = toldV (mvV none Q j v) := fun w hw => by
      obtain ⟨u, hu, e⟩ := mem_told hw
      obtain ⟨j, v, hv, e2⟩ := mem_mvL hu
      exact ⟨j, v, hv, by rw [e, e2]⟩
    have hR6 : ∀ v ∈ rnW op sm pr Q vs, RecX c1 l1 wr1 tp1 v := fun w hw => by
      obtain ⟨j, v, hv, e⟩ := hmw w hw
      rw [e]
      exact (hrec j v hv).1
    have hpr6 : ∀ v ∈ rnW op sm pr Q vs, v.2.1 ≤ pr := fun w hw => hpr5 w (List.mem_filter.mp hw).1
    have hvE6 : ∀ v ∈ rnW op sm pr Q vs, v.2.2.1 < 2 ^ 24 ∧ v.2.2.2.1.getD 0 ≤ 2048 := fun w hw => by
      obtain ⟨j, v, hv, e⟩ := hmw w hw
      rw [e]
      show (mvV none Q j v).2.2.1 < 2 ^ 24 ∧ (mvV none Q j v).2.2.2.1.getD 0 ≤ 2048
      unfold mvV
      split
      · rename_i hb
        have := (hQ j v hv hb).1
        exact ⟨by show Q j < 2 ^ 24; omega, (hvE v (List.mem_of_getElem? hv)).2⟩
      · exact hvE v (List.mem_of_getElem? hv)
    have hby : ((rnW op sm pr Q vs).map fK).sum ≤ 2048 * T := hT Q
    have hby2 := mapE_bytes (rnW op sm pr Q vs)
    have hwl : (rnW op sm pr Q vs).length ≤ vs.length := by
      refine Nat.le_trans (List.length_filter_le _ _) ?_
      rw [List.length_map, mvL_len]
      exact Nat.le_refl _
    have hW6 : wr1 = true → ∃ b, l1[l1.length - 1]? = some b ∧ Ers c1 (b * 2048 + tp1) (b * 2048 + 2048) := fun e => by
      obtain ⟨b, b1, b2⟩ := hF3.wrt e
      have := hne1 e
      obtain ⟨b', hb'⟩ := lt_get (l := l1) (i := l1.length - 1) (by omega)
      rw [hlast b' hb'] at b1
      exact ⟨b, by rw [hb', Option.some.inj b1], b2⟩
    have hl1B : l1.length ≤ 128 := by omega
    obtain ⟨tfs, htb⟩ : ∃ tfs, H6[136]? = some (kO 8 tfs) := by obtain ⟨-, ⟨_, _, _, e⟩, -⟩ := hA6; exact ⟨_, e⟩
    refine RQ.blk 1 (pc' := 64) (lv' := [(3, .int (nI k)), (2, .int (nI lgs.length)), (0, .ref 191), (1, .int (nI P))]) (st' := [.ref 191]) (H' := _) (kc' := 0) (ks' := 0) rfl ?_
    refine RQ.get (ci := 4) rfl hG6 rfl rfl ?_
    refine RQ.blk 2 (pc' := 69) (lv' := [(3, .int (nI k)), (2, .int (nI lgs.length)), (0, .ref 191), (1, .int (nI P))]) (st' := [.int (nI P), .int 1, .ref 137]) (H' := _) (kc' := 0) (ks' := 0) rfl ?_
    refine RQ.callT (st' := []) rfl rfl rfl rfl rfl rfl (args_v [.int (nI P), .int 1] [] rfl rfl (Nat.le_of_ble_eq_true rfl) rfl htb (Nat.le_of_ble_eq_true rfl)) (re_spillGA (d := d) (pr := pr) (gs0 := gs0) hD6 hO4 hO0 (fun b hb e => usedB_sub (fun x hx => by rw [hl3]; exact List.mem_append.mpr (Or.inr hx)) (hU3 b hb e).1) (fun b hb e => (hU3 b hb e).2) (hF9 c1 (fun q q1 q2 => (hT3 q (hTl q q1 q2)).2)) hff0 hW6 htp3 hV6 hR6 (hsi.frU fU6) hsm hpr6 hA6 hB hB1 hbb hS hP hrl hvE6 (by omega) (by omega) (by rw [List.length_map]; omega) (fun k9 hk9 => by omega)) rfl (fun H7 hx7 => ?_) (fun H9 hbad => Or.inr (by obtain ⟨c', z1, z2, z3⟩ := hbad; exact ⟨_, rfl, c', z1, fun q q1 q2 => (z2 q q1 (hmon _ q2)).trans (hT3 q (hTl q q1 q2)).2, fU6.trans z3⟩))
    obtain ⟨x, c7, us7, gs7, w1, w2, w3, w4, w5, w6, w7⟩ := hx7
    have hval7 : ∀ j v, vs[j]? = some v → RecX c7 l1 wr1 tp1 (mvV none Q j v) ∧ (v.2.2.2.1 ≠ none → valB c7 (mvV none Q j v) = valB c v) := fun j v hv => by
      have hX := (hrec j v hv).1
      have hsm7 : (mvV none Q j v).2.2.2.1 = v.2.2.2.1 := by unfold mvV; split <;> rfl
      have h9 := hX.1.far2 (c' := c7) (lgs' := l1) (v' := mvV none Q j v) rfl rfl rfl rfl (fun n hn q q1 q2 => by
        have hin := (hX.1 n hn).2
        have hbm := hO4.1 _ hin.2
        have hqd : q / 2048 = (mvV none Q j v).2.2.1 / 2048 := by omega
        exact w6 q (by omega) (by rw [hqd]; exact used_us hU3 hbm.2 (Or.inl (usedB_iff.mpr (Or.inr (Or.inl (by rw [hl3]; exact List.mem_append.mpr (Or.inr hin.2)))))))) (fun e => by
        cases hn : (mvV none Q j v).2.2.2.1 with
        | none => exact absurd hn e
        | some n => exact (hX.1 n hn).2.2)
      exact ⟨⟨h9.1, hX.2⟩, fun e => (h9.2 (by rw [hsm7]; exact e)).trans ((hrec j v hv).2 e)⟩
    exact RQ.done (c := 0) (s := 0) rfl rfl rfl rfl (Or.inl ⟨_, rfl, Q, l1, wr1, tp1, x, c7, us7, gs7, hM3, w1, w2, by rw [← hby2]; exact w3, w4, w5, hval7, fU6.trans w7⟩)
