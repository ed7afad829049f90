/-! ===== a write is laid into the pieces, the whole; reference; written by wip/gen/mlay2.py ===== -/
theorem layN_ok {tb : Nat → Int8} {f off e : Nat} {ps : List aPc} (hok : ∀ x ∈ ps, PcOk x) (hf : f ≤ 200) : ∀ (m : Nat), off / 512 + m ≤ 33 → ∀ x ∈ layN tb f off e ps m, PcOk x
  | 0, _ => hok
  | m + 1, hm => layE_ok (layN_ok hok hf m (by omega)) hf (by omega) (by rw [bsI_len]; unfold layK; omega)
theorem rq_laym {sc : Nat × (Nat → Int32)} {d : Nat} {H : aH} {fa li dn cw cl tp rs pr ve us : Int32} {ba bo : Nat} {ps : List aPc} {f off n i p : Nat} {old : List Int8} {tb : Nat → Int8} {Q : _ → Prop} (hm : H[195]? = some (kO 12 (mfs fa li dn cw cl tp rs pr ve us (nI ps.length) (nI (plen ps)) ba bo))) (h : PcsIs H ps) (ht : H[196]? = some (kB 2000 tb)) (hp : ps[p]? = some (f, i, old)) (hpi : ps.length ≤ 1300) (hhu : plen ps ≤ 40000) (ho : off + n ≤ 16384) (hn : 1 ≤ n) (hn2 : n ≤ 2000) (hi1 : off / 512 ≤ i) (hi2 : i ≤ (off + n - 1) / 512) (hold : old.length ≤ 512) (hr : plen (ps.set p (f, i, ovB old (off - 512 * i) (bsI tb (512 * i - off) (layK (off + n) i - (off - 512 * i))))) ≤ 40000) (K : ∀ H', H'[195]? = some (kO 12 (mfs fa li dn cw cl tp rs pr ve us (nI (ps.set p (f, i, ovB old (off - 512 * i) (bsI tb (512 * i - off) (layK (off + n) i - (off - 512 * i))))).length) (nI (plen (ps.set p (f, i, ovB old (off - 512 * i) (bsI tb (512 * i - off) (layK (off + n) i - (off - 512 * i))))))) ba bo)) → PcsIs H' (ps.set p (f, i, ovB old (off - 512 * i) (bsI tb (512 * i - off) (layK (off + n) i - (off - 512 * i))))) → (∀ a, ¬ (a = 195 ∨ (218 ≤ a ∧ a < 223)) → H'[a]? = H[a]?) → RQ sc (d + 1) mr_325 194 [(7, .int (nI (layK (off + n) i))), (0, .ref 196), (1, .int (nI f)), (2, .int (nI off)), (3, .int (nI n)), (4, .int (nI i)), (5, .int (nI p)), (6, .int (nI (layK (off + n) i)))] [] H' 0 0 Q) : RQ sc (d + 1) mr_325 87 [(5, .int (nI p)), (0, .ref 196), (1, .int (nI f)), (2, .int (nI off)), (3, .int (nI n)), (4, .int (nI i))] [] H 0 0 Q := by
  obtain ⟨pf, px, pz, pa, hd, hA, hE, hD⟩ := id h
  obtain ⟨e1, e2, e3, e4, e5⟩ := hE _ _ hp
  dsimp only at e3
  have hpl := get_lt hp
  have hk : layK (off + n) i = min 512 (off + n - 512 * i) := rfl
  generalize layK (off + n) i = k at hk hr K
  have hps := plen_set (y := (f, i, ovB old (off - 512 * i) (bsI tb (512 * i - off) (k - (off - 512 * i))))) hp
  dsimp only at hps
  rw [ovB_len, bsI_len] at hps
  have hlen2 : (ps.set p (f, i, ovB old (off - 512 * i) (bsI tb (512 * i - off) (k - (off - 512 * i))))).length = ps.length := List.length_set
  refine RQ.blk 5 (pc' := 94) (lv' := [(5, .int (nI p)), (0, .ref 196), (1, .int (nI f)), (2, .int (nI off)), (3, .int (nI n)), (4, .int (nI i))]) (st' := [.int (nI off + nI n), .int 512, .ref 196]) (H' := _) (kc' := 0) (ks' := 0) rfl ?_
  rw [show (nI off + nI n : Int32) = nI (off + n) from nI_add off n]
  refine RQ.blk 3 (pc' := 100) (lv' := [(5, .int (nI p)), (0, .ref 196), (1, .int (nI f)), (2, .int (nI off)), (3, .int (nI n)), (4, .int (nI i))]) (st' := [.int (512 * nI i), .int (nI (off + n)), .int 512, .ref 196]) (H' := _) (kc' := 0) (ks' := 0) rfl ?_
  rw [show (512 * nI i : Int32) = nI (512 * i) from pk_mul 512 i]
  refine RQ.blk 1 (pc' := 101) (lv' := [(5, .int (nI p)), (0, .ref 196), (1, .int (nI f)), (2, .int (nI off)), (3, .int (nI n)), (4, .int (nI i))]) (st' := [.int (nI (off + n) - nI (512 * i)), .int 512, .ref 196]) (H' := _) (kc' := 0) (ks' := 0) rfl ?_
  rw [show (nI (off + n) - nI (512 * i) : Int32) = nI ((off + n) - (512 * i)) from pk_sub (a := (off + n)) (b := (512 * i)) (by omega)]
  refine RQ.call (v := some (.int (nI (min 512 (off + n - 512 * i))))) (st' := []) rfl rfl rfl rfl rfl rfl (args_v [.int (nI ((off + n) - (512 * i))), .int 512] [] rfl rfl (Nat.le_of_ble_eq_true rfl) rfl hm (Nat.le_of_ble_eq_true rfl)) (rc_mleast (a := 512) (b := off + n - 512 * i) (by omega) (by omega)) ?_
  rw [← hk]
  refine RQ.blk 3 (pc' := 109) (lv' := [(6, .int (nI k)), (5, .int (nI p)), (0, .ref 196), (1, .int (nI f)), (2, .int (nI off)), (3, .int (nI n)), (4, .int (nI i))]) (st' := [.ref 196, .int (nI k)]) (H' := _) (kc' := 0) (ks' := 0) rfl ?_
  refine RQ.get (ci := 12) rfl hm rfl rfl ?_
  refine RQ.blk 1 (pc' := 114) (lv' := [(6, .int (nI k)), (5, .int (nI p)), (0, .ref 196), (1, .int (nI f)), (2, .int (nI off)), (3, .int (nI n)), (4, .int (nI i))]) (st' := [.int (nI p), .ref 221, .int (nI k)]) (H' := _) (kc' := 0) (ks' := 0) rfl ?_
  refine RQ.ialdN (j := p) rfl hA.2.2.1 (by omega) (by decide) ?_
  rw [e3]
  by_cases kz : old.length < k
  · refine RQ.brF rfl rfl rfl (cF_le k old.length) ?_
    refine RQ.blk 3 (pc' := 123) (lv' := [(6, .int (nI k)), (5, .int (nI p)), (0, .ref 196), (1, .int (nI f)), (2, .int (nI off)), (3, .int (nI n)), (4, .int (nI i))]) (st' := [.int (nI k), .int (nI p), .ref 196]) (H' := _) (kc' := 0) (ks' := 0) rfl ?_
    have hps2 := plen_set (y := (f, i, fitB old k)) hp
    dsimp only at hps2
    rw [fitB_len] at hps2
    change plen (keepP ps p k (f, i, old)) + _ = _ at hps2
    have hkl : (keepP ps p k (f, i, old)).length = ps.length := List.length_set
    refine RQ.callN (st' := []) rfl rfl rfl rfl rfl rfl (args_v [.int (nI k), .int (nI p)] [] rfl rfl (Nat.le_of_ble_eq_true rfl) rfl hm (Nat.le_of_ble_eq_true rfl)) (rn_keepL (d := d) (n := k) hm h hp (by omega) (by omega) (by omega) (by omega)) (fun H3 hx3 => ?_)
    obtain ⟨hm3, hP3, f3⟩ := hx3
    refine RQ.blk 4 (pc' := 133) (lv' := [(6, .int (nI k)), (5, .int (nI p)), (0, .ref 196), (1, .int (nI f)), (2, .int (nI off)), (3, .int (nI n)), (4, .int (nI i))]) (st' := [.int (512 * nI i), .int (nI off)]) (H' := _) (kc' := 0) (ks' := 0) rfl ?_
    rw [show (512 * nI i : Int32) = nI (512 * i) from pk_mul 512 i]
    by_cases ko : off ≤ 512 * i
    · refine RQ.brT rfl rfl rfl (cT_le off (512 * i)) ?_
      refine RQ.blk 2 (pc' := 150) (lv' := [(7, .int 0), (6, .int (nI k)), (5, .int (nI p)), (0, .ref 196), (1, .int (nI f)), (2, .int (nI off)), (3, .int (nI n)), (4, .int (nI i))]) (st' := []) (H' := _) (kc' := 0) (ks' := 0) rfl ?_
      refine RQ.pick (a := [(7, .int 0), (0, .ref 196), (1, .int (nI f)), (2, .int (nI off)), (3, .int (nI n)), (4, .int (nI i)), (5, .int (nI p)), (6, .int (nI k))]) [0, 3, 4, 5, 6, 7, 2, 1] [7, 6, 5, 0, 1, 2, 3, 4] rfl rfl (by decide) ?_
      have hlo : off - 512 * i = 0 := by omega
      rw [hlo] at K hps hr hlen2
      have hS : (512 * i + 0 - off) = 512 * i - off := by omega
      refine rq_layf (lo := 0) (base := fitB old k) hm3 hP3 (by rw [f3 196 (by decide)]; exact ht) (by unfold keepP; rw [List.getElem?_set_self hpl]) (by omega) (by omega) (by omega) (by rw [fitB_len]; omega) (by omega) (by omega) (by omega) (by omega) ?_
      intro H4 e4 hP4 f4
      rw [hS, ovB_fit (by rw [bsI_len]; omega) (by omega)] at hP4
      have hse : (keepP ps p k (f, i, old)).set p (f, i, ovB old 0 (bsI tb (512 * i - off) (k - 0))) = (ps.set p (f, i, ovB old 0 (bsI tb (512 * i - off) (k - 0)))) := by unfold keepP; rw [List.set_set]
      rw [hse] at hP4
      refine K H4 ?_ hP4 (fun a ha => (f4 a (by omega)).trans (f3 a (by omega)))
      rw [e4, hm3, hkl, hlen2, show plen (ps.set p (f, i, ovB old 0 (bsI tb (512 * i - off) (k - 0)))) = plen (keepP ps p k (f, i, old)) by omega]
    · refine RQ.brF rfl rfl rfl (cF_le off (512 * i)) ?_
      refine RQ.blk 4 (pc' := 143) (lv' := [(6, .int (nI k)), (5, .int (nI p)), (0, .ref 196), (1, .int (nI f)), (2, .int (nI off)), (3, .int (nI n)), (4, .int (nI i))]) (st' := [.int (512 * nI i), .int (nI off)]) (H' := _) (kc' := 0) (ks' := 0) rfl ?_
      rw [show (512 * nI i : Int32) = nI (512 * i) from pk_mul 512 i]
      refine RQ.blk 1 (pc' := 144) (lv' := [(6, .int (nI k)), (5, .int (nI p)), (0, .ref 196), (1, .int (nI f)), (2, .int (nI off)), (3, .int (nI n)), (4, .int (nI i))]) (st' := [.int (nI off - nI (512 * i))]) (H' := _) (kc' := 0) (ks' := 0) rfl ?_
      rw [show (nI off - nI (512 * i) : Int32) = nI (off - (512 * i)) from pk_sub (a := off) (b := (512 * i)) (by omega)]
      refine RQ.blk 2 (pc' := 150) (lv' := [(7, .int (nI (off - (512 * i)))), (6, .int (nI k)), (5, .int (nI p)), (0, .ref 196), (1, .int (nI f)), (2, .int (nI off)), (3, .int (nI n)), (4, .int (nI i))]) (st' := []) (H' := _) (kc' := 0) (ks' := 0) rfl ?_
      refine RQ.pick (a := [(7, .int (nI (off - (512 * i)))), (0, .ref 196), (1, .int (nI f)), (2, .int (nI off)), (3, .int (nI n)), (4, .int (nI i)), (5, .int (nI p)), (6, .int (nI k))]) [0, 3, 4, 5, 6, 7, 2, 1] [7, 6, 5, 0, 1, 2, 3, 4] rfl rfl (by decide) ?_
      have hlo : 512 * i - off = 0 := by omega
      have hS : (512 * i + (off - 512 * i) - off) = 512 * i - off := by omega
      refine rq_layf (lo := (off - 512 * i)) (base := fitB old k) hm3 hP3 (by rw [f3 196 (by decide)]; exact ht) (by unfold keepP; rw [List.getElem?_set_self hpl]) (by omega) (by omega) (by omega) (by rw [fitB_len]; omega) (by omega) (by omega) (by omega) (by omega) ?_
      intro H4 e4 hP4 f4
      rw [hS, ovB_fit (by rw [bsI_len]; omega) (by omega)] at hP4
      have hse : (keepP ps p k (f, i, old)).set p (f, i, ovB old (off - 512 * i) (bsI tb (512 * i - off) (k - (off - 512 * i)))) = (ps.set p (f, i, ovB old (off - 512 * i) (bsI tb (512 * i - off) (k - (off - 512 * i))))) := by unfold keepP; rw [List.set_set]
      rw [hse] at hP4
      refine K H4 ?_ hP4 (fun a ha => (f4 a (by omega)).trans (f3 a (by omega)))
      rw [e4, hm3, hkl, hlen2, show plen (ps.set p (f, i, ovB old (off - 512 * i) (bsI tb (512 * i - off) (k - (off - 512 * i))))) = plen (keepP ps p k (f, i, old)) by omega]
  · refine RQ.brT rfl rfl rfl (cT_le k old.length) ?_
    refine RQ.blk 4 (pc' := 133) (lv' := [(6, .int (nI k)), (5, .int (nI p)), (0, .ref 196), (1, .int (nI f)), (2, .int (nI off)), (3, .int (nI n)), (4, .int (nI i))]) (st' := [.int (512 * nI i), .int (nI off)]) (H' := _) (kc' := 0) (ks' := 0) rfl ?_
    rw [show (512 * nI i : Int32) = nI (512 * i) from pk_mul 512 i]
    by_cases ko : off ≤ 512 * i
    · refine RQ.brT rfl rfl rfl (cT_le off (512 * i)) ?_
      refine RQ.blk 2 (pc' := 150) (lv' := [(7, .int 0), (6, .int (nI k)), (5, .int (nI p)), (0, .ref 196), (1, .int (nI f)), (2, .int (nI off)), (3, .int (nI n)), (4, .int (nI i))]) (st' := []) (H' := _) (kc' := 0) (ks' := 0) rfl ?_
      refine RQ.pick (a := [(7, .int 0), (0, .ref 196), (1, .int (nI f)), (2, .int (nI off)), (3, .int (nI n)), (4, .int (nI i)), (5, .int (nI p)), (6, .int (nI k))]) [0, 3, 4, 5, 6, 7, 2, 1] [7, 6, 5, 0, 1, 2, 3, 4] rfl rfl (by decide) ?_
      have hlo : off - 512 * i = 0 := by omega
      rw [hlo] at K hps hr hlen2
      have hS : (512 * i + 0 - off) = 512 * i - off := by omega
      refine rq_layf (lo := 0) (base := old) hm h ht hp hpi hhu (by omega) (by omega) (by omega) (by omega) (by omega) (by omega) ?_
      intro H4 e4 hP4 f4
      rw [hS] at hP4
      refine K H4 ?_ hP4 (fun a ha => f4 a (by omega))
      rw [e4, hm, hlen2, show plen (ps.set p (f, i, ovB old 0 (bsI tb (512 * i - off) (k - 0)))) = plen ps by omega]
    · refine RQ.brF rfl rfl rfl (cF_le off (512 * i)) ?_
      refine RQ.blk 4 (pc' := 143) (lv' := [(6, .int (nI k)), (5, .int (nI p)), (0, .ref 196), (1, .int (nI f)), (2, .int (nI off)), (3, .int (nI n)), (4, .int (nI i))]) (st' := [.int (512 * nI i), .int (nI off)]) (H' := _) (kc' := 0) (ks' := 0) rfl ?_
      rw [show (512 * nI i : Int32) = nI (512 * i) from pk_mul 512 i]
      refine RQ.blk 1 (pc' := 144) (lv' := [(6, .int (nI k)), (5, .int (nI p)), (0, .ref 196), (1, .int (nI f)), (2, .int (nI off)), (3, .int (nI n)), (4, .int (nI i))]) (st' := [.int (nI off - nI (512 * i))]) (H' := _) (kc' := 0) (ks' := 0) rfl ?_
      rw [show (nI off - nI (512 * i) : Int32) = nI (off - (512 * i)) from pk_sub (a := off) (b := (512 * i)) (by omega)]
      refine RQ.blk 2 (pc' := 150) (lv' := [(7, .int (nI (off - (512 * i)))), (6, .int (nI k)), (5, .int (nI p)), (0, .ref 196), (1, .int (nI f)), (2, .int (nI off)), (3, .int (nI n)), (4, .int (nI i))]) (st' := []) (H' := _) (kc' := 0) (ks' := 0) rfl ?_
      refine RQ.pick (a := [(7, .int (nI (off - (512 * i)))), (0, .ref 196), (1, .int (nI f)), (2, .int (nI off)), (3, .int (nI n)), (4, .int (nI i)), (5, .int (nI p)), (6, .int (nI k))]) [0, 3, 4, 5, 6, 7, 2, 1] [7, 6, 5, 0, 1, 2, 3, 4] rfl rfl (by decide) ?_
      have hlo : 512 * i - off = 0 := by omega
      have hS : (512 * i + (off - 512 * i) - off) = 512 * i - off := by omega
      refine rq_layf (lo := (off - 512 * i)) (base := old) hm h ht hp hpi hhu (by omega) (by omega) (by omega) (by omega) (by omega) (by omega) ?_
      intro H4 e4 hP4 f4
      rw [hS] at hP4
      refine K H4 ?_ hP4 (fun a ha => f4 a (by omega))
      rw [e4, hm, hlen2, show plen (ps.set p (f, i, ovB old (off - 512 * i) (bsI tb (512 * i - off) (k - (off - 512 * i))))) = plen ps by omega]
set_option maxRecDepth 20000 in
theorem rn_lay {sc : Nat × (Nat → Int32)} {d : Nat} {H : aH} {fa li dn cw cl tp rs pr ve us : Int32} {ba bo : Nat} {ps : List aPc} {f off n : Nat} {tb : Nat → Int8} (hm : H[195]? = some (kO 12 (mfs fa li dn cw cl tp rs pr ve us (nI ps.length) (nI (plen ps)) ba bo))) (h : PcsIs H ps) (ht : H[196]? = some (kB 2000 tb)) (hok : ∀ x ∈ ps, PcOk x) (hf : f ≤ 200) (ho : off + n ≤ 16384) (hn : 1 ≤ n) (hn2 : n ≤ 2000) (hroom : ∀ m, m ≤ ((off + n - 1) / 512 + 1 - off / 512) → (layN tb f off (off + n) ps m).length ≤ 1300 ∧ plen (layN tb f off (off + n) ps m) ≤ 40000) : RN sc (d + 1) mr_325 [.ref 196, .int (nI f), .int (nI off), .int (nI n)] H (fun H' => H'[195]? = some (kO 12 (mfs fa li dn cw cl tp rs pr ve us (nI (layN tb f off (off + n) ps ((off + n - 1) / 512 + 1 - off / 512)).length) (nI (plen (layN tb f off (off + n) ps ((off + n - 1) / 512 + 1 - off / 512)))) ba bo)) ∧ PcsIs H' (layN tb f off (off + n) ps ((off + n - 1) / 512 + 1 - off / 512)) ∧ ∀ a, ¬ (a = 195 ∨ (218 ≤ a ∧ a < 223)) → H'[a]? = H[a]?) := by
  refine RN.of ?_
  refine RQ.blk 3 (pc' := 5) (lv' := [(0, .ref 196), (1, .int (nI f)), (2, .int (nI off)), (3, .int (nI n))]) (st' := [.int (nI off / 512)]) (H' := _) (kc' := 0) (ks' := 0) rfl ?_
  rw [show (nI off / 512 : Int32) = nI (off / 512) from pk_div (a := off) (d := 512) (by omega) (by omega) (by omega)]
  refine RQ.blk 1 (pc' := 7) (lv' := [(4, .int (nI (off / 512))), (0, .ref 196), (1, .int (nI f)), (2, .int (nI off)), (3, .int (nI n))]) (st' := []) (H' := _) (kc' := 0) (ks' := 0) rfl ?_
  refine RQ.pick (a := [(4, .int (nI (off / 512))), (0, .ref 196), (1, .int (nI f)), (2, .int (nI off)), (3, .int (nI n))]) [0, 1, 2, 3, 4] [4, 0, 1, 2, 3] rfl rfl (by decide) ?_
  refine RQ.while (S := Nat) (pc := 7) (fun m H' => m ≤ ((off + n - 1) / 512 + 1 - off / 512) ∧ H'[195]? = some (kO 12 (mfs fa li dn cw cl tp rs pr ve us (nI (layN tb f off (off + n) ps m).length) (nI (plen (layN tb f off (off + n) ps m))) ba bo)) ∧ PcsIs H' (layN tb f off (off + n) ps m) ∧ ∀ a, ¬ (a = 195 ∨ (218 ≤ a ∧ a < 223)) → H'[a]? = H[a]?) (fun m => [(4, .int (nI (off / 512 + m))), (0, .ref 196), (1, .int (nI f)), (2, .int (nI off)), (3, .int (nI n))]) (fun m => ((off + n - 1) / 512 + 1 - off / 512) - m) ?_ 0 H ⟨Nat.zero_le _, hm, h, fun a _ => rfl⟩
  rintro m H1 ⟨hmm, hm1, hP1, f1⟩ ih
  obtain ⟨r1, r2⟩ := hroom m hmm
  by_cases hlt : off / 512 + m ≤ (off + n - 1) / 512
  ·
    have hok1 := layN_ok (tb := tb) (off := off) (e := off + n) hok hf m (by omega)
    have ht1 := (f1 196 (by omega)).trans ht
    have hpc := rc_mpieceL (sc := sc) (d := d) (x := off / 512 + m) hm1 hP1 r1 hok1 hf (by omega)
    obtain ⟨r3, r4⟩ := hroom (m + 1) (by omega)
    have hle : (layN tb f off (off + n) ps (m + 1)) = layE (layN tb f off (off + n) ps m) f (off / 512 + m) (off - 512 * (off / 512 + m)) (bsI tb (512 * (off / 512 + m) - off) (layK (off + n) (off / 512 + m) - (off - 512 * (off / 512 + m)))) := rfl
    unfold layE at hle
    refine RQ.blk 4 (pc' := 12) (lv' := [(4, .int (nI (off / 512 + m))), (0, .ref 196), (1, .int (nI f)), (2, .int (nI off)), (3, .int (nI n))]) (st' := [.int (nI off + nI n), .int (nI (off / 512 + m))]) (H' := _) (kc' := 0) (ks' := 0) rfl ?_
    rw [show (nI off + nI n : Int32) = nI (off + n) from nI_add off n]
    refine RQ.blk 2 (pc' := 14) (lv' := [(4, .int (nI (off / 512 + m))), (0, .ref 196), (1, .int (nI f)), (2, .int (nI off)), (3, .int (nI n))]) (st' := [.int (nI (off + n) - 1), .int (nI (off / 512 + m))]) (H' := _) (kc' := 0) (ks' := 0) rfl ?_
    rw [show (nI (off + n) - 1 : Int32) = nI ((off + n) - 1) from pk_sub (a := (off + n)) (b := 1) (by omega)]
    refine RQ.blk 2 (pc' := 18) (lv' := [(4, .int (nI (off / 512 + m))), (0, .ref 196), (1, .int (nI f)), (2, .int (nI off)), (3, .int (nI n))]) (st' := [.int (nI ((off + n) - 1) / 512), .int (nI (off / 512 + m))]) (H' := _) (kc' := 0) (ks' := 0) rfl ?_
    rw [show (nI ((off + n) - 1) / 512 : Int32) = nI (((off + n) - 1) / 512) from pk_div (a := ((off + n) - 1)) (d := 512) (by omega) (by omega) (by omega)]
    refine RQ.brF rfl rfl rfl (cF_gt (off / 512 + m) ((off + n - 1) / 512)) ?_
    refine RQ.blk 3 (pc' := 25) (lv' := [(4, .int (nI (off / 512 + m))), (0, .ref 196), (1, .int (nI f)), (2, .int (nI off)), (3, .int (nI n))]) (st' := [.int (nI (off / 512 + m)), .int (nI f), .ref 196]) (H' := _) (kc' := 0) (ks' := 0) rfl ?_
    cases hj : pcI (layN tb f off (off + n) ps m) f (off / 512 + m) with
    | none =>
      rw [hj] at hpc hle
      dsimp only at hle
      refine RQ.call (v := some (.int (-1))) (st' := []) rfl rfl rfl rfl rfl rfl (args_v [.int (nI (off / 512 + m)), .int (nI f)] [] rfl rfl (Nat.le_of_ble_eq_true rfl) rfl hm1 (Nat.le_of_ble_eq_true rfl)) hpc ?_
      obtain ⟨pf, px, pz, pa, hd, hA, hE, hD⟩ := id hP1
      have hl13 : (layN tb f off (off + n) ps m).length < 1300 := by rw [hle, List.length_append] at r3; exact r3
      refine RQ.blk 2 (pc' := 32) (lv' := [(5, .int (-1)), (4, .int (nI (off / 512 + m))), (0, .ref 196), (1, .int (nI f)), (2, .int (nI off)), (3, .int (nI n))]) (st' := [.int (-1)]) (H' := _) (kc' := 0) (ks' := 0) rfl ?_
      refine RQ.brF rfl rfl rfl (by decide) ?_
      refine RQ.blk 1 (pc' := 36) (lv' := [(5, .int (-1)), (4, .int (nI (off / 512 + m))), (0, .ref 196), (1, .int (nI f)), (2, .int (nI off)), (3, .int (nI n))]) (st' := [.ref 196]) (H' := _) (kc' := 0) (ks' := 0) rfl ?_
      refine RQ.get (ci := 12) rfl hm1 rfl rfl ?_
      refine RQ.blk 2 (pc' := 42) (lv' := [(5, .int (nI ((layN tb f off (off + n) ps m).length))), (4, .int (nI (off / 512 + m))), (0, .ref 196), (1, .int (nI f)), (2, .int (nI off)), (3, .int (nI n))]) (st' := [.ref 196]) (H' := _) (kc' := 0) (ks' := 0) rfl ?_
      refine RQ.get (ci := 12) rfl hm1 rfl rfl ?_
      refine RQ.blk 2 (pc' := 48) (lv' := [(5, .int (nI ((layN tb f off (off + n) ps m).length))), (4, .int (nI (off / 512 + m))), (0, .ref 196), (1, .int (nI f)), (2, .int (nI off)), (3, .int (nI n))]) (st' := [.int (nI f), .int (nI ((layN tb f off (off + n) ps m).length)), .ref 219]) (H' := _) (kc' := 0) (ks' := 0) rfl ?_
      refine RQ.iastN (j := (layN tb f off (off + n) ps m).length) rfl hA.1 (by omega) (by decide) ?_
      rw [up_nI]
      refine RQ.blk 1 (pc' := 50) (lv' := [(5, .int (nI ((layN tb f off (off + n) ps m).length))), (4, .int (nI (off / 512 + m))), (0, .ref 196), (1, .int (nI f)), (2, .int (nI off)), (3, .int (nI n))]) (st' := [.ref 196]) (H' := _) (kc' := 0) (ks' := 0) rfl ?_
      refine RQ.get (ci := 12) rfl ((set_far (by decide)).trans hm1) rfl rfl ?_
      refine RQ.blk 2 (pc' := 57) (lv' := [(5, .int (nI ((layN tb f off (off + n) ps m).length))), (4, .int (nI (off / 512 + m))), (0, .ref 196), (1, .int (nI f)), (2, .int (nI off)), (3, .int (nI n))]) (st' := [.int (nI (off / 512 + m)), .int (nI ((layN tb f off (off + n) ps m).length)), .ref 220]) (H' := _) (kc' := 0) (ks' := 0) rfl ?_
      refine RQ.iastN (j := (layN tb f off (off + n) ps m).length) rfl ((set_far (by decide)).trans hA.2.1) (by omega) (by decide) ?_
      rw [up_nI]
      refine RQ.blk 1 (pc' := 59) (lv' := [(5, .int (nI ((layN tb f off (off + n) ps m).length))), (4, .int (nI (off / 512 + m))), (0, .ref 196), (1, .int (nI f)), (2, .int (nI off)), (3, .int (nI n))]) (st' := [.ref 196]) (H' := _) (kc' := 0) (ks' := 0) rfl ?_
      refine RQ.get (ci := 12) rfl ((set_far (by decide)).trans ((set_far (by decide)).trans hm1)) rfl rfl ?_
      refine RQ.blk 2 (pc' := 65) (lv' := [(5, .int (nI ((layN tb f off (off + n) ps m).length))), (4, .int (nI (off / 512 + m))), (0, .ref 196), (1, .int (nI f)), (2, .int (nI off)), (3, .int (nI n))]) (st' := [.int 0, .int (nI ((layN tb f off (off + n) ps m).length)), .ref 221]) (H' := _) (kc' := 0) (ks' := 0) rfl ?_
      rw [show (0 : Int32) = nI 0 from rfl]
      refine RQ.iastN (j := (layN tb f off (off + n) ps m).length) rfl ((set_far (by decide)).trans ((set_far (by decide)).trans hA.2.2.1)) (by omega) (by decide) ?_
      rw [up_nI]
      refine RQ.blk 1 (pc' := 67) (lv' := [(5, .int (nI ((layN tb f off (off + n) ps m).length))), (4, .int (nI (off / 512 + m))), (0, .ref 196), (1, .int (nI f)), (2, .int (nI off)), (3, .int (nI n))]) (st' := [.ref 196]) (H' := _) (kc' := 0) (ks' := 0) rfl ?_
      refine RQ.get (ci := 12) rfl ((set_far (by decide)).trans ((set_far (by decide)).trans ((set_far (by decide)).trans hm1))) rfl rfl ?_
      refine RQ.blk 2 (pc' := 73) (lv' := [(5, .int (nI ((layN tb f off (off + n) ps m).length))), (4, .int (nI (off / 512 + m))), (0, .ref 196), (1, .int (nI f)), (2, .int (nI off)), (3, .int (nI n))]) (st' := [.ref 196, .int (nI ((layN tb f off (off + n) ps m).length)), .ref 222]) (H' := _) (kc' := 0) (ks' := 0) rfl ?_
      refine RQ.get (ci := 12) rfl ((set_far (by decide)).trans ((set_far (by decide)).trans ((set_far (by decide)).trans hm1))) rfl rfl ?_
      refine RQ.iastN (j := (layN tb f off (off + n) ps m).length) rfl ((set_far (by decide)).trans ((set_far (by decide)).trans ((set_far (by decide)).trans hA.2.2.2.1))) (by omega) (by decide) ?_
      rw [up_nI]
      refine RQ.blk 2 (pc' := 79) (lv' := [(5, .int (nI ((layN tb f off (off + n) ps m).length))), (4, .int (nI (off / 512 + m))), (0, .ref 196), (1, .int (nI f)), (2, .int (nI off)), (3, .int (nI n))]) (st' := [.ref 196, .ref 196]) (H' := _) (kc' := 0) (ks' := 0) rfl ?_
      refine RQ.get (ci := 12) rfl ((set_far (by decide)).trans ((set_far (by decide)).trans ((set_far (by decide)).trans ((set_far (by decide)).trans hm1)))) rfl rfl ?_
      refine RQ.blk 2 (pc' := 84) (lv' := [(5, .int (nI ((layN tb f off (off + n) ps m).length))), (4, .int (nI (off / 512 + m))), (0, .ref 196), (1, .int (nI f)), (2, .int (nI off)), (3, .int (nI n))]) (st' := [.int (nI ((layN tb f off (off + n) ps m).length) + 1), .ref 196]) (H' := _) (kc' := 0) (ks' := 0) rfl ?_
      rw [show (nI ((layN tb f off (off + n) ps m).length) + 1 : Int32) = nI ((layN tb f off (off + n) ps m).length + 1) from nI_add ((layN tb f off (off + n) ps m).length) 1]
      refine RQ.put (ci := 12) rfl ((set_far (by decide)).trans ((set_far (by decide)).trans ((set_far (by decide)).trans ((set_far (by decide)).trans hm1)))) rfl rfl (Nat.le_of_ble_eq_true rfl) ?_
      refine RQ.pick (a := [(5, .int (nI ((layN tb f off (off + n) ps m).length))), (0, .ref 196), (1, .int (nI f)), (2, .int (nI off)), (3, .int (nI n)), (4, .int (nI (off / 512 + m)))]) [0, 2, 3, 4, 5, 1] [5, 4, 0, 1, 2, 3] rfl rfl (by decide) ?_
      have hl2 : ((layN tb f off (off + n) ps m) ++ [(f, off / 512 + m, [])]).length = (layN tb f off (off + n) ps m).length + 1 := List.length_append
      have hp2 : plen ((layN tb f off (off + n) ps m) ++ [(f, off / 512 + m, [])]) = plen (layN tb f off (off + n) ps m) := by unfold plen; rw [List.map_append, List.sum_append]; rfl
      have hm3 : (((((H1.set 218 (kI 1300 (fun j => nI (va_up pf (layN tb f off (off + n) ps m).length f j)))).set 219 (kI 1300 (fun j => nI (va_up px (layN tb f off (off + n) ps m).length (off / 512 + m) j)))).set 220 (kI 1300 (fun j => nI (va_up pz (layN tb f off (off + n) ps m).length 0 j)))).set 221 (kI 1300 (fun j => nI (va_up pa (layN tb f off (off + n) ps m).length (plen (layN tb f off (off + n) ps m)) j)))).set 195 (kO 12 (mfs fa li dn cw cl tp rs pr ve us (nI ((layN tb f off (off + n) ps m).length + 1)) (nI (plen (layN tb f off (off + n) ps m))) ba bo)))[195]? = some (kO 12 (mfs fa li dn cw cl tp rs pr ve us (nI ((layN tb f off (off + n) ps m) ++ [(f, off / 512 + m, [])]).length) (nI (plen ((layN tb f off (off + n) ps m) ++ [(f, off / 512 + m, [])]))) ba bo)) := by rw [hl2, hp2]; exact get_set ((set_far (by decide)).trans ((set_far (by decide)).trans ((set_far (by decide)).trans ((set_far (by decide)).trans hm1))))
      have hP3 : PcsIs (((((H1.set 218 (kI 1300 (fun j => nI (va_up pf (layN tb f off (off + n) ps m).length f j)))).set 219 (kI 1300 (fun j => nI (va_up px (layN tb f off (off + n) ps m).length (off / 512 + m) j)))).set 220 (kI 1300 (fun j => nI (va_up pz (layN tb f off (off + n) ps m).length 0 j)))).set 221 (kI 1300 (fun j => nI (va_up pa (layN tb f off (off + n) ps m).length (plen (layN tb f off (off + n) ps m)) j)))).set 195 (kO 12 (mfs fa li dn cw cl tp rs pr ve us (nI ((layN tb f off (off + n) ps m).length + 1)) (nI (plen (layN tb f off (off + n) ps m))) ba bo))) ((layN tb f off (off + n) ps m) ++ [(f, off / 512 + m, [])]) := PcsIs.push (H := H) hE hD ⟨((set_far (by decide)).trans ((set_far (by decide)).trans ((set_far (by decide)).trans ((set_far (by decide)).trans (get_set hA.1))))), ((set_far (by decide)).trans ((set_far (by decide)).trans ((set_far (by decide)).trans (get_set ((set_far (by decide)).trans hA.2.1))))), ((set_far (by decide)).trans ((set_far (by decide)).trans (get_set ((set_far (by decide)).trans ((set_far (by decide)).trans hA.2.2.1))))), ((set_far (by decide)).trans (get_set ((set_far (by decide)).trans ((set_far (by decide)).trans ((set_far (by decide)).trans hA.2.2.2.1))))), ((set_far (by decide)).trans ((set_far (by decide)).trans ((set_far (by decide)).trans ((set_far (by decide)).trans ((set_far (by decide)).trans hA.2.2.2.2)))))⟩
      have f3 : ∀ a, ¬ (a = 195 ∨ (218 ≤ a ∧ a < 223)) → (((((H1.set 218 (kI 1300 (fun j => nI (va_up pf (layN tb f off (off + n) ps m).length f j)))).set 219 (kI 1300 (fun j => nI (va_up px (layN tb f off (off + n) ps m).length (off / 512 + m) j)))).set 220 (kI 1300 (fun j => nI (va_up pz (layN tb f off (off + n) ps m).length 0 j)))).set 221 (kI 1300 (fun j => nI (va_up pa (layN tb f off (off + n) ps m).length (plen (layN tb f off (off + n) ps m)) j)))).set 195 (kO 12 (mfs fa li dn cw cl tp rs pr ve us (nI ((layN tb f off (off + n) ps m).length + 1)) (nI (plen (layN tb f off (off + n) ps m))) ba bo)))[a]? = H[a]? := fun a ha => (set_far (by omega)).trans ((set_far (by omega)).trans ((set_far (by omega)).trans ((set_far (by omega)).trans ((set_far (by omega)).trans (f1 a ha)))))
      have hb : ((layN tb f off (off + n) ps m) ++ [(f, off / 512 + m, [])])[(layN tb f off (off + n) ps m).length]? = some (f, off / 512 + m, []) := by rw [List.getElem?_append_right (Nat.le_refl _), Nat.sub_self]; rfl
      have hse : ∀ y, ((layN tb f off (off + n) ps m) ++ [(f, off / 512 + m, [])]).set (layN tb f off (off + n) ps m).length y = (layN tb f off (off + n) ps m) ++ [y] := fun y => by rw [List.set_append_right _ _ (Nat.le_refl _), Nat.sub_self]; rfl
      rw [← hse] at hle
      refine rq_laym (H := (((((H1.set 218 (kI 1300 (fun j => nI (va_up pf (layN tb f off (off + n) ps m).length f j)))).set 219 (kI 1300 (fun j => nI (va_up px (layN tb f off (off + n) ps m).length (off / 512 + m) j)))).set 220 (kI 1300 (fun j => nI (va_up pz (layN tb f off (off + n) ps m).length 0 j)))).set 221 (kI 1300 (fun j => nI (va_up pa (layN tb f off (off + n) ps m).length (plen (layN tb f off (off + n) ps m)) j)))).set 195 (kO 12 (mfs fa li dn cw cl tp rs pr ve us (nI ((layN tb f off (off + n) ps m).length + 1)) (nI (plen (layN tb f off (off + n) ps m))) ba bo)))) hm3 hP3 ((f3 196 (by omega)).trans ht) hb (by omega) (by omega) ho hn hn2 (by omega) (by omega) (Nat.zero_le _) (by rw [← hle]; exact r4) ?_
      intro H4 e4 hP4 f4
      rw [← hle] at e4 hP4
      refine RQ.blk 1 (pc' := 197) (lv' := [(4, .int (nI (off / 512 + m) + 1)), (7, .int (nI (layK (off + n) (off / 512 + m)))), (0, .ref 196), (1, .int (nI f)), (2, .int (nI off)), (3, .int (nI n)), (5, .int (nI ((layN tb f off (off + n) ps m).length))), (6, .int (nI (layK (off + n) (off / 512 + m))))]) (st' := []) (H' := _) (kc' := 0) (ks' := 0) rfl ?_
      rw [show (nI (off / 512 + m) + 1 : Int32) = nI ((off / 512 + m) + 1) from nI_add (off / 512 + m) 1]
      refine RQ.blk 1 (pc' := 7) (lv' := [(4, .int (nI ((off / 512 + m) + 1))), (7, .int (nI (layK (off + n) (off / 512 + m)))), (0, .ref 196), (1, .int (nI f)), (2, .int (nI off)), (3, .int (nI n)), (5, .int (nI ((layN tb f off (off + n) ps m).length))), (6, .int (nI (layK (off + n) (off / 512 + m))))]) (st' := []) (H' := _) (kc' := 0) (ks' := 0) rfl ?_
      refine RQ.pick (a := [(4, .int (nI ((off / 512 + m) + 1))), (0, .ref 196), (1, .int (nI f)), (2, .int (nI off)), (3, .int (nI n))]) [0, 2, 3, 4, 5] [4, 7, 0, 1, 2, 3, 5, 6] rfl rfl (by decide) ?_
      exact ih (m + 1) H4 ⟨by omega, e4, hP4, fun a ha => (f4 a ha).trans (f3 a ha)⟩ (by omega)
    | some j =>
      rw [hj] at hpc hle
      dsimp only at hle
      obtain ⟨b, hb⟩ := pcI_some hj
      have hbb : pcB (layN tb f off (off + n) ps m) j = b := by unfold pcB; rw [hb]
      rw [hbb] at hle
      obtain ⟨o1, o2, o3⟩ := hok1 _ (List.mem_of_getElem? hb)
      dsimp only at o3
      have hjl := get_lt hb
      refine RQ.call (v := some (.int (nI j))) (st' := []) rfl rfl rfl rfl rfl rfl (args_v [.int (nI (off / 512 + m)), .int (nI f)] [] rfl rfl (Nat.le_of_ble_eq_true rfl) rfl hm1 (Nat.le_of_ble_eq_true rfl)) hpc ?_
      refine RQ.blk 2 (pc' := 32) (lv' := [(5, .int (nI j)), (4, .int (nI (off / 512 + m))), (0, .ref 196), (1, .int (nI f)), (2, .int (nI off)), (3, .int (nI n))]) (st' := [.int (nI j)]) (H' := _) (kc' := 0) (ks' := 0) rfl ?_
      refine RQ.brT rfl rfl rfl (cT_ge j 0) ?_
      refine RQ.pick (a := [(5, .int (nI j)), (0, .ref 196), (1, .int (nI f)), (2, .int (nI off)), (3, .int (nI n)), (4, .int (nI (off / 512 + m)))]) [0, 2, 3, 4, 5, 1] [5, 4, 0, 1, 2, 3] rfl rfl (by decide) ?_
      refine rq_laym hm1 hP1 ht1 hb r1 r2 ho hn hn2 (by omega) (by omega) o3 (by rw [← hle]; exact r4) ?_
      intro H4 e4 hP4 f4
      rw [← hle] at e4 hP4
      refine RQ.blk 1 (pc' := 197) (lv' := [(4, .int (nI (off / 512 + m) + 1)), (7, .int (nI (layK (off + n) (off / 512 + m)))), (0, .ref 196), (1, .int (nI f)), (2, .int (nI off)), (3, .int (nI n)), (5, .int (nI j)), (6, .int (nI (layK (off + n) (off / 512 + m))))]) (st' := []) (H' := _) (kc' := 0) (ks' := 0) rfl ?_
      rw [show (nI (off / 512 + m) + 1 : Int32) = nI ((off / 512 + m) + 1) from nI_add (off / 512 + m) 1]
      refine RQ.blk 1 (pc' := 7) (lv' := [(4, .int (nI ((off / 512 + m) + 1))), (7, .int (nI (layK (off + n) (off / 512 + m)))), (0, .ref 196), (1, .int (nI f)), (2, .int (nI off)), (3, .int (nI n)), (5, .int (nI j)), (6, .int (nI (layK (off + n) (off / 512 + m))))]) (st' := []) (H' := _) (kc' := 0) (ks' := 0) rfl ?_
      refine RQ.pick (a := [(4, .int (nI ((off / 512 + m) + 1))), (0, .ref 196), (1, .int (nI f)), (2, .int (nI off)), (3, .int (nI n))]) [0, 2, 3, 4, 5] [4, 7, 0, 1, 2, 3, 5, 6] rfl rfl (by decide) ?_
      exact ih (m + 1) H4 ⟨by omega, e4, hP4, fun a ha => (f4 a ha).trans (f1 a ha)⟩ (by omega)
  ·
    refine RQ.blk 4 (pc' := 12) (lv' := [(4, .int (nI (off / 512 + m))), (0, .ref 196), (1, .int (nI f)), (2, .int (nI off)), (3, .int (nI n))]) (st' := [.int (nI off + nI n), .int (nI (off / 512 + m))]) (H' := _) (kc' := 0) (ks' := 0) rfl ?_
    rw [show (nI off + nI n : Int32) = nI (off + n) from nI_add off n]
    refine RQ.blk 2 (pc' := 14) (lv' := [(4, .int (nI (off / 512 + m))), (0, .ref 196), (1, .int (nI f)), (2, .int (nI off)), (3, .int (nI n))]) (st' := [.int (nI (off + n) - 1), .int (nI (off / 512 + m))]) (H' := _) (kc' := 0) (ks' := 0) rfl ?_
    rw [show (nI (off + n) - 1 : Int32) = nI ((off + n) - 1) from pk_sub (a := (off + n)) (b := 1) (by omega)]
    refine RQ.blk 2 (pc' := 18) (lv' := [(4, .int (nI (off / 512 + m))), (0, .ref 196), (1, .int (nI f)), (2, .int (nI off)), (3, .int (nI n))]) (st' := [.int (nI ((off + n) - 1) / 512), .int (nI (off / 512 + m))]) (H' := _) (kc' := 0) (ks' := 0) rfl ?_
    rw [show (nI ((off + n) - 1) / 512 : Int32) = nI (((off + n) - 1) / 512) from pk_div (a := ((off + n) - 1)) (d := 512) (by omega) (by omega) (by omega)]
    refine RQ.brT rfl rfl rfl (cT_gt (off / 512 + m) ((off + n - 1) / 512)) ?_
    rw [show m = ((off + n - 1) / 512 + 1 - off / 512) by omega] at hm1 hP1
    exact RQ.done (c := 0) (s := 0) rfl rfl rfl rfl ⟨_, rfl, hm1, hP1, f1⟩
