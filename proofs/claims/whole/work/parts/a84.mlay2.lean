/-! ===== a write is laid into the pieces, the whole; reference; written by wip/gen/mlay2.py ===== -/
theorem layN_ok {tb : Nat → Int8} {f off e : Nat} {ps : List aPc} (hok : ∀ x ∈ ps, PcOk x) (hf : f ≤ 200) : ∀ (m : Nat), off / 512 + m ≤ 33 → ∀ x ∈ layN tb f off e ps m, PcOk x
  | 0, _ => hok
  | m + 1, hm => layE_ok (layN_ok hok hf m (by omega)) hf (by omega) (by rw [bsI_len]; unfold layK; omega)
theorem rq_laym {sc : Nat × (Nat → Int32)} {d : Nat} {H : aH} {fa li dn cw cl tp rs pr ve us : Int32} {ba bo : Nat} {ps : List aPc} {f off n i p : Nat} {old : List Int8} {tb : Nat → Int8} {Q : _ → Prop} (hm : H[195]? = some (kO 12 (mfs fa li dn cw cl tp rs pr ve us (nI ps.length) (nI (plen ps)) ba bo))) (h : PcsIs H ps) (ht : H[196]? = some (kB 2000 tb)) (hp : ps[p]? = some (f, i, old)) (hpi : ps.length ≤ 1300) (hhu : plen ps ≤ 40000) (ho : off + n ≤ 16384) (hn : 1 ≤ n) (hn2 : n ≤ 2000) (hi1 : off / 512 ≤ i) (hi2 : i ≤ (off + n - 1) / 512) (hold : old.length ≤ 512) (hr : plen (ps.set p (f, i, ovB old (off - 512 * i) (bsI tb (512 * i - off) (layK (off + n) i - (off - 512 * i))))) ≤ 40000) (K : ∀ H', H'[195]? = some (kO 12 (mfs fa li dn cw cl tp rs pr ve us (nI (ps.set p (f, i, ovB old (off - 512 * i) (bsI tb (512 * i - off) (layK (off + n) i - (off - 512 * i))))).length) (nI (plen (ps.set p (f, i, ovB old (off - 512 * i) (bsI tb (512 * i - off) (layK (off + n) i - (off - 512 * i))))))) ba bo)) → PcsIs H' (ps.set p (f, i, ovB old (off - 512 * i) (bsI tb (512 * i - off) (layK (off + n) i - (off - 512 * i))))) → (∀ a, ¬ (a = 195 ∨ (218 ≤ a ∧ a < 223)) → H'[a]? = H[a]?) → RQ sc (d + 1) mr_325 194 [(7, .int (nI (layK (off + n) i))), (0, .ref 196), (1, .int (nI f)), (2, .int (nI off)), (3, .int (nI n)), (4, .int (nI i)), (5, .int (nI p)), (6, .int (nI (layK (off + n) i)))] [] H' 0 0 Q) : RQ sc (d + 1) mr_325 87 [(5, .int (nI p)), (0, .ref 196), (1, .int (nI f)), (2, .int (nI off)), (3, .int (nI n)), (4, .int (nI i))] [] H 0 0 Q := by
  obtain ⟨pf, px, pz, pa, hd, hA, hE, hD⟩ := id h
  obtain ⟨e1, e2, e3, e4, e5⟩ := hE _ _ hp
  dsimp only at e3
  have hpl := get_lt hp
  have hk : layK (off + n) i = min 512 (off + n - 512 * i) := rfl
  generalize layK (off + n) i = k at hk hr K
  have hps := plen_set (y := (f, i, ovB old (off - 512 * i) (bsI tb (512 * i - off) (k - (off - 512 * i))))) hp
  dsimp only at hps
  rw [ovB_len, bsI_len] at hps
  have hlen2 : (ps.set p (f, i, ovB old (off - 512 * i) (bsI tb (512 * i - off) (k - (off - 512 * i))))).length = ps.length := List.length_set
  refine RQ.blk 5 (pc' := 94) (lv' := [(5, .int (nI p)), (0, .ref 196), (1, .int (nI f)), (2, .int (nI off)), (3, .int (nI n)), (4, .int (nI i))]) (st' := [.int (nI off + nI n), .int 512, .ref 196]) (H' := _) (kc' := 0) (ks' := 0) rfl ?_
  rw [show (nI off + nI n : Int32) = nI (off + n) from nI_add off n]
  refine RQ.blk 3 (pc' := 100) (lv' := [(5, .int (nI p)), (0, .ref 196), (1, .int (nI f)), (2, .int (nI off)), (3, .int (nI n)), (4, .int (nI i))]) (st' := [.int (512 * nI i), .int (nI (off + n)), .int 512, .ref 196]) (H' := _) (kc' := 0) (ks' := 0) rfl ?_
  rw [show (512 * nI i : Int32) = nI (512 * i) from pk_mul 512 i]
  refine RQ.blk 1 (pc' := 101) (lv' := [(5, .int (nI p)), (0, .ref 196), (1, .int (nI f)), (2, .int (nI off)), (3, .int (nI n)), (4, .int (nI i))]) (st' := [.int (nI (off + n) - nI (512 * i)), .int 512, .ref 196]) (H' := _) (kc' := 0) (ks' := 0) rfl ?_
  rw [show (nI (off + n) - nI (512 * i) : Int32) = nI ((off + n) - (512 * i)) from pk_sub (a := (off + n)) (b := (512 * i)) (by omega)]
  refine RQ.call (v := some (.int (nI (min 512 (off + n - 512 * i))))) (st' := []) rfl rfl rfl rfl rfl rfl (args_v [.int (nI ((off + n) - (512 * i))), .int 512] [] rfl rfl (Nat.le_of_ble_eq_true rfl) rfl hm (Nat.le_of_ble_eq_true rfl)) (rc_mleast (a := 512) (b := off + n - 512 * i) (by omega) (by omega)) ?_
  rw [← hk]
  refine RQ.blk 3 (pc' := 109) (lv' := [(6, .int (nI k)), (5, .int (nI p)), (0, .ref 196), (1, .int (nI f)), (2, .int (nI off)), (3, .int (nI n)), (4, .int (nI i))]) (st' := [.ref 196, .int (nI k)]) (H' := _) (kc' := 0) (ks' := 0) rfl ?_
  refine RQ.get (ci := 12) rfl hm rfl rfl ?_
  refine RQ.blk 1 (pc' := 114) (lv' := [(6, .int (nI k)), (5, .int (nI p)), (0, .ref 196), (1, .int (nI f)), (2, .int (nI off)), (3, .int (nI n)), (4, .int (nI i))]) (st' := [.int (nI p), .ref 221, .int (nI k)]) (H' := _) (kc' := 0) (ks' := 0) rfl ?_
  refine RQ.ialdN (j := p) rfl hA.2.2.1 (by omega) (by decide) ?_
  rw [e3]
  by_cases kz : old.length < k
  · refine RQ.brF rfl rfl rfl (cF_le k old.length) ?_
    refine RQ.blk 3 (pc' := 123) (lv' := [(6, .int (nI k)), (5, .int (nI p)), (0, .ref 196), (1, .int (nI f)), (2, .int (nI off)), (3, .int (nI n)), (4, .int (nI i))]) (st' := [.int (nI k), .int (nI p), .ref 196]) (H' := _) (kc' := 0) (ks' := 0) rfl ?_
    have hps2 := plen_set (y := (f, i, fitB old k)) hp
    dsimp only at hps2
    rw [fitB_len] at hps2
    change plen (keepP ps p k (f, i, old)) + _ = _ at hps2
    have hkl : (keepP ps p k (f, i, old)).length = ps.length := List.length_set
    refine RQ.callN (st' := []) rfl rfl rfl rfl rfl rfl (args_v [.int (nI k), .int (nI p)] [] rfl rfl (Nat.le_of_ble_eq_true rfl) rfl hm (Nat.le_of_ble_eq_true rfl)) (rn_keepL (d := d) (n := k) hm h hp (by omega) (by omega) (by omega) (by omega)) (fun H3 hx3 => ?_)
    obtain ⟨hm3, hP3, f3⟩ := hx3
    refine RQ.blk 4 (pc' := 133) (lv' := [(6, .int (nI k)), (5, .int (nI p)), (0, .ref 196), (1, .int (nI f)), (2, .int (nI off)), (3, .int (nI n)), (4, .int (nI i))]) (st' := [.int (512 * nI i), .int (nI off)]) (H' := _) (kc' := 0) (ks' := 0) rfl ?_
    rw [show (512 * nI i : Int32) = nI (512 * i) from pk_mul 512 i]
    by_cases ko : off ≤ 512 * i
    · refine RQ.brT rfl rfl rfl (cT_le off (512 * i)) ?_
      refine RQ.blk 2 (pc' := 150) (lv' := [(7, .int 0), (6, .int (nI k)), (5, .int (nI p)), (0, .ref 196), (1, .int (nI f)), (2, .int (nI off)), (3, .int (nI n)), (4, .int (nI i))]) (st' := []) (H' := _) (kc' := 0) (ks' := 0) rfl ?_
      refine RQ.pick (a := [(7, .int 0), (0, .ref 196), (1, .int (nI f)), (2, .int (nI off)), (3, .int (nI n)), (4, .int (nI i)), (5, .int (nI p)), (6, .int (nI k))]) [0, 3, 4, 5, 6, 7, 2, 1] [7, 6, 5, 0, 1, 2, 3, 4] rfl rfl (by decide) ?_
      have hlo : off - 512 * i = 0 := by omega
      rw [hlo] at K hps hr hlen2
      have hS : (512 * i + 0 - off) = 512 * i - off := by omega
      refine rq_layf (lo := 0) (base := fitB old k) hm3 hP3 (by rw [f3 196 (by decide)]; exact ht) (by unfold keepP; rw [List.getElem?_set_self hpl]) (by omega) (by omega) (by omega) (by rw [fitB_len]; omega) (by omega) (by omega) (by omega) (by omega) ?_
      intro H4 e4 hP4 f4
      rw [hS, ovB_fit (by rw [bsI_len]; omega) (by omega)] at hP4
      have hse : (keepP ps p k (f, i, old)).set p (f, i, ovB old 0 (bsI tb (512 * i - off) (k - 0))) = (ps.set p (f, i, ovB old 0 (bsI tb (512 * i - off) (k - 0)))) := by unfold keepP; rw [List.set_set]
      rw [hse] at hP4
      refine K H4 ?_ hP4 (fun a ha => (f4 a (by omega)).trans (f3 a (by omega)))
      rw [e4, hm3, hkl, hlen2, show plen (ps.set p (f, i, ovB old 0 (bsI tb (512 * i - off) (k - 0)))) = plen (keepP ps p k (f, i, old)) by omega]
    · refine RQ.brF rfl rfl rfl (cF_le off (512 * i)) ?_
      refine RQ.blk 4 (pc' := 143) (lv' := [(6, .int (nI k)), (5, .int (nI p)), (0, .ref 196), (1, .int (nI f)), (2, .int (nI off)), (3, .int (nI n)), (4, .int (nI i))]) (st' := [.int (512 * nI i), .int (nI off)]) (H' := _) (kc' := 0) (ks' := 0) rfl ?_
      rw [show (512 * nI i : Int32) = nI (512 * i) from pk_mul 512 i]
      refine RQ.blk 1 (pc' := 144) (lv' := [(6, .int (nI k)), (5, .int (nI p)), (0, .ref 196), (1, .int (nI f)), (2, .int (nI off)), (3, .int (nI n)), (4, .int (nI i))]) (st' := [.int (nI off - nI (512 * i))]) (H' := _) (kc' := 0) (ks' := 0) rfl ?_
      rw [show (nI off - nI (512 * i) : Int32) = nI (off - (512 * i)) from pk_sub (a := off) (b := (512 * i)) (by omega)]
      refine RQ.blk 2 (pc' := 150) (lv' := [(7, .int (nI (off - (512 * i)))), (6, .int (nI k)), (5, .int (nI p)), (0, .ref 196), (1, .int (nI f)), (2, .int (nI off)), (3, .int (nI n)), (4, .int (nI i))]) (st' := []) (H' := _) (kc' := 0) (ks' := 0) rfl ?_
      refine RQ.pick (a := [(7, .int (nI (off - (512 * i)))), (0, .ref 196), (1, .int (nI f)), (2, .int (nI off)), (3, .int (nI n)), (4, .int (nI i)), (5, .int (nI p)), (6, .int (nI k))]) [0, 3, 4, 5, 6, 7, 2, 1] [7, 6, 5, 0, 1, 2, 3, 4] rfl rfl (by decide) ?_
      have hlo : 512 * i - off = 0 := by omega
      have hS : (512 * i + (off - 512 * i) - off) = 512 * i - off := by omega
      refine rq_layf (lo := (off - 512 * i)) (base := fitB old k) hm3 hP3 (by rw [f3 196 (by decide)]; exact ht) (by unfold keepP; rw [List.getElem?_set_self hpl]) (by omega) (by omega) (by omega) (by rw [fitB_len]; omega) (by omega) (by omega) (by omega) (by omega) ?_
      intro H4 e4 hP4 f4
      rw [hS, ovB_fit (by rw [bsI_len]; omega) (by omega)] at hP4
      have hse : (keepP ps p k (f, i, old)).set p (f, i, ovB old (off - 512 * i) (bsI tb (512 * i - off) (k - (off - 512 * i)))) = (ps.set p (f, i, ovB old (off - 512 * i) (bsI tb (512 * i - off) (k - (off - 512 * i))))) := by unfold keepP; rw [List.set_set]
      rw [hse] at hP4
      refine K H4 ?_ hP4 (fun a ha => (f4 a (by omega)).trans (f3 a (by omega)))
      rw [e4, hm3, hkl, hlen2, show plen (ps.set p (f, i, ovB old (off - 512 * i) (bsI tb (512 * i - off) (k - (off - 512 * i))))) = plen (keepP ps p k (f, i, old)) by omega]
  · refine RQ.brT rfl rfl rfl (cT_le k old.length) ?_
    refine RQ.blk 4 (pc' := 133) (lv' := [(6, .int (nI k)), (5, .int (nI p)), (0, .ref 196), (1, .int (nI f)), (2, .int (nI off)), (3, .int (nI n)), (4, .int (nI i))]) (st' := [.int (512 * nI i), .int (nI off)]) (H' := _) (kc' := 0) (ks' := 0) rfl ?_
    rw [show (512 * nI i : Int32) = nI (512 * i) from pk_mul 512 i]
    by_cases ko : off ≤ 512 * i
    · refine RQ.brT rfl rfl rfl (cT_le off (512 * i)) ?_
      refine RQ.blk 2 (pc' := 150) (lv' := [(7, .int 0), (6, .int (nI k)), (5, .int (nI p)), (0, .ref 196), (1, .int (nI f)), (2, .int (nI off)), (3, .int (nI n)), (4, .int (nI i))]) (st' := []) (H' := _) (kc' := 0) (ks' := 0) rfl ?_
      refine RQ.pick (a := [(7, .int 0), (0, .ref 196), (1, .int (nI f)), (2, .int (nI off)), (3, .int (nI n)), (4, .int (nI i)), (5, .int (nI p)), (6, .int (nI k))]) [0, 3, 4, 5, 6, 7, 2, 1] [7, 6, 5, 0, 1, 2, 3, 4] rfl rfl (by decide) ?_
      have hlo : off - 512 * i = 0 := by omega
      rw [hlo] at K hps hr hlen2
      have hS : (512 * i + 0 - off) = 512 * i - off := by omega
      refine rq_layf (lo := 0) (base := old) hm h ht hp hpi hhu (by omega) (by omega) (by omega) (by omega) (by omega) (by omega) ?_
      intro H4 e4 hP4 f4
      rw [hS] at hP4
      refine K H4 ?_ hP4 (fun a ha => f4 a (by omega))
      rw [e4, hm, hlen2, show plen (ps.set p (f, i, ovB old 0 (bsI tb (512 * i - off) (k - 0)))) = plen ps by omega]
    · refine RQ.brF rfl rfl rfl (cF_le off (512 * i)) ?_
      refine RQ.blk 4 (pc' := 143) (lv' := [(6, .int (nI k)), (5, .int (nI p)), (0, .ref 196), (1, .int (nI f)), (2, .int (nI off)), (3, .int (nI n)), (4, .int (nI i))]) (st' := [.int (512 * nI i), .int (nI off)]) (H' := _) (kc' := 0) (ks' := 0) rfl ?_
      rw [show (512 * nI i : Int32) = nI (512 * i) from pk_mul 512 i]
      refine RQ.blk 1 (pc' := 144) (lv' := [(6, .int (nI k)), (5, .int (nI p)), (0, .ref 196), (1, .int (nI f)), (2, .int (nI off)), (3, .int (nI n)), (4, .int (nI i))]) (st' := [.int (nI off - nI (512 * i))]) (H' := _) (kc' := 0) (ks' := 0) rfl ?_
      rw [show (nI off - nI (512 * i) : Int32) = nI (off - (512 * i)) from pk_sub (a := off) (b := (512 * i)) (by omega)]
      refine RQ.blk 2 (pc' := 150) (lv' := [(7, .int (nI (off - (512 * i)))), (6, .int (nI k)), (5, .int (nI p)), (0, .ref 196), (1, .int (nI f)), (2, .int (nI off)), (3, .int (nI n)), (4, .int (nI i))]) (st' := []) (H' := _) (kc' := 0) (ks' := 0) rfl ?_
      refine RQ.pick (a := [(7, .int (nI (off - (512 * i)))), (0, .ref 196), (1, .int (nI f)), (2, .int (nI off)), (3, .int (nI n)), (4, .int (nI i)), (5, .int (nI p)), (6, .int (nI k))]) [0, 3, 4, 5, 6, 7, 2, 1] [7, 6, 5, 0, 1, 2, 3, 4] rfl rfl (by decide) ?_
      have hlo : 512 * i - off = 0 := by omega
      have hS : (512 * i + (off - 512 * i) - off) = 512 * i - off := by omega
      refine rq_layf (lo := (off - 512 * i)) (base := old) hm h ht hp hpi hhu (by omega) (by omega) (by omega) (by omega) (by omega) (by omega) ?_
      intro H4 e4 hP4 f4
      rw [hS] at hP4
      refine K H4 ?_ hP4 (fun a ha => f4 a (by omega))
      rw [e4, hm, hlen2, show plen (ps.set p (f, i, ovB old (off - 512 * i) (bsI tb (512 * i - off) (k - (off - 512 * i))))) = plen ps by omega]
