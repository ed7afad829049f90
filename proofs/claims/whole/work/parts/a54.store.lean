/-! ===== a change goes to the log; class; written by wip/gen/store.py ===== -/
set_option maxRecDepth 20000 in
theorem re_store {sc : Nat × (Nat → Int32)} {d mp hv b u : Nat} {H : aH} {B bb S0 P P1 : Nat} {rs : List aR} {lgs : List Nat} {fr ff : Nat} {wr : Bool} {tp : Nat} {us : Nat → Bool} {cf : Nat → Int8} {gs : List aSg} {D : Nat → Int8} {S K : Nat → Nat} {E : Nat → Option Nat} {ws : List aE} (hI : LgI H B bb S0 rs (szW ws) lgs fr ff wr tp us cf P1 gs) (hG : H[190]? = some (kO 4 (logF mp hv))) (hB : B ≤ 128) (hB1 : 3 ≤ B) (hbb : bb % 2 ^ 32 < 2 ^ 31) (hP : P + 1 < 2 ^ 31) (hb : BatchAt H b D S K E ws.length u) (hbk : BatchOk S K E ws.length u) (hL : LayE D 0 S K E ws) (h5 : ∃ Q : Nat → Nat, H[b + 5]? = some (kI 40 (fun j => nI (Q j)))) (hb71 : b + 6 ≤ 71) (hK : ∀ e ∈ ws, e.1.length ≤ 41 ∧ eLen e + 9 ≤ 2048) : RE sc (d + 5) mr_151 [.ref 191, .ref (b + 1), .int (nI P)] H (fun H' => ∃ lgs1 l1 fr1 ff1 wr1 tp1 us1 c1 P2 gs1, ∃ Q : Nat → Nat, ∃ a, wr1 = true ∧ StI B bb S0 P P1 rs lgs wr tp cf gs (opnN wr tp (szW ws)) ([]) (adB (P + 1) Q 0 ws ++ [(a, doneR ws.length (P + 1))]) H' lgs1 l1 fr1 ff1 wr1 tp1 us1 c1 P2 gs1 ∧ H'[b + 5]? = some (kI 40 (fun j => nI (Q j))) ∧ (∀ j, j < ws.length → Q j < 2 ^ 30) ∧ ∀ a, ¬ (71 ≤ a ∧ a < 74) → ¬ (83 ≤ a ∧ a < 88) → a ≠ 191 → a ≠ b + 5 → H'[a]? = H[a]?) (fun H' => ∃ (Q : Nat → Nat) (i : Nat), i ≤ ws.length ∧ StB B bb S0 P P1 rs lgs wr tp cf gs (opnN wr tp (szW ws)) (adB (P + 1) Q 0 (ws.take i)) H' ∧ (∃ Q' : Nat → Nat, H'[b + 5]? = some (kI 40 (fun j => nI (Q' j)))) ∧ ∀ a, ¬ (71 ≤ a ∧ a < 74) → ¬ (83 ≤ a ∧ a < 88) → a ≠ 191 → a ≠ b + 5 → H'[a]? = H[a]?) := by
  have hn40 := hbk.1
  have hu41 := hbk.2.1
  obtain ⟨Q0, h5⟩ := h5
  refine RE.of ?_
  refine RQ.blk 2 (pc' := 2) (lv' := [(3, .int 0), (0, .ref 191), (1, .ref (b + 1)), (2, .int (nI P))]) (st' := []) (H' := _) (kc' := 0) (ks' := 0) rfl ?_
  refine RQ.while (S := Nat) (pc := 2) (fun i H' => ∃ lgs1 l1 fr1 ff1 wr1 tp1 us1 c1 P2 gs1, ∃ Q : Nat → Nat, i ≤ ws.length ∧ StI B bb S0 P P1 rs lgs wr tp cf gs (opnN wr tp (szW ws)) (szW (ws.drop i)) (adB (P + 1) Q 0 (ws.take i)) H' lgs1 l1 fr1 ff1 wr1 tp1 us1 c1 P2 gs1 ∧ H'[b + 5]? = some (kI 40 (fun j => nI (Q j))) ∧ (∀ j, j < i → Q j < 2 ^ 30) ∧ ∀ a, ¬ (71 ≤ a ∧ a < 74) → ¬ (83 ≤ a ∧ a < 88) → a ≠ 191 → a ≠ b + 5 → H'[a]? = H[a]?) (fun i => [(3, .int (nI i)), (0, .ref 191), (1, .ref (b + 1)), (2, .int (nI P))]) (fun i => ws.length - i) ?_ 0 H ⟨lgs, [], fr, ff, wr, tp, us, cf, P1, gs, Q0, Nat.zero_le _, ⟨by rw [List.drop_zero]; exact hI, (List.append_nil _).symm, Nat.zero_add _, Or.inl rfl, (List.append_nil _).symm, fun q hq => ⟨hq, rfl⟩⟩, h5, fun j hj => absurd hj (Nat.not_lt_zero _), fun a _ _ _ _ => rfl⟩
  rintro i H1 ⟨lgs1, l1, fr1, ff1, wr1, tp1, us1, c1, P2, gs1, Q1, hi, hS, g5, hQ, f1⟩ ih
  obtain ⟨⟨ms1, mt1, sq1, tu1, lg1, hY, hlg, hlc⟩, htp1, pg1, hp1⟩ := hS.lay
  by_cases hil : i < ws.length
  ·
    obtain ⟨e, he⟩ := lt_get hil
    obtain ⟨hk41, hsz⟩ := hK e (List.mem_of_getElem? he)
    have hSK := hbk.2.2 i hil
    obtain ⟨e1, e2, e3, e4⟩ := hL i e he
    rw [Nat.zero_add] at e1 e4
    have hel : eLen e = K i + (E i).getD 0 := by unfold eLen; rw [e2, e3]; cases e.2 <;> rfl
    rw [szW_drop he] at hS
    have hgd : (e.2.getD []).length = (E i).getD 0 := by rw [e3]; cases e.2 <;> rfl
    refine RQ.blk 2 (pc' := 4) (lv' := [(3, .int (nI i)), (0, .ref 191), (1, .ref (b + 1)), (2, .int (nI P))]) (st' := [.ref (b + 1), .int (nI i)]) (H' := _) (kc' := 0) (ks' := 0) rfl ?_
    refine RQ.get (ci := 0) rfl ((f1 b (by omega) (by omega) (by omega) (by omega)).trans hb.1) rfl rfl ?_
    refine RQ.brF rfl rfl rfl (cF_ge i ws.length) ?_
    refine RQ.blk 1 (pc' := 11) (lv' := [(3, .int (nI i)), (0, .ref 191), (1, .ref (b + 1)), (2, .int (nI P))]) (st' := [.ref (b + 1)]) (H' := _) (kc' := 0) (ks' := 0) rfl ?_
    refine RQ.get (ci := 0) rfl ((f1 b (by omega) (by omega) (by omega) (by omega)).trans hb.1) rfl rfl ?_
    refine RQ.blk 1 (pc' := 15) (lv' := [(3, .int (nI i)), (0, .ref 191), (1, .ref (b + 1)), (2, .int (nI P))]) (st' := [.int (nI i), .ref ((b + 3) + 1)]) (H' := _) (kc' := 0) (ks' := 0) rfl ?_
    refine RQ.ialdN (j := i) rfl ((f1 (b + 3) (by omega) (by omega) (by omega) (by omega)).trans hb.2.2.2.1) (by omega) (by decide) ?_
    refine RQ.blk 1 (pc' := 17) (lv' := [(3, .int (nI i)), (0, .ref 191), (1, .ref (b + 1)), (2, .int (nI P))]) (st' := [.ref (b + 1), .int (nI (K i))]) (H' := _) (kc' := 0) (ks' := 0) rfl ?_
    refine RQ.get (ci := 0) rfl ((f1 b (by omega) (by omega) (by omega) (by omega)).trans hb.1) rfl rfl ?_
    refine RQ.blk 1 (pc' := 21) (lv' := [(3, .int (nI i)), (0, .ref 191), (1, .ref (b + 1)), (2, .int (nI P))]) (st' := [.int (nI i), .ref ((b + 4) + 1), .int (nI (K i))]) (H' := _) (kc' := 0) (ks' := 0) rfl ?_
    refine RQ.ialdN (j := i) rfl ((f1 (b + 4) (by omega) (by omega) (by omega) (by omega)).trans hb.2.2.2.2) (by omega) (by decide) ?_
    refine RQ.blk 2 (pc' := 26) (lv' := [(3, .int (nI i)), (0, .ref 191), (1, .ref (b + 1)), (2, .int (nI P))]) (st' := [.int (if lI (E i) < 0 then 0 else lI (E i)), .int (nI (K i))]) (H' := _) (kc' := 0) (ks' := 0) rfl ?_
    rw [maxL (l := E i) (by omega)]
    refine RQ.blk 1 (pc' := 27) (lv' := [(3, .int (nI i)), (0, .ref 191), (1, .ref (b + 1)), (2, .int (nI P))]) (st' := [.int (nI (K i) + nI ((E i).getD 0))]) (H' := _) (kc' := 0) (ks' := 0) rfl ?_
    rw [show (nI (K i) + nI ((E i).getD 0) : Int32) = nI (K i + ((E i).getD 0)) from nI_add (K i) ((E i).getD 0)]
    refine RQ.blk 2 (pc' := 30) (lv' := [(4, .int (nI (K i + ((E i).getD 0)))), (3, .int (nI i)), (0, .ref 191), (1, .ref (b + 1)), (2, .int (nI P))]) (st' := [.ref 191]) (H' := _) (kc' := 0) (ks' := 0) rfl ?_
    refine RQ.get (ci := 4) rfl ((f1 190 (by decide) (by decide) (by decide) (by omega)).trans hG) rfl rfl ?_
    refine RQ.blk 3 (pc' := 38) (lv' := [(4, .int (nI (K i + ((E i).getD 0)))), (3, .int (nI i)), (0, .ref 191), (1, .ref (b + 1)), (2, .int (nI P))]) (st' := [.int (nI (K i + ((E i).getD 0)) + 9), .ref 84]) (H' := _) (kc' := 0) (ks' := 0) rfl ?_
    rw [show (nI (K i + ((E i).getD 0)) + 9 : Int32) = nI (K i + ((E i).getD 0) + 9) from nI_add (K i + ((E i).getD 0)) 9]
    refine RQ.call (v := some (.int (if wr1 = true ∧ K i + (E i).getD 0 + 9 ≤ 2048 - tp1 then 1 else 0))) (st' := []) rfl rfl rfl rfl rfl rfl (args_v [.int (nI (K i + ((E i).getD 0) + 9))] [] rfl rfl (Nat.le_of_ble_eq_true rfl) rfl hY.1 (Nat.le_of_ble_eq_true rfl)) (rc_fits (n := K i + (E i).getD 0 + 9) hY hB htp1 (by omega)) ?_
    by_cases hft : wr1 = true ∧ K i + (E i).getD 0 + 9 ≤ 2048 - tp1
    · rw [if_pos hft]
      refine RQ.brT rfl rfl rfl (by decide) ?_
      refine RQ.blk 1 (pc' := 57) (lv' := [(4, .int (nI (K i + ((E i).getD 0)))), (3, .int (nI i)), (0, .ref 191), (1, .ref (b + 1)), (2, .int (nI P))]) (st' := [.ref (b + 1)]) (H' := _) (kc' := 0) (ks' := 0) rfl ?_
      refine RQ.get (ci := 0) rfl ((f1 b (by omega) (by omega) (by omega) (by omega)).trans hb.1) rfl rfl ?_
      refine RQ.blk 1 (pc' := 61) (lv' := [(4, .int (nI (K i + ((E i).getD 0)))), (3, .int (nI i)), (0, .ref 191), (1, .ref (b + 1)), (2, .int (nI P))]) (st' := [.int (nI i), .ref ((b + 4) + 1)]) (H' := _) (kc' := 0) (ks' := 0) rfl ?_
      refine RQ.ialdN (j := i) rfl ((f1 (b + 4) (by omega) (by omega) (by omega) (by omega)).trans hb.2.2.2.2) (by omega) (by decide) ?_
      by_cases hE : E i = none
      · refine RQ.brF rfl rfl rfl (decide_eq_false (Int32.not_le.mpr ((lI_neg (by omega)).mpr hE))) ?_
        refine RQ.blk 6 (pc' := 76) (lv' := [(5, .int 2), (4, .int (nI (K i + ((E i).getD 0)))), (3, .int (nI i)), (0, .ref 191), (1, .ref (b + 1)), (2, .int (nI P))]) (st' := [.ref (b + 1), .int 2, .ref 191]) (H' := _) (kc' := 0) (ks' := 0) rfl ?_
        refine RQ.get (ci := 0) rfl ((f1 b (by omega) (by omega) (by omega) (by omega)).trans hb.1) rfl rfl ?_
        refine RQ.blk 1 (pc' := 80) (lv' := [(5, .int 2), (4, .int (nI (K i + ((E i).getD 0)))), (3, .int (nI i)), (0, .ref 191), (1, .ref (b + 1)), (2, .int (nI P))]) (st' := [.int (nI i), .ref ((b + 3) + 1), .int 2, .ref 191]) (H' := _) (kc' := 0) (ks' := 0) rfl ?_
        refine RQ.ialdN (j := i) rfl ((f1 (b + 3) (by omega) (by omega) (by omega) (by omega)).trans hb.2.2.2.1) (by omega) (by decide) ?_
        refine RQ.blk 1 (pc' := 82) (lv' := [(5, .int 2), (4, .int (nI (K i + ((E i).getD 0)))), (3, .int (nI i)), (0, .ref 191), (1, .ref (b + 1)), (2, .int (nI P))]) (st' := [.ref (b + 1), .int (nI (K i)), .int 2, .ref 191]) (H' := _) (kc' := 0) (ks' := 0) rfl ?_
        refine RQ.get (ci := 0) rfl ((f1 b (by omega) (by omega) (by omega) (by omega)).trans hb.1) rfl rfl ?_
        refine RQ.blk 1 (pc' := 86) (lv' := [(5, .int 2), (4, .int (nI (K i + ((E i).getD 0)))), (3, .int (nI i)), (0, .ref 191), (1, .ref (b + 1)), (2, .int (nI P))]) (st' := [.int (nI i), .ref ((b + 4) + 1), .int (nI (K i)), .int 2, .ref 191]) (H' := _) (kc' := 0) (ks' := 0) rfl ?_
        refine RQ.ialdN (j := i) rfl ((f1 (b + 4) (by omega) (by omega) (by omega) (by omega)).trans hb.2.2.2.2) (by omega) (by decide) ?_
        refine RQ.blk 2 (pc' := 91) (lv' := [(5, .int 2), (4, .int (nI (K i + ((E i).getD 0)))), (3, .int (nI i)), (0, .ref 191), (1, .ref (b + 1)), (2, .int (nI P))]) (st' := [.int (if lI (E i) < 0 then 0 else lI (E i)), .int (nI (K i)), .int 2, .ref 191]) (H' := _) (kc' := 0) (ks' := 0) rfl ?_
        rw [maxL (l := E i) (by omega)]
        refine RQ.blk 3 (pc' := 94) (lv' := [(5, .int 2), (4, .int (nI (K i + ((E i).getD 0)))), (3, .int (nI i)), (0, .ref 191), (1, .ref (b + 1)), (2, .int (nI P))]) (st' := [.int (nI P + 1), .int (nI ((E i).getD 0)), .int (nI (K i)), .int 2, .ref 191]) (H' := _) (kc' := 0) (ks' := 0) rfl ?_
        rw [show (nI P + 1 : Int32) = nI (P + 1) from nI_add P 1]
        refine RQ.call (v := none) (st' := []) rfl rfl rfl rfl rfl rfl (args_v [.int (nI (P + 1)), .int (nI ((E i).getD 0)), .int (nI (K i)), .int 2] [] rfl rfl (Nat.le_of_ble_eq_true rfl) rfl ((f1 190 (by decide) (by decide) (by decide) (by omega)).trans hG) (Nat.le_of_ble_eq_true rfl)) (rc_head (k := 2) (n := K i) (l := (E i).getD 0) (m := P + 1) (mp := mp) (hv := hv) ((f1 190 (by decide) (by decide) (by decide) (by omega)).trans hG) hp1) ?_
        refine RQ.blk 1 (pc' := 98) (lv' := [(5, .int 2), (4, .int (nI (K i + ((E i).getD 0)))), (3, .int (nI i)), (0, .ref 191), (1, .ref (b + 1)), (2, .int (nI P))]) (st' := [.ref (b + 1)]) (H' := _) (kc' := 0) (ks' := 0) rfl ?_
        refine RQ.get (ci := 0) rfl ((set_far (by omega)).trans ((f1 b (by omega) (by omega) (by omega) (by omega)).trans hb.1)) rfl rfl ?_
        refine RQ.blk 1 (pc' := 102) (lv' := [(5, .int 2), (4, .int (nI (K i + ((E i).getD 0)))), (3, .int (nI i)), (0, .ref 191), (1, .ref (b + 1)), (2, .int (nI P))]) (st' := [.ref (b + 1), .ref ((b + 1) + 1)]) (H' := _) (kc' := 0) (ks' := 0) rfl ?_
        refine RQ.get (ci := 0) rfl ((set_far (by omega)).trans ((f1 b (by omega) (by omega) (by omega) (by omega)).trans hb.1)) rfl rfl ?_
        refine RQ.blk 1 (pc' := 106) (lv' := [(5, .int 2), (4, .int (nI (K i + ((E i).getD 0)))), (3, .int (nI i)), (0, .ref 191), (1, .ref (b + 1)), (2, .int (nI P))]) (st' := [.int (nI i), .ref ((b + 2) + 1), .ref ((b + 1) + 1)]) (H' := _) (kc' := 0) (ks' := 0) rfl ?_
        refine RQ.ialdN (j := i) rfl ((set_far (by omega)).trans ((f1 (b + 2) (by omega) (by omega) (by omega) (by omega)).trans hb.2.2.1)) (by omega) (by decide) ?_
        refine RQ.blk 1 (pc' := 108) (lv' := [(5, .int 2), (4, .int (nI (K i + ((E i).getD 0)))), (3, .int (nI i)), (0, .ref 191), (1, .ref (b + 1)), (2, .int (nI P))]) (st' := [.ref 191, .int (nI (S i)), .ref ((b + 1) + 1)]) (H' := _) (kc' := 0) (ks' := 0) rfl ?_
        refine RQ.get (ci := 4) rfl ((set_far (by decide)).trans ((f1 190 (by decide) (by decide) (by decide) (by omega)).trans hG)) rfl rfl ?_
        refine RQ.blk 2 (pc' := 115) (lv' := [(5, .int 2), (4, .int (nI (K i + ((E i).getD 0)))), (3, .int (nI i)), (0, .ref 191), (1, .ref (b + 1)), (2, .int (nI P))]) (st' := [.int (nI (K i + ((E i).getD 0))), .int 8, .ref 192, .int (nI (S i)), .ref ((b + 1) + 1)]) (H' := _) (kc' := 0) (ks' := 0) rfl ?_
        refine RQ.call (v := none) (st' := []) rfl rfl rfl rfl rfl rfl rfl (rc_copy (a := b + 1) (b := 191) (na := 4100) (nb := 2048) (i := S i) (j := 8) (k := K i + (E i).getD 0) ((set_far (by omega)).trans ((f1 (b + 1) (by omega) (by omega) (by omega) (by omega)).trans hb.2.1)) (get_set hp1) (by decide) (by decide) (by omega) (by omega)) ?_
        rw [set_set]
        have hS3 := hS.page (cpy D (S i) (hdF pg1 2 (K i) ((E i).getD 0) (P + 1)) 8 (K i + (E i).getD 0))
        have f3 : ∀ a, ¬ (71 ≤ a ∧ a < 74) → ¬ (83 ≤ a ∧ a < 88) → a ≠ 191 → a ≠ b + 5 → (H1.set 191 (kB 2048 (cpy D (S i) (hdF pg1 2 (K i) ((E i).getD 0) (P + 1)) 8 (K i + (E i).getD 0))))[a]? = H[a]? := fun a a1 a2 a3 a4 => (set_far a3).trans (f1 a a1 a2 a3 a4)
        have g53 : (H1.set 191 (kB 2048 (cpy D (S i) (hdF pg1 2 (K i) ((E i).getD 0) (P + 1)) 8 (K i + (E i).getD 0))))[b + 5]? = _ := (set_far (by omega)).trans g5
        have hp3 : (H1.set 191 (kB 2048 (cpy D (S i) (hdF pg1 2 (K i) ((E i).getD 0) (P + 1)) 8 (K i + (E i).getD 0))))[191]? = some (kB 2048 (cpy D (S i) (hdF pg1 2 (K i) ((E i).getD 0) (P + 1)) 8 (K i + (E i).getD 0))) := get_set hp1
        show RQ _ _ _ _ _ _ (H1.set 191 (kB 2048 (cpy D (S i) (hdF pg1 2 (K i) ((E i).getD 0) (P + 1)) 8 (K i + (E i).getD 0)))) _ _ _
        generalize (H1.set 191 (kB 2048 (cpy D (S i) (hdF pg1 2 (K i) ((E i).getD 0) (P + 1)) 8 (K i + (E i).getD 0)))) = H3 at hS3 f3 g53 hp3 ⊢
        obtain ⟨⟨ms3, mt3, sq3, tu3, lg3, hY3, hlg3, hlc3⟩, htp3, -⟩ := hS3.lay
        have hrl : sl (numF (cpy D (S i) (hdF pg1 2 (K i) ((E i).getD 0) (P + 1)) 8 (K i + (E i).getD 0)) (eLen e + 9 - 1) 1 (nI 90) 1) 0 (eLen e + 9) = encL (recE (P + 1) e) := by
          have hrec : recE (P + 1) e = (2, e.1, (e.2.getD []).length, P + 1, e.2.getD []) := by
            unfold recE
            rw [e3] at hE
            cases hv2 : e.2 with
            | none => rfl
            | some l => rw [hv2] at hE; cases hE
          rw [hrec, e2, ← hgd, show e.1.length + (e.2.getD []).length = eLen e from rfl]
          exact rec_page (by omega) (by omega) (by omega) (by omega) rfl (by rw [e1]; exact e4)
        have hft3 : wr1 = true ∧ eLen e + 9 ≤ 2048 - tp1 := by rw [hel]; exact hft
        refine RQ.blk 1 (pc' := 119) (lv' := [(5, .int 2), (4, .int (nI (K i + ((E i).getD 0)))), (3, .int (nI i)), (0, .ref 191), (1, .ref (b + 1)), (2, .int (nI P))]) (st' := [.ref (b + 1)]) (H' := _) (kc' := 0) (ks' := 0) rfl ?_
        refine RQ.get (ci := 0) rfl ((f3 b (by omega) (by omega) (by omega) (by omega)).trans hb.1) rfl rfl ?_
        refine RQ.blk 2 (pc' := 124) (lv' := [(5, .int 2), (4, .int (nI (K i + ((E i).getD 0)))), (3, .int (nI i)), (0, .ref 191), (1, .ref (b + 1)), (2, .int (nI P))]) (st' := [.ref 191, .int (nI i), .ref ((b + 5) + 1)]) (H' := _) (kc' := 0) (ks' := 0) rfl ?_
        refine RQ.get (ci := 4) rfl ((f3 190 (by decide) (by decide) (by decide) (by omega)).trans hG) rfl rfl ?_
        have hlen1 : 1 ≤ lgs1.length := by
          have hw0 := hft3.1
          obtain ⟨gi, s, z1, z2, z3⟩ := hS3.1.2.2.2.1.2 hw0
          have hFc := hS3.1.2.2.2.1.1
          rw [z1] at hFc
          have := get_lt hFc.last.1
          omega
        refine RQ.call (v := some (.int (nI (lg3 (lgs1.length - 1) * 2048 + tp1)))) (st' := [.int (nI i), .ref ((b + 5) + 1)]) rfl rfl rfl rfl rfl rfl (args_v [] [.int (nI i), .ref ((b + 5) + 1)] rfl rfl (Nat.le_of_ble_eq_true rfl) rfl hY3.1 (Nat.le_of_ble_eq_true rfl)) (rc_point hY3 hB hlen1 hlc3) ?_
        refine RQ.iastN (j := i) rfl g53 (by omega) (by decide) ?_
        rw [up_nI]
        refine RQ.blk 4 (pc' := 137) (lv' := [(5, .int 2), (4, .int (nI (K i + ((E i).getD 0)))), (3, .int (nI i)), (0, .ref 191), (1, .ref (b + 1)), (2, .int (nI P))]) (st' := [.int (nI (K i + ((E i).getD 0)) + 9), .ref 191]) (H' := _) (kc' := 0) (ks' := 0) rfl ?_
        rw [show (nI (K i + ((E i).getD 0)) + 9 : Int32) = nI (K i + ((E i).getD 0) + 9) from nI_add (K i + ((E i).getD 0)) 9]
        have hS4 := hS3.far (H' := (H3.set (b + 5) (kI 40 (fun j => nI ((va_up Q1 i (lg3 (lgs1.length - 1) * 2048 + tp1)) j))))) (fun a ha => set_far (by omega))
        have f4 : ∀ a, ¬ (71 ≤ a ∧ a < 74) → ¬ (83 ≤ a ∧ a < 88) → a ≠ 191 → a ≠ b + 5 → (H3.set (b + 5) (kI 40 (fun j => nI ((va_up Q1 i (lg3 (lgs1.length - 1) * 2048 + tp1)) j))))[a]? = H[a]? := fun a a1 a2 a3 a4 => (set_far a4).trans (f3 a a1 a2 a3 a4)
        have g54 : (H3.set (b + 5) (kI 40 (fun j => nI ((va_up Q1 i (lg3 (lgs1.length - 1) * 2048 + tp1)) j))))[b + 5]? = _ := get_set g53
        have hp4 : (H3.set (b + 5) (kI 40 (fun j => nI ((va_up Q1 i (lg3 (lgs1.length - 1) * 2048 + tp1)) j))))[191]? = _ := (set_far (by omega)).trans hp3
        show RQ _ _ _ _ _ _ (H3.set (b + 5) (kI 40 (fun j => nI ((va_up Q1 i (lg3 (lgs1.length - 1) * 2048 + tp1)) j)))) _ _ _
        generalize (H3.set (b + 5) (kI 40 (fun j => nI ((va_up Q1 i (lg3 (lgs1.length - 1) * 2048 + tp1)) j)))) = H4 at hS4 f4 g54 hp4 ⊢
        have hG4 := (f4 190 (by decide) (by decide) (by decide) (by omega)).trans hG
        obtain ⟨bl, hbl, hbl2, hblB, hApp⟩ := re_appS (sc := sc) (d := d + 2) (mp := mp) (hv := hv) (r := recE (P + 1) e) hS4 hft3 hG4 hB hbb hp4 (recE_ok hk41 (by omega) hP) recE_len.symm hrl
        rw [hel] at hApp
        have hlb : lg3 (lgs1.length - 1) = bl := hlg3 _ _ hbl
        refine RQ.callT (st' := []) rfl rfl rfl rfl rfl rfl (args_v [.int (nI (K i + ((E i).getD 0) + 9))] [] rfl rfl (Nat.le_of_ble_eq_true rfl) rfl hG4 (Nat.le_of_ble_eq_true rfl)) hApp rfl (fun H5 hx5 => ?_) (fun H9 hbad => Or.inr (by obtain ⟨z1, z2⟩ := hbad; exact ⟨_, rfl, Q1, i, hi, z1, ⟨_, (z2 (b + 5) (by omega) (by omega)).trans g54⟩, fun a a1 a2 a3 a4 => (z2 a a1 a3).trans (f4 a a1 a2 a3 a4)⟩))
        obtain ⟨c5, gs5, hS5, z5⟩ := hx5
        have htk : (ws.take i).length = i := by rw [List.length_take]; omega
        rw [← hlb] at hS5
        have hxs : adB (P + 1) Q1 0 (ws.take i) ++ [((lg3 (lgs1.length - 1) * 2048 + tp1), recE (P + 1) e)] = adB (P + 1) (va_up Q1 i (lg3 (lgs1.length - 1) * 2048 + tp1)) 0 (ws.take (i + 1)) := by
          have hte : ws.take (i + 1) = ws.take i ++ [e] := by rw [List.take_add_one, he]; rfl
          rw [hte, adB_snoc, adB_congr (Q' := (va_up Q1 i (lg3 (lgs1.length - 1) * 2048 + tp1))) (Q := Q1) (ws.take i) 0 (fun j j1 j2 => up_ne (by rw [htk] at j2; omega)), Nat.zero_add, htk, up_at]
        rw [hxs] at hS5
        refine RQ.blk 1 (pc' := 143) (lv' := [(3, .int (nI i + 1)), (5, .int 2), (4, .int (nI (K i + ((E i).getD 0)))), (0, .ref 191), (1, .ref (b + 1)), (2, .int (nI P))]) (st' := []) (H' := _) (kc' := 0) (ks' := 0) rfl ?_
        rw [show (nI i + 1 : Int32) = nI (i + 1) from nI_add i 1]
        refine RQ.blk 1 (pc' := 2) (lv' := [(3, .int (nI (i + 1))), (5, .int 2), (4, .int (nI (K i + ((E i).getD 0)))), (0, .ref 191), (1, .ref (b + 1)), (2, .int (nI P))]) (st' := []) (H' := _) (kc' := 0) (ks' := 0) rfl ?_
        refine RQ.pick (a := [(3, .int (nI (i + 1))), (0, .ref 191), (1, .ref (b + 1)), (2, .int (nI P))]) [0, 3, 4, 5] [3, 5, 4, 0, 1, 2] rfl rfl (by decide) ?_
        refine ih (i + 1) H5 ⟨lgs1, l1, fr1, ff1, wr1, (tp1 + (K i + (E i).getD 0 + 9)), us1, c5, P2, gs5, (va_up Q1 i (lg3 (lgs1.length - 1) * 2048 + tp1)), by omega, hS5, (z5 (b + 5) (by omega) (by omega) (by omega)).trans g54, fun j hj => ?_, fun a a1 a2 a3 a4 => (z5 a a1 a3 (by omega)).trans (f4 a a1 a2 a3 a4)⟩ (by omega)
        by_cases hji : j = i
        · rw [hji, up_at, hlb]; omega
        · rw [up_ne hji]; exact hQ j (by omega)
      · refine RQ.brT rfl rfl rfl (decide_eq_true (Int32.not_lt.mp (fun e => hE ((lI_neg (by omega)).mp e)))) ?_
        refine RQ.blk 5 (pc' := 76) (lv' := [(5, .int 1), (4, .int (nI (K i + ((E i).getD 0)))), (3, .int (nI i)), (0, .ref 191), (1, .ref (b + 1)), (2, .int (nI P))]) (st' := [.ref (b + 1), .int 1, .ref 191]) (H' := _) (kc' := 0) (ks' := 0) rfl ?_
        refine RQ.get (ci := 0) rfl ((f1 b (by omega) (by omega) (by omega) (by omega)).trans hb.1) rfl rfl ?_
        refine RQ.blk 1 (pc' := 80) (lv' := [(5, .int 1), (4, .int (nI (K i + ((E i).getD 0)))), (3, .int (nI i)), (0, .ref 191), (1, .ref (b + 1)), (2, .int (nI P))]) (st' := [.int (nI i), .ref ((b + 3) + 1), .int 1, .ref 191]) (H' := _) (kc' := 0) (ks' := 0) rfl ?_
        refine RQ.ialdN (j := i) rfl ((f1 (b + 3) (by omega) (by omega) (by omega) (by omega)).trans hb.2.2.2.1) (by omega) (by decide) ?_
        refine RQ.blk 1 (pc' := 82) (lv' := [(5, .int 1), (4, .int (nI (K i + ((E i).getD 0)))), (3, .int (nI i)), (0, .ref 191), (1, .ref (b + 1)), (2, .int (nI P))]) (st' := [.ref (b + 1), .int (nI (K i)), .int 1, .ref 191]) (H' := _) (kc' := 0) (ks' := 0) rfl ?_
        refine RQ.get (ci := 0) rfl ((f1 b (by omega) (by omega) (by omega) (by omega)).trans hb.1) rfl rfl ?_
        refine RQ.blk 1 (pc' := 86) (lv' := [(5, .int 1), (4, .int (nI (K i + ((E i).getD 0)))), (3, .int (nI i)), (0, .ref 191), (1, .ref (b + 1)), (2, .int (nI P))]) (st' := [.int (nI i), .ref ((b + 4) + 1), .int (nI (K i)), .int 1, .ref 191]) (H' := _) (kc' := 0) (ks' := 0) rfl ?_
        refine RQ.ialdN (j := i) rfl ((f1 (b + 4) (by omega) (by omega) (by omega) (by omega)).trans hb.2.2.2.2) (by omega) (by decide) ?_
        refine RQ.blk 2 (pc' := 91) (lv' := [(5, .int 1), (4, .int (nI (K i + ((E i).getD 0)))), (3, .int (nI i)), (0, .ref 191), (1, .ref (b + 1)), (2, .int (nI P))]) (st' := [.int (if lI (E i) < 0 then 0 else lI (E i)), .int (nI (K i)), .int 1, .ref 191]) (H' := _) (kc' := 0) (ks' := 0) rfl ?_
        rw [maxL (l := E i) (by omega)]
        refine RQ.blk 3 (pc' := 94) (lv' := [(5, .int 1), (4, .int (nI (K i + ((E i).getD 0)))), (3, .int (nI i)), (0, .ref 191), (1, .ref (b + 1)), (2, .int (nI P))]) (st' := [.int (nI P + 1), .int (nI ((E i).getD 0)), .int (nI (K i)), .int 1, .ref 191]) (H' := _) (kc' := 0) (ks' := 0) rfl ?_
        rw [show (nI P + 1 : Int32) = nI (P + 1) from nI_add P 1]
        refine RQ.call (v := none) (st' := []) rfl rfl rfl rfl rfl rfl (args_v [.int (nI (P + 1)), .int (nI ((E i).getD 0)), .int (nI (K i)), .int 1] [] rfl rfl (Nat.le_of_ble_eq_true rfl) rfl ((f1 190 (by decide) (by decide) (by decide) (by omega)).trans hG) (Nat.le_of_ble_eq_true rfl)) (rc_head (k := 1) (n := K i) (l := (E i).getD 0) (m := P + 1) (mp := mp) (hv := hv) ((f1 190 (by decide) (by decide) (by decide) (by omega)).trans hG) hp1) ?_
        refine RQ.blk 1 (pc' := 98) (lv' := [(5, .int 1), (4, .int (nI (K i + ((E i).getD 0)))), (3, .int (nI i)), (0, .ref 191), (1, .ref (b + 1)), (2, .int (nI P))]) (st' := [.ref (b + 1)]) (H' := _) (kc' := 0) (ks' := 0) rfl ?_
        refine RQ.get (ci := 0) rfl ((set_far (by omega)).trans ((f1 b (by omega) (by omega) (by omega) (by omega)).trans hb.1)) rfl rfl ?_
        refine RQ.blk 1 (pc' := 102) (lv' := [(5, .int 1), (4, .int (nI (K i + ((E i).getD 0)))), (3, .int (nI i)), (0, .ref 191), (1, .ref (b + 1)), (2, .int (nI P))]) (st' := [.ref (b + 1), .ref ((b + 1) + 1)]) (H' := _) (kc' := 0) (ks' := 0) rfl ?_
        refine RQ.get (ci := 0) rfl ((set_far (by omega)).trans ((f1 b (by omega) (by omega) (by omega) (by omega)).trans hb.1)) rfl rfl ?_
        refine RQ.blk 1 (pc' := 106) (lv' := [(5, .int 1), (4, .int (nI (K i + ((E i).getD 0)))), (3, .int (nI i)), (0, .ref 191), (1, .ref (b + 1)), (2, .int (nI P))]) (st' := [.int (nI i), .ref ((b + 2) + 1), .ref ((b + 1) + 1)]) (H' := _) (kc' := 0) (ks' := 0) rfl ?_
        refine RQ.ialdN (j := i) rfl ((set_far (by omega)).trans ((f1 (b + 2) (by omega) (by omega) (by omega) (by omega)).trans hb.2.2.1)) (by omega) (by decide) ?_
        refine RQ.blk 1 (pc' := 108) (lv' := [(5, .int 1), (4, .int (nI (K i + ((E i).getD 0)))), (3, .int (nI i)), (0, .ref 191), (1, .ref (b + 1)), (2, .int (nI P))]) (st' := [.ref 191, .int (nI (S i)), .ref ((b + 1) + 1)]) (H' := _) (kc' := 0) (ks' := 0) rfl ?_
        refine RQ.get (ci := 4) rfl ((set_far (by decide)).trans ((f1 190 (by decide) (by decide) (by decide) (by omega)).trans hG)) rfl rfl ?_
        refine RQ.blk 2 (pc' := 115) (lv' := [(5, .int 1), (4, .int (nI (K i + ((E i).getD 0)))), (3, .int (nI i)), (0, .ref 191), (1, .ref (b + 1)), (2, .int (nI P))]) (st' := [.int (nI (K i + ((E i).getD 0))), .int 8, .ref 192, .int (nI (S i)), .ref ((b + 1) + 1)]) (H' := _) (kc' := 0) (ks' := 0) rfl ?_
        refine RQ.call (v := none) (st' := []) rfl rfl rfl rfl rfl rfl rfl (rc_copy (a := b + 1) (b := 191) (na := 4100) (nb := 2048) (i := S i) (j := 8) (k := K i + (E i).getD 0) ((set_far (by omega)).trans ((f1 (b + 1) (by omega) (by omega) (by omega) (by omega)).trans hb.2.1)) (get_set hp1) (by decide) (by decide) (by omega) (by omega)) ?_
        rw [set_set]
        have hS3 := hS.page (cpy D (S i) (hdF pg1 1 (K i) ((E i).getD 0) (P + 1)) 8 (K i + (E i).getD 0))
        have f3 : ∀ a, ¬ (71 ≤ a ∧ a < 74) → ¬ (83 ≤ a ∧ a < 88) → a ≠ 191 → a ≠ b + 5 → (H1.set 191 (kB 2048 (cpy D (S i) (hdF pg1 1 (K i) ((E i).getD 0) (P + 1)) 8 (K i + (E i).getD 0))))[a]? = H[a]? := fun a a1 a2 a3 a4 => (set_far a3).trans (f1 a a1 a2 a3 a4)
        have g53 : (H1.set 191 (kB 2048 (cpy D (S i) (hdF pg1 1 (K i) ((E i).getD 0) (P + 1)) 8 (K i + (E i).getD 0))))[b + 5]? = _ := (set_far (by omega)).trans g5
        have hp3 : (H1.set 191 (kB 2048 (cpy D (S i) (hdF pg1 1 (K i) ((E i).getD 0) (P + 1)) 8 (K i + (E i).getD 0))))[191]? = some (kB 2048 (cpy D (S i) (hdF pg1 1 (K i) ((E i).getD 0) (P + 1)) 8 (K i + (E i).getD 0))) := get_set hp1
        show RQ _ _ _ _ _ _ (H1.set 191 (kB 2048 (cpy D (S i) (hdF pg1 1 (K i) ((E i).getD 0) (P + 1)) 8 (K i + (E i).getD 0)))) _ _ _
        generalize (H1.set 191 (kB 2048 (cpy D (S i) (hdF pg1 1 (K i) ((E i).getD 0) (P + 1)) 8 (K i + (E i).getD 0)))) = H3 at hS3 f3 g53 hp3 ⊢
        obtain ⟨⟨ms3, mt3, sq3, tu3, lg3, hY3, hlg3, hlc3⟩, htp3, -⟩ := hS3.lay
        have hrl : sl (numF (cpy D (S i) (hdF pg1 1 (K i) ((E i).getD 0) (P + 1)) 8 (K i + (E i).getD 0)) (eLen e + 9 - 1) 1 (nI 90) 1) 0 (eLen e + 9) = encL (recE (P + 1) e) := by
          have hrec : recE (P + 1) e = (1, e.1, (e.2.getD []).length, P + 1, e.2.getD []) := by
            unfold recE
            rw [e3] at hE
            cases hv2 : e.2 with
            | none => rw [hv2] at hE; exact absurd rfl hE
            | some l => rfl
          rw [hrec, e2, ← hgd, show e.1.length + (e.2.getD []).length = eLen e from rfl]
          exact rec_page (by omega) (by omega) (by omega) (by omega) rfl (by rw [e1]; exact e4)
        have hft3 : wr1 = true ∧ eLen e + 9 ≤ 2048 - tp1 := by rw [hel]; exact hft
        refine RQ.blk 1 (pc' := 119) (lv' := [(5, .int 1), (4, .int (nI (K i + ((E i).getD 0)))), (3, .int (nI i)), (0, .ref 191), (1, .ref (b + 1)), (2, .int (nI P))]) (st' := [.ref (b + 1)]) (H' := _) (kc' := 0) (ks' := 0) rfl ?_
        refine RQ.get (ci := 0) rfl ((f3 b (by omega) (by omega) (by omega) (by omega)).trans hb.1) rfl rfl ?_
        refine RQ.blk 2 (pc' := 124) (lv' := [(5, .int 1), (4, .int (nI (K i + ((E i).getD 0)))), (3, .int (nI i)), (0, .ref 191), (1, .ref (b + 1)), (2, .int (nI P))]) (st' := [.ref 191, .int (nI i), .ref ((b + 5) + 1)]) (H' := _) (kc' := 0) (ks' := 0) rfl ?_
        refine RQ.get (ci := 4) rfl ((f3 190 (by decide) (by decide) (by decide) (by omega)).trans hG) rfl rfl ?_
        have hlen1 : 1 ≤ lgs1.length := by
          have hw0 := hft3.1
          obtain ⟨gi, s, z1, z2, z3⟩ := hS3.1.2.2.2.1.2 hw0
          have hFc := hS3.1.2.2.2.1.1
          rw [z1] at hFc
          have := get_lt hFc.last.1
          omega
        refine RQ.call (v := some (.int (nI (lg3 (lgs1.length - 1) * 2048 + tp1)))) (st' := [.int (nI i), .ref ((b + 5) + 1)]) rfl rfl rfl rfl rfl rfl (args_v [] [.int (nI i), .ref ((b + 5) + 1)] rfl rfl (Nat.le_of_ble_eq_true rfl) rfl hY3.1 (Nat.le_of_ble_eq_true rfl)) (rc_point hY3 hB hlen1 hlc3) ?_
        refine RQ.iastN (j := i) rfl g53 (by omega) (by decide) ?_
        rw [up_nI]
        refine RQ.blk 4 (pc' := 137) (lv' := [(5, .int 1), (4, .int (nI (K i + ((E i).getD 0)))), (3, .int (nI i)), (0, .ref 191), (1, .ref (b + 1)), (2, .int (nI P))]) (st' := [.int (nI (K i + ((E i).getD 0)) + 9), .ref 191]) (H' := _) (kc' := 0) (ks' := 0) rfl ?_
        rw [show (nI (K i + ((E i).getD 0)) + 9 : Int32) = nI (K i + ((E i).getD 0) + 9) from nI_add (K i + ((E i).getD 0)) 9]
        have hS4 := hS3.far (H' := (H3.set (b + 5) (kI 40 (fun j => nI ((va_up Q1 i (lg3 (lgs1.length - 1) * 2048 + tp1)) j))))) (fun a ha => set_far (by omega))
        have f4 : ∀ a, ¬ (71 ≤ a ∧ a < 74) → ¬ (83 ≤ a ∧ a < 88) → a ≠ 191 → a ≠ b + 5 → (H3.set (b + 5) (kI 40 (fun j => nI ((va_up Q1 i (lg3 (lgs1.length - 1) * 2048 + tp1)) j))))[a]? = H[a]? := fun a a1 a2 a3 a4 => (set_far a4).trans (f3 a a1 a2 a3 a4)
        have g54 : (H3.set (b + 5) (kI 40 (fun j => nI ((va_up Q1 i (lg3 (lgs1.length - 1) * 2048 + tp1)) j))))[b + 5]? = _ := get_set g53
        have hp4 : (H3.set (b + 5) (kI 40 (fun j => nI ((va_up Q1 i (lg3 (lgs1.length - 1) * 2048 + tp1)) j))))[191]? = _ := (set_far (by omega)).trans hp3
        show RQ _ _ _ _ _ _ (H3.set (b + 5) (kI 40 (fun j => nI ((va_up Q1 i (lg3 (lgs1.length - 1) * 2048 + tp1)) j)))) _ _ _
        generalize (H3.set (b + 5) (kI 40 (fun j => nI ((va_up Q1 i (lg3 (lgs1.length - 1) * 2048 + tp1)) j)))) = H4 at hS4 f4 g54 hp4 ⊢
        have hG4 := (f4 190 (by decide) (by decide) (by decide) (by omega)).trans hG
        obtain ⟨bl, hbl, hbl2, hblB, hApp⟩ := re_appS (sc := sc) (d := d + 2) (mp := mp) (hv := hv) (r := recE (P + 1) e) hS4 hft3 hG4 hB hbb hp4 (recE_ok hk41 (by omega) hP) recE_len.symm hrl
        rw [hel] at hApp
        have hlb : lg3 (lgs1.length - 1) = bl := hlg3 _ _ hbl
        refine RQ.callT (st' := []) rfl rfl rfl rfl rfl rfl (args_v [.int (nI (K i + ((E i).getD 0) + 9))] [] rfl rfl (Nat.le_of_ble_eq_true rfl) rfl hG4 (Nat.le_of_ble_eq_true rfl)) hApp rfl (fun H5 hx5 => ?_) (fun H9 hbad => Or.inr (by obtain ⟨z1, z2⟩ := hbad; exact ⟨_, rfl, Q1, i, hi, z1, ⟨_, (z2 (b + 5) (by omega) (by omega)).trans g54⟩, fun a a1 a2 a3 a4 => (z2 a a1 a3).trans (f4 a a1 a2 a3 a4)⟩))
        obtain ⟨c5, gs5, hS5, z5⟩ := hx5
        have htk : (ws.take i).length = i := by rw [List.length_take]; omega
        rw [← hlb] at hS5
        have hxs : adB (P + 1) Q1 0 (ws.take i) ++ [((lg3 (lgs1.length - 1) * 2048 + tp1), recE (P + 1) e)] = adB (P + 1) (va_up Q1 i (lg3 (lgs1.length - 1) * 2048 + tp1)) 0 (ws.take (i + 1)) := by
          have hte : ws.take (i + 1) = ws.take i ++ [e] := by rw [List.take_add_one, he]; rfl
          rw [hte, adB_snoc, adB_congr (Q' := (va_up Q1 i (lg3 (lgs1.length - 1) * 2048 + tp1))) (Q := Q1) (ws.take i) 0 (fun j j1 j2 => up_ne (by rw [htk] at j2; omega)), Nat.zero_add, htk, up_at]
        rw [hxs] at hS5
        refine RQ.blk 1 (pc' := 143) (lv' := [(3, .int (nI i + 1)), (5, .int 1), (4, .int (nI (K i + ((E i).getD 0)))), (0, .ref 191), (1, .ref (b + 1)), (2, .int (nI P))]) (st' := []) (H' := _) (kc' := 0) (ks' := 0) rfl ?_
        rw [show (nI i + 1 : Int32) = nI (i + 1) from nI_add i 1]
        refine RQ.blk 1 (pc' := 2) (lv' := [(3, .int (nI (i + 1))), (5, .int 1), (4, .int (nI (K i + ((E i).getD 0)))), (0, .ref 191), (1, .ref (b + 1)), (2, .int (nI P))]) (st' := []) (H' := _) (kc' := 0) (ks' := 0) rfl ?_
        refine RQ.pick (a := [(3, .int (nI (i + 1))), (0, .ref 191), (1, .ref (b + 1)), (2, .int (nI P))]) [0, 3, 4, 5] [3, 5, 4, 0, 1, 2] rfl rfl (by decide) ?_
        refine ih (i + 1) H5 ⟨lgs1, l1, fr1, ff1, wr1, (tp1 + (K i + (E i).getD 0 + 9)), us1, c5, P2, gs5, (va_up Q1 i (lg3 (lgs1.length - 1) * 2048 + tp1)), by omega, hS5, (z5 (b + 5) (by omega) (by omega) (by omega)).trans g54, fun j hj => ?_, fun a a1 a2 a3 a4 => (z5 a a1 a3 (by omega)).trans (f4 a a1 a2 a3 a4)⟩ (by omega)
        by_cases hji : j = i
        · rw [hji, up_at, hlb]; omega
        · rw [up_ne hji]; exact hQ j (by omega)
    · rw [if_neg hft]
      refine RQ.brF rfl rfl rfl (by decide) ?_
      refine RQ.blk 1 (pc' := 45) (lv' := [(4, .int (nI (K i + ((E i).getD 0)))), (3, .int (nI i)), (0, .ref 191), (1, .ref (b + 1)), (2, .int (nI P))]) (st' := [.ref 191]) (H' := _) (kc' := 0) (ks' := 0) rfl ?_
      have hRO := re_openS (sc := sc) (d := d) (mp := mp) (hv := hv) (n := eLen e + 9) hS (by rw [hel]; exact hft) hsz ((f1 190 (by decide) (by decide) (by decide) (by omega)).trans hG) hB hB1 hbb (by omega)
      refine RQ.callT (st' := []) rfl rfl rfl rfl rfl rfl (args_v [] [] rfl rfl (Nat.le_of_ble_eq_true rfl) rfl ((f1 190 (by decide) (by decide) (by decide) (by omega)).trans hG) (Nat.le_of_ble_eq_true rfl)) hRO rfl (fun Hx hxx => ?_) (fun H9 hbad => Or.inr (by obtain ⟨z1, z2⟩ := hbad; exact ⟨_, rfl, Q1, i, hi, z1, ⟨Q1, (z2 (b + 5) (by omega) (by omega)).trans g5⟩, fun a a1 a2 a3 a4 => (z2 a a1 a2).trans (f1 a a1 a2 a3 a4)⟩))
      obtain ⟨⟨yf2, hy2⟩, zx, hSv⟩ := hxx
      refine RQ.blk 1 (pc' := 49) (lv' := [(4, .int (nI (K i + ((E i).getD 0)))), (3, .int (nI i)), (0, .ref 191), (1, .ref (b + 1)), (2, .int (nI P))]) (st' := [.ref 191]) (H' := _) (kc' := 0) (ks' := 0) rfl ?_
      refine RQ.get (ci := 4) rfl ((zx 190 (by decide) (by decide)).trans ((f1 190 (by decide) (by decide) (by decide) (by omega)).trans hG)) rfl rfl ?_
      refine RQ.blk 1 (pc' := 53) (lv' := [(4, .int (nI (K i + ((E i).getD 0)))), (3, .int (nI i)), (0, .ref 191), (1, .ref (b + 1)), (2, .int (nI P))]) (st' := [.int (nI P), .ref 84]) (H' := _) (kc' := 0) (ks' := 0) rfl ?_
      refine RQ.callT (st' := []) rfl rfl rfl rfl rfl rfl (args_v [.int (nI P)] [] rfl rfl (Nat.le_of_ble_eq_true rfl) rfl hy2 (Nat.le_of_ble_eq_true rfl)) hSv rfl (fun H2 hx2 => ?_) (fun H9 hbad => Or.inr (by obtain ⟨z1, z2⟩ := hbad; exact ⟨_, rfl, Q1, i, hi, z1, ⟨Q1, (z2 (b + 5) (by omega) (by omega)).trans g5⟩, fun a a1 a2 a3 a4 => (z2 a a1 a2).trans (f1 a a1 a2 a3 a4)⟩))
      obtain ⟨lgs2, l2, fr2, ff2, us2, c2, gs2, hS2, z2⟩ := hx2
      have f2 : ∀ a, ¬ (71 ≤ a ∧ a < 74) → ¬ (83 ≤ a ∧ a < 88) → a ≠ 191 → a ≠ b + 5 → H2[a]? = H[a]? := fun a a1 a2 a3 a4 => (z2 a a1 a2).trans (f1 a a1 a2 a3 a4)
      obtain ⟨⟨ms2, mt2, sq2, tu2, lg2, hY2, hlg2, hlc2⟩, htp2, pg2, hp2⟩ := hS2.lay
      have hft2 : true = true ∧ K i + (E i).getD 0 + 9 ≤ 2048 - 0 := ⟨rfl, by omega⟩
      have g52 := (z2 (b + 5) (by omega) (by omega)).trans g5
      refine RQ.blk 1 (pc' := 57) (lv' := [(4, .int (nI (K i + ((E i).getD 0)))), (3, .int (nI i)), (0, .ref 191), (1, .ref (b + 1)), (2, .int (nI P))]) (st' := [.ref (b + 1)]) (H' := _) (kc' := 0) (ks' := 0) rfl ?_
      refine RQ.get (ci := 0) rfl ((f2 b (by omega) (by omega) (by omega) (by omega)).trans hb.1) rfl rfl ?_
      refine RQ.blk 1 (pc' := 61) (lv' := [(4, .int (nI (K i + ((E i).getD 0)))), (3, .int (nI i)), (0, .ref 191), (1, .ref (b + 1)), (2, .int (nI P))]) (st' := [.int (nI i), .ref ((b + 4) + 1)]) (H' := _) (kc' := 0) (ks' := 0) rfl ?_
      refine RQ.ialdN (j := i) rfl ((f2 (b + 4) (by omega) (by omega) (by omega) (by omega)).trans hb.2.2.2.2) (by omega) (by decide) ?_
      by_cases hE : E i = none
      · refine RQ.brF rfl rfl rfl (decide_eq_false (Int32.not_le.mpr ((lI_neg (by omega)).mpr hE))) ?_
        refine RQ.blk 6 (pc' := 76) (lv' := [(5, .int 2), (4, .int (nI (K i + ((E i).getD 0)))), (3, .int (nI i)), (0, .ref 191), (1, .ref (b + 1)), (2, .int (nI P))]) (st' := [.ref (b + 1), .int 2, .ref 191]) (H' := _) (kc' := 0) (ks' := 0) rfl ?_
        refine RQ.get (ci := 0) rfl ((f2 b (by omega) (by omega) (by omega) (by omega)).trans hb.1) rfl rfl ?_
        refine RQ.blk 1 (pc' := 80) (lv' := [(5, .int 2), (4, .int (nI (K i + ((E i).getD 0)))), (3, .int (nI i)), (0, .ref 191), (1, .ref (b + 1)), (2, .int (nI P))]) (st' := [.int (nI i), .ref ((b + 3) + 1), .int 2, .ref 191]) (H' := _) (kc' := 0) (ks' := 0) rfl ?_
        refine RQ.ialdN (j := i) rfl ((f2 (b + 3) (by omega) (by omega) (by omega) (by omega)).trans hb.2.2.2.1) (by omega) (by decide) ?_
        refine RQ.blk 1 (pc' := 82) (lv' := [(5, .int 2), (4, .int (nI (K i + ((E i).getD 0)))), (3, .int (nI i)), (0, .ref 191), (1, .ref (b + 1)), (2, .int (nI P))]) (st' := [.ref (b + 1), .int (nI (K i)), .int 2, .ref 191]) (H' := _) (kc' := 0) (ks' := 0) rfl ?_
        refine RQ.get (ci := 0) rfl ((f2 b (by omega) (by omega) (by omega) (by omega)).trans hb.1) rfl rfl ?_
        refine RQ.blk 1 (pc' := 86) (lv' := [(5, .int 2), (4, .int (nI (K i + ((E i).getD 0)))), (3, .int (nI i)), (0, .ref 191), (1, .ref (b + 1)), (2, .int (nI P))]) (st' := [.int (nI i), .ref ((b + 4) + 1), .int (nI (K i)), .int 2, .ref 191]) (H' := _) (kc' := 0) (ks' := 0) rfl ?_
        refine RQ.ialdN (j := i) rfl ((f2 (b + 4) (by omega) (by omega) (by omega) (by omega)).trans hb.2.2.2.2) (by omega) (by decide) ?_
        refine RQ.blk 2 (pc' := 91) (lv' := [(5, .int 2), (4, .int (nI (K i + ((E i).getD 0)))), (3, .int (nI i)), (0, .ref 191), (1, .ref (b + 1)), (2, .int (nI P))]) (st' := [.int (if lI (E i) < 0 then 0 else lI (E i)), .int (nI (K i)), .int 2, .ref 191]) (H' := _) (kc' := 0) (ks' := 0) rfl ?_
        rw [maxL (l := E i) (by omega)]
        refine RQ.blk 3 (pc' := 94) (lv' := [(5, .int 2), (4, .int (nI (K i + ((E i).getD 0)))), (3, .int (nI i)), (0, .ref 191), (1, .ref (b + 1)), (2, .int (nI P))]) (st' := [.int (nI P + 1), .int (nI ((E i).getD 0)), .int (nI (K i)), .int 2, .ref 191]) (H' := _) (kc' := 0) (ks' := 0) rfl ?_
        rw [show (nI P + 1 : Int32) = nI (P + 1) from nI_add P 1]
        refine RQ.call (v := none) (st' := []) rfl rfl rfl rfl rfl rfl (args_v [.int (nI (P + 1)), .int (nI ((E i).getD 0)), .int (nI (K i)), .int 2] [] rfl rfl (Nat.le_of_ble_eq_true rfl) rfl ((f2 190 (by decide) (by decide) (by decide) (by omega)).trans hG) (Nat.le_of_ble_eq_true rfl)) (rc_head (k := 2) (n := K i) (l := (E i).getD 0) (m := P + 1) (mp := mp) (hv := hv) ((f2 190 (by decide) (by decide) (by decide) (by omega)).trans hG) hp2) ?_
        refine RQ.blk 1 (pc' := 98) (lv' := [(5, .int 2), (4, .int (nI (K i + ((E i).getD 0)))), (3, .int (nI i)), (0, .ref 191), (1, .ref (b + 1)), (2, .int (nI P))]) (st' := [.ref (b + 1)]) (H' := _) (kc' := 0) (ks' := 0) rfl ?_
        refine RQ.get (ci := 0) rfl ((set_far (by omega)).trans ((f2 b (by omega) (by omega) (by omega) (by omega)).trans hb.1)) rfl rfl ?_
        refine RQ.blk 1 (pc' := 102) (lv' := [(5, .int 2), (4, .int (nI (K i + ((E i).getD 0)))), (3, .int (nI i)), (0, .ref 191), (1, .ref (b + 1)), (2, .int (nI P))]) (st' := [.ref (b + 1), .ref ((b + 1) + 1)]) (H' := _) (kc' := 0) (ks' := 0) rfl ?_
        refine RQ.get (ci := 0) rfl ((set_far (by omega)).trans ((f2 b (by omega) (by omega) (by omega) (by omega)).trans hb.1)) rfl rfl ?_
        refine RQ.blk 1 (pc' := 106) (lv' := [(5, .int 2), (4, .int (nI (K i + ((E i).getD 0)))), (3, .int (nI i)), (0, .ref 191), (1, .ref (b + 1)), (2, .int (nI P))]) (st' := [.int (nI i), .ref ((b + 2) + 1), .ref ((b + 1) + 1)]) (H' := _) (kc' := 0) (ks' := 0) rfl ?_
        refine RQ.ialdN (j := i) rfl ((set_far (by omega)).trans ((f2 (b + 2) (by omega) (by omega) (by omega) (by omega)).trans hb.2.2.1)) (by omega) (by decide) ?_
        refine RQ.blk 1 (pc' := 108) (lv' := [(5, .int 2), (4, .int (nI (K i + ((E i).getD 0)))), (3, .int (nI i)), (0, .ref 191), (1, .ref (b + 1)), (2, .int (nI P))]) (st' := [.ref 191, .int (nI (S i)), .ref ((b + 1) + 1)]) (H' := _) (kc' := 0) (ks' := 0) rfl ?_
        refine RQ.get (ci := 4) rfl ((set_far (by decide)).trans ((f2 190 (by decide) (by decide) (by decide) (by omega)).trans hG)) rfl rfl ?_
        refine RQ.blk 2 (pc' := 115) (lv' := [(5, .int 2), (4, .int (nI (K i + ((E i).getD 0)))), (3, .int (nI i)), (0, .ref 191), (1, .ref (b + 1)), (2, .int (nI P))]) (st' := [.int (nI (K i + ((E i).getD 0))), .int 8, .ref 192, .int (nI (S i)), .ref ((b + 1) + 1)]) (H' := _) (kc' := 0) (ks' := 0) rfl ?_
        refine RQ.call (v := none) (st' := []) rfl rfl rfl rfl rfl rfl rfl (rc_copy (a := b + 1) (b := 191) (na := 4100) (nb := 2048) (i := S i) (j := 8) (k := K i + (E i).getD 0) ((set_far (by omega)).trans ((f2 (b + 1) (by omega) (by omega) (by omega) (by omega)).trans hb.2.1)) (get_set hp2) (by decide) (by decide) (by omega) (by omega)) ?_
        rw [set_set]
        have hS3 := hS2.page (cpy D (S i) (hdF pg2 2 (K i) ((E i).getD 0) (P + 1)) 8 (K i + (E i).getD 0))
        have f3 : ∀ a, ¬ (71 ≤ a ∧ a < 74) → ¬ (83 ≤ a ∧ a < 88) → a ≠ 191 → a ≠ b + 5 → (H2.set 191 (kB 2048 (cpy D (S i) (hdF pg2 2 (K i) ((E i).getD 0) (P + 1)) 8 (K i + (E i).getD 0))))[a]? = H[a]? := fun a a1 a2 a3 a4 => (set_far a3).trans (f2 a a1 a2 a3 a4)
        have g53 : (H2.set 191 (kB 2048 (cpy D (S i) (hdF pg2 2 (K i) ((E i).getD 0) (P + 1)) 8 (K i + (E i).getD 0))))[b + 5]? = _ := (set_far (by omega)).trans g52
        have hp3 : (H2.set 191 (kB 2048 (cpy D (S i) (hdF pg2 2 (K i) ((E i).getD 0) (P + 1)) 8 (K i + (E i).getD 0))))[191]? = some (kB 2048 (cpy D (S i) (hdF pg2 2 (K i) ((E i).getD 0) (P + 1)) 8 (K i + (E i).getD 0))) := get_set hp2
        show RQ _ _ _ _ _ _ (H2.set 191 (kB 2048 (cpy D (S i) (hdF pg2 2 (K i) ((E i).getD 0) (P + 1)) 8 (K i + (E i).getD 0)))) _ _ _
        generalize (H2.set 191 (kB 2048 (cpy D (S i) (hdF pg2 2 (K i) ((E i).getD 0) (P + 1)) 8 (K i + (E i).getD 0)))) = H3 at hS3 f3 g53 hp3 ⊢
        obtain ⟨⟨ms3, mt3, sq3, tu3, lg3, hY3, hlg3, hlc3⟩, htp3, -⟩ := hS3.lay
        have hrl : sl (numF (cpy D (S i) (hdF pg2 2 (K i) ((E i).getD 0) (P + 1)) 8 (K i + (E i).getD 0)) (eLen e + 9 - 1) 1 (nI 90) 1) 0 (eLen e + 9) = encL (recE (P + 1) e) := by
          have hrec : recE (P + 1) e = (2, e.1, (e.2.getD []).length, P + 1, e.2.getD []) := by
            unfold recE
            rw [e3] at hE
            cases hv2 : e.2 with
            | none => rfl
            | some l => rw [hv2] at hE; cases hE
          rw [hrec, e2, ← hgd, show e.1.length + (e.2.getD []).length = eLen e from rfl]
          exact rec_page (by omega) (by omega) (by omega) (by omega) rfl (by rw [e1]; exact e4)
        have hft3 : true = true ∧ eLen e + 9 ≤ 2048 - 0 := by rw [hel]; exact hft2
        refine RQ.blk 1 (pc' := 119) (lv' := [(5, .int 2), (4, .int (nI (K i + ((E i).getD 0)))), (3, .int (nI i)), (0, .ref 191), (1, .ref (b + 1)), (2, .int (nI P))]) (st' := [.ref (b + 1)]) (H' := _) (kc' := 0) (ks' := 0) rfl ?_
        refine RQ.get (ci := 0) rfl ((f3 b (by omega) (by omega) (by omega) (by omega)).trans hb.1) rfl rfl ?_
        refine RQ.blk 2 (pc' := 124) (lv' := [(5, .int 2), (4, .int (nI (K i + ((E i).getD 0)))), (3, .int (nI i)), (0, .ref 191), (1, .ref (b + 1)), (2, .int (nI P))]) (st' := [.ref 191, .int (nI i), .ref ((b + 5) + 1)]) (H' := _) (kc' := 0) (ks' := 0) rfl ?_
        refine RQ.get (ci := 4) rfl ((f3 190 (by decide) (by decide) (by decide) (by omega)).trans hG) rfl rfl ?_
        have hlen1 : 1 ≤ lgs2.length := by
          have hw0 := hft3.1
          obtain ⟨gi, s, z1, z2, z3⟩ := hS3.1.2.2.2.1.2 hw0
          have hFc := hS3.1.2.2.2.1.1
          rw [z1] at hFc
          have := get_lt hFc.last.1
          omega
        refine RQ.call (v := some (.int (nI (lg3 (lgs2.length - 1) * 2048 + 0)))) (st' := [.int (nI i), .ref ((b + 5) + 1)]) rfl rfl rfl rfl rfl rfl (args_v [] [.int (nI i), .ref ((b + 5) + 1)] rfl rfl (Nat.le_of_ble_eq_true rfl) rfl hY3.1 (Nat.le_of_ble_eq_true rfl)) (rc_point hY3 hB hlen1 hlc3) ?_
        refine RQ.iastN (j := i) rfl g53 (by omega) (by decide) ?_
        rw [up_nI]
        refine RQ.blk 4 (pc' := 137) (lv' := [(5, .int 2), (4, .int (nI (K i + ((E i).getD 0)))), (3, .int (nI i)), (0, .ref 191), (1, .ref (b + 1)), (2, .int (nI P))]) (st' := [.int (nI (K i + ((E i).getD 0)) + 9), .ref 191]) (H' := _) (kc' := 0) (ks' := 0) rfl ?_
        rw [show (nI (K i + ((E i).getD 0)) + 9 : Int32) = nI (K i + ((E i).getD 0) + 9) from nI_add (K i + ((E i).getD 0)) 9]
        have hS4 := hS3.far (H' := (H3.set (b + 5) (kI 40 (fun j => nI ((va_up Q1 i (lg3 (lgs2.length - 1) * 2048 + 0)) j))))) (fun a ha => set_far (by omega))
        have f4 : ∀ a, ¬ (71 ≤ a ∧ a < 74) → ¬ (83 ≤ a ∧ a < 88) → a ≠ 191 → a ≠ b + 5 → (H3.set (b + 5) (kI 40 (fun j => nI ((va_up Q1 i (lg3 (lgs2.length - 1) * 2048 + 0)) j))))[a]? = H[a]? := fun a a1 a2 a3 a4 => (set_far a4).trans (f3 a a1 a2 a3 a4)
        have g54 : (H3.set (b + 5) (kI 40 (fun j => nI ((va_up Q1 i (lg3 (lgs2.length - 1) * 2048 + 0)) j))))[b + 5]? = _ := get_set g53
        have hp4 : (H3.set (b + 5) (kI 40 (fun j => nI ((va_up Q1 i (lg3 (lgs2.length - 1) * 2048 + 0)) j))))[191]? = _ := (set_far (by omega)).trans hp3
        show RQ _ _ _ _ _ _ (H3.set (b + 5) (kI 40 (fun j => nI ((va_up Q1 i (lg3 (lgs2.length - 1) * 2048 + 0)) j)))) _ _ _
        generalize (H3.set (b + 5) (kI 40 (fun j => nI ((va_up Q1 i (lg3 (lgs2.length - 1) * 2048 + 0)) j)))) = H4 at hS4 f4 g54 hp4 ⊢
        have hG4 := (f4 190 (by decide) (by decide) (by decide) (by omega)).trans hG
        obtain ⟨bl, hbl, hbl2, hblB, hApp⟩ := re_appS (sc := sc) (d := d + 2) (mp := mp) (hv := hv) (r := recE (P + 1) e) hS4 hft3 hG4 hB hbb hp4 (recE_ok hk41 (by omega) hP) recE_len.symm hrl
        rw [hel] at hApp
        have hlb : lg3 (lgs2.length - 1) = bl := hlg3 _ _ hbl
        refine RQ.callT (st' := []) rfl rfl rfl rfl rfl rfl (args_v [.int (nI (K i + ((E i).getD 0) + 9))] [] rfl rfl (Nat.le_of_ble_eq_true rfl) rfl hG4 (Nat.le_of_ble_eq_true rfl)) hApp rfl (fun H5 hx5 => ?_) (fun H9 hbad => Or.inr (by obtain ⟨z1, z2⟩ := hbad; exact ⟨_, rfl, Q1, i, hi, z1, ⟨_, (z2 (b + 5) (by omega) (by omega)).trans g54⟩, fun a a1 a2 a3 a4 => (z2 a a1 a3).trans (f4 a a1 a2 a3 a4)⟩))
        obtain ⟨c5, gs5, hS5, z5⟩ := hx5
        have htk : (ws.take i).length = i := by rw [List.length_take]; omega
        rw [← hlb] at hS5
        have hxs : adB (P + 1) Q1 0 (ws.take i) ++ [((lg3 (lgs2.length - 1) * 2048 + 0), recE (P + 1) e)] = adB (P + 1) (va_up Q1 i (lg3 (lgs2.length - 1) * 2048 + 0)) 0 (ws.take (i + 1)) := by
          have hte : ws.take (i + 1) = ws.take i ++ [e] := by rw [List.take_add_one, he]; rfl
          rw [hte, adB_snoc, adB_congr (Q' := (va_up Q1 i (lg3 (lgs2.length - 1) * 2048 + 0))) (Q := Q1) (ws.take i) 0 (fun j j1 j2 => up_ne (by rw [htk] at j2; omega)), Nat.zero_add, htk, up_at]
        rw [hxs] at hS5
        refine RQ.blk 1 (pc' := 143) (lv' := [(3, .int (nI i + 1)), (5, .int 2), (4, .int (nI (K i + ((E i).getD 0)))), (0, .ref 191), (1, .ref (b + 1)), (2, .int (nI P))]) (st' := []) (H' := _) (kc' := 0) (ks' := 0) rfl ?_
        rw [show (nI i + 1 : Int32) = nI (i + 1) from nI_add i 1]
        refine RQ.blk 1 (pc' := 2) (lv' := [(3, .int (nI (i + 1))), (5, .int 2), (4, .int (nI (K i + ((E i).getD 0)))), (0, .ref 191), (1, .ref (b + 1)), (2, .int (nI P))]) (st' := []) (H' := _) (kc' := 0) (ks' := 0) rfl ?_
        refine RQ.pick (a := [(3, .int (nI (i + 1))), (0, .ref 191), (1, .ref (b + 1)), (2, .int (nI P))]) [0, 3, 4, 5] [3, 5, 4, 0, 1, 2] rfl rfl (by decide) ?_
        refine ih (i + 1) H5 ⟨lgs2, l2, fr2, ff2, true, (0 + (K i + (E i).getD 0 + 9)), us2, c5, P, gs5, (va_up Q1 i (lg3 (lgs2.length - 1) * 2048 + 0)), by omega, hS5, (z5 (b + 5) (by omega) (by omega) (by omega)).trans g54, fun j hj => ?_, fun a a1 a2 a3 a4 => (z5 a a1 a3 (by omega)).trans (f4 a a1 a2 a3 a4)⟩ (by omega)
        by_cases hji : j = i
        · rw [hji, up_at, hlb]; omega
        · rw [up_ne hji]; exact hQ j (by omega)
      · refine RQ.brT rfl rfl rfl (decide_eq_true (Int32.not_lt.mp (fun e => hE ((lI_neg (by omega)).mp e)))) ?_
        refine RQ.blk 5 (pc' := 76) (lv' := [(5, .int 1), (4, .int (nI (K i + ((E i).getD 0)))), (3, .int (nI i)), (0, .ref 191), (1, .ref (b + 1)), (2, .int (nI P))]) (st' := [.ref (b + 1), .int 1, .ref 191]) (H' := _) (kc' := 0) (ks' := 0) rfl ?_
        refine RQ.get (ci := 0) rfl ((f2 b (by omega) (by omega) (by omega) (by omega)).trans hb.1) rfl rfl ?_
        refine RQ.blk 1 (pc' := 80) (lv' := [(5, .int 1), (4, .int (nI (K i + ((E i).getD 0)))), (3, .int (nI i)), (0, .ref 191), (1, .ref (b + 1)), (2, .int (nI P))]) (st' := [.int (nI i), .ref ((b + 3) + 1), .int 1, .ref 191]) (H' := _) (kc' := 0) (ks' := 0) rfl ?_
        refine RQ.ialdN (j := i) rfl ((f2 (b + 3) (by omega) (by omega) (by omega) (by omega)).trans hb.2.2.2.1) (by omega) (by decide) ?_
        refine RQ.blk 1 (pc' := 82) (lv' := [(5, .int 1), (4, .int (nI (K i + ((E i).getD 0)))), (3, .int (nI i)), (0, .ref 191), (1, .ref (b + 1)), (2, .int (nI P))]) (st' := [.ref (b + 1), .int (nI (K i)), .int 1, .ref 191]) (H' := _) (kc' := 0) (ks' := 0) rfl ?_
        refine RQ.get (ci := 0) rfl ((f2 b (by omega) (by omega) (by omega) (by omega)).trans hb.1) rfl rfl ?_
        refine RQ.blk 1 (pc' := 86) (lv' := [(5, .int 1), (4, .int (nI (K i + ((E i).getD 0)))), (3, .int (nI i)), (0, .ref 191), (1, .ref (b + 1)), (2, .int (nI P))]) (st' := [.int (nI i), .ref ((b + 4) + 1), .int (nI (K i)), .int 1, .ref 191]) (H' := _) (kc' := 0) (ks' := 0) rfl ?_
        refine RQ.ialdN (j := i) rfl ((f2 (b + 4) (by omega) (by omega) (by omega) (by omega)).trans hb.2.2.2.2) (by omega) (by decide) ?_
        refine RQ.blk 2 (pc' := 91) (lv' := [(5, .int 1), (4, .int (nI (K i + ((E i).getD 0)))), (3, .int (nI i)), (0, .ref 191), (1, .ref (b + 1)), (2, .int (nI P))]) (st' := [.int (if lI (E i) < 0 then 0 else lI (E i)), .int (nI (K i)), .int 1, .ref 191]) (H' := _) (kc' := 0) (ks' := 0) rfl ?_
        rw [maxL (l := E i) (by omega)]
        refine RQ.blk 3 (pc' := 94) (lv' := [(5, .int 1), (4, .int (nI (K i + ((E i).getD 0)))), (3, .int (nI i)), (0, .ref 191), (1, .ref (b + 1)), (2, .int (nI P))]) (st' := [.int (nI P + 1), .int (nI ((E i).getD 0)), .int (nI (K i)), .int 1, .ref 191]) (H' := _) (kc' := 0) (ks' := 0) rfl ?_
        rw [show (nI P + 1 : Int32) = nI (P + 1) from nI_add P 1]
        refine RQ.call (v := none) (st' := []) rfl rfl rfl rfl rfl rfl (args_v [.int (nI (P + 1)), .int (nI ((E i).getD 0)), .int (nI (K i)), .int 1] [] rfl rfl (Nat.le_of_ble_eq_true rfl) rfl ((f2 190 (by decide) (by decide) (by decide) (by omega)).trans hG) (Nat.le_of_ble_eq_true rfl)) (rc_head (k := 1) (n := K i) (l := (E i).getD 0) (m := P + 1) (mp := mp) (hv := hv) ((f2 190 (by decide) (by decide) (by decide) (by omega)).trans hG) hp2) ?_
        refine RQ.blk 1 (pc' := 98) (lv' := [(5, .int 1), (4, .int (nI (K i + ((E i).getD 0)))), (3, .int (nI i)), (0, .ref 191), (1, .ref (b + 1)), (2, .int (nI P))]) (st' := [.ref (b + 1)]) (H' := _) (kc' := 0) (ks' := 0) rfl ?_
        refine RQ.get (ci := 0) rfl ((set_far (by omega)).trans ((f2 b (by omega) (by omega) (by omega) (by omega)).trans hb.1)) rfl rfl ?_
        refine RQ.blk 1 (pc' := 102) (lv' := [(5, .int 1), (4, .int (nI (K i + ((E i).getD 0)))), (3, .int (nI i)), (0, .ref 191), (1, .ref (b + 1)), (2, .int (nI P))]) (st' := [.ref (b + 1), .ref ((b + 1) + 1)]) (H' := _) (kc' := 0) (ks' := 0) rfl ?_
        refine RQ.get (ci := 0) rfl ((set_far (by omega)).trans ((f2 b (by omega) (by omega) (by omega) (by omega)).trans hb.1)) rfl rfl ?_
        refine RQ.blk 1 (pc' := 106) (lv' := [(5, .int 1), (4, .int (nI (K i + ((E i).getD 0)))), (3, .int (nI i)), (0, .ref 191), (1, .ref (b + 1)), (2, .int (nI P))]) (st' := [.int (nI i), .ref ((b + 2) + 1), .ref ((b + 1) + 1)]) (H' := _) (kc' := 0) (ks' := 0) rfl ?_
        refine RQ.ialdN (j := i) rfl ((set_far (by omega)).trans ((f2 (b + 2) (by omega) (by omega) (by omega) (by omega)).trans hb.2.2.1)) (by omega) (by decide) ?_
        refine RQ.blk 1 (pc' := 108) (lv' := [(5, .int 1), (4, .int (nI (K i + ((E i).getD 0)))), (3, .int (nI i)), (0, .ref 191), (1, .ref (b + 1)), (2, .int (nI P))]) (st' := [.ref 191, .int (nI (S i)), .ref ((b + 1) + 1)]) (H' := _) (kc' := 0) (ks' := 0) rfl ?_
        refine RQ.get (ci := 4) rfl ((set_far (by decide)).trans ((f2 190 (by decide) (by decide) (by decide) (by omega)).trans hG)) rfl rfl ?_
        refine RQ.blk 2 (pc' := 115) (lv' := [(5, .int 1), (4, .int (nI (K i + ((E i).getD 0)))), (3, .int (nI i)), (0, .ref 191), (1, .ref (b + 1)), (2, .int (nI P))]) (st' := [.int (nI (K i + ((E i).getD 0))), .int 8, .ref 192, .int (nI (S i)), .ref ((b + 1) + 1)]) (H' := _) (kc' := 0) (ks' := 0) rfl ?_
        refine RQ.call (v := none) (st' := []) rfl rfl rfl rfl rfl rfl rfl (rc_copy (a := b + 1) (b := 191) (na := 4100) (nb := 2048) (i := S i) (j := 8) (k := K i + (E i).getD 0) ((set_far (by omega)).trans ((f2 (b + 1) (by omega) (by omega) (by omega) (by omega)).trans hb.2.1)) (get_set hp2) (by decide) (by decide) (by omega) (by omega)) ?_
        rw [set_set]
        have hS3 := hS2.page (cpy D (S i) (hdF pg2 1 (K i) ((E i).getD 0) (P + 1)) 8 (K i + (E i).getD 0))
        have f3 : ∀ a, ¬ (71 ≤ a ∧ a < 74) → ¬ (83 ≤ a ∧ a < 88) → a ≠ 191 → a ≠ b + 5 → (H2.set 191 (kB 2048 (cpy D (S i) (hdF pg2 1 (K i) ((E i).getD 0) (P + 1)) 8 (K i + (E i).getD 0))))[a]? = H[a]? := fun a a1 a2 a3 a4 => (set_far a3).trans (f2 a a1 a2 a3 a4)
        have g53 : (H2.set 191 (kB 2048 (cpy D (S i) (hdF pg2 1 (K i) ((E i).getD 0) (P + 1)) 8 (K i + (E i).getD 0))))[b + 5]? = _ := (set_far (by omega)).trans g52
        have hp3 : (H2.set 191 (kB 2048 (cpy D (S i) (hdF pg2 1 (K i) ((E i).getD 0) (P + 1)) 8 (K i + (E i).getD 0))))[191]? = some (kB 2048 (cpy D (S i) (hdF pg2 1 (K i) ((E i).getD 0) (P + 1)) 8 (K i + (E i).getD 0))) := get_set hp2
        show RQ _ _ _ _ _ _ (H2.set 191 (kB 2048 (cpy D (S i) (hdF pg2 1 (K i) ((E i).getD 0) (P + 1)) 8 (K i + (E i).getD 0)))) _ _ _
        generalize (H2.set 191 (kB 2048 (cpy D (S i) (hdF pg2 1 (K i) ((E i).getD 0) (P + 1)) 8 (K i + (E i).getD 0)))) = H3 at hS3 f3 g53 hp3 ⊢
        obtain ⟨⟨ms3, mt3, sq3, tu3, lg3, hY3, hlg3, hlc3⟩, htp3, -⟩ := hS3.lay
        have hrl : sl (numF (cpy D (S i) (hdF pg2 1 (K i) ((E i).getD 0) (P + 1)) 8 (K i + (E i).getD 0)) (eLen e + 9 - 1) 1 (nI 90) 1) 0 (eLen e + 9) = encL (recE (P + 1) e) := by
          have hrec : recE (P + 1) e = (1, e.1, (e.2.getD []).length, P + 1, e.2.getD []) := by
            unfold recE
            rw [e3] at hE
            cases hv2 : e.2 with
            | none => rw [hv2] at hE; exact absurd rfl hE
            | some l => rfl
          rw [hrec, e2, ← hgd, show e.1.length + (e.2.getD []).length = eLen e from rfl]
          exact rec_page (by omega) (by omega) (by omega) (by omega) rfl (by rw [e1]; exact e4)
        have hft3 : true = true ∧ eLen e + 9 ≤ 2048 - 0 := by rw [hel]; exact hft2
        refine RQ.blk 1 (pc' := 119) (lv' := [(5, .int 1), (4, .int (nI (K i + ((E i).getD 0)))), (3, .int (nI i)), (0, .ref 191), (1, .ref (b + 1)), (2, .int (nI P))]) (st' := [.ref (b + 1)]) (H' := _) (kc' := 0) (ks' := 0) rfl ?_
        refine RQ.get (ci := 0) rfl ((f3 b (by omega) (by omega) (by omega) (by omega)).trans hb.1) rfl rfl ?_
        refine RQ.blk 2 (pc' := 124) (lv' := [(5, .int 1), (4, .int (nI (K i + ((E i).getD 0)))), (3, .int (nI i)), (0, .ref 191), (1, .ref (b + 1)), (2, .int (nI P))]) (st' := [.ref 191, .int (nI i), .ref ((b + 5) + 1)]) (H' := _) (kc' := 0) (ks' := 0) rfl ?_
        refine RQ.get (ci := 4) rfl ((f3 190 (by decide) (by decide) (by decide) (by omega)).trans hG) rfl rfl ?_
        have hlen1 : 1 ≤ lgs2.length := by
          have hw0 := hft3.1
          obtain ⟨gi, s, z1, z2, z3⟩ := hS3.1.2.2.2.1.2 hw0
          have hFc := hS3.1.2.2.2.1.1
          rw [z1] at hFc
          have := get_lt hFc.last.1
          omega
        refine RQ.call (v := some (.int (nI (lg3 (lgs2.length - 1) * 2048 + 0)))) (st' := [.int (nI i), .ref ((b + 5) + 1)]) rfl rfl rfl rfl rfl rfl (args_v [] [.int (nI i), .ref ((b + 5) + 1)] rfl rfl (Nat.le_of_ble_eq_true rfl) rfl hY3.1 (Nat.le_of_ble_eq_true rfl)) (rc_point hY3 hB hlen1 hlc3) ?_
        refine RQ.iastN (j := i) rfl g53 (by omega) (by decide) ?_
        rw [up_nI]
        refine RQ.blk 4 (pc' := 137) (lv' := [(5, .int 1), (4, .int (nI (K i + ((E i).getD 0)))), (3, .int (nI i)), (0, .ref 191), (1, .ref (b + 1)), (2, .int (nI P))]) (st' := [.int (nI (K i + ((E i).getD 0)) + 9), .ref 191]) (H' := _) (kc' := 0) (ks' := 0) rfl ?_
        rw [show (nI (K i + ((E i).getD 0)) + 9 : Int32) = nI (K i + ((E i).getD 0) + 9) from nI_add (K i + ((E i).getD 0)) 9]
        have hS4 := hS3.far (H' := (H3.set (b + 5) (kI 40 (fun j => nI ((va_up Q1 i (lg3 (lgs2.length - 1) * 2048 + 0)) j))))) (fun a ha => set_far (by omega))
        have f4 : ∀ a, ¬ (71 ≤ a ∧ a < 74) → ¬ (83 ≤ a ∧ a < 88) → a ≠ 191 → a ≠ b + 5 → (H3.set (b + 5) (kI 40 (fun j => nI ((va_up Q1 i (lg3 (lgs2.length - 1) * 2048 + 0)) j))))[a]? = H[a]? := fun a a1 a2 a3 a4 => (set_far a4).trans (f3 a a1 a2 a3 a4)
        have g54 : (H3.set (b + 5) (kI 40 (fun j => nI ((va_up Q1 i (lg3 (lgs2.length - 1) * 2048 + 0)) j))))[b + 5]? = _ := get_set g53
        have hp4 : (H3.set (b + 5) (kI 40 (fun j => nI ((va_up Q1 i (lg3 (lgs2.length - 1) * 2048 + 0)) j))))[191]? = _ := (set_far (by omega)).trans hp3
        show RQ _ _ _ _ _ _ (H3.set (b + 5) (kI 40 (fun j => nI ((va_up Q1 i (lg3 (lgs2.length - 1) * 2048 + 0)) j)))) _ _ _
        generalize (H3.set (b + 5) (kI 40 (fun j => nI ((va_up Q1 i (lg3 (lgs2.length - 1) * 2048 + 0)) j)))) = H4 at hS4 f4 g54 hp4 ⊢
        have hG4 := (f4 190 (by decide) (by decide) (by decide) (by omega)).trans hG
        obtain ⟨bl, hbl, hbl2, hblB, hApp⟩ := re_appS (sc := sc) (d := d + 2) (mp := mp) (hv := hv) (r := recE (P + 1) e) hS4 hft3 hG4 hB hbb hp4 (recE_ok hk41 (by omega) hP) recE_len.symm hrl
        rw [hel] at hApp
        have hlb : lg3 (lgs2.length - 1) = bl := hlg3 _ _ hbl
        refine RQ.callT (st' := []) rfl rfl rfl rfl rfl rfl (args_v [.int (nI (K i + ((E i).getD 0) + 9))] [] rfl rfl (Nat.le_of_ble_eq_true rfl) rfl hG4 (Nat.le_of_ble_eq_true rfl)) hApp rfl (fun H5 hx5 => ?_) (fun H9 hbad => Or.inr (by obtain ⟨z1, z2⟩ := hbad; exact ⟨_, rfl, Q1, i, hi, z1, ⟨_, (z2 (b + 5) (by omega) (by omega)).trans g54⟩, fun a a1 a2 a3 a4 => (z2 a a1 a3).trans (f4 a a1 a2 a3 a4)⟩))
        obtain ⟨c5, gs5, hS5, z5⟩ := hx5
        have htk : (ws.take i).length = i := by rw [List.length_take]; omega
        rw [← hlb] at hS5
        have hxs : adB (P + 1) Q1 0 (ws.take i) ++ [((lg3 (lgs2.length - 1) * 2048 + 0), recE (P + 1) e)] = adB (P + 1) (va_up Q1 i (lg3 (lgs2.length - 1) * 2048 + 0)) 0 (ws.take (i + 1)) := by
          have hte : ws.take (i + 1) = ws.take i ++ [e] := by rw [List.take_add_one, he]; rfl
          rw [hte, adB_snoc, adB_congr (Q' := (va_up Q1 i (lg3 (lgs2.length - 1) * 2048 + 0))) (Q := Q1) (ws.take i) 0 (fun j j1 j2 => up_ne (by rw [htk] at j2; omega)), Nat.zero_add, htk, up_at]
        rw [hxs] at hS5
        refine RQ.blk 1 (pc' := 143) (lv' := [(3, .int (nI i + 1)), (5, .int 1), (4, .int (nI (K i + ((E i).getD 0)))), (0, .ref 191), (1, .ref (b + 1)), (2, .int (nI P))]) (st' := []) (H' := _) (kc' := 0) (ks' := 0) rfl ?_
        rw [show (nI i + 1 : Int32) = nI (i + 1) from nI_add i 1]
        refine RQ.blk 1 (pc' := 2) (lv' := [(3, .int (nI (i + 1))), (5, .int 1), (4, .int (nI (K i + ((E i).getD 0)))), (0, .ref 191), (1, .ref (b + 1)), (2, .int (nI P))]) (st' := []) (H' := _) (kc' := 0) (ks' := 0) rfl ?_
        refine RQ.pick (a := [(3, .int (nI (i + 1))), (0, .ref 191), (1, .ref (b + 1)), (2, .int (nI P))]) [0, 3, 4, 5] [3, 5, 4, 0, 1, 2] rfl rfl (by decide) ?_
        refine ih (i + 1) H5 ⟨lgs2, l2, fr2, ff2, true, (0 + (K i + (E i).getD 0 + 9)), us2, c5, P, gs5, (va_up Q1 i (lg3 (lgs2.length - 1) * 2048 + 0)), by omega, hS5, (z5 (b + 5) (by omega) (by omega) (by omega)).trans g54, fun j hj => ?_, fun a a1 a2 a3 a4 => (z5 a a1 a3 (by omega)).trans (f4 a a1 a2 a3 a4)⟩ (by omega)
        by_cases hji : j = i
        · rw [hji, up_at, hlb]; omega
        · rw [up_ne hji]; exact hQ j (by omega)
  ·
    have hie : i = ws.length := by omega
    rw [hie, List.take_of_length_le (Nat.le_refl _), List.drop_of_length_le (Nat.le_refl _)] at hS
    have hS : StI B bb S0 P P1 rs lgs wr tp cf gs (opnN wr tp (szW ws)) (9 :: []) (adB (P + 1) Q1 0 ws) H1 lgs1 l1 fr1 ff1 wr1 tp1 us1 c1 P2 gs1 := hS
    rw [hie] at hQ
    refine RQ.blk 2 (pc' := 4) (lv' := [(3, .int (nI i)), (0, .ref 191), (1, .ref (b + 1)), (2, .int (nI P))]) (st' := [.ref (b + 1), .int (nI i)]) (H' := _) (kc' := 0) (ks' := 0) rfl ?_
    refine RQ.get (ci := 0) rfl ((f1 b (by omega) (by omega) (by omega) (by omega)).trans hb.1) rfl rfl ?_
    refine RQ.brT rfl rfl rfl (cT_ge i ws.length) ?_
    refine RQ.blk 1 (pc' := 147) (lv' := [(3, .int (nI i)), (0, .ref 191), (1, .ref (b + 1)), (2, .int (nI P))]) (st' := [.ref 191]) (H' := _) (kc' := 0) (ks' := 0) rfl ?_
    refine RQ.get (ci := 4) rfl ((f1 190 (by decide) (by decide) (by decide) (by omega)).trans hG) rfl rfl ?_
    refine RQ.blk 1 (pc' := 152) (lv' := [(3, .int (nI i)), (0, .ref 191), (1, .ref (b + 1)), (2, .int (nI P))]) (st' := [.int 9, .ref 84]) (H' := _) (kc' := 0) (ks' := 0) rfl ?_
    refine RQ.call (v := some (.int (if wr1 = true ∧ 9 ≤ 2048 - tp1 then 1 else 0))) (st' := []) rfl rfl rfl rfl rfl rfl (args_v [.int 9] [] rfl rfl (Nat.le_of_ble_eq_true rfl) rfl hY.1 (Nat.le_of_ble_eq_true rfl)) (rc_fits (n := 9) hY hB htp1 (by omega)) ?_
    by_cases hft : wr1 = true ∧ 9 ≤ 2048 - tp1
    · rw [if_pos hft]
      refine RQ.brT rfl rfl rfl (by decide) ?_
      refine RQ.blk 4 (pc' := 174) (lv' := [(3, .int (nI i)), (0, .ref 191), (1, .ref (b + 1)), (2, .int (nI P))]) (st' := [.ref (b + 1), .int 0, .int 3, .ref 191]) (H' := _) (kc' := 0) (ks' := 0) rfl ?_
      refine RQ.get (ci := 0) rfl ((f1 b (by omega) (by omega) (by omega) (by omega)).trans hb.1) rfl rfl ?_
      refine RQ.blk 3 (pc' := 180) (lv' := [(3, .int (nI i)), (0, .ref 191), (1, .ref (b + 1)), (2, .int (nI P))]) (st' := [.int (nI P + 1), .int (nI ws.length), .int 0, .int 3, .ref 191]) (H' := _) (kc' := 0) (ks' := 0) rfl ?_
      rw [show (nI P + 1 : Int32) = nI (P + 1) from nI_add P 1]
      refine RQ.call (v := none) (st' := []) rfl rfl rfl rfl rfl rfl (args_v [.int (nI (P + 1)), .int (nI ws.length), .int 0, .int 3] [] rfl rfl (Nat.le_of_ble_eq_true rfl) rfl ((f1 190 (by decide) (by decide) (by decide) (by omega)).trans hG) (Nat.le_of_ble_eq_true rfl)) (rc_head (k := 3) (n := 0) (l := ws.length) (m := P + 1) (mp := mp) (hv := hv) ((f1 190 (by decide) (by decide) (by decide) (by omega)).trans hG) hp1) ?_
      have hS3 := hS.page (hdF pg1 3 0 ws.length (P + 1))
      have f3 : ∀ a, ¬ (71 ≤ a ∧ a < 74) → ¬ (83 ≤ a ∧ a < 88) → a ≠ 191 → a ≠ b + 5 → (H1.set 191 (kB 2048 (hdF pg1 3 0 ws.length (P + 1))))[a]? = H[a]? := fun a a1 a2 a3 a4 => (set_far a3).trans (f1 a a1 a2 a3 a4)
      have g53 : (H1.set 191 (kB 2048 (hdF pg1 3 0 ws.length (P + 1))))[b + 5]? = _ := (set_far (by omega)).trans g5
      have hp3 : (H1.set 191 (kB 2048 (hdF pg1 3 0 ws.length (P + 1))))[191]? = some (kB 2048 (hdF pg1 3 0 ws.length (P + 1))) := get_set hp1
      show RQ _ _ _ _ _ _ (H1.set 191 (kB 2048 (hdF pg1 3 0 ws.length (P + 1)))) _ _ _
      generalize (H1.set 191 (kB 2048 (hdF pg1 3 0 ws.length (P + 1)))) = H3 at hS3 f3 g53 hp3 ⊢
      have hG3 := (f3 190 (by decide) (by decide) (by decide) (by omega)).trans hG
      obtain ⟨bl, hbl, hbl2, hblB, hApp⟩ := re_appS (sc := sc) (d := d + 2) (mp := mp) (hv := hv) (r := doneR ws.length (P + 1)) hS3 hft hG3 hB hbb hp3 (doneR_ok (by omega) hP) rfl (done_page (by omega) hP)
      refine RQ.blk 2 (pc' := 186) (lv' := [(3, .int (nI i)), (0, .ref 191), (1, .ref (b + 1)), (2, .int (nI P))]) (st' := [.int 9, .ref 191]) (H' := _) (kc' := 0) (ks' := 0) rfl ?_
      refine RQ.callT (st' := []) rfl rfl rfl rfl rfl rfl (args_v [.int 9] [] rfl rfl (Nat.le_of_ble_eq_true rfl) rfl hG3 (Nat.le_of_ble_eq_true rfl)) hApp rfl (fun H5 hx5 => ?_) (fun H9 hbad => Or.inr (by obtain ⟨z1, z2⟩ := hbad; exact ⟨_, rfl, Q1, ws.length, Nat.le_refl _, by rw [List.take_of_length_le (Nat.le_refl _)]; exact z1, ⟨_, (z2 (b + 5) (by omega) (by omega)).trans g53⟩, fun a a1 a2 a3 a4 => (z2 a a1 a3).trans (f3 a a1 a2 a3 a4)⟩))
      obtain ⟨c5, gs5, hS5, z5⟩ := hx5
      exact RQ.done (c := 0) (s := 0) rfl rfl rfl rfl (Or.inl ⟨_, rfl, _, _, _, _, _, _, _, _, _, _, Q1, _, hft.1, hS5, (z5 (b + 5) (by omega) (by omega) (by omega)).trans g53, hQ, fun a a1 a2 a3 a4 => (z5 a a1 a3 (by omega)).trans (f3 a a1 a2 a3 a4)⟩)
    · rw [if_neg hft]
      refine RQ.brF rfl rfl rfl (by decide) ?_
      refine RQ.blk 1 (pc' := 159) (lv' := [(3, .int (nI i)), (0, .ref 191), (1, .ref (b + 1)), (2, .int (nI P))]) (st' := [.ref 191]) (H' := _) (kc' := 0) (ks' := 0) rfl ?_
      have hRO := re_openS (sc := sc) (d := d) (mp := mp) (hv := hv) (n := 9) hS hft (by omega) ((f1 190 (by decide) (by decide) (by decide) (by omega)).trans hG) hB hB1 hbb (by omega)
      refine RQ.callT (st' := []) rfl rfl rfl rfl rfl rfl (args_v [] [] rfl rfl (Nat.le_of_ble_eq_true rfl) rfl ((f1 190 (by decide) (by decide) (by decide) (by omega)).trans hG) (Nat.le_of_ble_eq_true rfl)) hRO rfl (fun Hx hxx => ?_) (fun H9 hbad => Or.inr (by obtain ⟨z1, z2⟩ := hbad; exact ⟨_, rfl, Q1, ws.length, Nat.le_refl _, by rw [List.take_of_length_le (Nat.le_refl _)]; exact z1, ⟨Q1, (z2 (b + 5) (by omega) (by omega)).trans g5⟩, fun a a1 a2 a3 a4 => (z2 a a1 a2).trans (f1 a a1 a2 a3 a4)⟩))
      obtain ⟨⟨yf2, hy2⟩, zx, hSv⟩ := hxx
      refine RQ.blk 1 (pc' := 163) (lv' := [(3, .int (nI i)), (0, .ref 191), (1, .ref (b + 1)), (2, .int (nI P))]) (st' := [.ref 191]) (H' := _) (kc' := 0) (ks' := 0) rfl ?_
      refine RQ.get (ci := 4) rfl ((zx 190 (by decide) (by decide)).trans ((f1 190 (by decide) (by decide) (by decide) (by omega)).trans hG)) rfl rfl ?_
      refine RQ.blk 1 (pc' := 167) (lv' := [(3, .int (nI i)), (0, .ref 191), (1, .ref (b + 1)), (2, .int (nI P))]) (st' := [.int (nI P), .ref 84]) (H' := _) (kc' := 0) (ks' := 0) rfl ?_
      refine RQ.callT (st' := []) rfl rfl rfl rfl rfl rfl (args_v [.int (nI P)] [] rfl rfl (Nat.le_of_ble_eq_true rfl) rfl hy2 (Nat.le_of_ble_eq_true rfl)) hSv rfl (fun H2 hx2 => ?_) (fun H9 hbad => Or.inr (by obtain ⟨z1, z2⟩ := hbad; exact ⟨_, rfl, Q1, ws.length, Nat.le_refl _, by rw [List.take_of_length_le (Nat.le_refl _)]; exact z1, ⟨Q1, (z2 (b + 5) (by omega) (by omega)).trans g5⟩, fun a a1 a2 a3 a4 => (z2 a a1 a2).trans (f1 a a1 a2 a3 a4)⟩))
      obtain ⟨lgs2, l2, fr2, ff2, us2, c2, gs2, hS2, z2⟩ := hx2
      have f2 : ∀ a, ¬ (71 ≤ a ∧ a < 74) → ¬ (83 ≤ a ∧ a < 88) → a ≠ 191 → a ≠ b + 5 → H2[a]? = H[a]? := fun a a1 a2 a3 a4 => (z2 a a1 a2).trans (f1 a a1 a2 a3 a4)
      obtain ⟨⟨ms2, mt2, sq2, tu2, lg2, hY2, hlg2, hlc2⟩, htp2, pg2, hp2⟩ := hS2.lay
      have hft2 : true = true ∧ 9 ≤ 2048 - 0 := ⟨rfl, by omega⟩
      have g52 := (z2 (b + 5) (by omega) (by omega)).trans g5
      refine RQ.blk 4 (pc' := 174) (lv' := [(3, .int (nI i)), (0, .ref 191), (1, .ref (b + 1)), (2, .int (nI P))]) (st' := [.ref (b + 1), .int 0, .int 3, .ref 191]) (H' := _) (kc' := 0) (ks' := 0) rfl ?_
      refine RQ.get (ci := 0) rfl ((f2 b (by omega) (by omega) (by omega) (by omega)).trans hb.1) rfl rfl ?_
      refine RQ.blk 3 (pc' := 180) (lv' := [(3, .int (nI i)), (0, .ref 191), (1, .ref (b + 1)), (2, .int (nI P))]) (st' := [.int (nI P + 1), .int (nI ws.length), .int 0, .int 3, .ref 191]) (H' := _) (kc' := 0) (ks' := 0) rfl ?_
      rw [show (nI P + 1 : Int32) = nI (P + 1) from nI_add P 1]
      refine RQ.call (v := none) (st' := []) rfl rfl rfl rfl rfl rfl (args_v [.int (nI (P + 1)), .int (nI ws.length), .int 0, .int 3] [] rfl rfl (Nat.le_of_ble_eq_true rfl) rfl ((f2 190 (by decide) (by decide) (by decide) (by omega)).trans hG) (Nat.le_of_ble_eq_true rfl)) (rc_head (k := 3) (n := 0) (l := ws.length) (m := P + 1) (mp := mp) (hv := hv) ((f2 190 (by decide) (by decide) (by decide) (by omega)).trans hG) hp2) ?_
      have hS3 := hS2.page (hdF pg2 3 0 ws.length (P + 1))
      have f3 : ∀ a, ¬ (71 ≤ a ∧ a < 74) → ¬ (83 ≤ a ∧ a < 88) → a ≠ 191 → a ≠ b + 5 → (H2.set 191 (kB 2048 (hdF pg2 3 0 ws.length (P + 1))))[a]? = H[a]? := fun a a1 a2 a3 a4 => (set_far a3).trans (f2 a a1 a2 a3 a4)
      have g53 : (H2.set 191 (kB 2048 (hdF pg2 3 0 ws.length (P + 1))))[b + 5]? = _ := (set_far (by omega)).trans g52
      have hp3 : (H2.set 191 (kB 2048 (hdF pg2 3 0 ws.length (P + 1))))[191]? = some (kB 2048 (hdF pg2 3 0 ws.length (P + 1))) := get_set hp2
      show RQ _ _ _ _ _ _ (H2.set 191 (kB 2048 (hdF pg2 3 0 ws.length (P + 1)))) _ _ _
      generalize (H2.set 191 (kB 2048 (hdF pg2 3 0 ws.length (P + 1)))) = H3 at hS3 f3 g53 hp3 ⊢
      have hG3 := (f3 190 (by decide) (by decide) (by decide) (by omega)).trans hG
      obtain ⟨bl, hbl, hbl2, hblB, hApp⟩ := re_appS (sc := sc) (d := d + 2) (mp := mp) (hv := hv) (r := doneR ws.length (P + 1)) hS3 hft2 hG3 hB hbb hp3 (doneR_ok (by omega) hP) rfl (done_page (by omega) hP)
      refine RQ.blk 2 (pc' := 186) (lv' := [(3, .int (nI i)), (0, .ref 191), (1, .ref (b + 1)), (2, .int (nI P))]) (st' := [.int 9, .ref 191]) (H' := _) (kc' := 0) (ks' := 0) rfl ?_
      refine RQ.callT (st' := []) rfl rfl rfl rfl rfl rfl (args_v [.int 9] [] rfl rfl (Nat.le_of_ble_eq_true rfl) rfl hG3 (Nat.le_of_ble_eq_true rfl)) hApp rfl (fun H5 hx5 => ?_) (fun H9 hbad => Or.inr (by obtain ⟨z1, z2⟩ := hbad; exact ⟨_, rfl, Q1, ws.length, Nat.le_refl _, by rw [List.take_of_length_le (Nat.le_refl _)]; exact z1, ⟨_, (z2 (b + 5) (by omega) (by omega)).trans g53⟩, fun a a1 a2 a3 a4 => (z2 a a1 a3).trans (f3 a a1 a2 a3 a4)⟩))
      obtain ⟨c5, gs5, hS5, z5⟩ := hx5
      exact RQ.done (c := 0) (s := 0) rfl rfl rfl rfl (Or.inl ⟨_, rfl, _, _, _, _, _, _, _, _, _, _, Q1, _, rfl, hS5, (z5 (b + 5) (by omega) (by omega) (by omega)).trans g53, hQ, fun a a1 a2 a3 a4 => (z5 a a1 a3 (by omega)).trans (f3 a a1 a2 a3 a4)⟩)
