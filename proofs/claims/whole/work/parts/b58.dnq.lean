/-! ===== the fallen store against the reference; commit's failing ends, whole; by hand ===== -/
/-- the store has fallen: what the chip holds is what the reference kept -/
def DnQ (ky : List (List Nat)) (M : Nat) (H : aH) (B N P : Nat) (op : Nat → Bool) (sm : Nat → Nat) (ms : List aMV) (kd pa sz nl : Nat → Nat) (nm : Nat → Int8) (ps : List aPc) : Prop := ∃ bb S lgs rs c vs tss L ms0, bb % 2 ^ 32 < 2 ^ 31 ∧ (∀ t, t < 8 → op t = false) ∧ FaS ky H B N bb S op sm P c lgs rs vs tss L ∧ RlX op sm ms0 kd pa sz nl nm ps c vs ∧ ms = ms0.filter (keepM op sm P (kmM ms0)) ∧ RmK B M S lgs rs 0 ∧ VersIs H N []
def dnO (op : Nat → Bool) : Nat → Bool := fun j => if j < 8 then false else op j
theorem dnO_no {op : Nat → Bool} {t : Nat} (h : t < 8) : dnO op t = false := if_pos h
theorem RlX.cl {op op' : Nat → Bool} {sm : Nat → Nat} {ms : List aMV} {kd pa sz nl : Nat → Nat} {nm : Nat → Int8} {ps : List aPc} {c : Nat → Int8} {vs : List aV} (h : RlX op sm ms kd pa sz nl nm ps c vs) (ho : ∀ t, t < 8 → op' t = false) : RlX op' sm ms kd pa sz nl nm ps c vs := ⟨h.1, h.2.1.sight (fun t ht e => by rw [ho t ht] at e; exact absurd e Bool.false_ne_true), h.2.2⟩
theorem cut_D {ky : List (List Nat)} {M : Nat} {H : aH} {B N bb P : Nat} {op : Nat → Bool} {sm : Nat → Nat} {ms : List aMV} {kd pa sz nl : Nat → Nat} {nm : Nat → Int8} {ps : List aPc} (h : CutP ky M H B N bb P (dnO op) sm (Xb (RlX op sm ms kd pa sz nl nm ps))) (hb : bb % 2 ^ 32 < 2 ^ 31) (hV : VersIs H N []) : DnQ ky M H B N P (dnO op) sm (ms.filter (keepM (dnO op) sm P (kmM ms))) kd pa sz nl nm ps := by
  obtain ⟨S, lgs, rs, c, vs, tss, L, h1, h2, h3, h4⟩ := h
  exact ⟨bb, S, lgs, rs, c, vs, tss, L, ms, hb, fun t ht => dnO_no ht, h1, h3.1.cl (fun t ht => dnO_no ht), rfl, h4, hV⟩
/-- a change that the chip has, though the call failed -/
theorem lat_D {ky : List (List Nat)} {M : Nat} {H : aH} {B N P : Nat} {op : Nat → Bool} {sm : Nat → Nat} {ws : List aE} {ms0 : List aMV} {kd pa sz nl : Nat → Nat} {nm : Nat → Int8} {ps : List aPc} {X : (Nat → Int8) → List aV → Prop} (h : LatP ky M H B N P (dnO op) sm ws (Xa X)) (h1W : OneW ws) (hV : VersIs H N []) (hX : ∀ c c1 vs (Q : Nat → Nat), X c vs → SrtV (inclV (P + 1) Q 0 ws vs) → InV c c1 vs (inclV (P + 1) Q 0 ws vs) ws → (∀ i e l, ws[i]? = some e → e.2 = some l → valB c1 (e.1, P + 1, Q i, e.2.map List.length, true) = l) → (∀ v ∈ vs, v.2.2.2.1 ≠ none → valB c1 v = valB c v) → (∀ v ∈ vs, VOk ky P v) → RlX (dnO op) sm ms0 kd pa sz nl nm ps c1 (inclV (P + 1) Q 0 ws vs)) : DnQ ky M H B N (P + 1) (dnO op) sm (ms0.filter (keepM (dnO op) sm (P + 1) (kmM ms0))) kd pa sz nl nm ps := by
  obtain ⟨bb, S, lgs, rs, c, c1, vs, tss, L, Q, h0, h1, h2, h3, h4, h5, h6, h7, h8⟩ := h
  exact ⟨bb, S, lgs, rs, c1, _, tss, L, ms0, h0, fun t ht => dnO_no ht, h1, hX c c1 vs Q h7.1 (SrtV.incl _ 0 h6 h1W (fun w hw _ _ _ => by have := (h5 w hw).1; omega)) h2 h3 h4 h5, rfl, h8, hV⟩
theorem com_rel0 {op op' : Nat → Bool} {sm : Nat → Nat} {P : Nat} {Q : Nat → Nat} {c c1 : Nat → Int8} {vs : List aV} {ms : List aMV} {kd pa sz nl : Nat → Nat} {nm : Nat → Int8} {ps : List aPc} {ws : List aE} (h : RlX op sm ms kd pa sz nl nm ps c vs) (ho : ∀ t, t < 8 → op' t = true → op t = true) (hs1 : SrtV (inclV (P + 1) Q 0 (ws.map pfx) vs)) (hI : InV c c1 vs (inclV (P + 1) Q 0 (ws.map pfx) vs) (ws.map pfx)) (hnew : ∀ i e l, (ws.map pfx)[i]? = some e → e.2 = some l → valB c1 (e.1, P + 1, Q i, e.2.map List.length, true) = l) (hold : ∀ v ∈ vs, v.2.2.2.1 ≠ none → valB c1 v = valB c v) (hP : ∀ v ∈ vs, v.2.1 ≤ P) : RlX op' sm (ms ++ addM (P + 1) ws) kd pa sz nl nm ps c1 (inclV (P + 1) Q 0 (ws.map pfx) vs) := by
  obtain ⟨h1, h2, h3, h4⟩ := h
  have hlt : ∀ v ∈ vs, v.2.1 < P + 1 := fun v hv => by have := hP v hv; omega
  have r1 := (h2.incl h1.one hlt hold hnew).sight (op' := op') (sm' := sm) (fun t ht e => Or.inl ⟨ho t ht e, rfl⟩)
  have hk : ∀ e ∈ ws.map pfx, e.1.headD 0 = 0 := fun e he => by
    obtain ⟨w, hw, rfl⟩ := List.mem_map.mp he
    rfl
  exact ⟨hs1, r1, h3.user hI (fun e he => by rw [hk e he]; decide), h4.user hI (fun e he => by rw [hk e he]; decide)⟩
theorem Rdy.weak {ky : List (List Nat)} {M : Nat} {H : aH} {B N bb P : Nat} {op : Nat → Bool} {sm : Nat → Nat} {ws : List aE} {X X' : (Nat → Int8) → List aV → Prop} (h : Rdy ky M H B N bb P op sm ws X) (hx : ∀ c vs, X c vs → X' c vs) : Rdy ky M H B N bb P op sm ws X' := by
  obtain ⟨S, lgs, fr, ff, wr, tp, rs, us, c, P1, gs, vs, tss, L, h1, h2, h3, h4, h5, h6, h7, h8, h9, h10⟩ := h
  exact ⟨S, lgs, fr, ff, wr, tp, rs, us, c, P1, gs, vs, tss, L, h1, h2, h3, h4, h5, h6, h7, h8, hx c vs h9, h10⟩
theorem rx_commitLQ {ky : List (List Nat)} {M0 M : Nat} {sc : Nat × (Nat → Int32)} {d : Nat} {H : aH} {B P bb : Nat} {cp cb : Nat} {tb : Nat → Int8} {l : Nat} {g : Nat → Int8} {rl : Nat} {wss : Nat → List aE} {t0 : aTr} {t N : Nat} {op : Nat → Bool} {sm : Nat → Nat} {ms : List aMV} {kd pa sz nl : Nat → Nat} {nm : Nat → Int8} {ps : List aPc} (h : ClsA H B P 1 1 1 cp cb tb l g rl wss t0) (hU : UpQ ky M0 H B N bb P op sm (nB B) (Xb (RlX op sm ms kd pa sz nl nm ps))) (hM : PrM op sm P ms) (hp : OneP ps) (hnd : ndR op sm (-1) P ms kd nl ps ≤ B * 256) (hsm : ∀ t, t < 8 → sm t < 2 ^ 30) (ht : t < 8) (hop : op t = true) (hw0 : ¬ wss t = []) (hw40 : (wss t).length ≤ 40) (hcol : (wss t).any (fun e => colM ms P (sm t) e.1) = false) (h1W : OneW ((wss t).map pfx)) (hP : P + 1 < 2 ^ 30) (hB : B = 64 ∨ B = 96 ∨ B = 128) (hbb : bb < 2 ^ 31) (hK : ∀ e ∈ (wss t).map pfx, EntK ky e) (hby : ∀ e ∈ wss t, ∀ l, e.2 = some l → ∀ b ∈ l, b < 256) (hle : ndR op sm (nI t) (P + 1) (ms ++ addM (P + 1) (wss t)) kd nl ps ≤ B * 256) (hM0 : M0 + 40 ≤ M) (hM1 : M < 2 ^ 30) (hN : nB B + 40 ≤ N) (hN2 : N < 65536) (hws : ∀ w tp, opnN w tp (szW ((wss t).map pfx)) ≤ 5) : RX sc (d + 8) mr_77 [.ref 1, .int (nI t)] H 1 (fun H' => DnQ ky M H' B N (P + 1) (dnO op) sm ((ms ++ addM (P + 1) (wss t)).filter (keepM (dnO op) sm (P + 1) (kmM (ms ++ addM (P + 1) (wss t))))) kd pa sz nl nm ps ∧ ClsA H' B 0 0 0 1 cp cb tb 0 g 0 wss (T0 t0) ∧ ∀ a, 195 ≤ a → H'[a]? = H[a]?) := by
  have hU' := hU
  obtain ⟨S, lgs, fr, ff, wr, tp, rs, us, c, P1, gs, vs, tss, L, u1, u2, u3, u4, u5, u6⟩ := hU'
  have hV : ∀ v ∈ vs, VOk ky P v := u2.2.2.2.2.2.2.1
  have hX := xc_b (xc_rel (kd := kd) (pa := pa) (sz := sz) (nl := nl) (nm := nm) (ps := ps) hM)
  have hXN : ∀ c vs, (∀ v ∈ vs, VOk ky P v) → Xb (RlX op sm ms kd pa sz nl nm ps) c vs → sumN op sm (-1) P (kmV vs) vs ≤ B * 256 := fun c vs hv hx => by
    rw [rlx_need hv hx.1 hp]
    exact hnd
  have hcV : ((wss t).any (fun e => colV vs P (sm t) e.1)) = false := by
    rw [← hcol]
    congr 1
    funext e
    exact rel_col u3.1.2.1 u3.1.1.one ht hop (fun v hv => (hV v hv).1) e.1
  have hleV : sumN op sm (nI t) (P + 1) (kmV (inclV (P + 1) (fun _ => 0) 0 ((wss t).map pfx) vs)) (inclV (P + 1) (fun _ => 0) 0 ((wss t).map pfx) vs) ≤ B * 256 := by
    rw [need_bat u3.1 hV (UpQ.pl (M := 0) u1 (by omega)) hp h1W hK hby hw40]
    exact hle
  have hRM := (room_ok (sc := sc) (d := d) (ws := (wss t).map pfx) hX hXN h.1 hU hB hbb hM0 hM1 (by omega) (fun t ht => by have := hsm t ht; omega) (by rw [List.length_map]; omega) hN2 hws).mono (ok' := fun H' => Rdy ky M H' B N bb P op sm ((wss t).map pfx) (Xa (Xb (RlX op sm ms kd pa sz nl nm ps))) ∧ ClsA H' B P 1 1 1 cp cb tb l g rl wss t0 ∧ ∀ a, 195 ≤ a → H'[a]? = H[a]?) (bad' := fun _ => False) (fun H' q => ⟨q.1, h.frU q.2, fun a ha => q.2 a (Or.inr ha)⟩) (fun _ q => q)
  obtain ⟨H', k1, k3, k4, k5, k6⟩ := rx_commitL h u1.2.2.2.2.2.2.2.2.1 hsm u1.2.2.2.2.2.2.1 (fun v hv => (hV v hv).1) ht hop hw0 hcV h1W hP (by omega) (by omega) hbb hK hleV hRM
  exact ⟨H', k1, lat_D (op := op) k3 h1W k5 (fun c c1 vs Q hx hs1 hI hnew hold hP => com_rel0 hx.1 (fun j hj e => by rw [dnO_no hj] at e; exact absurd e Bool.false_ne_true) hs1 hI hnew hold (fun v hv => (hP v hv).1)), k4, k6⟩
theorem rx_commitCQ {ky : List (List Nat)} {M0 M : Nat} {sc : Nat × (Nat → Int32)} {d : Nat} {H : aH} {B P bb : Nat} {cp cb : Nat} {tb : Nat → Int8} {l : Nat} {g : Nat → Int8} {rl : Nat} {wss : Nat → List aE} {t0 : aTr} {t N : Nat} {op : Nat → Bool} {sm : Nat → Nat} {ms : List aMV} {kd pa sz nl : Nat → Nat} {nm : Nat → Int8} {ps : List aPc} (h : ClsA H B P 1 1 0 cp cb tb l g rl wss t0) (hU : UpQ ky M0 H B N bb P op sm (nB B) (Xb (RlX op sm ms kd pa sz nl nm ps))) (hM : PrM op sm P ms) (hp : OneP ps) (hnd : ndR op sm (-1) P ms kd nl ps ≤ B * 256) (hsm : ∀ t, t < 8 → sm t < 2 ^ 30) (ht : t < 8) (hop : op t = true) (hw0 : ¬ wss t = []) (hw40 : (wss t).length ≤ 40) (hcol : (wss t).any (fun e => colM ms P (sm t) e.1) = false) (h1W : OneW ((wss t).map pfx)) (hP : P + 1 < 2 ^ 30) (hB : B = 64 ∨ B = 96 ∨ B = 128) (hcb : cb < 2 ^ 31) (hcp : cp < 2 ^ 31) (hK : ∀ e ∈ (wss t).map pfx, EntK ky e) (hby : ∀ e ∈ wss t, ∀ l, e.2 = some l → ∀ b ∈ l, b < 256) (hle : ndR op sm (nI t) (P + 1) (ms ++ addM (P + 1) (wss t)) kd nl ps ≤ B * 256) (hM0 : M0 + 40 ≤ M) (hM1 : M < 2 ^ 30) (hN : nB B + 40 ≤ N) (hN2 : N < 65536) (hws : ∀ w tp, opnN w tp (szW ((wss t).map pfx)) ≤ 5) : RX2 sc (d + 8) mr_77 [.ref 1, .int (nI t)] H 1 (fun H' => DnQ ky M H' B N P (dnO op) sm (ms.filter (keepM (dnO op) sm P (kmM ms))) kd pa sz nl nm ps ∧ ClsA H' B 0 0 0 0 cp cb tb 0 g 0 wss (T0 t0) ∧ ∀ a, 195 ≤ a → H'[a]? = H[a]?) := by
  have hU' := hU
  obtain ⟨S, lgs, fr, ff, wr, tp, rs, us, c, P1, gs, vs, tss, L, u1, u2, u3, u4, u5, u6⟩ := hU'
  have hV : ∀ v ∈ vs, VOk ky P v := u2.2.2.2.2.2.2.1
  have hX := xc_b (xc_rel (kd := kd) (pa := pa) (sz := sz) (nl := nl) (nm := nm) (ps := ps) hM)
  have hXN : ∀ c vs, (∀ v ∈ vs, VOk ky P v) → Xb (RlX op sm ms kd pa sz nl nm ps) c vs → sumN op sm (-1) P (kmV vs) vs ≤ B * 256 := fun c vs hv hx => by
    rw [rlx_need hv hx.1 hp]
    exact hnd
  have hcV : ((wss t).any (fun e => colV vs P (sm t) e.1)) = false := by
    rw [← hcol]
    congr 1
    funext e
    exact rel_col u3.1.2.1 u3.1.1.one ht hop (fun v hv => (hV v hv).1) e.1
  have hleV : sumN op sm (nI t) (P + 1) (kmV (inclV (P + 1) (fun _ => 0) 0 ((wss t).map pfx) vs)) (inclV (P + 1) (fun _ => 0) 0 ((wss t).map pfx) vs) ≤ B * 256 := by
    rw [need_bat u3.1 hV (UpQ.pl (M := 0) u1 (by omega)) hp h1W hK hby hw40]
    exact hle
  have hlt : cp % (((wss t).map pfx).length + 1) ≤ ((wss t).map pfx).length := by have := Nat.mod_lt cp (show 0 < ((wss t).map pfx).length + 1 by omega); omega
  have hl40 : ((wss t).map pfx).length ≤ 40 := by rw [List.length_map]; exact hw40
  have hfr : ∀ H2, FrU (H.set 71 (kO 1 [.ref 73, .ref 74, .int (lI (some (cp % (((wss t).map pfx).length + 1)))), .int (nI cb), .int (nI 0)])) H2 → FrU H H2 := fun H2 k3 a ha => (k3 a ha).trans (set_far (by omega))
  have hRM := (room_Q (sc := sc) (d := d) (ws := (wss t).map pfx) hX hXN ((set_far (by decide)).trans h.1) (hU.arm hlt (by omega) hcb) hB (by omega) hM0 hM1 (by omega) (fun t ht => by have := hsm t ht; omega) (by omega) hN2 hws).mono (ok' := fun H' => Rdy ky M H' B N (cb + 2 ^ 32 * (((wss t).map pfx).length + 2)) P op sm ((wss t).map pfx) (Xb (RlX op sm ms kd pa sz nl nm ps)) ∧ ClsA H' B P 1 1 0 cp cb tb l g rl wss t0 ∧ ∀ a, 195 ≤ a → H'[a]? = H[a]?) (bad' := fun H' => CutP ky M H' B N (cb + 2 ^ 32 * (((wss t).map pfx).length + 2)) P op sm (Xb (RlX op sm ms kd pa sz nl nm ps)) ∧ ClsA H' B P 1 1 0 cp cb tb l g rl wss t0 ∧ ∀ a, 195 ≤ a → H'[a]? = H[a]?) (fun H' q => ⟨q.1.weak (fun _ _ e => e.1), h.frU (hfr H' q.2), fun a ha => hfr H' q.2 a (Or.inr ha)⟩) (fun H' q => ⟨q.1, h.frU (hfr H' q.2), fun a ha => hfr H' q.2 a (Or.inr ha)⟩)
  obtain ⟨tf, pq, ms9, mt, sq, tu, -, hch, -⟩ := u1.1
  obtain ⟨H', k1, k3, k4, k5, k6⟩ := rx_commitC h u1.2.2.2.2.2.2.2.2.1 hsm u1.2.2.2.2.2.2.1 (fun v hv => (hV v hv).1) ht hop hw0 hcV h1W hP (by omega) (by omega) hcb hcp rfl hch hK hX.1 hleV hRM
  exact ⟨H', k1, cut_D (op := op) k3 (by omega) k5, k4, k6⟩
