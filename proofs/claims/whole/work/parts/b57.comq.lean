/-! ===== commit that comes through, from the running store's state to the next; by hand ===== -/
theorem opA_close {op : Nat → Bool} {t : Nat} {p : Nat → Bool} (ht : t < 8) : opA op (nI t) p 8 = opA (va_up op t false) (-1) p 8 := by
  have h1 : ∀ i, i < 8 → ∀ t, t < 8 → i ≠ t → decide (nI i = nI t) = false := by decide
  have h2 : ∀ i, i < 8 → decide (nI i = -1) = false := by decide
  unfold opA
  rw [Bool.eq_iff_iff, List.any_eq_true, List.any_eq_true]
  refine exists_congr (fun i => and_congr_right (fun hi => ?_))
  have hi8 : i < 8 := List.mem_range.mp hi
  rw [h2 i hi8]
  by_cases e : i = t
  · rw [e, va_up_self, decide_eq_true rfl]
    simp
  · rw [va_up_ne _ _ e, h1 i hi8 t ht e]
theorem wM_close {op : Nat → Bool} {se : Nat → Nat} {p t : Nat} {L : List (List Nat × Nat)} {w : aMV} (ht : t < 8) : wM op se (nI t) p L w = wM (va_up op t false) se (-1) p L w := by
  unfold wM
  rw [opA_close ht, opA_close ht]
/-- without t is with t closed -/
theorem nd_close {op : Nat → Bool} {se : Nat → Nat} {p t : Nat} {ms : List aMV} {kd nl : Nat → Nat} {ps : List aPc} (ht : t < 8) : ndR op se (nI t) p ms kd nl ps = ndR (va_up op t false) se (-1) p ms kd nl ps := by
  unfold ndR
  rw [show wM op se (nI t) p (kmM ms) = wM (va_up op t false) se (-1) p (kmM ms) from funext (fun w => wM_close ht)]
theorem sum_filt {α : Type} {f g : α → Nat} {p : α → Bool} : ∀ (l : List α), (∀ x ∈ l, p x = true → f x = g x) → (∀ x ∈ l, p x = false → g x = 0) → ((l.filter p).map f).sum = (l.map g).sum
  | [], _, _ => rfl
  | a :: l, h1, h2 => by
    have ih := sum_filt (f := f) (g := g) (p := p) l (fun x hx => h1 x (List.mem_cons_of_mem _ hx)) (fun x hx => h2 x (List.mem_cons_of_mem _ hx))
    rw [List.filter_cons, List.map_cons, List.sum_cons]
    cases e : p a with
    | true =>
      rw [if_pos rfl, List.map_cons, List.sum_cons, ih, h1 a List.mem_cons_self e]
    | false =>
      rw [if_neg Bool.false_ne_true, ih, h2 a List.mem_cons_self e, Nat.zero_add]
theorem wM_eq {op : Nat → Bool} {se : Nat → Nat} {x : Int32} {pr : Nat} {L L' : List (List Nat × Nat)} {w : aMV} (hs : ∀ y ∈ L', y ∈ L) (h : ¬ wM op se x pr L w = 0) : wM op se x pr L' w = wM op se x pr L w := by
  have h' := wM_sub hs h
  unfold wM at h h' ⊢
  cases e : (stK L w.1 w.2.1 pr || opA op x (fun t => stK L w.1 w.2.1 (se t)) 8) with
  | false =>
    rw [e] at h
    exact absurd rfl h
  | true =>
    cases e' : (stK L' w.1 w.2.1 pr || opA op x (fun t => stK L' w.1 w.2.1 (se t)) 8) with
    | false =>
      rw [e'] at h'
      exact absurd rfl h'
    | true => rfl
/-- pruning takes nothing that is needed -/
theorem nd_purge {op : Nat → Bool} {se : Nat → Nat} {p : Nat} {ms : List aMV} {kd nl : Nat → Nat} {ps : List aPc} : ndR op se (-1) p (ms.filter (keepM op se p (kmM ms))) kd nl ps = ndR op se (-1) p ms kd nl ps := by
  unfold ndR
  congr 1
  refine sum_filt ms (fun x hx hk => wM_eq (fun y hy => ?_) ?_) (fun x hx hk => ?_)
  · obtain ⟨w, hw, e⟩ := List.mem_map.mp hy
    exact List.mem_map.mpr ⟨w, (List.mem_filter.mp hw).1, e⟩
  · unfold keepM at hk
    rwa [Bool.not_eq_true', decide_eq_false_iff_not] at hk
  · unfold keepM at hk
    rwa [Bool.not_eq_false', decide_eq_true_iff] at hk
theorem va_up_cl {op : Nat → Bool} {t j : Nat} (h : va_up op t false j = true) : op j = true := by
  by_cases e : j = t
  · rw [e, va_up_self] at h
    exact absurd h Bool.false_ne_true
  · rwa [va_up_ne _ _ e] at h
theorem UpQ.pl {M : Nat} {H : aH} {B N bb S : Nat} {op : Nat → Bool} {sm : Nat → Nat} {lgs : List Nat} {fr ff : Nat} {wr : Bool} {tp : Nat} {rs : List aR} {us : Nat → Bool} {c : Nat → Int8} {P1 : Nat} {gs : List aSg} {vs : List aV} (h : UpS H B N bb S op sm lgs fr ff wr tp rs us c P1 gs vs) (hB : B ≤ 128) : ∀ v ∈ vs, v.2.2.2.1 ≠ none → v.2.2.1 < 4194304 := fun v hv hn => by
  obtain ⟨n, e⟩ := Option.ne_none_iff_exists'.mp hn
  obtain ⟨-, a2, a3⟩ := (h.2.2.2.2.2.2.2.1 v hv).1 n e
  have h2 := (h.2.1.1 _ a3).2
  omega
theorem ri_commitQ {ky : List (List Nat)} {M0 M : Nat} {sc : Nat × (Nat → Int32)} {d : Nat} {H : aH} {B P bb : Nat} {cl : Int32} {cp cb : Nat} {tb : Nat → Int8} {l : Nat} {g : Nat → Int8} {rl : Nat} {wss : Nat → List aE} {t0 : aTr} {t N : Nat} {op : Nat → Bool} {sm : Nat → Nat} {ms : List aMV} {kd pa sz nl : Nat → Nat} {nm : Nat → Int8} {ps : List aPc} (h : ClsA H B P 1 0 cl cp cb tb l g rl wss t0) (hU : UpQ ky M0 H B N bb P op sm (nB B) (Xb (RlX op sm ms kd pa sz nl nm ps))) (hM : PrM op sm P ms) (hp : OneP ps) (hnd : ndR op sm (-1) P ms kd nl ps ≤ B * 256) (hsm : ∀ t, t < 8 → sm t < 2 ^ 30) (ht : t < 8) (hop : op t = true) (hw0 : ¬ wss t = []) (hw40 : (wss t).length ≤ 40) (hcol : (wss t).any (fun e => colM ms P (sm t) e.1) = false) (h1W : OneW ((wss t).map pfx)) (hP : P + 1 < 2 ^ 30) (hB : B = 64 ∨ B = 96 ∨ B = 128) (hbb : bb < 2 ^ 31) (hK : ∀ e ∈ (wss t).map pfx, EntK ky e) (hby : ∀ e ∈ wss t, ∀ l, e.2 = some l → ∀ b ∈ l, b < 256) (hle : ndR op sm (nI t) (P + 1) (ms ++ addM (P + 1) (wss t)) kd nl ps ≤ B * 256) (hM0 : M0 + 40 ≤ M) (hM1 : M < 2 ^ 30) (hN : nB B + 40 ≤ N) (hN2 : N < 65536) (hws : ∀ w tp, opnN w tp (szW ((wss t).map pfx)) ≤ 5) : RI sc (d + 8) mr_77 [.ref 1, .int (nI t)] H (fun x H' => x = nI (P + 1) ∧ UpQ ky M H' B N bb (P + 1) (va_up op t false) sm (nB B) (Xb (RlX (va_up op t false) sm ((ms ++ addM (P + 1) (wss t)).filter (keepM (va_up op t false) sm (P + 1) (kmM (ms ++ addM (P + 1) (wss t))))) kd pa sz nl nm ps)) ∧ ClsA H' B (P + 1) 1 0 cl cp cb tb l g rl wss t0 ∧ ∀ a, 195 ≤ a → H'[a]? = H[a]?) := by
  have hU' := hU
  obtain ⟨S, lgs, fr, ff, wr, tp, rs, us, c, P1, gs, vs, tss, L, u1, u2, u3, u4, u5, u6⟩ := hU'
  have hV : ∀ v ∈ vs, VOk ky P v := u2.2.2.2.2.2.2.1
  have hX := xc_b (xc_rel (kd := kd) (pa := pa) (sz := sz) (nl := nl) (nm := nm) (ps := ps) hM)
  have hXN : ∀ c vs, (∀ v ∈ vs, VOk ky P v) → Xb (RlX op sm ms kd pa sz nl nm ps) c vs → sumN op sm (-1) P (kmV vs) vs ≤ B * 256 := fun c vs hv hx => by
    rw [rlx_need hv hx.1 hp]
    exact hnd
  have hRM := (room_ok (sc := sc) (d := d) (ws := (wss t).map pfx) hX hXN h.1 hU hB hbb hM0 hM1 (by omega) (fun t ht => by have := hsm t ht; omega) (by rw [List.length_map]; omega) hN2 hws).mono (ok' := fun H' => Rdy ky M H' B N bb P op sm ((wss t).map pfx) (Xa (Xb (RlX op sm ms kd pa sz nl nm ps))) ∧ ClsA H' B P 1 0 cl cp cb tb l g rl wss t0 ∧ ∀ a, 195 ≤ a → H'[a]? = H[a]?) (bad' := fun _ => False) (fun H' q => ⟨q.1, h.frU q.2, fun a ha => q.2 a (Or.inr ha)⟩) (fun _ q => q)
  have hcV : ((wss t).any (fun e => colV vs P (sm t) e.1)) = false := by
    rw [← hcol]
    congr 1
    funext e
    exact rel_col u3.1.2.1 u3.1.1.one ht hop (fun v hv => (hV v hv).1) e.1
  obtain ⟨x, H', k1, k2, k3, k4, k5⟩ := ri_commitW h u1.2.2.2.2.2.2.2.2.1 hsm u1.2.2.2.2.2.2.1 (fun v hv => (hV v hv).1) ht hop hw0 hcV h1W hP (by omega) (by omega) hbb hK (by rw [need_bat u3.1 hV (UpQ.pl (M := 0) u1 (by omega)) hp h1W hK hby hw40]; exact hle) hRM
  refine ⟨x, H', k1, k2, inc_Q k3 (by rw [List.length_map]; exact hw40) (fun c c1 vs Q hx hs1 hI hnew hold hP => com_rel hx.1 (fun j _ e => va_up_cl e) hs1 hI hnew hold (fun v hv => (hP v hv).1)) (fun c vs hv hx => ?_), k4, k5⟩
  rw [rlx_need hv hx hp, nd_purge, ← nd_close ht]
  exact hle
