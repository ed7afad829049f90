/-! ===== the class's own cells behind a store and behind include; by hand ===== -/
theorem ClsA.sto {H H' : aH} {B P b : Nat} {up cw cl : Int32} {cp cb : Nat} {tb : Nat → Int8} {l : Nat} {g : Nat → Int8} {rl : Nat} {wss : Nat → List aE} {t : aTr} (h : ClsA H B P up cw cl cp cb tb l g rl wss t) (hb : (∃ u, u < 8 ∧ b = 11 + 6 * u) ∨ b = 59) (hs : ∀ a, a < 71 → ¬ (7 ≤ a ∧ a < 10) → a ≠ b + 5 → H'[a]? = H[a]?) (hQ : ∃ Q : Nat → Nat, H'[b + 5]? = some (kI 40 (fun j => nI (Q j)))) : ClsA H' B P up cw cl cp cb tb l g rl wss t := by
  obtain ⟨c0, c1, c2, c3, c4, ⟨q, p, c5, c6⟩, ⟨wq, c10, cw⟩, cb, ⟨⟨ws, cc⟩, cq⟩, cT⟩ := h
  have hne : ∀ a, a < 11 → a ≠ b + 5 := fun a ha => by
    rcases hb with ⟨u, hu, e⟩ | e <;> omega
  have f : ∀ a, a < 11 → ¬ (7 ≤ a ∧ a < 10) → H'[a]? = H[a]? := fun a ha h7 => hs a (by omega) h7 (hne a ha)
  refine ⟨(f 0 (by decide) (by decide)).trans c0, (f 1 (by decide) (by decide)).trans c1, (f 2 (by decide) (by decide)).trans c2, (f 3 (by decide) (by decide)).trans c3, (f 4 (by decide) (by decide)).trans c4, ⟨q, p, (f 5 (by decide) (by decide)).trans c5, (f 6 (by decide) (by decide)).trans c6⟩, ⟨wq, (f 10 (by decide) (by decide)).trans c10, cw⟩, fun t ht => ⟨?_, ?_⟩, ⟨⟨ws, ?_⟩, ?_⟩, ?_⟩
  · refine (cb t ht).1.keep (fun a a1 a2 => hs a (by omega) (by omega) ?_)
    rcases hb with ⟨u, hu, e⟩ | e <;> omega
  · by_cases e : b = 11 + 6 * t
    · rw [← e]; exact hQ
    · obtain ⟨Q, h5⟩ := (cb t ht).2
      exact ⟨Q, (hs _ (by omega) (by omega) (by omega)).trans h5⟩
  · refine cc.keep (fun a a1 a2 => hs a (by omega) (by omega) ?_)
    rcases hb with ⟨u, hu, e⟩ | e <;> omega
  · by_cases e : b = 59
    · rw [← e]; exact hQ
    · obtain ⟨Q, h5⟩ := cq
      exact ⟨Q, (hs _ (by omega) (by omega) (by omega)).trans h5⟩
  · refine TreeIs.far cT (fun a a1 a2 => hs a (by omega) (by omega) ?_)
    rcases hb with ⟨u, hu, e⟩ | e <;> omega
/-- the moment moves on -/
theorem ClsA.next {H H' : aH} {B P P' : Nat} {up up' cw cw' cl cl' : Int32} {cp cb cp' cb' : Nat} {tb : Nat → Int8} {l : Nat} {g : Nat → Int8} {rl : Nat} {wss : Nat → List aE} {t : aTr} (h : ClsA H B P up cw cl cp cb tb l g rl wss t) (h0 : H'[0]? = some (kO 11 (fvs (nI B) (nI P') up' cw' cl' (nI cp') (nI cb')))) (hs : ∀ a, a ≠ 0 → a < 71 → ¬ (7 ≤ a ∧ a < 10) → H'[a]? = H[a]?) : ClsA H' B P' up' cw' cl' cp' cb' tb l g rl wss t := by
  obtain ⟨-, c1, c2, c3, c4, ⟨q, p, c5, c6⟩, ⟨wq, c10, cw⟩, cb, ⟨⟨ws, cc⟩, ⟨Q, cq⟩⟩, cT⟩ := h
  refine ⟨h0, (hs 1 (by decide) (by decide) (by decide)).trans c1, (hs 2 (by decide) (by decide) (by decide)).trans c2, (hs 3 (by decide) (by decide) (by decide)).trans c3, (hs 4 (by decide) (by decide) (by decide)).trans c4, ⟨q, p, (hs 5 (by decide) (by decide) (by decide)).trans c5, (hs 6 (by decide) (by decide) (by decide)).trans c6⟩, ⟨wq, (hs 10 (by decide) (by decide) (by decide)).trans c10, cw⟩, fun t ht => ⟨(cb t ht).1.keep (fun a a1 a2 => hs a (by omega) (by omega) (by omega)), ?_⟩, ⟨⟨ws, cc.keep (fun a a1 a2 => hs a (by omega) (by omega) (by omega))⟩, ⟨Q, (hs _ (by omega) (by omega) (by omega)).trans cq⟩⟩, TreeIs.far cT (fun a a1 a2 => hs a (by omega) (by omega) (by omega))⟩
  obtain ⟨Q, h5⟩ := (cb t ht).2
  exact ⟨Q, (hs _ (by omega) (by omega) (by omega)).trans h5⟩
