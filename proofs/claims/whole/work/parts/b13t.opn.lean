/-! ===== how many blocks a renewal takes; class; by hand ===== -/
theorem opn_pair : ∀ (ns : List Nat) (tp : Nat), (2048 * ((opnN true tp ns + 1) / 2) ≤ tp + ns.sum ∧ (1 ≤ opnN true tp ns → 2048 * ((opnN true tp ns + 1) / 2) < tp + ns.sum)) ∧ 2048 * (opnN true tp ns / 2) ≤ ns.sum
  | [], tp => by
    show (2048 * ((0 + 1) / 2) ≤ tp + 0 ∧ (1 ≤ 0 → _)) ∧ 2048 * (0 / 2) ≤ 0
    exact ⟨⟨by omega, fun e => absurd e (by decide)⟩, by omega⟩
  | n :: ns, tp => by
    rw [List.sum_cons]
    by_cases h : true = true ∧ n ≤ 2048 - tp
    · rw [opnN, if_pos h]
      obtain ⟨⟨a1, a2⟩, a3⟩ := opn_pair ns (tp + n)
      exact ⟨⟨by omega, fun e => by have := a2 e; omega⟩, by omega⟩
    · have hn : ¬ n ≤ 2048 - tp := fun e => h ⟨rfl, e⟩
      rw [opnN, if_neg h]
      obtain ⟨⟨a1, a2⟩, a3⟩ := opn_pair ns n
      refine ⟨⟨?_, fun _ => ?_⟩, ?_⟩ <;> omega
theorem opn_false {M tp : Nat} {ns : List Nat} (hs : ns.sum ≤ 2048 * M) (hM : 1 ≤ M) : opnN false tp ns ≤ 2 * M - 1 := by
  cases ns with
  | nil => show 0 ≤ _; omega
  | cons n ns =>
    rw [opnN, if_neg (fun e => Bool.noConfusion e.1)]
    rw [List.sum_cons] at hs
    obtain ⟨⟨a1, a2⟩, a3⟩ := opn_pair ns n
    by_cases h : 1 ≤ opnN true n ns
    · have := a2 h
      omega
    · omega
theorem opn_wr {w : Bool} {tp : Nat} {ns : List Nat} (h : ns.sum ≤ 2048) : opnN w tp ns ≤ 1 := by
  cases ns with
  | nil => exact Nat.zero_le _
  | cons n ns =>
    have key : ∀ (ns : List Nat) (tp : Nat), tp + ns.sum ≤ 2048 → opnN true tp ns = 0 := fun ns => by
      induction ns with
      | nil => exact fun _ _ => rfl
      | cons m ns ih =>
        intro tp ht
        rw [List.sum_cons] at ht
        rw [opnN, if_pos ⟨rfl, by omega⟩]
        exact ih _ (by omega)
    have key2 : ∀ (ns : List Nat) (tp : Nat), ns.sum ≤ 2048 → opnN true tp ns ≤ 1 := fun ns => by
      induction ns with
      | nil => exact fun _ _ => Nat.zero_le _
      | cons m ns ih =>
        intro tp ht
        rw [List.sum_cons] at ht
        rw [opnN]
        split
        · exact ih _ (by omega)
        · rw [key ns m (by omega)]
          exact Nat.le_refl _
    cases w with
    | true => exact key2 _ _ h
    | false =>
      rw [opnN, if_neg (fun e => Bool.noConfusion e.1)]
      rw [List.sum_cons] at h
      rw [key ns n (by omega)]
      exact Nat.le_refl _
