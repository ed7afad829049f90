/-! ===== the way up in a tree is short; a node moves; by hand ===== -/
theorem nd_le : ∀ (n : Nat) (l : List Nat), l.Nodup → (∀ y ∈ l, 1 ≤ y ∧ y ≤ n) → l.length ≤ n
  | 0, [], _, _ => Nat.le_refl _
  | 0, y :: l, _, h => by have := h y List.mem_cons_self; omega
  | n + 1, l, hn, h => by
    have h1 := nd_le n (l.erase (n + 1)) (hn.erase _) (fun y hy => by
      obtain ⟨a1, a2⟩ := hn.mem_erase_iff.mp hy
      have := h y a2
      omega)
    have h2 : l.length - 1 ≤ (l.erase (n + 1)).length := List.le_length_erase
    omega
theorem upF_root {pa : Nat → Nat} {t : Nat} : ∀ (n : Nat), upF pa t n 0 = 0
  | 0 => rfl
  | n + 1 => by rw [upF, if_pos (Or.inl rfl)]
theorem upF_mono {pa : Nat → Nat} : ∀ {n : Nat} {x : Nat}, upF pa 0 n x = 0 → upF pa 0 (n + 1) x = 0
  | 0, x, h => by
    have h : x = 0 := h
    rw [h]
    exact upF_root 1
  | n + 1, x, h => by
    by_cases e : x = 0
    · rw [e]; exact upF_root _
    · rw [upF, if_neg (by omega)] at h
      rw [upF, if_neg (by omega)]
      exact upF_mono h
theorem upF_more {pa : Nat → Nat} {n x : Nat} (h : upF pa 0 n x = 0) : ∀ (m : Nat), upF pa 0 (n + m) x = 0
  | 0 => h
  | m + 1 => upF_mono (upF_more h m)
theorem up_path {pa : Nat → Nat} (hp : ∀ v, v ≤ 200 → pa v ≤ 200) : ∀ (m x : Nat), x ≤ 200 → upF pa 0 m x = 0 → ∃ l : List Nat, l.Nodup ∧ (∀ y ∈ l, (1 ≤ y ∧ y ≤ 200) ∧ upF pa 0 l.length y = 0) ∧ upF pa 0 l.length x = 0
  | 0, x, _, h => ⟨[], List.nodup_nil, fun y hy => absurd hy List.not_mem_nil, h⟩
  | m + 1, x, hx, h => by
    by_cases e : x = 0
    · exact ⟨[], List.nodup_nil, fun y hy => absurd hy List.not_mem_nil, e⟩
    · rw [upF, if_neg (by omega)] at h
      obtain ⟨l, h1, h2, h3⟩ := up_path hp m (pa x) (hp x hx) h
      by_cases q : upF pa 0 l.length x = 0
      · exact ⟨l, h1, h2, q⟩
      · have hs : upF pa 0 (l.length + 1) x = 0 := by rw [upF, if_neg (by omega)]; exact h3
        refine ⟨x :: l, List.nodup_cons.mpr ⟨fun hm => q (h2 x hm).2, h1⟩, fun y hy => ?_, hs⟩
        rcases List.mem_cons.mp hy with z | z
        · rw [z]; exact ⟨⟨by omega, hx⟩, hs⟩
        · exact ⟨(h2 y z).1, upF_mono (h2 y z).2⟩
theorem up_201 {pa : Nat → Nat} (hp : ∀ v, v ≤ 200 → pa v ≤ 200) {m x : Nat} (hx : x ≤ 200) (h : upF pa 0 m x = 0) : upF pa 0 200 x = 0 ∧ upF pa 0 201 x = 0 := by
  obtain ⟨l, h1, h2, h3⟩ := up_path hp m x hx h
  have h4 := nd_le 200 l h1 (fun y hy => (h2 y hy).1)
  have h5 := upF_more h3 (200 - l.length)
  rw [show l.length + (200 - l.length) = 200 by omega] at h5
  exact ⟨h5, upF_mono h5⟩
theorem up_or {pa : Nat → Nat} {c : Nat} : ∀ {n x : Nat}, upF pa 0 n x = 0 → upF pa c n x = 0 ∨ upF pa c n x = c
  | 0, x, h => Or.inl h
  | n + 1, x, h => by
    by_cases e : x = 0
    · rw [e]; exact Or.inl (upF_root _)
    · by_cases e2 : x = c
      · refine Or.inr ?_
        rw [upF, if_pos (Or.inr e2)]
        exact e2
      · rw [upF, if_neg (by omega)] at h
        rw [upF, if_neg (by omega)]
        exact up_or h
theorem TrW.up {kd pa : Nat → Nat} {c v : Nat} (h : TrW kd pa) (hp : ∀ v, v ≤ 200 → pa v ≤ 200) (hv : v ≤ 200) (hk : ¬ kd v = 0) : upF pa c 201 v = 0 ∨ upF pa c 201 v = c := by
  have hm : ∃ m, upF pa 0 m v = 0 := by
    by_cases e : v = 0
    · exact ⟨0, e⟩
    · exact (h.2 v (by omega) hv hk).2
  obtain ⟨m, hm⟩ := hm
  exact up_or (up_201 hp hv hm).2
theorem TrW.dir {kd pa : Nat → Nat} {c : Nat} (h : TrW kd pa) (hp : ∀ v, v ≤ 200 → pa v ≤ 200) : ∀ (n x : Nat), x ≤ 200 → kd x = 2 → kd (upF pa c n x) = 2
  | 0, x, _, hk => hk
  | n + 1, x, hx, hk => by
    by_cases e : x = 0 ∨ x = c
    · rw [upF, if_pos e]; exact hk
    · rw [upF, if_neg e]
      exact TrW.dir h hp n (pa x) (hp x hx) (h.2 x (by omega) hx (by rw [hk]; decide)).1
theorem up_move {pa : Nat → Nat} {c b : Nat} (hc : 1 ≤ c) : ∀ {n x : Nat}, upF pa c n x = 0 → upF (va_up pa c b) 0 n x = 0
  | 0, x, h => h
  | n + 1, x, h => by
    by_cases e : x = 0
    · rw [e]; exact upF_root _
    · by_cases e2 : x = c
      · rw [upF, if_pos (Or.inr e2)] at h
        omega
      · rw [upF, if_neg (by omega)] at h
        rw [upF, if_neg (by omega), up_ne e2]
        exact up_move hc h
/-- a node moves to a directory that does not lie beneath it -/
theorem TrW.move {kd pa : Nat → Nat} {c b : Nat} (h : TrW kd pa) (hp : ∀ v, v ≤ 200 → pa v ≤ 200) (hc : 1 ≤ c) (hb : b ≤ 200) (hkb : kd b = 2) (hni : ¬ (kd c = 2 ∧ upF pa c 201 b = c)) : TrW kd (va_up pa c b) := by
  have h0 : upF pa c 201 b = 0 := by
    rcases h.up (c := c) hp hb (by rw [hkb]; decide) with q | q
    · exact q
    · have hd := h.dir (c := c) hp 201 b hb hkb
      rw [q] at hd
      exact absurd ⟨hd, q⟩ hni
  have hb0 := up_move (b := b) hc h0
  have hall : ∀ (m w : Nat), upF pa 0 m w = 0 → ∃ m', upF (va_up pa c b) 0 m' w = 0 := fun m => by
    induction m with
    | zero => exact fun w q => ⟨0, q⟩
    | succ m ih =>
      intro w q
      by_cases e : w = 0
      · exact ⟨0, e⟩
      · by_cases e2 : w = c
        · exact ⟨201 + 1, by rw [upF, if_neg (by omega), e2, up_at]; exact hb0⟩
        · rw [upF, if_neg (by omega)] at q
          obtain ⟨m', hm'⟩ := ih _ q
          exact ⟨m' + 1, by rw [upF, if_neg (by omega), up_ne e2]; exact hm'⟩
  refine ⟨h.1, fun v h1 h2 h3 => ?_⟩
  obtain ⟨a1, m, a2⟩ := h.2 v h1 h2 h3
  refine ⟨?_, hall m v a2⟩
  by_cases e : v = c
  · rw [e, up_at]; exact hkb
  · rw [up_ne e]; exact a1
