/-! ===== the reference: versions that are not needed go; written by wip/gen/prune.py ===== -/
theorem cpy_up' {f g : Nat → Int8} {i b k : Nat} : va_up (cpy f i g b k) (b + k) (f (i + k)) = cpy f i g b (k + 1) := by
  funext q
  unfold va_up cpy
  by_cases h1 : q = b + k
  · rw [if_pos h1, if_pos (by omega), h1, show b + k - b = k by omega]
  · rw [if_neg h1]
    by_cases h2 : b ≤ q ∧ q < b + k
    · rw [if_pos h2, if_pos (by omega)]
    · rw [if_neg h2, if_neg (by omega)]
/-- what was kept of the first p, moved to the front: f before, g what is written -/
def odG {α : Type} (kp : Nat → Bool) (f g : Nat → α) : Nat → Nat → α
  | 0 => f
  | p + 1 => if kp p then va_up (odG kp f g p) (cntB kp p) (g p) else odG kp f g p
theorem odG_ge {α : Type} {kp : Nat → Bool} {f g : Nat → α} : ∀ (p j : Nat), p ≤ j → odG kp f g p j = f j
  | 0, _, _ => rfl
  | p + 1, j, h => by
    rw [odG]
    split
    · unfold va_up
      rw [if_neg (by have := cntB_le kp p; omega)]
      exact odG_ge p j (by omega)
    · exact odG_ge p j (by omega)
/-- the bytes of the kept ones before v -/
def usP (kp : Nat → Bool) (kn : Nat → Nat) (vz : Nat → Option Nat) : Nat → Nat
  | 0 => 0
  | v + 1 => usP kp kn vz v + (if kp v then kn v + (vz v).getD 0 else 0)
theorem usP_mono {kp : Nat → Bool} {kn : Nat → Nat} {vz : Nat → Option Nat} : ∀ (n m : Nat), n ≤ m → usP kp kn vz n ≤ usP kp kn vz m
  | n, 0, h => by rw [show n = 0 by omega]; exact Nat.le_refl _
  | n, m + 1, h => by
    by_cases e : n = m + 1
    · rw [e]; exact Nat.le_refl _
    · rw [usP]
      exact Nat.le_trans (usP_mono n m (by omega)) (Nat.le_add_right _ _)
/-- the other row of bytes -/
def obP (kp : Nat → Bool) (bf : Nat → Int8) (ko kn vo : Nat → Nat) (vz : Nat → Option Nat) (ob : Nat → Int8) : Nat → Nat → Int8
  | 0 => ob
  | v + 1 => if kp v then cpy bf (vo v) (cpy bf (ko v) (obP kp bf ko kn vo vz ob v) (usP kp kn vz v) (kn v)) (usP kp kn vz v + kn v) ((vz v).getD 0) else obP kp bf ko kn vo vz ob v
/-- which are kept -/
def kpV (bf : Nat → Int8) (ko kn : Nat → Nat) (vz : Nat → Option Nat) (vm : Nat → Nat) (n p : Nat) (op : Nat → Bool) (se : Nat → Nat) (v : Nat) : Bool := !(decide (wV bf ko kn vz vm n p op se (-1) v = 0))
theorem rq_pkey {sc : Nat × (Nat → Int32)} {us v : Nat} {d : Nat} {H : aH} {bf : Nat → Int8} {ko kn vo : Nat → Nat} {vz : Nat → Option Nat} {vm : Nat → Nat} {ob : Nat → Int8} {fa li dn cw cl tp rs pr pi hu : Int32} {ba bo n : Nat} {z c : Int32} {Q : tO × aH × Nat × Nat → Prop} (hm : H[195]? = some (kO 12 (mfs fa li dn cw cl tp rs pr (nI n) (nI us) pi hu ba bo))) (h : MVAt H ba bf ko kn vo vz vm) (hob : H[bo]? = some (kB 48000 ob)) (hbb : ba ≠ bo) (hba : ba = 203 ∨ ba = 204) (hbo : bo = 203 ∨ bo = 204) (hv : v < 1500) (hb1 : ko v + kn v ≤ 48000) (hb2 : us + kn v ≤ 48000)
    (kq : RQ sc d mr_270 123 [(4, .int (nI (kn v))), (3, .int z), (2, .int (nI v)), (1, .int c), (0, .ref 196)] [] (H.set bo (kB 48000 (cpy bf (ko v) ob us (kn v)))) 0 0 Q) : RQ sc d mr_270 80 [(4, .int 0), (3, .int z), (2, .int (nI v)), (1, .int c), (0, .ref 196)] [] H 0 0 Q := by
  refine RQ.while (S := Nat) (pc := 80) (fun k H' => k ≤ kn v ∧ H' = H.set bo (kB 48000 (cpy bf (ko v) ob us k))) (fun k => [(4, .int (nI k)), (3, .int z), (2, .int (nI v)), (1, .int c), (0, .ref 196)]) (fun k => kn v - k) ?_ 0 H ⟨Nat.zero_le _, by rw [cpy_0, set_self hob]⟩
  rintro k H1 ⟨hk, e⟩ ih
  rw [e]
  have hm1 : (H.set bo (kB 48000 (cpy bf (ko v) ob us k)))[195]? = _ := (set_far (by omega)).trans hm
  have h1 : MVAt (H.set bo (kB 48000 (cpy bf (ko v) ob us k))) ba bf ko kn vo vz vm := ⟨(set_far (by omega)).trans h.1, (set_far (by omega)).trans h.2.1, (set_far (by omega)).trans h.2.2.1, (set_far (by omega)).trans h.2.2.2.1, (set_far (by omega)).trans h.2.2.2.2.1, (set_far hbb).trans h.2.2.2.2.2⟩
  refine RQ.blk 2 (pc' := 83) (lv' := [(4, .int (nI k)), (3, .int z), (2, .int (nI v)), (1, .int c), (0, .ref 196)]) (st' := [.ref 196, .int (nI k)]) (H' := _) (kc' := 0) (ks' := 0) rfl ?_
  refine RQ.get (ci := 12) rfl hm1 rfl rfl ?_
  refine RQ.blk 1 (pc' := 87) (lv' := [(4, .int (nI k)), (3, .int z), (2, .int (nI v)), (1, .int c), (0, .ref 196)]) (st' := [.int (nI v), .ref 200, .int (nI k)]) (H' := _) (kc' := 0) (ks' := 0) rfl ?_
  refine RQ.ialdN (j := v) rfl h1.2.1 (by omega) (by decide) ?_
  by_cases hlt : k < kn v
  ·
    refine RQ.brF rfl rfl rfl (cF_ge k (kn v)) ?_
    refine RQ.blk 1 (pc' := 92) (lv' := [(4, .int (nI k)), (3, .int z), (2, .int (nI v)), (1, .int c), (0, .ref 196)]) (st' := [.ref 196]) (H' := _) (kc' := 0) (ks' := 0) rfl ?_
    refine RQ.get (ci := 12) rfl hm1 rfl rfl ?_
    refine RQ.blk 1 (pc' := 96) (lv' := [(4, .int (nI k)), (3, .int z), (2, .int (nI v)), (1, .int c), (0, .ref 196)]) (st' := [.ref 196, .ref (bo + 1)]) (H' := _) (kc' := 0) (ks' := 0) rfl ?_
    refine RQ.get (ci := 12) rfl hm1 rfl rfl ?_
    refine RQ.blk 2 (pc' := 102) (lv' := [(4, .int (nI k)), (3, .int z), (2, .int (nI v)), (1, .int c), (0, .ref 196)]) (st' := [.int (nI us + nI k), .ref (bo + 1)]) (H' := _) (kc' := 0) (ks' := 0) rfl ?_
    rw [show (nI us + nI k : Int32) = nI (us + k) from nI_add us k]
    refine RQ.blk 1 (pc' := 103) (lv' := [(4, .int (nI k)), (3, .int z), (2, .int (nI v)), (1, .int c), (0, .ref 196)]) (st' := [.ref 196, .int (nI (us + k)), .ref (bo + 1)]) (H' := _) (kc' := 0) (ks' := 0) rfl ?_
    refine RQ.get (ci := 12) rfl hm1 rfl rfl ?_
    refine RQ.blk 1 (pc' := 107) (lv' := [(4, .int (nI k)), (3, .int z), (2, .int (nI v)), (1, .int c), (0, .ref 196)]) (st' := [.ref 196, .ref (ba + 1), .int (nI (us + k)), .ref (bo + 1)]) (H' := _) (kc' := 0) (ks' := 0) rfl ?_
    refine RQ.get (ci := 12) rfl hm1 rfl rfl ?_
    refine RQ.blk 1 (pc' := 111) (lv' := [(4, .int (nI k)), (3, .int z), (2, .int (nI v)), (1, .int c), (0, .ref 196)]) (st' := [.int (nI v), .ref 199, .ref (ba + 1), .int (nI (us + k)), .ref (bo + 1)]) (H' := _) (kc' := 0) (ks' := 0) rfl ?_
    refine RQ.ialdN (j := v) rfl h1.1 (by omega) (by decide) ?_
    refine RQ.blk 2 (pc' := 115) (lv' := [(4, .int (nI k)), (3, .int z), (2, .int (nI v)), (1, .int c), (0, .ref 196)]) (st' := [.int (nI (ko v) + nI k), .ref (ba + 1), .int (nI (us + k)), .ref (bo + 1)]) (H' := _) (kc' := 0) (ks' := 0) rfl ?_
    rw [show (nI (ko v) + nI k : Int32) = nI (ko v + k) from nI_add (ko v) k]
    refine RQ.baldN (j := ko v + k) rfl h1.2.2.2.2.2 (by omega) (by decide) ?_
    refine RQ.bastN (j := us + k) rfl (get_set hob) (by omega) (by decide) ?_
    rw [set_set, Int8.toInt8_toInt32, cpy_up']
    refine RQ.blk 1 (pc' := 120) (lv' := [(4, .int (nI k + 1)), (3, .int z), (2, .int (nI v)), (1, .int c), (0, .ref 196)]) (st' := []) (H' := _) (kc' := 0) (ks' := 0) rfl ?_
    rw [show (nI k + 1 : Int32) = nI (k + 1) from nI_add k 1]
    refine RQ.blk 1 (pc' := 80) (lv' := [(4, .int (nI (k + 1))), (3, .int z), (2, .int (nI v)), (1, .int c), (0, .ref 196)]) (st' := []) (H' := _) (kc' := 0) (ks' := 0) rfl ?_
    exact ih (k + 1) _ ⟨by omega, rfl⟩ (by omega)
  · have e2 : k = kn v := by omega
    rw [e2]
    refine RQ.brT rfl rfl rfl (cT_ge (kn v) (kn v)) ?_
    exact kq
theorem rq_pval {sc : Nat × (Nat → Int32)} {us v zz : Nat} {d : Nat} {H : aH} {bf : Nat → Int8} {ko kn vo : Nat → Nat} {vz : Nat → Option Nat} {vm : Nat → Nat} {ob : Nat → Int8} {fa li dn cw cl tp rs pr pi hu : Int32} {ba bo n : Nat} {x c : Int32} {Q : tO × aH × Nat × Nat → Prop} (hm : H[195]? = some (kO 12 (mfs fa li dn cw cl tp rs pr (nI n) (nI us) pi hu ba bo))) (h : MVAt H ba bf ko kn vo vz vm) (hob : H[bo]? = some (kB 48000 ob)) (hbb : ba ≠ bo) (hba : ba = 203 ∨ ba = 204) (hbo : bo = 203 ∨ bo = 204) (hv : v < 1500) (hb1 : vo v + zz ≤ 48000) (hb2 : us + kn v + zz ≤ 48000)
    (kq : RQ sc d mr_270 171 [(4, .int (nI zz)), (3, .int (nI zz)), (2, .int (nI v)), (1, .int c), (0, .ref 196)] [] (H.set bo (kB 48000 (cpy bf (vo v) ob (us + kn v) zz))) 0 0 Q) : RQ sc d mr_270 123 [(4, .int x), (3, .int (nI zz)), (2, .int (nI v)), (1, .int c), (0, .ref 196)] [] H 0 0 Q := by
  refine RQ.blk 2 (pc' := 126) (lv' := [(4, .int 0), (3, .int (nI zz)), (2, .int (nI v)), (1, .int c), (0, .ref 196)]) (st' := []) (H' := _) (kc' := 0) (ks' := 0) rfl ?_
  refine RQ.while (S := Nat) (pc := 126) (fun k H' => k ≤ zz ∧ H' = H.set bo (kB 48000 (cpy bf (vo v) ob (us + kn v) k))) (fun k => [(4, .int (nI k)), (3, .int (nI zz)), (2, .int (nI v)), (1, .int c), (0, .ref 196)]) (fun k => zz - k) ?_ 0 H ⟨Nat.zero_le _, by rw [cpy_0, set_self hob]⟩
  rintro k H1 ⟨hk, e⟩ ih
  rw [e]
  have hm1 : (H.set bo (kB 48000 (cpy bf (vo v) ob (us + kn v) k)))[195]? = _ := (set_far (by omega)).trans hm
  have h1 : MVAt (H.set bo (kB 48000 (cpy bf (vo v) ob (us + kn v) k))) ba bf ko kn vo vz vm := ⟨(set_far (by omega)).trans h.1, (set_far (by omega)).trans h.2.1, (set_far (by omega)).trans h.2.2.1, (set_far (by omega)).trans h.2.2.2.1, (set_far (by omega)).trans h.2.2.2.2.1, (set_far hbb).trans h.2.2.2.2.2⟩
  refine RQ.blk 2 (pc' := 129) (lv' := [(4, .int (nI k)), (3, .int (nI zz)), (2, .int (nI v)), (1, .int c), (0, .ref 196)]) (st' := [.int (nI zz), .int (nI k)]) (H' := _) (kc' := 0) (ks' := 0) rfl ?_
  by_cases hlt : k < zz
  ·
    refine RQ.brF rfl rfl rfl (cF_ge k zz) ?_
    refine RQ.blk 1 (pc' := 133) (lv' := [(4, .int (nI k)), (3, .int (nI zz)), (2, .int (nI v)), (1, .int c), (0, .ref 196)]) (st' := [.ref 196]) (H' := _) (kc' := 0) (ks' := 0) rfl ?_
    refine RQ.get (ci := 12) rfl hm1 rfl rfl ?_
    refine RQ.blk 1 (pc' := 137) (lv' := [(4, .int (nI k)), (3, .int (nI zz)), (2, .int (nI v)), (1, .int c), (0, .ref 196)]) (st' := [.ref 196, .ref (bo + 1)]) (H' := _) (kc' := 0) (ks' := 0) rfl ?_
    refine RQ.get (ci := 12) rfl hm1 rfl rfl ?_
    refine RQ.blk 1 (pc' := 141) (lv' := [(4, .int (nI k)), (3, .int (nI zz)), (2, .int (nI v)), (1, .int c), (0, .ref 196)]) (st' := [.ref 196, .int (nI us), .ref (bo + 1)]) (H' := _) (kc' := 0) (ks' := 0) rfl ?_
    refine RQ.get (ci := 12) rfl hm1 rfl rfl ?_
    refine RQ.blk 1 (pc' := 145) (lv' := [(4, .int (nI k)), (3, .int (nI zz)), (2, .int (nI v)), (1, .int c), (0, .ref 196)]) (st' := [.int (nI v), .ref 200, .int (nI us), .ref (bo + 1)]) (H' := _) (kc' := 0) (ks' := 0) rfl ?_
    refine RQ.ialdN (j := v) rfl h1.2.1 (by omega) (by decide) ?_
    refine RQ.blk 1 (pc' := 147) (lv' := [(4, .int (nI k)), (3, .int (nI zz)), (2, .int (nI v)), (1, .int c), (0, .ref 196)]) (st' := [.int (nI us + nI (kn v)), .ref (bo + 1)]) (H' := _) (kc' := 0) (ks' := 0) rfl ?_
    rw [show (nI us + nI (kn v) : Int32) = nI (us + (kn v)) from nI_add us (kn v)]
    refine RQ.blk 2 (pc' := 150) (lv' := [(4, .int (nI k)), (3, .int (nI zz)), (2, .int (nI v)), (1, .int c), (0, .ref 196)]) (st' := [.int (nI (us + (kn v)) + nI k), .ref (bo + 1)]) (H' := _) (kc' := 0) (ks' := 0) rfl ?_
    rw [show (nI (us + (kn v)) + nI k : Int32) = nI (us + (kn v) + k) from nI_add (us + (kn v)) k]
    refine RQ.blk 1 (pc' := 151) (lv' := [(4, .int (nI k)), (3, .int (nI zz)), (2, .int (nI v)), (1, .int c), (0, .ref 196)]) (st' := [.ref 196, .int (nI (us + (kn v) + k)), .ref (bo + 1)]) (H' := _) (kc' := 0) (ks' := 0) rfl ?_
    refine RQ.get (ci := 12) rfl hm1 rfl rfl ?_
    refine RQ.blk 1 (pc' := 155) (lv' := [(4, .int (nI k)), (3, .int (nI zz)), (2, .int (nI v)), (1, .int c), (0, .ref 196)]) (st' := [.ref 196, .ref (ba + 1), .int (nI (us + (kn v) + k)), .ref (bo + 1)]) (H' := _) (kc' := 0) (ks' := 0) rfl ?_
    refine RQ.get (ci := 12) rfl hm1 rfl rfl ?_
    refine RQ.blk 1 (pc' := 159) (lv' := [(4, .int (nI k)), (3, .int (nI zz)), (2, .int (nI v)), (1, .int c), (0, .ref 196)]) (st' := [.int (nI v), .ref 201, .ref (ba + 1), .int (nI (us + (kn v) + k)), .ref (bo + 1)]) (H' := _) (kc' := 0) (ks' := 0) rfl ?_
    refine RQ.ialdN (j := v) rfl h1.2.2.1 (by omega) (by decide) ?_
    refine RQ.blk 2 (pc' := 163) (lv' := [(4, .int (nI k)), (3, .int (nI zz)), (2, .int (nI v)), (1, .int c), (0, .ref 196)]) (st' := [.int (nI (vo v) + nI k), .ref (ba + 1), .int (nI (us + (kn v) + k)), .ref (bo + 1)]) (H' := _) (kc' := 0) (ks' := 0) rfl ?_
    rw [show (nI (vo v) + nI k : Int32) = nI (vo v + k) from nI_add (vo v) k]
    refine RQ.baldN (j := vo v + k) rfl h1.2.2.2.2.2 (by omega) (by decide) ?_
    refine RQ.bastN (j := us + kn v + k) rfl (get_set hob) (by omega) (by decide) ?_
    rw [set_set, Int8.toInt8_toInt32, cpy_up']
    refine RQ.blk 1 (pc' := 168) (lv' := [(4, .int (nI k + 1)), (3, .int (nI zz)), (2, .int (nI v)), (1, .int c), (0, .ref 196)]) (st' := []) (H' := _) (kc' := 0) (ks' := 0) rfl ?_
    rw [show (nI k + 1 : Int32) = nI (k + 1) from nI_add k 1]
    refine RQ.blk 1 (pc' := 126) (lv' := [(4, .int (nI (k + 1))), (3, .int (nI zz)), (2, .int (nI v)), (1, .int c), (0, .ref 196)]) (st' := []) (H' := _) (kc' := 0) (ks' := 0) rfl ?_
    exact ih (k + 1) _ ⟨by omega, rfl⟩ (by omega)
  · have e2 : k = zz := by omega
    rw [e2]
    refine RQ.brT rfl rfl rfl (cT_ge zz zz) ?_
    exact kq
