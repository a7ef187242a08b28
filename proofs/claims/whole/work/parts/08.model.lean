/-! The reference: its words, and what it asks itself. -/
def o9 : Option Nat → Int
  | none => 9
  | some j => (j : Int)
def mplF (μ : MU) (p : Nat) (w : Int) : Option Nat := fnd (fun j => decide (μ 30 (4 * p + j) = w)) 0 (μ 29 p).toNat
def mbnF (μ : MU) (p s k : Nat) : Option Nat := fnd (fun j => decide (0 ≤ μ 26 (9 * s + 3 * k + j) ∧ andI (μ 27 p) (μ 26 (9 * s + 3 * k + j)) = μ 26 (9 * s + 3 * k + j))) 0 3
def rkF (μ : MU) (p s k : Nat) : Int := (if μ 28 p = 0 then 0 else 100000) + 10000 * o9 (mbnF μ p s k) + (if μ 31 (6 * p + s) < 0 then 1000 + (p : Int) else μ 31 (6 * p + s))
theorem o9_r {P : Nat → Bool} {n : Nat} (h : n ≤ 9) : 0 ≤ o9 (fnd P 0 n) ∧ o9 (fnd P 0 n) ≤ 9 := by
  cases e : fnd P 0 n with
  | none => exact ⟨by decide, by decide⟩
  | some j => have := fnd_some n 0 e; simp only [o9]; omega
theorem o9_9 {P : Nat → Bool} {n : Nat} (h : n ≤ 8) : o9 (fnd P 0 n) < 9 ↔ (fnd P 0 n).isSome = true := by
  cases e : fnd P 0 n with
  | none => simp [o9]
  | some j => have := fnd_some n 0 e; simp [o9]; omega
/-- what the reference's methods need of the state to run -/
def Sm (μ : MU) : Prop := (0 ≤ μ 22 0 ∧ μ 22 0 ≤ 6) ∧ (0 ≤ μ 23 0 ∧ μ 23 0 ≤ 20) ∧ (μ 21 0 = 0 ∨ μ 21 0 = 1) ∧ (∀ s, s < 6 → 0 ≤ μ 24 s ∧ μ 24 s ≤ 3) ∧ (∀ q, q < 18 → 0 ≤ μ 25 q ∧ μ 25 q ≤ 6) ∧
  (∀ p, p < 20 → 0 ≤ μ 29 p ∧ μ 29 p ≤ 4 ∧ 0 ≤ μ 32 p ∧ μ 32 p ≤ 4) ∧ (∀ j, j < 80 → 0 ≤ μ 30 j ∧ μ 30 j < 6) ∧ (∀ j, j < 120 → -1 ≤ μ 31 j ∧ μ 31 j < 2000)
theorem Sm.of {μ μ' : MU} (h : Sm μ) (e : ∀ f j, f ∈ [21, 22, 23, 24, 25, 29, 30, 31, 32] → μ' f j = μ f j) : Sm μ' := by
  unfold Sm at h ⊢
  simp only [e 21 _ (by decide), e 22 _ (by decide), e 23 _ (by decide), e 24 _ (by decide), e 25 _ (by decide), e 29 _ (by decide), e 30 _ (by decide), e 31 _ (by decide), e 32 _ (by decide)]
  exact h
theorem Sm.up {μ : MU} (h : Sm μ) {f j : Nat} {v : Int} (hf : f ∉ [21, 22, 23, 24, 25, 29, 30, 31, 32]) : Sm (upM μ f j v) := h.of fun g k hg => upM_nef fun q => hf (q ▸ hg)
theorem rkF_r {μ : MU} (h : Sm μ) {p s k : Nat} (hp : p < 20) (hs : s < 6) : 0 ≤ rkF μ p s k ∧ rkF μ p s k < 1000000 := by
  obtain ⟨-, -, -, -, -, -, -, hn⟩ := h
  have := hn (6 * p + s) (by omega)
  have := o9_r (P := fun j => decide (0 ≤ μ 26 (9 * s + 3 * k + j) ∧ andI (μ 27 p) (μ 26 (9 * s + 3 * k + j)) = μ 26 (9 * s + 3 * k + j))) (n := 3) (by omega)
  unfold rkF mbnF
  split <;> split <;> omega
abbrev rmX4_thrown : Room := { frames := 0, cells := 0, slots := 0, locals := 0 }
set_option maxRecDepth 100000 in
set_option maxHeartbeats 4000000 in
theorem cX4_thrown_ok (μ : MU) : CTi yX4_thrown cX4_thrown 1 (some .int) rmX4_thrown [aR 12 0] μ (fun r μ' => μ = μ' ∧ r = μ 20 0) := by
  intro l9 b9 D9 K9
  refine met_of (by decide) (Nat.le_of_ble_eq_true rfl) (fun x hC hR hM hA => ?_)
  have hC : Ctx x RX4 cX4_thrown rmX4_thrown := hC
  refine v_aload_n hC 0 dX4_thrown_0 rfl rfl ?_
  refine v_getI hC foX4_59 dX4_thrown_1 rfl rfl rfl (by first | decide | (simp only [vdn]; omega)) ?_
  try simp only [Int.toNat_natCast, upM_at, upM_nef, ne_eq, not_false_eq_true, Nat.reduceEqDiff, Nat.reduceAdd]
  exact v_iret hC hR dX4_thrown_4 (⟨_, rfl, rfl, rfl⟩)
abbrev rmX4_isSchool : Room := { frames := 0, cells := 0, slots := 0, locals := 0 }
set_option maxRecDepth 100000 in
set_option maxHeartbeats 4000000 in
theorem cX4_isSchool_ok (w : Int) (μ : MU) : CTi yX4_isSchool cX4_isSchool 2 (some .boolean) rmX4_isSchool [aR 12 0, aI w] μ (fun r μ' => μ = μ' ∧ r = bI (0 ≤ w ∧ w < μ 22 0)) := by
  intro l9 b9 D9 K9
  refine met_of (by decide) (Nat.le_of_ble_eq_true rfl) (fun x hC hR hM hA => ?_)
  have hC : Ctx x RX4 cX4_isSchool rmX4_isSchool := hC
  refine v_iload_n hC 1 dX4_isSchool_0 rfl rfl ?_
  refine v_if_lt hC 16 dX4_isSchool_1 rfl (fun h1 => ?_) (fun h1 => ?_)
  · refine v_iconst hC dX4_isSchool_16 ⟨by decide, by decide⟩ ?_
    exact v_bret hC hR dX4_isSchool_17 (by omega) (⟨_, rfl, rfl, bI_f (fun q => by have := q.1; omega)⟩)
  · refine v_iload_n hC 1 dX4_isSchool_4 rfl rfl ?_
    refine v_aload_n hC 0 dX4_isSchool_5 rfl rfl ?_
    refine v_getI hC foX4_63 dX4_isSchool_6 rfl rfl rfl (by first | decide | (simp only [vdn]; omega)) ?_
    try simp only [Int.toNat_natCast, upM_at, upM_nef, ne_eq, not_false_eq_true, Nat.reduceEqDiff, Nat.reduceAdd]
    refine v_icmp_ge hC 16 dX4_isSchool_9 rfl (fun h9 => ?_) (fun h9 => ?_)
    · refine v_iconst hC dX4_isSchool_16 ⟨by decide, by decide⟩ ?_
      exact v_bret hC hR dX4_isSchool_17 (by omega) (⟨_, rfl, rfl, bI_f (fun q => by have := q.2; omega)⟩)
    · refine v_iconst hC dX4_isSchool_12 ⟨by decide, by decide⟩ ?_
      refine v_goto hC 17 dX4_isSchool_13 rfl ?_
      exact v_bret hC hR dX4_isSchool_17 (by omega) (⟨_, rfl, rfl, bI_t ⟨by omega, by omega⟩⟩)
abbrev rmX4_isPupil : Room := { frames := 0, cells := 0, slots := 0, locals := 0 }
set_option maxRecDepth 100000 in
set_option maxHeartbeats 4000000 in
theorem cX4_isPupil_ok (w : Int) (μ : MU) : CTi yX4_isPupil cX4_isPupil 2 (some .boolean) rmX4_isPupil [aR 12 0, aI w] μ (fun r μ' => μ = μ' ∧ r = bI (0 ≤ w ∧ w < μ 23 0)) := by
  intro l9 b9 D9 K9
  refine met_of (by decide) (Nat.le_of_ble_eq_true rfl) (fun x hC hR hM hA => ?_)
  have hC : Ctx x RX4 cX4_isPupil rmX4_isPupil := hC
  refine v_iload_n hC 1 dX4_isPupil_0 rfl rfl ?_
  refine v_if_lt hC 16 dX4_isPupil_1 rfl (fun h1 => ?_) (fun h1 => ?_)
  · refine v_iconst hC dX4_isPupil_16 ⟨by decide, by decide⟩ ?_
    exact v_bret hC hR dX4_isPupil_17 (by omega) (⟨_, rfl, rfl, bI_f (fun q => by have := q.1; omega)⟩)
  · refine v_iload_n hC 1 dX4_isPupil_4 rfl rfl ?_
    refine v_aload_n hC 0 dX4_isPupil_5 rfl rfl ?_
    refine v_getI hC foX4_66 dX4_isPupil_6 rfl rfl rfl (by first | decide | (simp only [vdn]; omega)) ?_
    try simp only [Int.toNat_natCast, upM_at, upM_nef, ne_eq, not_false_eq_true, Nat.reduceEqDiff, Nat.reduceAdd]
    refine v_icmp_ge hC 16 dX4_isPupil_9 rfl (fun h9 => ?_) (fun h9 => ?_)
    · refine v_iconst hC dX4_isPupil_16 ⟨by decide, by decide⟩ ?_
      exact v_bret hC hR dX4_isPupil_17 (by omega) (⟨_, rfl, rfl, bI_f (fun q => by have := q.2; omega)⟩)
    · refine v_iconst hC dX4_isPupil_12 ⟨by decide, by decide⟩ ?_
      refine v_goto hC 17 dX4_isPupil_13 rfl ?_
      exact v_bret hC hR dX4_isPupil_17 (by omega) (⟨_, rfl, rfl, bI_t ⟨by omega, by omega⟩⟩)
abbrev rmX4_place : Room := { frames := 0, cells := 0, slots := 0, locals := 0 }
set_option maxRecDepth 100000 in
set_option maxHeartbeats 4000000 in
theorem cX4_place_ok (p : Nat) (w : Int) (μ : MU) (hp : p < 20) (hSm : Sm μ) : CTi yX4_place cX4_place 4 (some .int) rmX4_place [aR 12 0, aI p, aI w] μ (fun r μ' => μ = μ' ∧ r = o9 (mplF μ p w)) := by
  intro l9 b9 D9 K9
  refine met_of (by decide) (Nat.le_of_ble_eq_true rfl) (fun x hC hR hM hA => ?_)
  have hC : Ctx x RX4 cX4_place rmX4_place := hC
  obtain ⟨⟨s1, s2⟩, ⟨n1, n2⟩, hr, hkc, hq, hpp, hli, hnu⟩ := hSm
  have hp1 := hpp p hp
  refine v_iconst hC dX4_place_0 ⟨by decide, by decide⟩ ?_
  refine v_istore_n hC 3 dX4_place_1 rfl (Nat.le_of_ble_eq_true rfl) ?_
  refine v_loop (fun i : Nat => (μ 29 p).toNat - i) (fun i => fnd (fun j => decide (μ 30 (4 * p + j) = w)) i ((μ 29 p).toNat - i) = mplF μ p w) (fun i => V x 0 0 none 2 [some (aR 12 0), some (aI p), some (aI w), some (aI (i : Int))] [] μ) (fun i hi ih => ?_) 0 rfl
  have ei : ((4 : Int) * (p : Int) + (i : Int)).toNat = 4 * p + i := by omega
  refine v_iload_n hC 3 dX4_place_2 rfl rfl ?_
  refine v_aload_n hC 0 dX4_place_3 rfl rfl ?_
  refine v_getR hC foX4_26 dX4_place_4 rfl rfl rfl (by decide) (by first | decide | (simp only [vdn]; omega)) ?_
  refine v_iload_n hC 1 dX4_place_7 rfl rfl ?_
  refine v_iald hC dX4_place_8 rfl rfl rfl (by first | decide | (simp only [vdn]; omega)) ⟨by first | omega | (simp only [mlen]; omega), by first | omega | (simp only [mlen]; omega)⟩ ?_
  try simp only [Int.toNat_natCast, upM_at, upM_nef, ne_eq, not_false_eq_true, Nat.reduceEqDiff, Nat.reduceAdd]
  refine v_icmp_ge hC 34 dX4_place_9 rfl (fun h9 => ?_) (fun h9 => ?_)
  · refine v_bipush hC dX4_place_34 ⟨by decide, by decide⟩ ?_
    exact v_iret hC hR dX4_place_36 (⟨_, rfl, rfl, by rw [← hi, fnd_done (by omega)]; rfl⟩)
  · refine v_aload_n hC 0 dX4_place_12 rfl rfl ?_
    refine v_getR hC foX4_29 dX4_place_13 rfl rfl rfl (by decide) (by first | decide | (simp only [vdn]; omega)) ?_
    refine v_iconst hC dX4_place_16 ⟨by decide, by decide⟩ ?_
    refine v_iload_n hC 1 dX4_place_17 rfl rfl ?_
    refine v_imul hC dX4_place_18 ⟨by omega, by omega⟩ ?_
    refine v_iload_n hC 3 dX4_place_19 rfl rfl ?_
    refine v_iadd hC dX4_place_20 ⟨by omega, by omega⟩ ?_
    refine v_iald hC dX4_place_21 rfl rfl rfl (by first | decide | (simp only [vdn]; omega)) ⟨by first | omega | (simp only [mlen]; omega), by first | omega | (simp only [mlen]; omega)⟩ ?_
    try simp only [Int.toNat_natCast, upM_at, upM_nef, ne_eq, not_false_eq_true, Nat.reduceEqDiff, Nat.reduceAdd]
    rw [ei]
    refine v_iload_n hC 2 dX4_place_22 rfl rfl ?_
    refine v_icmp_ne hC 28 dX4_place_23 rfl (fun h23 => ?_) (fun h23 => ?_)
    · refine v_iinc hC dX4_place_28 rfl ⟨by omega, by omega⟩ ?_
      refine v_goto hC 2 dX4_place_31 rfl ?_
      exact ih (i + 1) (fnd_next (by omega) (by simpa using h23) hi) (by omega)
    · refine v_iload_n hC 3 dX4_place_26 rfl rfl ?_
      exact v_iret hC hR dX4_place_27 (⟨_, rfl, rfl, by rw [← hi, fnd_yes (by omega) (by simpa using h23)]; rfl⟩)
abbrev rmX4_band : Room := { frames := 0, cells := 0, slots := 0, locals := 0 }
set_option maxRecDepth 100000 in
set_option maxHeartbeats 4000000 in
theorem cX4_band_ok (p s k : Nat) (μ : MU) (hp : p < 20) (hs : s < 6) (hk : k < 3) : CTi yX4_band cX4_band 6 (some .int) rmX4_band [aR 12 0, aI p, aI s, aI k] μ (fun r μ' => μ = μ' ∧ r = o9 (mbnF μ p s k)) := by
  intro l9 b9 D9 K9
  refine met_of (by decide) (Nat.le_of_ble_eq_true rfl) (fun x hC hR hM hA => ?_)
  have hC : Ctx x RX4 cX4_band rmX4_band := hC
  refine v_iconst hC dX4_band_0 ⟨by decide, by decide⟩ ?_
  refine v_istore hC dX4_band_1 (Nat.le_of_ble_eq_true rfl) ?_
  refine v_loop (fun i : Nat => 3 - i) (fun i => fnd (fun j => decide (0 ≤ μ 26 (9 * s + 3 * k + j) ∧ andI (μ 27 p) (μ 26 (9 * s + 3 * k + j)) = μ 26 (9 * s + 3 * k + j))) i (3 - i) = mbnF μ p s k) (fun i => V x 0 0 none 3 [some (aR 12 0), some (aI p), some (aI s), some (aI k), some (aI (i : Int)), none] [] μ) (fun i hi ih => ?_) 0 rfl
  have ei : ((9 : Int) * (s : Int) + (3 : Int) * (k : Int) + (i : Int)).toNat = 9 * s + 3 * k + i := by omega
  refine v_iload hC dX4_band_3 rfl ?_
  refine v_iconst hC dX4_band_5 ⟨by decide, by decide⟩ ?_
  refine v_icmp_ge hC 55 dX4_band_6 rfl (fun h6 => ?_) (fun h6 => ?_)
  · refine v_bipush hC dX4_band_55 ⟨by decide, by decide⟩ ?_
    exact v_iret hC hR dX4_band_57 (⟨_, rfl, rfl, by rw [← hi, fnd_done (by omega)]; rfl⟩)
  · refine v_aload_n hC 0 dX4_band_9 rfl rfl ?_
    refine v_getR hC foX4_16 dX4_band_10 rfl rfl rfl (by decide) (by first | decide | (simp only [vdn]; omega)) ?_
    refine v_bipush hC dX4_band_13 ⟨by decide, by decide⟩ ?_
    refine v_iload_n hC 2 dX4_band_15 rfl rfl ?_
    refine v_imul hC dX4_band_16 ⟨by omega, by omega⟩ ?_
    refine v_iconst hC dX4_band_17 ⟨by decide, by decide⟩ ?_
    refine v_iload_n hC 3 dX4_band_18 rfl rfl ?_
    refine v_imul hC dX4_band_19 ⟨by omega, by omega⟩ ?_
    refine v_iadd hC dX4_band_20 ⟨by omega, by omega⟩ ?_
    refine v_iload hC dX4_band_21 rfl ?_
    refine v_iadd hC dX4_band_23 ⟨by omega, by omega⟩ ?_
    refine v_iald hC dX4_band_24 rfl rfl rfl (by first | decide | (simp only [vdn]; omega)) ⟨by first | omega | (simp only [mlen]; omega), by first | omega | (simp only [mlen]; omega)⟩ ?_
    try simp only [Int.toNat_natCast, upM_at, upM_nef, ne_eq, not_false_eq_true, Nat.reduceEqDiff, Nat.reduceAdd]
    rw [ei]
    refine v_istore hC dX4_band_25 (Nat.le_of_ble_eq_true rfl) ?_
    refine v_iload hC dX4_band_27 rfl ?_
    refine v_if_lt hC 49 dX4_band_29 rfl (fun h29 => ?_) (fun h29 => ?_)
    · refine v_iinc hC dX4_band_49 rfl ⟨by omega, by omega⟩ ?_
      refine v_goto hC 3 dX4_band_52 rfl ?_
      refine v_forget 5 ?_
      exact ih (i + 1) (fnd_next (by omega) (by simp; intro h; omega) hi) (by omega)
    · refine v_aload_n hC 0 dX4_band_32 rfl rfl ?_
      refine v_getR hC foX4_19 dX4_band_33 rfl rfl rfl (by decide) (by first | decide | (simp only [vdn]; omega)) ?_
      refine v_iload_n hC 1 dX4_band_36 rfl rfl ?_
      refine v_iald hC dX4_band_37 rfl rfl rfl (by first | decide | (simp only [vdn]; omega)) ⟨by first | omega | (simp only [mlen]; omega), by first | omega | (simp only [mlen]; omega)⟩ ?_
      try simp only [Int.toNat_natCast, upM_at, upM_nef, ne_eq, not_false_eq_true, Nat.reduceEqDiff, Nat.reduceAdd]
      refine v_iload hC dX4_band_38 rfl ?_
      refine v_iand hC dX4_band_40 ?_
      refine v_iload hC dX4_band_41 rfl ?_
      refine v_icmp_ne hC 49 dX4_band_43 rfl (fun h43 => ?_) (fun h43 => ?_)
      · refine v_iinc hC dX4_band_49 rfl ⟨by omega, by omega⟩ ?_
        refine v_goto hC 3 dX4_band_52 rfl ?_
        refine v_forget 5 ?_
        exact ih (i + 1) (fnd_next (by omega) (by simp; intro _; exact h43) hi) (by omega)
      · refine v_iload hC dX4_band_46 rfl ?_
        exact v_iret hC hR dX4_band_48 (⟨_, rfl, rfl, by rw [← hi, fnd_yes (by omega) (by simp; exact ⟨by omega, h43⟩)]; rfl⟩)
abbrev rmX4_eligible : Room := { frames := 1, cells := 0, slots := 0, locals := 25 }
set_option maxRecDepth 100000 in
set_option maxHeartbeats 4000000 in
theorem cX4_eligible_ok (p s k : Nat) (μ : MU) (hp : p < 20) (hs : s < 6) (hk : k < 3) : CTi yX4_eligible cX4_eligible 4 (some .boolean) rmX4_eligible [aR 12 0, aI p, aI s, aI k] μ (fun r μ' => μ = μ' ∧ r = bI ((mbnF μ p s k).isSome = true)) := by
  intro l9 b9 D9 K9
  refine met_of (by decide) (Nat.le_of_ble_eq_true rfl) (fun x hC hR hM hA => ?_)
  have hC : Ctx x RX4 cX4_eligible rmX4_eligible := hC
  refine v_aload_n hC 0 dX4_eligible_0 rfl rfl ?_
  refine v_iload_n hC 1 dX4_eligible_1 rfl rfl ?_
  refine v_iload_n hC 2 dX4_eligible_2 rfl rfl ?_
  refine v_iload_n hC 3 dX4_eligible_3 rfl rfl ?_
  refine v_callI3 hC (cwX4_84 hC ⟨Nat.le_of_ble_eq_true rfl, Nat.le_of_ble_eq_true rfl⟩) dX4_eligible_4 rfl rfl rfl (Nat.zero_le _) (Nat.zero_le _) (Nat.le_of_ble_eq_true rfl) (by first | decide | (simp only [vdn]; omega)) (cX4_band_ok p s k μ hp hs hk) (fun r1 μ1 hp => ?_)
  obtain ⟨rfl, rfl⟩ := hp
  refine v_bipush hC dX4_eligible_7 ⟨by decide, by decide⟩ ?_
  refine v_icmp_ge hC 16 dX4_eligible_9 rfl (fun h9 => ?_) (fun h9 => ?_)
  · refine v_iconst hC dX4_eligible_16 ⟨by decide, by decide⟩ ?_
    exact v_bret hC hR dX4_eligible_17 (by omega) (⟨_, rfl, rfl, bI_f (fun q => by have := (o9_9 (n := 3) (by omega)).2 q; unfold mbnF at h9; omega)⟩)
  · refine v_iconst hC dX4_eligible_12 ⟨by decide, by decide⟩ ?_
    refine v_goto hC 17 dX4_eligible_13 rfl ?_
    exact v_bret hC hR dX4_eligible_17 (by omega) (⟨_, rfl, rfl, bI_t ((o9_9 (n := 3) (by omega)).1 (by unfold mbnF at h9; omega))⟩)
abbrev rmX4_rank : Room := { frames := 1, cells := 0, slots := 0, locals := 25 }
set_option maxRecDepth 100000 in
set_option maxHeartbeats 4000000 in
theorem cX4_rank_ok (p s k : Nat) (μ : MU) (hp : p < 20) (hs : s < 6) (hk : k < 3) (hSm : Sm μ) : CTi yX4_rank cX4_rank 5 (some .int) rmX4_rank [aR 12 0, aI p, aI s, aI k] μ (fun r μ' => μ = μ' ∧ r = rkF μ p s k) := by
  intro l9 b9 D9 K9
  refine met_of (by decide) (Nat.le_of_ble_eq_true rfl) (fun x hC hR hM hA => ?_)
  have hC : Ctx x RX4 cX4_rank rmX4_rank := hC
  obtain ⟨⟨s1, s2⟩, ⟨n1, n2⟩, hr, hkc, hq, hpp, hli, hnu⟩ := hSm
  have hn1 := hnu (6 * p + s) (by omega)
  have ei : ((6 : Int) * (p : Int) + (s : Int)).toNat = 6 * p + s := by omega
  have ho := o9_r (P := fun j => decide (0 ≤ μ 26 (9 * s + 3 * k + j) ∧ andI (μ 27 p) (μ 26 (9 * s + 3 * k + j)) = μ 26 (9 * s + 3 * k + j))) (n := 3) (by omega)
  have ho : 0 ≤ o9 (mbnF μ p s k) ∧ o9 (mbnF μ p s k) ≤ 9 := ho
  refine v_aload_n hC 0 dX4_rank_0 rfl rfl ?_
  refine v_getR hC foX4_32 dX4_rank_1 rfl rfl rfl (by decide) (by first | decide | (simp only [vdn]; omega)) ?_
  refine v_bipush hC dX4_rank_4 ⟨by decide, by decide⟩ ?_
  refine v_iload_n hC 1 dX4_rank_6 rfl rfl ?_
  refine v_imul hC dX4_rank_7 ⟨by omega, by omega⟩ ?_
  refine v_iload_n hC 2 dX4_rank_8 rfl rfl ?_
  refine v_iadd hC dX4_rank_9 ⟨by omega, by omega⟩ ?_
  refine v_iald hC dX4_rank_10 rfl rfl rfl (by first | decide | (simp only [vdn]; omega)) ⟨by first | omega | (simp only [mlen]; omega), by first | omega | (simp only [mlen]; omega)⟩ ?_
  try simp only [Int.toNat_natCast, upM_at, upM_nef, ne_eq, not_false_eq_true, Nat.reduceEqDiff, Nat.reduceAdd]
  rw [ei]
  refine v_istore hC dX4_rank_11 (Nat.le_of_ble_eq_true rfl) ?_
  refine v_aload_n hC 0 dX4_rank_13 rfl rfl ?_
  refine v_getR hC foX4_22 dX4_rank_14 rfl rfl rfl (by decide) (by first | decide | (simp only [vdn]; omega)) ?_
  refine v_iload_n hC 1 dX4_rank_17 rfl rfl ?_
  refine v_zald hC dX4_rank_18 rfl rfl rfl (by first | decide | (simp only [vdn]; omega)) ⟨by first | omega | (simp only [mlen]; omega), by first | omega | (simp only [mlen]; omega)⟩ ?_
  try simp only [Int.toNat_natCast, upM_at, upM_nef, ne_eq, not_false_eq_true, Nat.reduceEqDiff, Nat.reduceAdd]
  refine v_if_eq hC 27 dX4_rank_19 rfl (fun h19 => ?_) (fun h19 => ?_)
  · refine v_iconst hC dX4_rank_27 ⟨by decide, by decide⟩ ?_
    refine v_sipush hC dX4_rank_28 ⟨by decide, by decide⟩ ?_
    refine v_aload_n hC 0 dX4_rank_31 rfl rfl ?_
    refine v_iload_n hC 1 dX4_rank_32 rfl rfl ?_
    refine v_iload_n hC 2 dX4_rank_33 rfl rfl ?_
    refine v_iload_n hC 3 dX4_rank_34 rfl rfl ?_
    refine v_callI3 hC (cwX4_84 hC ⟨Nat.le_of_ble_eq_true rfl, Nat.le_of_ble_eq_true rfl⟩) dX4_rank_35 rfl rfl rfl (Nat.zero_le _) (Nat.zero_le _) (Nat.le_of_ble_eq_true rfl) (by first | decide | (simp only [vdn]; omega)) (cX4_band_ok p s k μ hp hs hk) (fun r1 μ1 hp => ?_)
    obtain ⟨rfl, rfl⟩ := hp
    refine v_imul hC dX4_rank_38 ⟨by omega, by omega⟩ ?_
    refine v_iadd hC dX4_rank_39 ⟨by omega, by omega⟩ ?_
    refine v_iload hC dX4_rank_40 rfl ?_
    refine v_if_ge hC 53 dX4_rank_42 rfl (fun h42 => ?_) (fun h42 => ?_)
    · refine v_iload hC dX4_rank_53 rfl ?_
      refine v_iadd hC dX4_rank_55 ⟨by omega, by omega⟩ ?_
      exact v_iret hC hR dX4_rank_56 (⟨_, rfl, rfl, by rw [rkF, if_pos h19, if_neg (by omega)]⟩)
    · refine v_sipush hC dX4_rank_45 ⟨by decide, by decide⟩ ?_
      refine v_iload_n hC 1 dX4_rank_48 rfl rfl ?_
      refine v_iadd hC dX4_rank_49 ⟨by omega, by omega⟩ ?_
      refine v_goto hC 55 dX4_rank_50 rfl ?_
      refine v_iadd hC dX4_rank_55 ⟨by omega, by omega⟩ ?_
      exact v_iret hC hR dX4_rank_56 (⟨_, rfl, rfl, by rw [rkF, if_pos h19, if_pos (by omega)]⟩)
  · refine v_ldc (v := 100000) hC dX4_rank_22 ldX4_88 ⟨by decide, by decide⟩ ?_
    refine v_goto hC 28 dX4_rank_24 rfl ?_
    refine v_sipush hC dX4_rank_28 ⟨by decide, by decide⟩ ?_
    refine v_aload_n hC 0 dX4_rank_31 rfl rfl ?_
    refine v_iload_n hC 1 dX4_rank_32 rfl rfl ?_
    refine v_iload_n hC 2 dX4_rank_33 rfl rfl ?_
    refine v_iload_n hC 3 dX4_rank_34 rfl rfl ?_
    refine v_callI3 hC (cwX4_84 hC ⟨Nat.le_of_ble_eq_true rfl, Nat.le_of_ble_eq_true rfl⟩) dX4_rank_35 rfl rfl rfl (Nat.zero_le _) (Nat.zero_le _) (Nat.le_of_ble_eq_true rfl) (by first | decide | (simp only [vdn]; omega)) (cX4_band_ok p s k μ hp hs hk) (fun r1 μ1 hp => ?_)
    obtain ⟨rfl, rfl⟩ := hp
    refine v_imul hC dX4_rank_38 ⟨by omega, by omega⟩ ?_
    refine v_iadd hC dX4_rank_39 ⟨by omega, by omega⟩ ?_
    refine v_iload hC dX4_rank_40 rfl ?_
    refine v_if_ge hC 53 dX4_rank_42 rfl (fun h42 => ?_) (fun h42 => ?_)
    · refine v_iload hC dX4_rank_53 rfl ?_
      refine v_iadd hC dX4_rank_55 ⟨by omega, by omega⟩ ?_
      exact v_iret hC hR dX4_rank_56 (⟨_, rfl, rfl, by rw [rkF, if_neg h19, if_neg (by omega)]⟩)
    · refine v_sipush hC dX4_rank_45 ⟨by decide, by decide⟩ ?_
      refine v_iload_n hC 1 dX4_rank_48 rfl rfl ?_
      refine v_iadd hC dX4_rank_49 ⟨by omega, by omega⟩ ?_
      refine v_goto hC 55 dX4_rank_50 rfl ?_
      refine v_iadd hC dX4_rank_55 ⟨by omega, by omega⟩ ?_
      exact v_iret hC hR dX4_rank_56 (⟨_, rfl, rfl, by rw [rkF, if_neg h19, if_pos (by omega)]⟩)
abbrev rmX4_placed : Room := { frames := 0, cells := 0, slots := 0, locals := 0 }
set_option maxRecDepth 100000 in
set_option maxHeartbeats 4000000 in
theorem cX4_placed_ok (μ : MU) (hSm : Sm μ) : CTi yX4_placed cX4_placed 3 (some .int) rmX4_placed [aR 12 0] μ (fun r μ' => μ = μ' ∧ r = cntF (fun p => decide (¬ μ 21 0 = 0 ∧ 0 ≤ μ 33 p)) (μ 23 0).toNat) := by
  intro l9 b9 D9 K9
  refine met_of (by decide) (Nat.le_of_ble_eq_true rfl) (fun x hC hR hM hA => ?_)
  have hC : Ctx x RX4 cX4_placed rmX4_placed := hC
  refine v_iconst hC dX4_placed_0 ⟨by decide, by decide⟩ ?_
  refine v_istore_n hC 1 dX4_placed_1 rfl (Nat.le_of_ble_eq_true rfl) ?_
  refine v_iconst hC dX4_placed_2 ⟨by decide, by decide⟩ ?_
  refine v_istore_n hC 2 dX4_placed_3 rfl (Nat.le_of_ble_eq_true rfl) ?_
  obtain ⟨⟨s1, s2⟩, ⟨n1, n2⟩, hr, hkc, hq, hpp, hli, hnu⟩ := hSm
  refine v_loop (fun i : Nat => (μ 23 0).toNat - i) (fun _ => True) (fun i => ∀ c : Int, i ≤ 20 → 0 ≤ c → c ≤ i → itr (cntS (fun p => decide (¬ μ 21 0 = 0 ∧ 0 ≤ μ 33 p))) i ((μ 23 0).toNat - i) c = cntF (fun p => decide (¬ μ 21 0 = 0 ∧ 0 ≤ μ 33 p)) (μ 23 0).toNat → V x 0 0 none 4 [some (aR 12 0), some (aI c), some (aI (i : Int))] [] μ) (fun i _ ih c a1 a2 a3 a4 => ?_) 0 trivial 0 (by decide) (by decide) (by decide) rfl
  refine v_iload_n hC 2 dX4_placed_4 rfl rfl ?_
  refine v_aload_n hC 0 dX4_placed_5 rfl rfl ?_
  refine v_getI hC foX4_66 dX4_placed_6 rfl rfl rfl (by first | decide | (simp only [vdn]; omega)) ?_
  try simp only [Int.toNat_natCast, upM_at, upM_nef, ne_eq, not_false_eq_true, Nat.reduceEqDiff, Nat.reduceAdd]
  refine v_icmp_ge hC 42 dX4_placed_9 rfl (fun h9 => ?_) (fun h9 => ?_)
  · refine v_iload_n hC 1 dX4_placed_42 rfl rfl ?_
    exact v_iret hC hR dX4_placed_43 (⟨_, rfl, rfl, by rw [← a4, itr_done (by omega)]⟩)
  · refine v_iload_n hC 1 dX4_placed_12 rfl rfl ?_
    refine v_aload_n hC 0 dX4_placed_13 rfl rfl ?_
    refine v_getI hC foX4_69 dX4_placed_14 rfl rfl rfl (by first | decide | (simp only [vdn]; omega)) ?_
    try simp only [Int.toNat_natCast, upM_at, upM_nef, ne_eq, not_false_eq_true, Nat.reduceEqDiff, Nat.reduceAdd]
    refine v_if_eq hC 33 dX4_placed_17 rfl (fun h17 => ?_) (fun h17 => ?_)
    · refine v_iconst hC dX4_placed_33 ⟨by decide, by decide⟩ ?_
      refine v_iadd hC dX4_placed_34 ⟨by omega, by omega⟩ ?_
      refine v_istore_n hC 1 dX4_placed_35 rfl (Nat.le_of_ble_eq_true rfl) ?_
      refine v_iinc hC dX4_placed_36 rfl ⟨by omega, by omega⟩ ?_
      refine v_goto hC 4 dX4_placed_39 rfl ?_
      exact ih (i + 1) trivial (by omega) (c + 0) (by omega) (by omega) (by omega) (itr_next (by omega) (by rw [cntS_n (by simp [h17]), Int.add_zero]) a4)
    · refine v_aload_n hC 0 dX4_placed_20 rfl rfl ?_
      refine v_getR hC foX4_38 dX4_placed_21 rfl rfl rfl (by decide) (by first | decide | (simp only [vdn]; omega)) ?_
      refine v_iload_n hC 2 dX4_placed_24 rfl rfl ?_
      refine v_iald hC dX4_placed_25 rfl rfl rfl (by first | decide | (simp only [vdn]; omega)) ⟨by first | omega | (simp only [mlen]; omega), by first | omega | (simp only [mlen]; omega)⟩ ?_
      try simp only [Int.toNat_natCast, upM_at, upM_nef, ne_eq, not_false_eq_true, Nat.reduceEqDiff, Nat.reduceAdd]
      refine v_if_lt hC 33 dX4_placed_26 rfl (fun h26 => ?_) (fun h26 => ?_)
      · refine v_iconst hC dX4_placed_33 ⟨by decide, by decide⟩ ?_
        refine v_iadd hC dX4_placed_34 ⟨by omega, by omega⟩ ?_
        refine v_istore_n hC 1 dX4_placed_35 rfl (Nat.le_of_ble_eq_true rfl) ?_
        refine v_iinc hC dX4_placed_36 rfl ⟨by omega, by omega⟩ ?_
        refine v_goto hC 4 dX4_placed_39 rfl ?_
        exact ih (i + 1) trivial (by omega) (c + 0) (by omega) (by omega) (by omega) (itr_next (by omega) (by rw [cntS_n (by simp; intro _; omega), Int.add_zero]) a4)
      · refine v_iconst hC dX4_placed_29 ⟨by decide, by decide⟩ ?_
        refine v_goto hC 34 dX4_placed_30 rfl ?_
        refine v_iadd hC dX4_placed_34 ⟨by omega, by omega⟩ ?_
        refine v_istore_n hC 1 dX4_placed_35 rfl (Nat.le_of_ble_eq_true rfl) ?_
        refine v_iinc hC dX4_placed_36 rfl ⟨by omega, by omega⟩ ?_
        refine v_goto hC 4 dX4_placed_39 rfl ?_
        exact ih (i + 1) trivial (by omega) (c + 1) (by omega) (by omega) (by omega) (itr_next (by omega) (by rw [cntS_y (by simp; exact ⟨h17, by omega⟩)]) a4)
abbrev rmX4_give : Room := { frames := 0, cells := 0, slots := 0, locals := 0 }
set_option maxRecDepth 100000 in
set_option maxHeartbeats 4000000 in
theorem cX4_give_ok (p : Nat) (μ : MU) (hp : p < 20) : CTv yX4_give cX4_give 2 rmX4_give [aR 12 0, aI p] μ (fun μ' => upM (upM (upM μ 33 p (-1)) 34 p (-1)) 37 p 0 = μ') := by
  intro l9 b9 D9 K9
  refine met_of (by decide) (Nat.le_of_ble_eq_true rfl) (fun x hC hR hM hA => ?_)
  have hC : Ctx x RX4 cX4_give rmX4_give := hC
  refine v_aload_n hC 0 dX4_give_0 rfl rfl ?_
  refine v_getR hC foX4_38 dX4_give_1 rfl rfl rfl (by decide) (by first | decide | (simp only [vdn]; omega)) ?_
  refine v_iload_n hC 1 dX4_give_4 rfl rfl ?_
  refine v_iconst hC dX4_give_5 ⟨by decide, by decide⟩ ?_
  refine v_iast hC dX4_give_6 rfl rfl rfl (by decide) (by first | decide | (simp only [vdn]; omega)) ⟨by first | omega | (simp only [mlen]; omega), by first | omega | (simp only [mlen]; omega)⟩ ?_
  try simp only [Int.toNat_natCast, upM_at, upM_nef, ne_eq, not_false_eq_true, Nat.reduceEqDiff, Nat.reduceAdd]
  refine v_aload_n hC 0 dX4_give_7 rfl rfl ?_
  refine v_getR hC foX4_41 dX4_give_8 rfl rfl rfl (by decide) (by first | decide | (simp only [vdn]; omega)) ?_
  refine v_iload_n hC 1 dX4_give_11 rfl rfl ?_
  refine v_iconst hC dX4_give_12 ⟨by decide, by decide⟩ ?_
  refine v_iast hC dX4_give_13 rfl rfl rfl (by decide) (by first | decide | (simp only [vdn]; omega)) ⟨by first | omega | (simp only [mlen]; omega), by first | omega | (simp only [mlen]; omega)⟩ ?_
  try simp only [Int.toNat_natCast, upM_at, upM_nef, ne_eq, not_false_eq_true, Nat.reduceEqDiff, Nat.reduceAdd]
  refine v_aload_n hC 0 dX4_give_14 rfl rfl ?_
  refine v_getR hC foX4_50 dX4_give_15 rfl rfl rfl (by decide) (by first | decide | (simp only [vdn]; omega)) ?_
  refine v_iload_n hC 1 dX4_give_18 rfl rfl ?_
  refine v_iconst hC dX4_give_19 ⟨by decide, by decide⟩ ?_
  refine v_iast hC dX4_give_20 rfl rfl rfl (by decide) (by first | decide | (simp only [vdn]; omega)) ⟨by first | omega | (simp only [mlen]; omega), by first | omega | (simp only [mlen]; omega)⟩ ?_
  try simp only [Int.toNat_natCast, upM_at, upM_nef, ne_eq, not_false_eq_true, Nat.reduceEqDiff, Nat.reduceAdd]
  exact v_vret hC hR (Nat.le_refl _) (Nat.le_refl _) dX4_give_21 (⟨rfl, rfl⟩)
abbrev rmX4_own : Room := { frames := 1, cells := 0, slots := 0, locals := 23 }
set_option maxRecDepth 100000 in
set_option maxHeartbeats 4000000 in
theorem cX4_own_ok (p : Nat) (μ : MU) (hp : p < 20) (hSm : Sm μ) : CTi yX4_own cX4_own 2 (some .int) rmX4_own [aR 12 0, aI p] μ (fun r μ' => μ = μ' ∧ r = (if μ 33 p < 0 then 9 else o9 (mplF μ p (μ 33 p)))) := by
  intro l9 b9 D9 K9
  refine met_of (by decide) (Nat.le_of_ble_eq_true rfl) (fun x hC hR hM hA => ?_)
  have hC : Ctx x RX4 cX4_own rmX4_own := hC
  refine v_aload_n hC 0 dX4_own_0 rfl rfl ?_
  refine v_getR hC foX4_38 dX4_own_1 rfl rfl rfl (by decide) (by first | decide | (simp only [vdn]; omega)) ?_
  refine v_iload_n hC 1 dX4_own_4 rfl rfl ?_
  refine v_iald hC dX4_own_5 rfl rfl rfl (by first | decide | (simp only [vdn]; omega)) ⟨by first | omega | (simp only [mlen]; omega), by first | omega | (simp only [mlen]; omega)⟩ ?_
  try simp only [Int.toNat_natCast, upM_at, upM_nef, ne_eq, not_false_eq_true, Nat.reduceEqDiff, Nat.reduceAdd]
  refine v_if_ge hC 14 dX4_own_6 rfl (fun h6 => ?_) (fun h6 => ?_)
  · refine v_aload_n hC 0 dX4_own_14 rfl rfl ?_
    refine v_iload_n hC 1 dX4_own_15 rfl rfl ?_
    refine v_aload_n hC 0 dX4_own_16 rfl rfl ?_
    refine v_getR hC foX4_38 dX4_own_17 rfl rfl rfl (by decide) (by first | decide | (simp only [vdn]; omega)) ?_
    refine v_iload_n hC 1 dX4_own_20 rfl rfl ?_
    refine v_iald hC dX4_own_21 rfl rfl rfl (by first | decide | (simp only [vdn]; omega)) ⟨by first | omega | (simp only [mlen]; omega), by first | omega | (simp only [mlen]; omega)⟩ ?_
    try simp only [Int.toNat_natCast, upM_at, upM_nef, ne_eq, not_false_eq_true, Nat.reduceEqDiff, Nat.reduceAdd]
    refine v_callI2 hC (cwX4_80 hC ⟨Nat.le_of_ble_eq_true rfl, Nat.le_of_ble_eq_true rfl⟩) dX4_own_22 rfl rfl rfl (Nat.zero_le _) (Nat.zero_le _) (Nat.le_of_ble_eq_true rfl) (by first | decide | (simp only [vdn]; omega)) (cX4_place_ok p (μ 33 p) μ hp hSm) (fun r1 μ1 hp => ?_)
    obtain ⟨rfl, rfl⟩ := hp
    exact v_iret hC hR dX4_own_25 (⟨_, rfl, rfl, by rw [if_neg (by omega)]⟩)
  · refine v_bipush hC dX4_own_9 ⟨by decide, by decide⟩ ?_
    refine v_goto hC 25 dX4_own_11 rfl ?_
    exact v_iret hC hR dX4_own_25 (⟨_, rfl, rfl, by rw [if_pos (by omega)]⟩)
def ownF (μ : MU) (p : Nat) : Int := if μ 33 p < 0 then 9 else o9 (mplF μ p (μ 33 p))
abbrev mwtP (μ : MU) (p : Nat) (w : Int) : Prop := o9 (mplF μ p w) < 9 ∧ o9 (mplF μ p w) < μ 37 p ∧ o9 (mplF μ p w) < ownF μ p
abbrev rmX4_waits : Room := { frames := 2, cells := 0, slots := 0, locals := 44 }
set_option maxRecDepth 100000 in
set_option maxHeartbeats 4000000 in
theorem cX4_waits_ok (p : Nat) (w : Int) (μ : MU) (hp : p < 20) (hSm : Sm μ) : CTi yX4_waits cX4_waits 4 (some .boolean) rmX4_waits [aR 12 0, aI p, aI w] μ (fun r μ' => μ = μ' ∧ r = bI (mwtP μ p w)) := by
  intro l9 b9 D9 K9
  refine met_of (by decide) (Nat.le_of_ble_eq_true rfl) (fun x hC hR hM hA => ?_)
  have hC : Ctx x RX4 cX4_waits rmX4_waits := hC
  refine v_aload_n hC 0 dX4_waits_0 rfl rfl ?_
  refine v_iload_n hC 1 dX4_waits_1 rfl rfl ?_
  refine v_iload_n hC 2 dX4_waits_2 rfl rfl ?_
  refine v_callI2 hC (cwX4_80 hC ⟨Nat.le_of_ble_eq_true rfl, Nat.le_of_ble_eq_true rfl⟩) dX4_waits_3 rfl rfl rfl (Nat.zero_le _) (Nat.zero_le _) (Nat.le_of_ble_eq_true rfl) (by first | decide | (simp only [vdn]; omega)) (cX4_place_ok p w μ hp hSm) (fun r1 μ1 hp => ?_)
  obtain ⟨rfl, rfl⟩ := hp
  refine v_istore_n hC 3 dX4_waits_6 rfl (Nat.le_of_ble_eq_true rfl) ?_
  refine v_iload_n hC 3 dX4_waits_7 rfl rfl ?_
  refine v_bipush hC dX4_waits_8 ⟨by decide, by decide⟩ ?_
  refine v_icmp_ge hC 36 dX4_waits_10 rfl (fun h10 => ?_) (fun h10 => ?_)
  · refine v_iconst hC dX4_waits_36 ⟨by decide, by decide⟩ ?_
    exact v_bret hC hR dX4_waits_37 (by omega) (⟨_, rfl, rfl, bI_f (fun q => by have := q.1; omega)⟩)
  · refine v_iload_n hC 3 dX4_waits_13 rfl rfl ?_
    refine v_aload_n hC 0 dX4_waits_14 rfl rfl ?_
    refine v_getR hC foX4_50 dX4_waits_15 rfl rfl rfl (by decide) (by first | decide | (simp only [vdn]; omega)) ?_
    refine v_iload_n hC 1 dX4_waits_18 rfl rfl ?_
    refine v_iald hC dX4_waits_19 rfl rfl rfl (by first | decide | (simp only [vdn]; omega)) ⟨by first | omega | (simp only [mlen]; omega), by first | omega | (simp only [mlen]; omega)⟩ ?_
    try simp only [Int.toNat_natCast, upM_at, upM_nef, ne_eq, not_false_eq_true, Nat.reduceEqDiff, Nat.reduceAdd]
    refine v_icmp_ge hC 36 dX4_waits_20 rfl (fun h20 => ?_) (fun h20 => ?_)
    · refine v_iconst hC dX4_waits_36 ⟨by decide, by decide⟩ ?_
      exact v_bret hC hR dX4_waits_37 (by omega) (⟨_, rfl, rfl, bI_f (fun q => by have := q.2.1; omega)⟩)
    · refine v_iload_n hC 3 dX4_waits_23 rfl rfl ?_
      refine v_aload_n hC 0 dX4_waits_24 rfl rfl ?_
      refine v_iload_n hC 1 dX4_waits_25 rfl rfl ?_
      refine v_callI1 hC (cwX4_110 hC ⟨Nat.le_of_ble_eq_true rfl, Nat.le_of_ble_eq_true rfl⟩) dX4_waits_26 rfl rfl rfl (Nat.zero_le _) (Nat.zero_le _) (Nat.le_of_ble_eq_true rfl) (by first | decide | (simp only [vdn]; omega)) (cX4_own_ok p μ hp hSm) (fun r1 μ1 hp => ?_)
      obtain ⟨rfl, hr9⟩ := hp
      have hr9 : r1 = ownF μ p := hr9
      subst hr9
      refine v_icmp_ge hC 36 dX4_waits_29 rfl (fun h29 => ?_) (fun h29 => ?_)
      · refine v_iconst hC dX4_waits_36 ⟨by decide, by decide⟩ ?_
        exact v_bret hC hR dX4_waits_37 (by omega) (⟨_, rfl, rfl, bI_f (fun q => by have := q.2.2; omega)⟩)
      · refine v_iconst hC dX4_waits_32 ⟨by decide, by decide⟩ ?_
        refine v_goto hC 37 dX4_waits_33 rfl ?_
        exact v_bret hC hR dX4_waits_37 (by omega) (⟨_, rfl, rfl, bI_t ⟨by omega, by omega, by omega⟩⟩)
abbrev rmX4_holders : Room := { frames := 0, cells := 0, slots := 0, locals := 0 }
set_option maxRecDepth 100000 in
set_option maxHeartbeats 4000000 in
theorem cX4_holders_ok (s k : Nat) (μ : MU) (hSm : Sm μ) : CTi yX4_holders cX4_holders 5 (some .int) rmX4_holders [aR 12 0, aI s, aI k] μ (fun r μ' => μ = μ' ∧ r = cntF (fun p => decide (μ 33 p = (s : Int) ∧ μ 34 p = (k : Int))) (μ 23 0).toNat) := by
  intro l9 b9 D9 K9
  refine met_of (by decide) (Nat.le_of_ble_eq_true rfl) (fun x hC hR hM hA => ?_)
  have hC : Ctx x RX4 cX4_holders rmX4_holders := hC
  refine v_iconst hC dX4_holders_0 ⟨by decide, by decide⟩ ?_
  refine v_istore_n hC 3 dX4_holders_1 rfl (Nat.le_of_ble_eq_true rfl) ?_
  refine v_iconst hC dX4_holders_2 ⟨by decide, by decide⟩ ?_
  refine v_istore hC dX4_holders_3 (Nat.le_of_ble_eq_true rfl) ?_
  obtain ⟨⟨s1, s2⟩, ⟨n1, n2⟩, hr, hkc, hq, hpp, hli, hnu⟩ := hSm
  refine v_loop (fun i : Nat => (μ 23 0).toNat - i) (fun _ => True) (fun i => ∀ c : Int, i ≤ 20 → 0 ≤ c → c ≤ i → itr (cntS (fun p => decide (μ 33 p = (s : Int) ∧ μ 34 p = (k : Int)))) i ((μ 23 0).toNat - i) c = cntF (fun p => decide (μ 33 p = (s : Int) ∧ μ 34 p = (k : Int))) (μ 23 0).toNat → V x 0 0 none 5 [some (aR 12 0), some (aI s), some (aI k), some (aI c), some (aI (i : Int))] [] μ) (fun i _ ih c a1 a2 a3 a4 => ?_) 0 trivial 0 (by decide) (by decide) (by decide) rfl
  refine v_iload hC dX4_holders_5 rfl ?_
  refine v_aload_n hC 0 dX4_holders_7 rfl rfl ?_
  refine v_getI hC foX4_66 dX4_holders_8 rfl rfl rfl (by first | decide | (simp only [vdn]; omega)) ?_
  try simp only [Int.toNat_natCast, upM_at, upM_nef, ne_eq, not_false_eq_true, Nat.reduceEqDiff, Nat.reduceAdd]
  refine v_icmp_ge hC 50 dX4_holders_11 rfl (fun h11 => ?_) (fun h11 => ?_)
  · refine v_iload_n hC 3 dX4_holders_50 rfl rfl ?_
    exact v_iret hC hR dX4_holders_51 (⟨_, rfl, rfl, by rw [← a4, itr_done (by omega)]⟩)
  · refine v_iload_n hC 3 dX4_holders_14 rfl rfl ?_
    refine v_aload_n hC 0 dX4_holders_15 rfl rfl ?_
    refine v_getR hC foX4_38 dX4_holders_16 rfl rfl rfl (by decide) (by first | decide | (simp only [vdn]; omega)) ?_
    refine v_iload hC dX4_holders_19 rfl ?_
    refine v_iald hC dX4_holders_21 rfl rfl rfl (by first | decide | (simp only [vdn]; omega)) ⟨by first | omega | (simp only [mlen]; omega), by first | omega | (simp only [mlen]; omega)⟩ ?_
    try simp only [Int.toNat_natCast, upM_at, upM_nef, ne_eq, not_false_eq_true, Nat.reduceEqDiff, Nat.reduceAdd]
    refine v_iload_n hC 1 dX4_holders_22 rfl rfl ?_
    refine v_icmp_ne hC 41 dX4_holders_23 rfl (fun h23 => ?_) (fun h23 => ?_)
    · refine v_iconst hC dX4_holders_41 ⟨by decide, by decide⟩ ?_
      refine v_iadd hC dX4_holders_42 ⟨by omega, by omega⟩ ?_
      refine v_istore_n hC 3 dX4_holders_43 rfl (Nat.le_of_ble_eq_true rfl) ?_
      refine v_iinc hC dX4_holders_44 rfl ⟨by omega, by omega⟩ ?_
      refine v_goto hC 5 dX4_holders_47 rfl ?_
      exact ih (i + 1) trivial (by omega) (c + 0) (by omega) (by omega) (by omega) (itr_next (by omega) (by rw [cntS_n (by simp; intro h; exact absurd h h23), Int.add_zero]) a4)
    · refine v_aload_n hC 0 dX4_holders_26 rfl rfl ?_
      refine v_getR hC foX4_41 dX4_holders_27 rfl rfl rfl (by decide) (by first | decide | (simp only [vdn]; omega)) ?_
      refine v_iload hC dX4_holders_30 rfl ?_
      refine v_iald hC dX4_holders_32 rfl rfl rfl (by first | decide | (simp only [vdn]; omega)) ⟨by first | omega | (simp only [mlen]; omega), by first | omega | (simp only [mlen]; omega)⟩ ?_
      try simp only [Int.toNat_natCast, upM_at, upM_nef, ne_eq, not_false_eq_true, Nat.reduceEqDiff, Nat.reduceAdd]
      refine v_iload_n hC 2 dX4_holders_33 rfl rfl ?_
      refine v_icmp_ne hC 41 dX4_holders_34 rfl (fun h34 => ?_) (fun h34 => ?_)
      · refine v_iconst hC dX4_holders_41 ⟨by decide, by decide⟩ ?_
        refine v_iadd hC dX4_holders_42 ⟨by omega, by omega⟩ ?_
        refine v_istore_n hC 3 dX4_holders_43 rfl (Nat.le_of_ble_eq_true rfl) ?_
        refine v_iinc hC dX4_holders_44 rfl ⟨by omega, by omega⟩ ?_
        refine v_goto hC 5 dX4_holders_47 rfl ?_
        exact ih (i + 1) trivial (by omega) (c + 0) (by omega) (by omega) (by omega) (itr_next (by omega) (by rw [cntS_n (by simp; intro _; exact h34), Int.add_zero]) a4)
      · refine v_iconst hC dX4_holders_37 ⟨by decide, by decide⟩ ?_
        refine v_goto hC 42 dX4_holders_38 rfl ?_
        refine v_iadd hC dX4_holders_42 ⟨by omega, by omega⟩ ?_
        refine v_istore_n hC 3 dX4_holders_43 rfl (Nat.le_of_ble_eq_true rfl) ?_
        refine v_iinc hC dX4_holders_44 rfl ⟨by omega, by omega⟩ ?_
        refine v_goto hC 5 dX4_holders_47 rfl ?_
        exact ih (i + 1) trivial (by omega) (c + 1) (by omega) (by omega) (by omega) (itr_next (by omega) (by rw [cntS_y (by simp; exact ⟨h23, h34⟩)]) a4)
