/-! The office: what it asks itself. -/
abbrev rmX3_isSchool : Room := { frames := 0, cells := 0, slots := 0, locals := 0 }
set_option maxRecDepth 100000 in
set_option maxHeartbeats 4000000 in
theorem cX3_isSchool_ok (w : Int) (μ : MU) : CTi yX3_isSchool cX3_isSchool 2 (some .boolean) rmX3_isSchool [aR 0 0, aI w] μ (fun r μ' => μ = μ' ∧ r = bI (isS μ w)) := by
  intro l9 b9 D9 K9
  refine met_of (by decide) (Nat.le_of_ble_eq_true rfl) (fun x hC hR hM hA => ?_)
  have hC : Ctx x RX3 cX3_isSchool rmX3_isSchool := hC
  refine v_iload_n hC 1 dX3_isSchool_0 rfl rfl ?_
  refine v_if_lt hC 16 dX3_isSchool_1 rfl (fun h1 => ?_) (fun h1 => ?_)
  · refine v_iconst hC dX3_isSchool_16 ⟨by decide, by decide⟩ ?_
    exact v_bret hC hR dX3_isSchool_17 (by omega) (⟨_, rfl, rfl, bI_f (fun q => by have := q.1; omega)⟩)
  · refine v_iload_n hC 1 dX3_isSchool_4 rfl rfl ?_
    refine v_aload_n hC 0 dX3_isSchool_5 rfl rfl ?_
    refine v_getI hC foX3_36 dX3_isSchool_6 rfl rfl rfl (by first | decide | (simp only [vdn]; omega)) ?_
    try simp only [Int.toNat_natCast, upM_at, upM_nef, ne_eq, not_false_eq_true, Nat.reduceEqDiff, Nat.reduceAdd]
    refine v_icmp_ge hC 16 dX3_isSchool_9 rfl (fun h9 => ?_) (fun h9 => ?_)
    · refine v_iconst hC dX3_isSchool_16 ⟨by decide, by decide⟩ ?_
      exact v_bret hC hR dX3_isSchool_17 (by omega) (⟨_, rfl, rfl, bI_f (fun q => by have := q.2; omega)⟩)
    · refine v_iconst hC dX3_isSchool_12 ⟨by decide, by decide⟩ ?_
      refine v_goto hC 17 dX3_isSchool_13 rfl ?_
      exact v_bret hC hR dX3_isSchool_17 (by omega) (⟨_, rfl, rfl, bI_t ⟨by omega, by omega⟩⟩)
abbrev rmX3_isPupil : Room := { frames := 0, cells := 0, slots := 0, locals := 0 }
set_option maxRecDepth 100000 in
set_option maxHeartbeats 4000000 in
theorem cX3_isPupil_ok (w : Int) (μ : MU) : CTi yX3_isPupil cX3_isPupil 2 (some .boolean) rmX3_isPupil [aR 0 0, aI w] μ (fun r μ' => μ = μ' ∧ r = bI (isP μ w)) := by
  intro l9 b9 D9 K9
  refine met_of (by decide) (Nat.le_of_ble_eq_true rfl) (fun x hC hR hM hA => ?_)
  have hC : Ctx x RX3 cX3_isPupil rmX3_isPupil := hC
  refine v_iload_n hC 1 dX3_isPupil_0 rfl rfl ?_
  refine v_if_lt hC 16 dX3_isPupil_1 rfl (fun h1 => ?_) (fun h1 => ?_)
  · refine v_iconst hC dX3_isPupil_16 ⟨by decide, by decide⟩ ?_
    exact v_bret hC hR dX3_isPupil_17 (by omega) (⟨_, rfl, rfl, bI_f (fun q => by have := q.1; omega)⟩)
  · refine v_iload_n hC 1 dX3_isPupil_4 rfl rfl ?_
    refine v_aload_n hC 0 dX3_isPupil_5 rfl rfl ?_
    refine v_getI hC foX3_69 dX3_isPupil_6 rfl rfl rfl (by first | decide | (simp only [vdn]; omega)) ?_
    try simp only [Int.toNat_natCast, upM_at, upM_nef, ne_eq, not_false_eq_true, Nat.reduceEqDiff, Nat.reduceAdd]
    refine v_icmp_ge hC 16 dX3_isPupil_9 rfl (fun h9 => ?_) (fun h9 => ?_)
    · refine v_iconst hC dX3_isPupil_16 ⟨by decide, by decide⟩ ?_
      exact v_bret hC hR dX3_isPupil_17 (by omega) (⟨_, rfl, rfl, bI_f (fun q => by have := q.2; omega)⟩)
    · refine v_iconst hC dX3_isPupil_12 ⟨by decide, by decide⟩ ?_
      refine v_goto hC 17 dX3_isPupil_13 rfl ?_
      exact v_bret hC hR dX3_isPupil_17 (by omega) (⟨_, rfl, rfl, bI_t ⟨by omega, by omega⟩⟩)
abbrev rmX3_areFlags : Room := { frames := 0, cells := 0, slots := 0, locals := 0 }
set_option maxRecDepth 100000 in
set_option maxHeartbeats 4000000 in
theorem cX3_areFlags_ok (w : Int) (μ : MU) : CTi yX3_areFlags cX3_areFlags 1 (some .boolean) rmX3_areFlags [aI w] μ (fun r μ' => μ = μ' ∧ r = bI (0 ≤ w ∧ w ≤ 15)) := by
  intro l9 b9 D9 K9
  refine met_of (by decide) (Nat.le_of_ble_eq_true rfl) (fun x hC hR hM hA => ?_)
  have hC : Ctx x RX3 cX3_areFlags rmX3_areFlags := hC
  refine v_iload_n hC 0 dX3_areFlags_0 rfl rfl ?_
  refine v_if_lt hC 14 dX3_areFlags_1 rfl (fun h1 => ?_) (fun h1 => ?_)
  · refine v_iconst hC dX3_areFlags_14 ⟨by decide, by decide⟩ ?_
    exact v_bret hC hR dX3_areFlags_15 (by omega) (⟨_, rfl, rfl, bI_f (fun q => by have := q.1; omega)⟩)
  · refine v_iload_n hC 0 dX3_areFlags_4 rfl rfl ?_
    refine v_bipush hC dX3_areFlags_5 ⟨by decide, by decide⟩ ?_
    refine v_icmp_gt hC 14 dX3_areFlags_7 rfl (fun h7 => ?_) (fun h7 => ?_)
    · refine v_iconst hC dX3_areFlags_14 ⟨by decide, by decide⟩ ?_
      exact v_bret hC hR dX3_areFlags_15 (by omega) (⟨_, rfl, rfl, bI_f (fun q => by have := q.2; omega)⟩)
    · refine v_iconst hC dX3_areFlags_10 ⟨by decide, by decide⟩ ?_
      refine v_goto hC 15 dX3_areFlags_11 rfl ?_
      exact v_bret hC hR dX3_areFlags_15 (by omega) (⟨_, rfl, rfl, bI_t ⟨by omega, by omega⟩⟩)
abbrev rmX3_countPlaced : Room := { frames := 1, cells := 0, slots := 0, locals := 20 }
set_option maxRecDepth 100000 in
set_option maxHeartbeats 4000000 in
theorem cX3_countPlaced_ok (μ : MU) (hSf : Sf μ) : CTi yX3_countPlaced cX3_countPlaced 3 (some .int) rmX3_countPlaced [aR 0 0] μ (fun r μ' => μ = μ' ∧ r = cntF (fun p => decide (¬ μ 15 p = -1)) (μ 1 0).toNat) := by
  intro l9 b9 D9 K9
  refine met_of (by decide) (Nat.le_of_ble_eq_true rfl) (fun x hC hR hM hA => ?_)
  have hC : Ctx x RX3 cX3_countPlaced rmX3_countPlaced := hC
  refine v_iconst hC dX3_countPlaced_0 ⟨by decide, by decide⟩ ?_
  refine v_istore_n hC 1 dX3_countPlaced_1 rfl (Nat.le_of_ble_eq_true rfl) ?_
  refine v_iconst hC dX3_countPlaced_2 ⟨by decide, by decide⟩ ?_
  refine v_istore_n hC 2 dX3_countPlaced_3 rfl (Nat.le_of_ble_eq_true rfl) ?_
  obtain ⟨⟨s1, s2⟩, ⟨n1, n2⟩, hr, hk, hq, hpp, hli, hnu⟩ := hSf
  refine v_loop (fun i : Nat => (μ 1 0).toNat - i) (fun _ => True) (fun i => ∀ c : Int, i ≤ 20 → 0 ≤ c → c ≤ i → itr (cntS (fun p => decide (¬ μ 15 p = -1))) i ((μ 1 0).toNat - i) c = cntF (fun p => decide (¬ μ 15 p = -1)) (μ 1 0).toNat → V x 0 0 none 4 [some (aR 0 0), some (aI c), some (aI (i : Int))] [] μ) (fun i _ ih c a1 a2 a3 a4 => ?_) 0 trivial 0 (by decide) (by decide) (by decide) rfl
  refine v_iload_n hC 2 dX3_countPlaced_4 rfl rfl ?_
  refine v_aload_n hC 0 dX3_countPlaced_5 rfl rfl ?_
  refine v_getI hC foX3_69 dX3_countPlaced_6 rfl rfl rfl (by first | decide | (simp only [vdn]; omega)) ?_
  try simp only [Int.toNat_natCast, upM_at, upM_nef, ne_eq, not_false_eq_true, Nat.reduceEqDiff, Nat.reduceAdd]
  refine v_icmp_ge hC 33 dX3_countPlaced_9 rfl (fun h9 => ?_) (fun h9 => ?_)
  · refine v_iload_n hC 1 dX3_countPlaced_33 rfl rfl ?_
    exact v_iret hC hR dX3_countPlaced_34 (⟨_, rfl, rfl, by rw [← a4, itr_done (by omega)]⟩)
  · refine v_aload_n hC 0 dX3_countPlaced_12 rfl rfl ?_
    refine v_getR hC foX3_18 dX3_countPlaced_13 rfl rfl rfl (by decide) (by first | decide | (simp only [vdn]; omega)) ?_
    refine v_iload_n hC 2 dX3_countPlaced_16 rfl rfl ?_
    refine v_aald hC dX3_countPlaced_17 rfl rfl (fun _ => rfl) rfl (by decide) (by first | decide | (simp only [vdn]; omega)) ⟨by first | omega | (simp only [mlen]; omega), by first | omega | (simp only [mlen]; omega)⟩ ?_
    try simp only [Int.toNat_natCast, upM_at, upM_nef, ne_eq, not_false_eq_true, Nat.reduceEqDiff, Nat.reduceAdd]
    refine v_callI0 hC (cwX3_164 hC ⟨Nat.le_of_ble_eq_true rfl, Nat.le_of_ble_eq_true rfl⟩) dX3_countPlaced_18 rfl rfl rfl (Nat.zero_le _) (Nat.zero_le _) (Nat.le_of_ble_eq_true rfl) (by first | decide | (simp only [vdn]; omega)) (cX1_isPlaced_ok i μ (by omega)) (fun r1 μ1 hp => ?_)
    obtain ⟨rfl, rfl⟩ := hp
    refine v_if_eq hC 27 dX3_countPlaced_21 rfl (fun h21 => ?_) (fun h21 => ?_)
    · refine v_iinc hC dX3_countPlaced_27 rfl ⟨by omega, by omega⟩ ?_
      refine v_goto hC 4 dX3_countPlaced_30 rfl ?_
      exact ih (i + 1) trivial (by omega) c (by omega) (by omega) (by omega) (itr_next (by omega) (by rw [cntS_n (by simpa using bI_z.1 h21)]) a4)
    · refine v_iinc hC dX3_countPlaced_24 rfl ⟨by omega, by omega⟩ ?_
      refine v_iinc hC dX3_countPlaced_27 rfl ⟨by omega, by omega⟩ ?_
      refine v_goto hC 4 dX3_countPlaced_30 rfl ?_
      exact ih (i + 1) trivial (by omega) (c + 1) (by omega) (by omega) (by omega) (itr_next (by omega) (by rw [cntS_y (by simpa using bI_n.1 h21)]) a4)
abbrev rmX3_countAsks : Room := { frames := 0, cells := 0, slots := 0, locals := 0 }
set_option maxRecDepth 100000 in
set_option maxHeartbeats 4000000 in
theorem cX3_countAsks_ok (μ : MU) (hSf : Sf μ) : CTi yX3_countAsks cX3_countAsks 3 (some .int) rmX3_countAsks [aR 0 0] μ (fun r μ' => μ = μ' ∧ r = itr (fun p a => a + μ 17 p) 0 (μ 1 0).toNat (0 : Int)) := by
  intro l9 b9 D9 K9
  refine met_of (by decide) (Nat.le_of_ble_eq_true rfl) (fun x hC hR hM hA => ?_)
  have hC : Ctx x RX3 cX3_countAsks rmX3_countAsks := hC
  refine v_iconst hC dX3_countAsks_0 ⟨by decide, by decide⟩ ?_
  refine v_istore_n hC 1 dX3_countAsks_1 rfl (Nat.le_of_ble_eq_true rfl) ?_
  refine v_iconst hC dX3_countAsks_2 ⟨by decide, by decide⟩ ?_
  refine v_istore_n hC 2 dX3_countAsks_3 rfl (Nat.le_of_ble_eq_true rfl) ?_
  obtain ⟨⟨s1, s2⟩, ⟨n1, n2⟩, hr, hk, hq, hpp, hli, hnu⟩ := hSf
  refine v_loop (fun i : Nat => (μ 1 0).toNat - i) (fun _ => True) (fun i => ∀ c : Int, i ≤ 20 → 0 ≤ c → c ≤ 4 * i → itr (fun p a => a + μ 17 p) i ((μ 1 0).toNat - i) c = itr (fun p a => a + μ 17 p) 0 (μ 1 0).toNat (0 : Int) → V x 0 0 none 4 [some (aR 0 0), some (aI c), some (aI (i : Int))] [] μ) (fun i _ ih c a1 a2 a3 a4 => ?_) 0 trivial 0 (by decide) (by decide) (by decide) rfl
  refine v_iload_n hC 2 dX3_countAsks_4 rfl rfl ?_
  refine v_aload_n hC 0 dX3_countAsks_5 rfl rfl ?_
  refine v_getI hC foX3_69 dX3_countAsks_6 rfl rfl rfl (by first | decide | (simp only [vdn]; omega)) ?_
  try simp only [Int.toNat_natCast, upM_at, upM_nef, ne_eq, not_false_eq_true, Nat.reduceEqDiff, Nat.reduceAdd]
  refine v_icmp_ge hC 30 dX3_countAsks_9 rfl (fun h9 => ?_) (fun h9 => ?_)
  · refine v_iload_n hC 1 dX3_countAsks_30 rfl rfl ?_
    exact v_iret hC hR dX3_countAsks_31 (⟨_, rfl, rfl, by rw [← a4, itr_done (by omega)]⟩)
  · refine v_iload_n hC 1 dX3_countAsks_12 rfl rfl ?_
    refine v_aload_n hC 0 dX3_countAsks_13 rfl rfl ?_
    refine v_getR hC foX3_18 dX3_countAsks_14 rfl rfl rfl (by decide) (by first | decide | (simp only [vdn]; omega)) ?_
    refine v_iload_n hC 2 dX3_countAsks_17 rfl rfl ?_
    refine v_aald hC dX3_countAsks_18 rfl rfl (fun _ => rfl) rfl (by decide) (by first | decide | (simp only [vdn]; omega)) ⟨by first | omega | (simp only [mlen]; omega), by first | omega | (simp only [mlen]; omega)⟩ ?_
    try simp only [Int.toNat_natCast, upM_at, upM_nef, ne_eq, not_false_eq_true, Nat.reduceEqDiff, Nat.reduceAdd]
    refine v_getI hC foX3_133 dX3_countAsks_19 rfl rfl rfl (by first | decide | (simp only [vdn]; omega)) ?_
    try simp only [Int.toNat_natCast, upM_at, upM_nef, ne_eq, not_false_eq_true, Nat.reduceEqDiff, Nat.reduceAdd]
    have h17 := (hpp i (by omega)).2.2
    refine v_iadd hC dX3_countAsks_22 ⟨by omega, by omega⟩ ?_
    refine v_istore_n hC 1 dX3_countAsks_23 rfl (Nat.le_of_ble_eq_true rfl) ?_
    refine v_iinc hC dX3_countAsks_24 rfl ⟨by omega, by omega⟩ ?_
    refine v_goto hC 4 dX3_countAsks_27 rfl ?_
    exact ih (i + 1) trivial (by omega) (c + μ 17 i) (by omega) (by omega) (by omega) (itr_next (by omega) rfl a4)
abbrev rmX3_countHolders : Room := { frames := 1, cells := 0, slots := 0, locals := 22 }
set_option maxRecDepth 100000 in
set_option maxHeartbeats 4000000 in
theorem cX3_countHolders_ok (s k : Nat) (μ : MU) (hSf : Sf μ) : CTi yX3_countHolders cX3_countHolders 5 (some .int) rmX3_countHolders [aR 0 0, aI s, aI k] μ (fun r μ' => μ = μ' ∧ r = cntF (fun p => decide (holdP μ p s k)) (μ 1 0).toNat) := by
  intro l9 b9 D9 K9
  refine met_of (by decide) (Nat.le_of_ble_eq_true rfl) (fun x hC hR hM hA => ?_)
  have hC : Ctx x RX3 cX3_countHolders rmX3_countHolders := hC
  refine v_iconst hC dX3_countHolders_0 ⟨by decide, by decide⟩ ?_
  refine v_istore_n hC 3 dX3_countHolders_1 rfl (Nat.le_of_ble_eq_true rfl) ?_
  refine v_iconst hC dX3_countHolders_2 ⟨by decide, by decide⟩ ?_
  refine v_istore hC dX3_countHolders_3 (Nat.le_of_ble_eq_true rfl) ?_
  obtain ⟨⟨s1, s2⟩, ⟨n1, n2⟩, hr, hk, hq, hpp, hli, hnu⟩ := hSf
  refine v_loop (fun i : Nat => (μ 1 0).toNat - i) (fun _ => True) (fun i => ∀ c : Int, i ≤ 20 → 0 ≤ c → c ≤ i → itr (cntS (fun p => decide (holdP μ p s k))) i ((μ 1 0).toNat - i) c = cntF (fun p => decide (holdP μ p s k)) (μ 1 0).toNat → V x 0 0 none 5 [some (aR 0 0), some (aI s), some (aI k), some (aI c), some (aI (i : Int))] [] μ) (fun i _ ih c a1 a2 a3 a4 => ?_) 0 trivial 0 (by decide) (by decide) (by decide) rfl
  refine v_iload hC dX3_countHolders_5 rfl ?_
  refine v_aload_n hC 0 dX3_countHolders_7 rfl rfl ?_
  refine v_getI hC foX3_69 dX3_countHolders_8 rfl rfl rfl (by first | decide | (simp only [vdn]; omega)) ?_
  try simp only [Int.toNat_natCast, upM_at, upM_nef, ne_eq, not_false_eq_true, Nat.reduceEqDiff, Nat.reduceAdd]
  refine v_icmp_ge hC 38 dX3_countHolders_11 rfl (fun h11 => ?_) (fun h11 => ?_)
  · refine v_iload_n hC 3 dX3_countHolders_38 rfl rfl ?_
    exact v_iret hC hR dX3_countHolders_39 (⟨_, rfl, rfl, by rw [← a4, itr_done (by omega)]⟩)
  · refine v_aload_n hC 0 dX3_countHolders_14 rfl rfl ?_
    refine v_getR hC foX3_18 dX3_countHolders_15 rfl rfl rfl (by decide) (by first | decide | (simp only [vdn]; omega)) ?_
    refine v_iload hC dX3_countHolders_18 rfl ?_
    refine v_aald hC dX3_countHolders_20 rfl rfl (fun _ => rfl) rfl (by decide) (by first | decide | (simp only [vdn]; omega)) ⟨by first | omega | (simp only [mlen]; omega), by first | omega | (simp only [mlen]; omega)⟩ ?_
    try simp only [Int.toNat_natCast, upM_at, upM_nef, ne_eq, not_false_eq_true, Nat.reduceEqDiff, Nat.reduceAdd]
    refine v_iload_n hC 1 dX3_countHolders_21 rfl rfl ?_
    refine v_iload_n hC 2 dX3_countHolders_22 rfl rfl ?_
    refine v_callI2 hC (cwX3_167 hC ⟨Nat.le_of_ble_eq_true rfl, Nat.le_of_ble_eq_true rfl⟩) dX3_countHolders_23 rfl rfl rfl (Nat.zero_le _) (Nat.zero_le _) (Nat.le_of_ble_eq_true rfl) (by first | decide | (simp only [vdn]; omega)) (cX1_holds_ok i s k μ (by omega)) (fun r1 μ1 hp => ?_)
    obtain ⟨rfl, rfl⟩ := hp
    refine v_if_eq hC 32 dX3_countHolders_26 rfl (fun h26 => ?_) (fun h26 => ?_)
    · refine v_iinc hC dX3_countHolders_32 rfl ⟨by omega, by omega⟩ ?_
      refine v_goto hC 5 dX3_countHolders_35 rfl ?_
      exact ih (i + 1) trivial (by omega) c (by omega) (by omega) (by omega) (itr_next (by omega) (by rw [cntS_n (by simpa using bI_z.1 h26)]) a4)
    · refine v_iinc hC dX3_countHolders_29 rfl ⟨by omega, by omega⟩ ?_
      refine v_iinc hC dX3_countHolders_32 rfl ⟨by omega, by omega⟩ ?_
      refine v_goto hC 5 dX3_countHolders_35 rfl ?_
      exact ih (i + 1) trivial (by omega) (c + 1) (by omega) (by omega) (by omega) (itr_next (by omega) (by rw [cntS_y (by simpa using bI_n.1 h26)]) a4)
abbrev rmX3_standing : Room := { frames := 1, cells := 0, slots := 0, locals := 22 }
set_option maxRecDepth 100000 in
set_option maxHeartbeats 4000000 in
theorem cX3_standing_ok (p s k : Nat) (μ : MU) (hp : p < 20) (hs : s < 6) (hk : k < 3) (hSf : Sf μ) : CTi yX3_standing cX3_standing 7 (some .int) rmX3_standing [aR 0 0, aI p, aI s, aI k] μ (fun r μ' => μ = μ' ∧ r = stdF μ p s k) := by
  intro l9 b9 D9 K9
  refine met_of (by decide) (Nat.le_of_ble_eq_true rfl) (fun x hC hR hM hA => ?_)
  have hC : Ctx x RX3 cX3_standing rmX3_standing := hC
  obtain ⟨⟨s1, s2⟩, ⟨n1, n2⟩, hr, hkc, hq, hpp, hli, hnu⟩ := hSf
  have hq1 := hq (3 * s + k) (by omega)
  have hn1 := hnu (6 * p + s) (by omega)
  refine v_aload_n hC 0 dX3_standing_0 rfl rfl ?_
  refine v_getR hC foX3_18 dX3_standing_1 rfl rfl rfl (by decide) (by first | decide | (simp only [vdn]; omega)) ?_
  refine v_iload_n hC 1 dX3_standing_4 rfl rfl ?_
  refine v_aald hC dX3_standing_5 rfl rfl (fun _ => rfl) rfl (by decide) (by first | decide | (simp only [vdn]; omega)) ⟨by first | omega | (simp only [mlen]; omega), by first | omega | (simp only [mlen]; omega)⟩ ?_
  try simp only [Int.toNat_natCast, upM_at, upM_nef, ne_eq, not_false_eq_true, Nat.reduceEqDiff, Nat.reduceAdd]
  refine v_astore hC dX3_standing_6 (Nat.le_of_ble_eq_true rfl) ?_
  refine v_aload_n hC 0 dX3_standing_8 rfl rfl ?_
  refine v_getR hC foX3_11 dX3_standing_9 rfl rfl rfl (by decide) (by first | decide | (simp only [vdn]; omega)) ?_
  refine v_iload_n hC 2 dX3_standing_12 rfl rfl ?_
  refine v_aald hC dX3_standing_13 rfl rfl (fun _ => rfl) rfl (by decide) (by first | decide | (simp only [vdn]; omega)) ⟨by first | omega | (simp only [mlen]; omega), by first | omega | (simp only [mlen]; omega)⟩ ?_
  try simp only [Int.toNat_natCast, upM_at, upM_nef, ne_eq, not_false_eq_true, Nat.reduceEqDiff, Nat.reduceAdd]
  refine v_getR hC foX3_53 dX3_standing_14 rfl rfl rfl (by decide) (by first | decide | (simp only [vdn]; omega)) ?_
  refine v_iload_n hC 3 dX3_standing_17 rfl rfl ?_
  refine v_aald hC dX3_standing_18 rfl rfl (fun _ => rfl) rfl (by decide) (by first | decide | (simp only [vdn]; omega)) ⟨by first | omega | (simp only [mlen]; omega), by first | omega | (simp only [mlen]; omega)⟩ ?_
  try simp only [Int.toNat_natCast, upM_at, upM_nef, ne_eq, not_false_eq_true, Nat.reduceEqDiff, Nat.reduceAdd]
  refine v_aload hC dX3_standing_19 rfl ?_
  refine v_getI hC foX3_72 dX3_standing_21 rfl rfl rfl (by first | decide | (simp only [vdn]; omega)) ?_
  try simp only [Int.toNat_natCast, upM_at, upM_nef, ne_eq, not_false_eq_true, Nat.reduceEqDiff, Nat.reduceAdd]
  refine v_callI1 hC (cwX3_170 hC ⟨Nat.le_of_ble_eq_true rfl, Nat.le_of_ble_eq_true rfl⟩) dX3_standing_24 rfl rfl rfl (Nat.zero_le _) (Nat.zero_le _) (Nat.le_of_ble_eq_true rfl) (by first | decide | (simp only [vdn]; omega)) (cX0_bandOf_ok (3 * s + k) (μ 13 p) μ (by omega) hq1.1 hq1.2.1) (fun r1 μ1 hp => ?_)
  obtain ⟨rfl, rfl⟩ := hp
  have hb3 := bandF_r (μ 13 p) hq1.2.1
  refine v_istore hC dX3_standing_27 (Nat.le_of_ble_eq_true rfl) ?_
  refine v_iload hC dX3_standing_29 rfl ?_
  refine v_iconst hC dX3_standing_31 ⟨by decide, by decide⟩ ?_
  refine v_icmp_ne hC 40 dX3_standing_32 rfl (fun h32 => ?_) (fun h32 => ?_)
  · refine v_aload hC dX3_standing_40 rfl ?_
    refine v_getI hC foX3_75 dX3_standing_42 rfl rfl rfl (by first | decide | (simp only [vdn]; omega)) ?_
    try simp only [Int.toNat_natCast, upM_at, upM_nef, ne_eq, not_false_eq_true, Nat.reduceEqDiff, Nat.reduceAdd]
    refine v_if_eq hC 55 dX3_standing_45 rfl (fun h45 => ?_) (fun h45 => ?_)
    · refine v_iload hC dX3_standing_55 rfl ?_
      refine v_istore hC dX3_standing_57 (Nat.le_of_ble_eq_true rfl) ?_
      refine v_iload hC dX3_standing_59 rfl ?_
      refine v_sipush hC dX3_standing_61 ⟨by decide, by decide⟩ ?_
      refine v_imul hC dX3_standing_64 ⟨by omega, by omega⟩ ?_
      refine v_aload hC dX3_standing_65 rfl ?_
      refine v_getR hC foX3_91 dX3_standing_67 rfl rfl rfl (by decide) (by first | decide | (simp only [vdn]; omega)) ?_
      refine v_iload_n hC 2 dX3_standing_70 rfl rfl ?_
      refine v_iald hC dX3_standing_71 rfl rfl rfl (by first | decide | (simp only [vdn]; omega)) ⟨by first | omega | (simp only [mlen]; omega), by first | omega | (simp only [mlen]; omega)⟩ ?_
      try simp only [Int.toNat_natCast, upM_at, upM_nef, ne_eq, not_false_eq_true, Nat.reduceEqDiff, Nat.reduceAdd]
      refine v_iadd hC dX3_standing_72 ⟨by omega, by omega⟩ ?_
      exact v_iret hC hR dX3_standing_73 (⟨_, rfl, rfl, by rw [stdF, if_neg h32, if_pos h45]⟩)
    · refine v_iconst hC dX3_standing_48 ⟨by decide, by decide⟩ ?_
      refine v_iload hC dX3_standing_49 rfl ?_
      refine v_iadd hC dX3_standing_51 ⟨by omega, by omega⟩ ?_
      refine v_goto hC 57 dX3_standing_52 rfl ?_
      refine v_istore hC dX3_standing_57 (Nat.le_of_ble_eq_true rfl) ?_
      refine v_iload hC dX3_standing_59 rfl ?_
      refine v_sipush hC dX3_standing_61 ⟨by decide, by decide⟩ ?_
      refine v_imul hC dX3_standing_64 ⟨by omega, by omega⟩ ?_
      refine v_aload hC dX3_standing_65 rfl ?_
      refine v_getR hC foX3_91 dX3_standing_67 rfl rfl rfl (by decide) (by first | decide | (simp only [vdn]; omega)) ?_
      refine v_iload_n hC 2 dX3_standing_70 rfl rfl ?_
      refine v_iald hC dX3_standing_71 rfl rfl rfl (by first | decide | (simp only [vdn]; omega)) ⟨by first | omega | (simp only [mlen]; omega), by first | omega | (simp only [mlen]; omega)⟩ ?_
      try simp only [Int.toNat_natCast, upM_at, upM_nef, ne_eq, not_false_eq_true, Nat.reduceEqDiff, Nat.reduceAdd]
      refine v_iadd hC dX3_standing_72 ⟨by omega, by omega⟩ ?_
      exact v_iret hC hR dX3_standing_73 (⟨_, rfl, rfl, by rw [stdF, if_neg h32, if_neg h45]⟩)
  · refine v_ldc (v := 100000) hC dX3_standing_35 ldX3_157 ⟨by decide, by decide⟩ ?_
    refine v_iload_n hC 1 dX3_standing_37 rfl rfl ?_
    refine v_iadd hC dX3_standing_38 ⟨by omega, by omega⟩ ?_
    exact v_iret hC hR dX3_standing_39 (⟨_, rfl, rfl, by rw [stdF, if_pos h32]⟩)
abbrev rmX3_nextAsker : Room := { frames := 1, cells := 0, slots := 0, locals := 20 }
set_option maxRecDepth 100000 in
set_option maxHeartbeats 4000000 in
theorem cX3_nextAsker_ok (μ : MU) (hSf : Sf μ) : CTi yX3_nextAsker cX3_nextAsker 2 (some .int) rmX3_nextAsker [aR 0 0] μ (fun r μ' => μ = μ' ∧ r = oI (fnd (fun p => decide (μ 15 p = -1 ∧ μ 17 p < μ 11 p)) 0 (μ 1 0).toNat)) := by
  intro l9 b9 D9 K9
  refine met_of (by decide) (Nat.le_of_ble_eq_true rfl) (fun x hC hR hM hA => ?_)
  have hC : Ctx x RX3 cX3_nextAsker rmX3_nextAsker := hC
  refine v_iconst hC dX3_nextAsker_0 ⟨by decide, by decide⟩ ?_
  refine v_istore_n hC 1 dX3_nextAsker_1 rfl (Nat.le_of_ble_eq_true rfl) ?_
  obtain ⟨⟨s1, s2⟩, ⟨n1, n2⟩, hr, hk, hq, hpp, hli, hnu⟩ := hSf
  refine v_loop (fun i : Nat => (μ 1 0).toNat - i) (fun i => i ≤ 20 ∧ fnd (fun p => decide (μ 15 p = -1 ∧ μ 17 p < μ 11 p)) i ((μ 1 0).toNat - i) = fnd (fun p => decide (μ 15 p = -1 ∧ μ 17 p < μ 11 p)) 0 (μ 1 0).toNat) (fun i => V x 0 0 none 2 [some (aR 0 0), some (aI (i : Int))] [] μ) (fun i hi ih => ?_) 0 ⟨by decide, rfl⟩
  refine v_iload_n hC 1 dX3_nextAsker_2 rfl rfl ?_
  refine v_aload_n hC 0 dX3_nextAsker_3 rfl rfl ?_
  refine v_getI hC foX3_69 dX3_nextAsker_4 rfl rfl rfl (by first | decide | (simp only [vdn]; omega)) ?_
  try simp only [Int.toNat_natCast, upM_at, upM_nef, ne_eq, not_false_eq_true, Nat.reduceEqDiff, Nat.reduceAdd]
  refine v_icmp_ge hC 51 dX3_nextAsker_7 rfl (fun h7 => ?_) (fun h7 => ?_)
  · refine v_iconst hC dX3_nextAsker_51 ⟨by decide, by decide⟩ ?_
    exact v_iret hC hR dX3_nextAsker_52 (⟨_, rfl, rfl, by rw [← hi.2, fnd_done (by omega)]; rfl⟩)
  · refine v_aload_n hC 0 dX3_nextAsker_10 rfl rfl ?_
    refine v_getR hC foX3_18 dX3_nextAsker_11 rfl rfl rfl (by decide) (by first | decide | (simp only [vdn]; omega)) ?_
    refine v_iload_n hC 1 dX3_nextAsker_14 rfl rfl ?_
    refine v_aald hC dX3_nextAsker_15 rfl rfl (fun _ => rfl) rfl (by decide) (by first | decide | (simp only [vdn]; omega)) ⟨by first | omega | (simp only [mlen]; omega), by first | omega | (simp only [mlen]; omega)⟩ ?_
    try simp only [Int.toNat_natCast, upM_at, upM_nef, ne_eq, not_false_eq_true, Nat.reduceEqDiff, Nat.reduceAdd]
    refine v_callI0 hC (cwX3_164 hC ⟨Nat.le_of_ble_eq_true rfl, Nat.le_of_ble_eq_true rfl⟩) dX3_nextAsker_16 rfl rfl rfl (Nat.zero_le _) (Nat.zero_le _) (Nat.le_of_ble_eq_true rfl) (by first | decide | (simp only [vdn]; omega)) (cX1_isPlaced_ok i μ (by omega)) (fun r1 μ1 hp => ?_)
    obtain ⟨rfl, rfl⟩ := hp
    refine v_if_ne hC 45 dX3_nextAsker_19 rfl (fun h19 => ?_) (fun h19 => ?_)
    · refine v_iinc hC dX3_nextAsker_45 rfl ⟨by omega, by omega⟩ ?_
      refine v_goto hC 2 dX3_nextAsker_48 rfl ?_
      exact ih (i + 1) ⟨by omega, fnd_next (by omega) (by have := bI_n.1 h19; simp [this]) hi.2⟩ (by omega)
    · refine v_aload_n hC 0 dX3_nextAsker_22 rfl rfl ?_
      refine v_getR hC foX3_18 dX3_nextAsker_23 rfl rfl rfl (by decide) (by first | decide | (simp only [vdn]; omega)) ?_
      refine v_iload_n hC 1 dX3_nextAsker_26 rfl rfl ?_
      refine v_aald hC dX3_nextAsker_27 rfl rfl (fun _ => rfl) rfl (by decide) (by first | decide | (simp only [vdn]; omega)) ⟨by first | omega | (simp only [mlen]; omega), by first | omega | (simp only [mlen]; omega)⟩ ?_
      try simp only [Int.toNat_natCast, upM_at, upM_nef, ne_eq, not_false_eq_true, Nat.reduceEqDiff, Nat.reduceAdd]
      refine v_getI hC foX3_133 dX3_nextAsker_28 rfl rfl rfl (by first | decide | (simp only [vdn]; omega)) ?_
      try simp only [Int.toNat_natCast, upM_at, upM_nef, ne_eq, not_false_eq_true, Nat.reduceEqDiff, Nat.reduceAdd]
      refine v_aload_n hC 0 dX3_nextAsker_31 rfl rfl ?_
      refine v_getR hC foX3_18 dX3_nextAsker_32 rfl rfl rfl (by decide) (by first | decide | (simp only [vdn]; omega)) ?_
      refine v_iload_n hC 1 dX3_nextAsker_35 rfl rfl ?_
      refine v_aald hC dX3_nextAsker_36 rfl rfl (fun _ => rfl) rfl (by decide) (by first | decide | (simp only [vdn]; omega)) ⟨by first | omega | (simp only [mlen]; omega), by first | omega | (simp only [mlen]; omega)⟩ ?_
      try simp only [Int.toNat_natCast, upM_at, upM_nef, ne_eq, not_false_eq_true, Nat.reduceEqDiff, Nat.reduceAdd]
      refine v_getI hC foX3_85 dX3_nextAsker_37 rfl rfl rfl (by first | decide | (simp only [vdn]; omega)) ?_
      try simp only [Int.toNat_natCast, upM_at, upM_nef, ne_eq, not_false_eq_true, Nat.reduceEqDiff, Nat.reduceAdd]
      refine v_icmp_ge hC 45 dX3_nextAsker_40 rfl (fun h40 => ?_) (fun h40 => ?_)
      · refine v_iinc hC dX3_nextAsker_45 rfl ⟨by omega, by omega⟩ ?_
        refine v_goto hC 2 dX3_nextAsker_48 rfl ?_
        exact ih (i + 1) ⟨by omega, fnd_next (by omega) (by simp; intro _; omega) hi.2⟩ (by omega)
      · refine v_iload_n hC 1 dX3_nextAsker_43 rfl rfl ?_
        exact v_iret hC hR dX3_nextAsker_44 (⟨_, rfl, rfl, by rw [← hi.2, fnd_yes (by omega) (by have := bI_z.1 h19; simp at this; simp [this]; omega)]; rfl⟩)
abbrev rmX3_lastHolder : Room := { frames := 2, cells := 0, slots := 0, locals := 48 }
set_option maxRecDepth 100000 in
set_option maxHeartbeats 4000000 in
theorem cX3_lastHolder_ok (s k : Nat) (μ : MU) (hs : s < 6) (hkk : k < 3) (hSf : Sf μ) : CTi yX3_lastHolder cX3_lastHolder 7 (some .int) rmX3_lastHolder [aR 0 0, aI s, aI k] μ (fun r μ' => μ = μ' ∧ r = (itr (maxS (fun p => decide (holdP μ p s k)) (fun p => stdF μ p s k)) 0 (μ 1 0).toNat (-1, -1)).1) := by
  intro l9 b9 D9 K9
  refine met_of (by decide) (Nat.le_of_ble_eq_true rfl) (fun x hC hR hM hA => ?_)
  have hC : Ctx x RX3 cX3_lastHolder rmX3_lastHolder := hC
  refine v_iconst hC dX3_lastHolder_0 ⟨by decide, by decide⟩ ?_
  refine v_istore_n hC 3 dX3_lastHolder_1 rfl (Nat.le_of_ble_eq_true rfl) ?_
  refine v_iconst hC dX3_lastHolder_2 ⟨by decide, by decide⟩ ?_
  refine v_istore hC dX3_lastHolder_3 (Nat.le_of_ble_eq_true rfl) ?_
  refine v_iconst hC dX3_lastHolder_5 ⟨by decide, by decide⟩ ?_
  refine v_istore hC dX3_lastHolder_6 (Nat.le_of_ble_eq_true rfl) ?_
  have hSf0 := hSf
  obtain ⟨⟨s1, s2⟩, ⟨n1, n2⟩, hr, hk, hq, hpp, hli, hnu⟩ := hSf
  refine v_loop (fun i : Nat => (μ 1 0).toNat - i) (fun _ => True) (fun i => ∀ c d : Int, i ≤ 20 → itr (maxS (fun p => decide (holdP μ p s k)) (fun p => stdF μ p s k)) i ((μ 1 0).toNat - i) (c, d) = itr (maxS (fun p => decide (holdP μ p s k)) (fun p => stdF μ p s k)) 0 (μ 1 0).toNat (-1, -1) → V x 0 0 none 8 [some (aR 0 0), some (aI s), some (aI k), some (aI c), some (aI d), some (aI (i : Int)), none] [] μ) (fun i _ ih c d a1 a4 => ?_) 0 trivial (-1) (-1) (by decide) rfl
  refine v_iload hC dX3_lastHolder_8 rfl ?_
  refine v_aload_n hC 0 dX3_lastHolder_10 rfl rfl ?_
  refine v_getI hC foX3_69 dX3_lastHolder_11 rfl rfl rfl (by first | decide | (simp only [vdn]; omega)) ?_
  try simp only [Int.toNat_natCast, upM_at, upM_nef, ne_eq, not_false_eq_true, Nat.reduceEqDiff, Nat.reduceAdd]
  refine v_icmp_ge hC 62 dX3_lastHolder_14 rfl (fun h14 => ?_) (fun h14 => ?_)
  · refine v_iload_n hC 3 dX3_lastHolder_62 rfl rfl ?_
    exact v_iret hC hR dX3_lastHolder_63 (⟨_, rfl, rfl, by rw [← a4, itr_done (by omega)]⟩)
  · refine v_aload_n hC 0 dX3_lastHolder_17 rfl rfl ?_
    refine v_getR hC foX3_18 dX3_lastHolder_18 rfl rfl rfl (by decide) (by first | decide | (simp only [vdn]; omega)) ?_
    refine v_iload hC dX3_lastHolder_21 rfl ?_
    refine v_aald hC dX3_lastHolder_23 rfl rfl (fun _ => rfl) rfl (by decide) (by first | decide | (simp only [vdn]; omega)) ⟨by first | omega | (simp only [mlen]; omega), by first | omega | (simp only [mlen]; omega)⟩ ?_
    try simp only [Int.toNat_natCast, upM_at, upM_nef, ne_eq, not_false_eq_true, Nat.reduceEqDiff, Nat.reduceAdd]
    refine v_iload_n hC 1 dX3_lastHolder_24 rfl rfl ?_
    refine v_iload_n hC 2 dX3_lastHolder_25 rfl rfl ?_
    refine v_callI2 hC (cwX3_167 hC ⟨Nat.le_of_ble_eq_true rfl, Nat.le_of_ble_eq_true rfl⟩) dX3_lastHolder_26 rfl rfl rfl (Nat.zero_le _) (Nat.zero_le _) (Nat.le_of_ble_eq_true rfl) (by first | decide | (simp only [vdn]; omega)) (cX1_holds_ok i s k μ (by omega)) (fun r1 μ1 hp => ?_)
    obtain ⟨rfl, rfl⟩ := hp
    refine v_if_eq hC 56 dX3_lastHolder_29 rfl (fun h29 => ?_) (fun h29 => ?_)
    · refine v_iinc hC dX3_lastHolder_56 rfl ⟨by omega, by omega⟩ ?_
      refine v_goto hC 8 dX3_lastHolder_59 rfl ?_
      exact ih (i + 1) trivial (by omega) c d (by omega) (itr_next (by omega) (by rw [maxS, if_neg (fun q => bI_z.1 h29 (by simpa using q.1))]) a4)
    · refine v_aload_n hC 0 dX3_lastHolder_32 rfl rfl ?_
      refine v_iload hC dX3_lastHolder_33 rfl ?_
      refine v_iload_n hC 1 dX3_lastHolder_35 rfl rfl ?_
      refine v_iload_n hC 2 dX3_lastHolder_36 rfl rfl ?_
      refine v_callI3 hC (cwX3_153 hC ⟨Nat.le_of_ble_eq_true rfl, Nat.le_of_ble_eq_true rfl⟩) dX3_lastHolder_37 rfl rfl rfl (Nat.zero_le _) (Nat.zero_le _) (Nat.le_of_ble_eq_true rfl) (by first | decide | (simp only [vdn]; omega)) (cX3_standing_ok i s k μ (by omega) hs hkk hSf0) (fun r1 μ1 hp => ?_)
      obtain ⟨rfl, rfl⟩ := hp
      refine v_istore hC dX3_lastHolder_40 (Nat.le_of_ble_eq_true rfl) ?_
      refine v_iload hC dX3_lastHolder_42 rfl ?_
      refine v_iload hC dX3_lastHolder_44 rfl ?_
      refine v_icmp_le hC 56 dX3_lastHolder_46 rfl (fun h46 => ?_) (fun h46 => ?_)
      · refine v_iinc hC dX3_lastHolder_56 rfl ⟨by omega, by omega⟩ ?_
        refine v_goto hC 8 dX3_lastHolder_59 rfl ?_
        refine v_forget 6 ?_
        exact ih (i + 1) trivial (by omega) c d (by omega) (itr_next (by omega) (by rw [maxS, if_neg (fun q => by have := q.2; dsimp only at this; omega)]) a4)
      · refine v_iload hC dX3_lastHolder_49 rfl ?_
        refine v_istore_n hC 3 dX3_lastHolder_51 rfl (Nat.le_of_ble_eq_true rfl) ?_
        refine v_iload hC dX3_lastHolder_52 rfl ?_
        refine v_istore hC dX3_lastHolder_54 (Nat.le_of_ble_eq_true rfl) ?_
        refine v_iinc hC dX3_lastHolder_56 rfl ⟨by omega, by omega⟩ ?_
        refine v_goto hC 8 dX3_lastHolder_59 rfl ?_
        refine v_forget 6 ?_
        exact ih (i + 1) trivial (by omega) i (stdF μ i s k) (by omega) (itr_next (by omega) (by rw [maxS, if_pos ⟨by simpa using bI_n.1 h29, by dsimp only; omega⟩]) a4)
abbrev rmX3_firstInPool : Room := { frames := 2, cells := 0, slots := 0, locals := 48 }
set_option maxRecDepth 100000 in
set_option maxHeartbeats 4000000 in
theorem cX3_firstInPool_ok (s k : Nat) (μ : MU) (hs : s < 6) (hkk : k < 3) (hSf : Sf μ) (hz : 0 ≤ μ 3 0 ∧ μ 3 0 ≤ 20) (hpo : ∀ j : Nat, (j : Int) < μ 3 0 → 0 ≤ μ 4 j ∧ μ 4 j < 20) : CTi yX3_firstInPool cX3_firstInPool 7 (some .int) rmX3_firstInPool [aR 0 0, aI s, aI k] μ (fun r μ' => μ = μ' ∧ r = bst (μ 3 0).toNat (fun j => stdF μ (μ 4 j).toNat s k) 100000 (fun _ => true)) := by
  intro l9 b9 D9 K9
  refine met_of (by decide) (Nat.le_of_ble_eq_true rfl) (fun x hC hR hM hA => ?_)
  have hC : Ctx x RX3 cX3_firstInPool rmX3_firstInPool := hC
  refine v_iconst hC dX3_firstInPool_0 ⟨by decide, by decide⟩ ?_
  refine v_istore_n hC 3 dX3_firstInPool_1 rfl (Nat.le_of_ble_eq_true rfl) ?_
  refine v_ldc (v := 100000) hC dX3_firstInPool_2 ldX3_157 ⟨by decide, by decide⟩ ?_
  refine v_istore hC dX3_firstInPool_4 (Nat.le_of_ble_eq_true rfl) ?_
  refine v_iconst hC dX3_firstInPool_6 ⟨by decide, by decide⟩ ?_
  refine v_istore hC dX3_firstInPool_7 (Nat.le_of_ble_eq_true rfl) ?_
  have hSf0 := hSf
  obtain ⟨⟨s1, s2⟩, ⟨n1, n2⟩, hr, hk, hq, hpp, hli, hnu⟩ := hSf
  refine v_loop (fun i : Nat => (μ 3 0).toNat - i) (fun _ => True) (fun i => ∀ c d : Int, i ≤ 20 → itr (minS (fun _ => true) (fun j => stdF μ (μ 4 j).toNat s k)) i ((μ 3 0).toNat - i) (c, d) = itr (minS (fun _ => true) (fun j => stdF μ (μ 4 j).toNat s k)) 0 (μ 3 0).toNat (-1, 100000) → V x 0 0 none 9 [some (aR 0 0), some (aI s), some (aI k), some (aI c), some (aI d), some (aI (i : Int)), none] [] μ) (fun i _ ih c d a1 a4 => ?_) 0 trivial (-1) 100000 (by decide) rfl
  refine v_iload hC dX3_firstInPool_9 rfl ?_
  refine v_aload_n hC 0 dX3_firstInPool_11 rfl rfl ?_
  refine v_getI hC foX3_176 dX3_firstInPool_12 rfl rfl rfl (by first | decide | (simp only [vdn]; omega)) ?_
  try simp only [Int.toNat_natCast, upM_at, upM_nef, ne_eq, not_false_eq_true, Nat.reduceEqDiff, Nat.reduceAdd]
  refine v_icmp_ge hC 53 dX3_firstInPool_15 rfl (fun h15 => ?_) (fun h15 => ?_)
  · refine v_iload_n hC 3 dX3_firstInPool_53 rfl rfl ?_
    exact v_iret hC hR dX3_firstInPool_54 (⟨_, rfl, rfl, by rw [bst, ← a4, itr_done (by omega)]⟩)
  · refine v_aload_n hC 0 dX3_firstInPool_18 rfl rfl ?_
    refine v_aload_n hC 0 dX3_firstInPool_19 rfl rfl ?_
    refine v_getR hC foX3_25 dX3_firstInPool_20 rfl rfl rfl (by decide) (by first | decide | (simp only [vdn]; omega)) ?_
    refine v_iload hC dX3_firstInPool_23 rfl ?_
    refine v_iald hC dX3_firstInPool_25 rfl rfl rfl (by first | decide | (simp only [vdn]; omega)) ⟨by first | omega | (simp only [mlen]; omega), by first | omega | (simp only [mlen]; omega)⟩ ?_
    try simp only [Int.toNat_natCast, upM_at, upM_nef, ne_eq, not_false_eq_true, Nat.reduceEqDiff, Nat.reduceAdd]
    refine v_iload_n hC 1 dX3_firstInPool_26 rfl rfl ?_
    refine v_iload_n hC 2 dX3_firstInPool_27 rfl rfl ?_
    have hpi := hpo i (by omega)
    obtain ⟨pj, hpj⟩ := Int.eq_ofNat_of_zero_le hpi.1
    rw [hpj]
    refine v_callI3 hC (cwX3_153 hC ⟨Nat.le_of_ble_eq_true rfl, Nat.le_of_ble_eq_true rfl⟩) dX3_firstInPool_28 rfl rfl rfl (Nat.zero_le _) (Nat.zero_le _) (Nat.le_of_ble_eq_true rfl) (by first | decide | (simp only [vdn]; omega)) (cX3_standing_ok pj s k μ (by omega) hs hkk hSf0) (fun r1 μ1 hp => ?_)
    obtain ⟨rfl, rfl⟩ := hp
    have hpe : (μ 4 i).toNat = pj := by omega
    rw [← hpe]
    refine v_istore hC dX3_firstInPool_31 (Nat.le_of_ble_eq_true rfl) ?_
    refine v_iload hC dX3_firstInPool_33 rfl ?_
    refine v_iload hC dX3_firstInPool_35 rfl ?_
    refine v_icmp_ge hC 47 dX3_firstInPool_37 rfl (fun h37 => ?_) (fun h37 => ?_)
    · refine v_iinc hC dX3_firstInPool_47 rfl ⟨by omega, by omega⟩ ?_
      refine v_goto hC 9 dX3_firstInPool_50 rfl ?_
      refine v_forget 6 ?_
      exact ih (i + 1) trivial (by omega) c d (by omega) (itr_next (by omega) (by rw [minS, if_neg (fun q => by have := q.2; dsimp only at this; omega)]) a4)
    · refine v_iload hC dX3_firstInPool_40 rfl ?_
      refine v_istore_n hC 3 dX3_firstInPool_42 rfl (Nat.le_of_ble_eq_true rfl) ?_
      refine v_iload hC dX3_firstInPool_43 rfl ?_
      refine v_istore hC dX3_firstInPool_45 (Nat.le_of_ble_eq_true rfl) ?_
      refine v_iinc hC dX3_firstInPool_47 rfl ⟨by omega, by omega⟩ ?_
      refine v_goto hC 9 dX3_firstInPool_50 rfl ?_
      refine v_forget 6 ?_
      exact ih (i + 1) trivial (by omega) i (stdF μ (μ 4 i).toNat s k) (by omega) (itr_next (by omega) (by rw [minS, if_pos ⟨rfl, by dsimp only; omega⟩]) a4)
abbrev rmX3_firstWaiting : Room := { frames := 3, cells := 0, slots := 0, locals := 65 }
set_option maxRecDepth 100000 in
set_option maxHeartbeats 4000000 in
theorem cX3_firstWaiting_ok (s k : Nat) (μ : MU) (hs : s < 6) (hkk : k < 3) (hSf : Sf μ) : CTi yX3_firstWaiting cX3_firstWaiting 7 (some .int) rmX3_firstWaiting [aR 0 0, aI s, aI k] μ (fun r μ' => μ = μ' ∧ r = bst (μ 1 0).toNat (fun p => stdF μ p s k) 100000 (fun p => decide (waitP μ p s))) := by
  intro l9 b9 D9 K9
  refine met_of (by decide) (Nat.le_of_ble_eq_true rfl) (fun x hC hR hM hA => ?_)
  have hC : Ctx x RX3 cX3_firstWaiting rmX3_firstWaiting := hC
  refine v_iconst hC dX3_firstWaiting_0 ⟨by decide, by decide⟩ ?_
  refine v_istore_n hC 3 dX3_firstWaiting_1 rfl (Nat.le_of_ble_eq_true rfl) ?_
  refine v_ldc (v := 100000) hC dX3_firstWaiting_2 ldX3_157 ⟨by decide, by decide⟩ ?_
  refine v_istore hC dX3_firstWaiting_4 (Nat.le_of_ble_eq_true rfl) ?_
  refine v_iconst hC dX3_firstWaiting_6 ⟨by decide, by decide⟩ ?_
  refine v_istore hC dX3_firstWaiting_7 (Nat.le_of_ble_eq_true rfl) ?_
  have hSf0 := hSf
  obtain ⟨⟨s1, s2⟩, ⟨n1, n2⟩, hr, hk, hq, hpp, hli, hnu⟩ := hSf
  refine v_loop (fun i : Nat => (μ 1 0).toNat - i) (fun _ => True) (fun i => ∀ c d : Int, i ≤ 20 → itr (minS (fun p => decide (waitP μ p s)) (fun p => stdF μ p s k)) i ((μ 1 0).toNat - i) (c, d) = itr (minS (fun p => decide (waitP μ p s)) (fun p => stdF μ p s k)) 0 (μ 1 0).toNat (-1, 100000) → V x 0 0 none 9 [some (aR 0 0), some (aI s), some (aI k), some (aI c), some (aI d), some (aI (i : Int)), none] [] μ) (fun i _ ih c d a1 a4 => ?_) 0 trivial (-1) 100000 (by decide) rfl
  refine v_iload hC dX3_firstWaiting_9 rfl ?_
  refine v_aload_n hC 0 dX3_firstWaiting_11 rfl rfl ?_
  refine v_getI hC foX3_69 dX3_firstWaiting_12 rfl rfl rfl (by first | decide | (simp only [vdn]; omega)) ?_
  try simp only [Int.toNat_natCast, upM_at, upM_nef, ne_eq, not_false_eq_true, Nat.reduceEqDiff, Nat.reduceAdd]
  refine v_icmp_ge hC 62 dX3_firstWaiting_15 rfl (fun h15 => ?_) (fun h15 => ?_)
  · refine v_iload_n hC 3 dX3_firstWaiting_62 rfl rfl ?_
    exact v_iret hC hR dX3_firstWaiting_63 (⟨_, rfl, rfl, by rw [bst, ← a4, itr_done (by omega)]⟩)
  · refine v_aload_n hC 0 dX3_firstWaiting_18 rfl rfl ?_
    refine v_getR hC foX3_18 dX3_firstWaiting_19 rfl rfl rfl (by decide) (by first | decide | (simp only [vdn]; omega)) ?_
    refine v_iload hC dX3_firstWaiting_22 rfl ?_
    refine v_aald hC dX3_firstWaiting_24 rfl rfl (fun _ => rfl) rfl (by decide) (by first | decide | (simp only [vdn]; omega)) ⟨by first | omega | (simp only [mlen]; omega), by first | omega | (simp only [mlen]; omega)⟩ ?_
    try simp only [Int.toNat_natCast, upM_at, upM_nef, ne_eq, not_false_eq_true, Nat.reduceEqDiff, Nat.reduceAdd]
    refine v_iload_n hC 1 dX3_firstWaiting_25 rfl rfl ?_
    refine v_callI1 hC (cwX3_194 hC ⟨Nat.le_of_ble_eq_true rfl, Nat.le_of_ble_eq_true rfl⟩) dX3_firstWaiting_26 rfl rfl rfl (Nat.zero_le _) (Nat.zero_le _) (Nat.le_of_ble_eq_true rfl) (by first | decide | (simp only [vdn]; omega)) (cX1_waitsFor_ok i s μ (by omega) (hpp i (by omega)).1 (hpp i (by omega)).2.1) (fun r1 μ1 hp => ?_)
    obtain ⟨rfl, rfl⟩ := hp
    refine v_if_eq hC 56 dX3_firstWaiting_29 rfl (fun h29 => ?_) (fun h29 => ?_)
    · refine v_iinc hC dX3_firstWaiting_56 rfl ⟨by omega, by omega⟩ ?_
      refine v_goto hC 9 dX3_firstWaiting_59 rfl ?_
      exact ih (i + 1) trivial (by omega) c d (by omega) (itr_next (by omega) (by rw [minS, if_neg (fun q => bI_z.1 h29 (of_decide_eq_true q.1))]) a4)
    · refine v_aload_n hC 0 dX3_firstWaiting_32 rfl rfl ?_
      refine v_iload hC dX3_firstWaiting_33 rfl ?_
      refine v_iload_n hC 1 dX3_firstWaiting_35 rfl rfl ?_
      refine v_iload_n hC 2 dX3_firstWaiting_36 rfl rfl ?_
      refine v_callI3 hC (cwX3_153 hC ⟨Nat.le_of_ble_eq_true rfl, Nat.le_of_ble_eq_true rfl⟩) dX3_firstWaiting_37 rfl rfl rfl (Nat.zero_le _) (Nat.zero_le _) (Nat.le_of_ble_eq_true rfl) (by first | decide | (simp only [vdn]; omega)) (cX3_standing_ok i s k μ (by omega) hs hkk hSf0) (fun r1 μ1 hp => ?_)
      obtain ⟨rfl, rfl⟩ := hp
      refine v_istore hC dX3_firstWaiting_40 (Nat.le_of_ble_eq_true rfl) ?_
      refine v_iload hC dX3_firstWaiting_42 rfl ?_
      refine v_iload hC dX3_firstWaiting_44 rfl ?_
      refine v_icmp_ge hC 56 dX3_firstWaiting_46 rfl (fun h46 => ?_) (fun h46 => ?_)
      · refine v_iinc hC dX3_firstWaiting_56 rfl ⟨by omega, by omega⟩ ?_
        refine v_goto hC 9 dX3_firstWaiting_59 rfl ?_
        refine v_forget 6 ?_
        exact ih (i + 1) trivial (by omega) c d (by omega) (itr_next (by omega) (by rw [minS, if_neg (fun q => by have := q.2; dsimp only at this; omega)]) a4)
      · refine v_iload hC dX3_firstWaiting_49 rfl ?_
        refine v_istore_n hC 3 dX3_firstWaiting_51 rfl (Nat.le_of_ble_eq_true rfl) ?_
        refine v_iload hC dX3_firstWaiting_52 rfl ?_
        refine v_istore hC dX3_firstWaiting_54 (Nat.le_of_ble_eq_true rfl) ?_
        refine v_iinc hC dX3_firstWaiting_56 rfl ⟨by omega, by omega⟩ ?_
        refine v_goto hC 9 dX3_firstWaiting_59 rfl ?_
        refine v_forget 6 ?_
        exact ih (i + 1) trivial (by omega) i (stdF μ i s k) (by omega) (itr_next (by omega) (by rw [minS, if_pos ⟨decide_eq_true (bI_n.1 h29), by dsimp only; omega⟩]) a4)
