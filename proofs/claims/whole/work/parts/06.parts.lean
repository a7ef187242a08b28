/-! Kinds, schools, pupils. -/
theorem upM_upM (μ : MU) (f j : Nat) (a b : Int) : upM (upM μ f j a) f j b = upM μ f j b := by
  funext g k
  unfold upM
  split <;> rfl
def bb3 (b0 b1 b2 : Int) (j : Nat) : Int := if j = 0 then b0 else if j = 1 then b1 else b2
def bcV (b0 b1 b2 : Int) : Nat := (fnd (fun j => decide (bb3 b0 b1 b2 j < 0)) 0 3).getD 3
abbrev bnd3 (μ : MU) (q : Nat) (b0 b1 b2 : Int) : MU := upM (upM (upM μ 7 (3 * q + 0) b0) 7 (3 * q + 1) b1) 7 (3 * q + 2) b2
theorem bnd3_at (μ : MU) (q : Nat) (b0 b1 b2 : Int) {j : Nat} (h : j < 3) : bnd3 μ q b0 b1 b2 7 (3 * q + j) = bb3 b0 b1 b2 j := by
  have : j = 0 ∨ j = 1 ∨ j = 2 := by omega
  unfold bnd3 bb3 upM
  rcases this with rfl | rfl | rfl <;> simp
abbrev mayP (μ : MU) (p : Nat) : Prop := μ 18 p = 0 ∧ ¬ μ 15 p = -1
def accM (μ : MU) (p : Nat) : MU := if mayP μ p then upM μ 18 p 1 else μ
abbrev leaM (μ : MU) (p : Nat) (a : Int) : MU := upM (sitM (upM μ 18 p a) p (-1) (-1)) 19 p 0
def decM (μ : MU) (p : Nat) : MU := if mayP μ p then leaM μ p 2 else μ
abbrev rmX0_setBands : Room := { frames := 0, cells := 0, slots := 0, locals := 0 }
set_option maxRecDepth 100000 in
set_option maxHeartbeats 4000000 in
/-- the bands, and how many count -/
theorem cX0_setBands_ok (q : Nat) (b0 b1 b2 : Int) (μ : MU) (hq : q < 18) : CTv yX0_setBands cX0_setBands 4 rmX0_setBands [aR 4 q, aI b0, aI b1, aI b2] μ (fun μ' => upM (bnd3 μ q b0 b1 b2) 8 q (bcV b0 b1 b2) = μ') := by
  intro l9 b9 D9 K9
  refine met_of (by decide) (Nat.le_of_ble_eq_true rfl) (fun x hC hR hM hA => ?_)
  have hC : Ctx x RX0 cX0_setBands rmX0_setBands := hC
  refine v_aload_n hC 0 dX0_setBands_0 rfl rfl ?_
  refine v_getR hC foX0_9 dX0_setBands_1 rfl rfl rfl (by decide) (by first | decide | (simp only [vdn]; omega)) ?_
  refine v_iconst hC dX0_setBands_4 ⟨by decide, by decide⟩ ?_
  refine v_iload_n hC 1 dX0_setBands_5 rfl rfl ?_
  refine v_iast hC dX0_setBands_6 rfl rfl rfl (by decide) (by first | decide | (simp only [vdn]; omega)) ⟨by first | omega | (simp only [mlen]; omega), by first | omega | (simp only [mlen]; omega)⟩ ?_
  try simp only [Int.toNat_natCast, upM_at, upM_nef, ne_eq, not_false_eq_true, Nat.reduceEqDiff, Nat.reduceAdd]
  refine v_aload_n hC 0 dX0_setBands_7 rfl rfl ?_
  refine v_getR hC foX0_9 dX0_setBands_8 rfl rfl rfl (by decide) (by first | decide | (simp only [vdn]; omega)) ?_
  refine v_iconst hC dX0_setBands_11 ⟨by decide, by decide⟩ ?_
  refine v_iload_n hC 2 dX0_setBands_12 rfl rfl ?_
  refine v_iast hC dX0_setBands_13 rfl rfl rfl (by decide) (by first | decide | (simp only [vdn]; omega)) ⟨by first | omega | (simp only [mlen]; omega), by first | omega | (simp only [mlen]; omega)⟩ ?_
  try simp only [Int.toNat_natCast, upM_at, upM_nef, ne_eq, not_false_eq_true, Nat.reduceEqDiff, Nat.reduceAdd]
  refine v_aload_n hC 0 dX0_setBands_14 rfl rfl ?_
  refine v_getR hC foX0_9 dX0_setBands_15 rfl rfl rfl (by decide) (by first | decide | (simp only [vdn]; omega)) ?_
  refine v_iconst hC dX0_setBands_18 ⟨by decide, by decide⟩ ?_
  refine v_iload_n hC 3 dX0_setBands_19 rfl rfl ?_
  refine v_iast hC dX0_setBands_20 rfl rfl rfl (by decide) (by first | decide | (simp only [vdn]; omega)) ⟨by first | omega | (simp only [mlen]; omega), by first | omega | (simp only [mlen]; omega)⟩ ?_
  try simp only [Int.toNat_natCast, upM_at, upM_nef, ne_eq, not_false_eq_true, Nat.reduceEqDiff, Nat.reduceAdd]
  refine v_aload_n hC 0 dX0_setBands_21 rfl rfl ?_
  refine v_iconst hC dX0_setBands_22 ⟨by decide, by decide⟩ ?_
  refine v_putI hC fwX0_15 dX0_setBands_23 rfl rfl rfl (by decide) (by first | decide | (simp only [vdn]; omega)) ?_
  refine v_loop (fun t : Nat => 3 - t) (fun t => t ≤ 3 ∧ fnd (fun j => decide (bb3 b0 b1 b2 j < 0)) t (3 - t) = fnd (fun j => decide (bb3 b0 b1 b2 j < 0)) 0 3) (fun t => V x 0 0 none 26 [some (aR 4 q), some (aI b0), some (aI b1), some (aI b2)] [] (upM (bnd3 μ q b0 b1 b2) 8 q (t : Int))) (fun t ht ih => ?_) 0 ⟨by omega, rfl⟩
  refine v_aload_n hC 0 dX0_setBands_26 rfl rfl ?_
  refine v_getI hC foX0_15 dX0_setBands_27 rfl rfl rfl (by first | decide | (simp only [vdn]; omega)) ?_
  try simp only [Int.toNat_natCast, upM_at, upM_nef, ne_eq, not_false_eq_true, Nat.reduceEqDiff, Nat.reduceAdd]
  refine v_iconst hC dX0_setBands_30 ⟨by decide, by decide⟩ ?_
  refine v_icmp_ge hC 59 dX0_setBands_31 rfl (fun h31 => ?_) (fun h31 => ?_)
  · exact v_vret hC hR (Nat.le_refl _) (Nat.le_refl _) dX0_setBands_59 (⟨rfl, by rw [bcV, ← ht.2, fnd_done (by omega)]; exact congrArg (fun y : Nat => upM (bnd3 μ q b0 b1 b2) 8 q (y : Int)) (show 3 = t by omega)⟩)
  · refine v_aload_n hC 0 dX0_setBands_34 rfl rfl ?_
    refine v_getR hC foX0_9 dX0_setBands_35 rfl rfl rfl (by decide) (by first | decide | (simp only [vdn]; omega)) ?_
    refine v_aload_n hC 0 dX0_setBands_38 rfl rfl ?_
    refine v_getI hC foX0_15 dX0_setBands_39 rfl rfl rfl (by first | decide | (simp only [vdn]; omega)) ?_
    try simp only [Int.toNat_natCast, upM_at, upM_nef, ne_eq, not_false_eq_true, Nat.reduceEqDiff, Nat.reduceAdd]
    refine v_iald hC dX0_setBands_42 rfl rfl rfl (by first | decide | (simp only [vdn]; omega)) ⟨by first | omega | (simp only [mlen]; omega), by first | omega | (simp only [mlen]; omega)⟩ ?_
    try simp only [Int.toNat_natCast, upM_at, upM_nef, ne_eq, not_false_eq_true, Nat.reduceEqDiff, Nat.reduceAdd]
    refine v_if_lt hC 59 dX0_setBands_43 rfl (fun h43 => ?_) (fun h43 => ?_)
    · exact v_vret hC hR (Nat.le_refl _) (Nat.le_refl _) dX0_setBands_59 (⟨rfl, by
          rw [bnd3_at μ q b0 b1 b2 (by omega)] at h43
          rw [bcV, ← ht.2, fnd_yes (by omega) (by simpa using h43)]
          rfl⟩)
    · refine v_aload_n hC 0 dX0_setBands_46 rfl rfl ?_
      refine v_dupR hC dX0_setBands_47 ?_
      refine v_getI hC foX0_15 dX0_setBands_48 rfl rfl rfl (by first | decide | (simp only [vdn]; omega)) ?_
      try simp only [Int.toNat_natCast, upM_at, upM_nef, ne_eq, not_false_eq_true, Nat.reduceEqDiff, Nat.reduceAdd]
      refine v_iconst hC dX0_setBands_51 ⟨by decide, by decide⟩ ?_
      refine v_iadd hC dX0_setBands_52 ⟨by omega, by omega⟩ ?_
      refine v_putI hC fwX0_15 dX0_setBands_53 rfl rfl rfl (by decide) (by first | decide | (simp only [vdn]; omega)) ?_
      refine v_goto hC 26 dX0_setBands_56 rfl ?_
      rw [bnd3_at μ q b0 b1 b2 (by omega)] at h43
      rw [upM_upM]
      exact ih (t + 1) ⟨by omega, fnd_next (by omega) (by simpa using h43) ht.2⟩ (by omega)
abbrev rmX0_bandOf : Room := { frames := 0, cells := 0, slots := 0, locals := 0 }
set_option maxRecDepth 100000 in
set_option maxHeartbeats 4000000 in
/-- the first band that the flags have -/
theorem cX0_bandOf_ok (q : Nat) (w : Int) (μ : MU) (hq : q < 18) (h1 : 0 ≤ μ 8 q) (h2 : μ 8 q ≤ 3) : CTi yX0_bandOf cX0_bandOf 3 (some .int) rmX0_bandOf [aR 4 q, aI w] μ (fun r μ' => μ = μ' ∧ r = oI (bandF μ q w)) := by
  intro l9 b9 D9 K9
  refine met_of (by decide) (Nat.le_of_ble_eq_true rfl) (fun x hC hR hM hA => ?_)
  have hC : Ctx x RX0 cX0_bandOf rmX0_bandOf := hC
  refine v_iconst hC dX0_bandOf_0 ⟨by decide, by decide⟩ ?_
  refine v_istore_n hC 2 dX0_bandOf_1 rfl (Nat.le_of_ble_eq_true rfl) ?_
  refine v_loop (fun i : Nat => (μ 8 q).toNat - i) (fun i => fnd (fun j => decide (andI w (μ 7 (3 * q + j)) = μ 7 (3 * q + j))) i ((μ 8 q).toNat - i) = bandF μ q w) (fun i => V x 0 0 none 2 [some (aR 4 q), some (aI w), some (aI (i : Int))] [] μ) (fun i hi ih => ?_) 0 rfl
  refine v_iload_n hC 2 dX0_bandOf_2 rfl rfl ?_
  refine v_aload_n hC 0 dX0_bandOf_3 rfl rfl ?_
  refine v_getI hC foX0_15 dX0_bandOf_4 rfl rfl rfl (by first | decide | (simp only [vdn]; omega)) ?_
  try simp only [Int.toNat_natCast, upM_at, upM_nef, ne_eq, not_false_eq_true, Nat.reduceEqDiff, Nat.reduceAdd]
  refine v_icmp_ge hC 35 dX0_bandOf_7 rfl (fun h7 => ?_) (fun h7 => ?_)
  · refine v_iconst hC dX0_bandOf_35 ⟨by decide, by decide⟩ ?_
    exact v_iret hC hR dX0_bandOf_36 (⟨_, rfl, rfl, by rw [← hi, fnd_done (by omega)]; rfl⟩)
  · refine v_iload_n hC 1 dX0_bandOf_10 rfl rfl ?_
    refine v_aload_n hC 0 dX0_bandOf_11 rfl rfl ?_
    refine v_getR hC foX0_9 dX0_bandOf_12 rfl rfl rfl (by decide) (by first | decide | (simp only [vdn]; omega)) ?_
    refine v_iload_n hC 2 dX0_bandOf_15 rfl rfl ?_
    refine v_iald hC dX0_bandOf_16 rfl rfl rfl (by first | decide | (simp only [vdn]; omega)) ⟨by first | omega | (simp only [mlen]; omega), by first | omega | (simp only [mlen]; omega)⟩ ?_
    try simp only [Int.toNat_natCast, upM_at, upM_nef, ne_eq, not_false_eq_true, Nat.reduceEqDiff, Nat.reduceAdd]
    refine v_iand hC dX0_bandOf_17 ?_
    refine v_aload_n hC 0 dX0_bandOf_18 rfl rfl ?_
    refine v_getR hC foX0_9 dX0_bandOf_19 rfl rfl rfl (by decide) (by first | decide | (simp only [vdn]; omega)) ?_
    refine v_iload_n hC 2 dX0_bandOf_22 rfl rfl ?_
    refine v_iald hC dX0_bandOf_23 rfl rfl rfl (by first | decide | (simp only [vdn]; omega)) ⟨by first | omega | (simp only [mlen]; omega), by first | omega | (simp only [mlen]; omega)⟩ ?_
    try simp only [Int.toNat_natCast, upM_at, upM_nef, ne_eq, not_false_eq_true, Nat.reduceEqDiff, Nat.reduceAdd]
    refine v_icmp_ne hC 29 dX0_bandOf_24 rfl (fun h24 => ?_) (fun h24 => ?_)
    · refine v_iinc hC dX0_bandOf_29 rfl ⟨by omega, by omega⟩ ?_
      refine v_goto hC 2 dX0_bandOf_32 rfl ?_
      exact ih (i + 1) (fnd_next (by omega) (by simpa using h24) hi) (by omega)
    · refine v_iload_n hC 2 dX0_bandOf_27 rfl rfl ?_
      exact v_iret hC hR dX0_bandOf_28 (⟨_, rfl, rfl, by rw [← hi, fnd_yes (by omega) (by simpa using h24)]; rfl⟩)
abbrev rmX2_admits : Room := { frames := 1, cells := 0, slots := 0, locals := 22 }
set_option maxRecDepth 100000 in
set_option maxHeartbeats 4000000 in
/-- has some kind a band for the flags -/
theorem cX2_admits_ok (s : Nat) (w : Int) (μ : MU) (hs : s < 6) (h1 : 0 ≤ μ 6 s) (h2 : μ 6 s ≤ 3) (hb : ∀ q, q < 18 → 0 ≤ μ 8 q ∧ μ 8 q ≤ 3) : CTi yX2_admits cX2_admits 3 (some .boolean) rmX2_admits [aR 2 s, aI w] μ (fun r μ' => μ = μ' ∧ r = bI ((admF μ s w).isSome = true)) := by
  intro l9 b9 D9 K9
  refine met_of (by decide) (Nat.le_of_ble_eq_true rfl) (fun x hC hR hM hA => ?_)
  have hC : Ctx x RX2 cX2_admits rmX2_admits := hC
  refine v_iconst hC dX2_admits_0 ⟨by decide, by decide⟩ ?_
  refine v_istore_n hC 2 dX2_admits_1 rfl (Nat.le_of_ble_eq_true rfl) ?_
  refine v_loop (fun i : Nat => (μ 6 s).toNat - i) (fun i => fnd (fun k => (bandF μ (3 * s + k) w).isSome) i ((μ 6 s).toNat - i) = admF μ s w) (fun i => V x 0 0 none 2 [some (aR 2 s), some (aI w), some (aI (i : Int))] [] μ) (fun i hi ih => ?_) 0 rfl
  refine v_iload_n hC 2 dX2_admits_2 rfl rfl ?_
  refine v_aload_n hC 0 dX2_admits_3 rfl rfl ?_
  refine v_getI hC foX2_18 dX2_admits_4 rfl rfl rfl (by first | decide | (simp only [vdn]; omega)) ?_
  try simp only [Int.toNat_natCast, upM_at, upM_nef, ne_eq, not_false_eq_true, Nat.reduceEqDiff, Nat.reduceAdd]
  refine v_icmp_ge hC 32 dX2_admits_7 rfl (fun h7 => ?_) (fun h7 => ?_)
  · refine v_iconst hC dX2_admits_32 ⟨by decide, by decide⟩ ?_
    exact v_bret hC hR dX2_admits_33 (by omega) (⟨_, rfl, rfl, bI_f (by rw [← hi, fnd_done (by omega)]; exact Bool.false_ne_true)⟩)
  · refine v_aload_n hC 0 dX2_admits_10 rfl rfl ?_
    refine v_getR hC foX2_11 dX2_admits_11 rfl rfl rfl (by decide) (by first | decide | (simp only [vdn]; omega)) ?_
    refine v_iload_n hC 2 dX2_admits_14 rfl rfl ?_
    refine v_aald hC dX2_admits_15 rfl rfl (fun _ => rfl) rfl (by decide) (by first | decide | (simp only [vdn]; omega)) ⟨by first | omega | (simp only [mlen]; omega), by first | omega | (simp only [mlen]; omega)⟩ ?_
    try simp only [Int.toNat_natCast, upM_at, upM_nef, ne_eq, not_false_eq_true, Nat.reduceEqDiff, Nat.reduceAdd]
    refine v_iload_n hC 1 dX2_admits_16 rfl rfl ?_
    refine v_callI1 hC (cwX2_22 hC ⟨Nat.le_of_ble_eq_true rfl, Nat.le_of_ble_eq_true rfl⟩) dX2_admits_17 rfl rfl rfl (Nat.zero_le _) (Nat.zero_le _) (Nat.le_of_ble_eq_true rfl) (by first | decide | (simp only [vdn]; omega)) (cX0_bandOf_ok (3 * s + i) w μ (by omega) (hb _ (by omega)).1 (hb _ (by omega)).2) (fun r1 μ1 hp => ?_)
    obtain ⟨rfl, rfl⟩ := hp
    refine v_iconst hC dX2_admits_20 ⟨by decide, by decide⟩ ?_
    refine v_icmp_eq hC 26 dX2_admits_21 rfl (fun h21 => ?_) (fun h21 => ?_)
    · refine v_iinc hC dX2_admits_26 rfl ⟨by omega, by omega⟩ ?_
      refine v_goto hC 2 dX2_admits_29 rfl ?_
      exact ih (i + 1) (fnd_next (by omega) (by rw [oI_m.1 h21]; exact Bool.false_ne_true) hi) (by omega)
    · refine v_iconst hC dX2_admits_24 ⟨by decide, by decide⟩ ?_
      exact v_bret hC hR dX2_admits_25 (by omega) (⟨_, rfl, rfl, bI_t (by rw [← hi, fnd_yes (by omega) (Option.isSome_iff_ne_none.mpr (fun q => h21 (oI_m.2 q)))]; rfl)⟩)
abbrev rmX1_placeOf : Room := { frames := 0, cells := 0, slots := 0, locals := 0 }
set_option maxRecDepth 100000 in
set_option maxHeartbeats 4000000 in
/-- the place of a school in the list -/
theorem cX1_placeOf_ok (p : Nat) (w : Int) (μ : MU) (hp : p < 20) (h1 : 0 ≤ μ 11 p) (h2 : μ 11 p ≤ 4) : CTi yX1_placeOf cX1_placeOf 3 (some .int) rmX1_placeOf [aR 7 p, aI w] μ (fun r μ' => μ = μ' ∧ r = oI (plF μ p w)) := by
  intro l9 b9 D9 K9
  refine met_of (by decide) (Nat.le_of_ble_eq_true rfl) (fun x hC hR hM hA => ?_)
  have hC : Ctx x RX1 cX1_placeOf rmX1_placeOf := hC
  refine v_iconst hC dX1_placeOf_0 ⟨by decide, by decide⟩ ?_
  refine v_istore_n hC 2 dX1_placeOf_1 rfl (Nat.le_of_ble_eq_true rfl) ?_
  refine v_loop (fun i : Nat => (μ 11 p).toNat - i) (fun i => fnd (fun j => decide (μ 10 (4 * p + j) = w)) i ((μ 11 p).toNat - i) = plF μ p w) (fun i => V x 0 0 none 2 [some (aR 7 p), some (aI w), some (aI (i : Int))] [] μ) (fun i hi ih => ?_) 0 rfl
  refine v_iload_n hC 2 dX1_placeOf_2 rfl rfl ?_
  refine v_aload_n hC 0 dX1_placeOf_3 rfl rfl ?_
  refine v_getI hC foX1_28 dX1_placeOf_4 rfl rfl rfl (by first | decide | (simp only [vdn]; omega)) ?_
  try simp only [Int.toNat_natCast, upM_at, upM_nef, ne_eq, not_false_eq_true, Nat.reduceEqDiff, Nat.reduceAdd]
  refine v_icmp_ge hC 28 dX1_placeOf_7 rfl (fun h7 => ?_) (fun h7 => ?_)
  · refine v_iconst hC dX1_placeOf_28 ⟨by decide, by decide⟩ ?_
    exact v_iret hC hR dX1_placeOf_29 (⟨_, rfl, rfl, by rw [← hi, fnd_done (by omega)]; rfl⟩)
  · refine v_aload_n hC 0 dX1_placeOf_10 rfl rfl ?_
    refine v_getR hC foX1_9 dX1_placeOf_11 rfl rfl rfl (by decide) (by first | decide | (simp only [vdn]; omega)) ?_
    refine v_iload_n hC 2 dX1_placeOf_14 rfl rfl ?_
    refine v_iald hC dX1_placeOf_15 rfl rfl rfl (by first | decide | (simp only [vdn]; omega)) ⟨by first | omega | (simp only [mlen]; omega), by first | omega | (simp only [mlen]; omega)⟩ ?_
    try simp only [Int.toNat_natCast, upM_at, upM_nef, ne_eq, not_false_eq_true, Nat.reduceEqDiff, Nat.reduceAdd]
    refine v_iload_n hC 1 dX1_placeOf_16 rfl rfl ?_
    refine v_icmp_ne hC 22 dX1_placeOf_17 rfl (fun h17 => ?_) (fun h17 => ?_)
    · refine v_iinc hC dX1_placeOf_22 rfl ⟨by omega, by omega⟩ ?_
      refine v_goto hC 2 dX1_placeOf_25 rfl ?_
      exact ih (i + 1) (fnd_next (by omega) (by simpa using h17) hi) (by omega)
    · refine v_iload_n hC 2 dX1_placeOf_20 rfl rfl ?_
      exact v_iret hC hR dX1_placeOf_21 (⟨_, rfl, rfl, by rw [← hi, fnd_yes (by omega) (by simpa using h17)]; rfl⟩)
abbrev rmX1_isPlaced : Room := { frames := 0, cells := 0, slots := 0, locals := 0 }
set_option maxRecDepth 100000 in
set_option maxHeartbeats 4000000 in
theorem cX1_isPlaced_ok (p : Nat) (μ : MU) (hp : p < 20) : CTi yX1_isPlaced cX1_isPlaced 1 (some .boolean) rmX1_isPlaced [aR 7 p] μ (fun r μ' => μ = μ' ∧ r = bI (¬ μ 15 p = -1)) := by
  intro l9 b9 D9 K9
  refine met_of (by decide) (Nat.le_of_ble_eq_true rfl) (fun x hC hR hM hA => ?_)
  have hC : Ctx x RX1 cX1_isPlaced rmX1_isPlaced := hC
  refine v_aload_n hC 0 dX1_isPlaced_0 rfl rfl ?_
  refine v_getI hC foX1_18 dX1_isPlaced_1 rfl rfl rfl (by first | decide | (simp only [vdn]; omega)) ?_
  try simp only [Int.toNat_natCast, upM_at, upM_nef, ne_eq, not_false_eq_true, Nat.reduceEqDiff, Nat.reduceAdd]
  refine v_iconst hC dX1_isPlaced_4 ⟨by decide, by decide⟩ ?_
  refine v_icmp_eq hC 12 dX1_isPlaced_5 rfl (fun h5 => ?_) (fun h5 => ?_)
  · refine v_iconst hC dX1_isPlaced_12 ⟨by decide, by decide⟩ ?_
    exact v_bret hC hR dX1_isPlaced_13 (by omega) (⟨_, rfl, rfl, bI_f (fun q => q h5)⟩)
  · refine v_iconst hC dX1_isPlaced_8 ⟨by decide, by decide⟩ ?_
    refine v_goto hC 13 dX1_isPlaced_9 rfl ?_
    exact v_bret hC hR dX1_isPlaced_13 (by omega) (⟨_, rfl, rfl, bI_t h5⟩)
abbrev rmX1_hasLeft : Room := { frames := 0, cells := 0, slots := 0, locals := 0 }
set_option maxRecDepth 100000 in
set_option maxHeartbeats 4000000 in
theorem cX1_hasLeft_ok (p : Nat) (μ : MU) (hp : p < 20) : CTi yX1_hasLeft cX1_hasLeft 1 (some .boolean) rmX1_hasLeft [aR 7 p] μ (fun r μ' => μ = μ' ∧ r = bI (μ 18 p = 3)) := by
  intro l9 b9 D9 K9
  refine met_of (by decide) (Nat.le_of_ble_eq_true rfl) (fun x hC hR hM hA => ?_)
  have hC : Ctx x RX1 cX1_hasLeft rmX1_hasLeft := hC
  refine v_aload_n hC 0 dX1_hasLeft_0 rfl rfl ?_
  refine v_getI hC foX1_25 dX1_hasLeft_1 rfl rfl rfl (by first | decide | (simp only [vdn]; omega)) ?_
  try simp only [Int.toNat_natCast, upM_at, upM_nef, ne_eq, not_false_eq_true, Nat.reduceEqDiff, Nat.reduceAdd]
  refine v_iconst hC dX1_hasLeft_4 ⟨by decide, by decide⟩ ?_
  refine v_icmp_ne hC 12 dX1_hasLeft_5 rfl (fun h5 => ?_) (fun h5 => ?_)
  · refine v_iconst hC dX1_hasLeft_12 ⟨by decide, by decide⟩ ?_
    exact v_bret hC hR dX1_hasLeft_13 (by omega) (⟨_, rfl, rfl, bI_f h5⟩)
  · refine v_iconst hC dX1_hasLeft_8 ⟨by decide, by decide⟩ ?_
    refine v_goto hC 13 dX1_hasLeft_9 rfl ?_
    exact v_bret hC hR dX1_hasLeft_13 (by omega) (⟨_, rfl, rfl, bI_t h5⟩)
abbrev rmX1_holds : Room := { frames := 0, cells := 0, slots := 0, locals := 0 }
set_option maxRecDepth 100000 in
set_option maxHeartbeats 4000000 in
theorem cX1_holds_ok (p : Nat) (a k : Int) (μ : MU) (hp : p < 20) : CTi yX1_holds cX1_holds 3 (some .boolean) rmX1_holds [aR 7 p, aI a, aI k] μ (fun r μ' => μ = μ' ∧ r = bI (holdP μ p a k)) := by
  intro l9 b9 D9 K9
  refine met_of (by decide) (Nat.le_of_ble_eq_true rfl) (fun x hC hR hM hA => ?_)
  have hC : Ctx x RX1 cX1_holds rmX1_holds := hC
  refine v_aload_n hC 0 dX1_holds_0 rfl rfl ?_
  refine v_getI hC foX1_18 dX1_holds_1 rfl rfl rfl (by first | decide | (simp only [vdn]; omega)) ?_
  try simp only [Int.toNat_natCast, upM_at, upM_nef, ne_eq, not_false_eq_true, Nat.reduceEqDiff, Nat.reduceAdd]
  refine v_iload_n hC 1 dX1_holds_4 rfl rfl ?_
  refine v_icmp_ne hC 20 dX1_holds_5 rfl (fun h5 => ?_) (fun h5 => ?_)
  · refine v_iconst hC dX1_holds_20 ⟨by decide, by decide⟩ ?_
    exact v_bret hC hR dX1_holds_21 (by omega) (⟨_, rfl, rfl, bI_f (fun q => h5 q.1)⟩)
  · refine v_aload_n hC 0 dX1_holds_8 rfl rfl ?_
    refine v_getI hC foX1_22 dX1_holds_9 rfl rfl rfl (by first | decide | (simp only [vdn]; omega)) ?_
    try simp only [Int.toNat_natCast, upM_at, upM_nef, ne_eq, not_false_eq_true, Nat.reduceEqDiff, Nat.reduceAdd]
    refine v_iload_n hC 2 dX1_holds_12 rfl rfl ?_
    refine v_icmp_ne hC 20 dX1_holds_13 rfl (fun h13 => ?_) (fun h13 => ?_)
    · refine v_iconst hC dX1_holds_20 ⟨by decide, by decide⟩ ?_
      exact v_bret hC hR dX1_holds_21 (by omega) (⟨_, rfl, rfl, bI_f (fun q => h13 q.2)⟩)
    · refine v_iconst hC dX1_holds_16 ⟨by decide, by decide⟩ ?_
      refine v_goto hC 21 dX1_holds_17 rfl ?_
      exact v_bret hC hR dX1_holds_21 (by omega) (⟨_, rfl, rfl, bI_t ⟨h5, h13⟩⟩)
abbrev rmX1_holdsAnyKind : Room := { frames := 0, cells := 0, slots := 0, locals := 0 }
set_option maxRecDepth 100000 in
set_option maxHeartbeats 4000000 in
theorem cX1_holdsAnyKind_ok (p : Nat) (a : Int) (μ : MU) (hp : p < 20) : CTi yX1_holdsAnyKind cX1_holdsAnyKind 2 (some .boolean) rmX1_holdsAnyKind [aR 7 p, aI a] μ (fun r μ' => μ = μ' ∧ r = bI (anyP μ p a)) := by
  intro l9 b9 D9 K9
  refine met_of (by decide) (Nat.le_of_ble_eq_true rfl) (fun x hC hR hM hA => ?_)
  have hC : Ctx x RX1 cX1_holdsAnyKind rmX1_holdsAnyKind := hC
  refine v_aload_n hC 0 dX1_holdsAnyKind_0 rfl rfl ?_
  refine v_getI hC foX1_18 dX1_holdsAnyKind_1 rfl rfl rfl (by first | decide | (simp only [vdn]; omega)) ?_
  try simp only [Int.toNat_natCast, upM_at, upM_nef, ne_eq, not_false_eq_true, Nat.reduceEqDiff, Nat.reduceAdd]
  refine v_iload_n hC 1 dX1_holdsAnyKind_4 rfl rfl ?_
  refine v_icmp_ne hC 20 dX1_holdsAnyKind_5 rfl (fun h5 => ?_) (fun h5 => ?_)
  · refine v_iconst hC dX1_holdsAnyKind_20 ⟨by decide, by decide⟩ ?_
    exact v_bret hC hR dX1_holdsAnyKind_21 (by omega) (⟨_, rfl, rfl, bI_f (fun q => h5 q.1)⟩)
  · refine v_aload_n hC 0 dX1_holdsAnyKind_8 rfl rfl ?_
    refine v_getI hC foX1_22 dX1_holdsAnyKind_9 rfl rfl rfl (by first | decide | (simp only [vdn]; omega)) ?_
    try simp only [Int.toNat_natCast, upM_at, upM_nef, ne_eq, not_false_eq_true, Nat.reduceEqDiff, Nat.reduceAdd]
    refine v_iconst hC dX1_holdsAnyKind_12 ⟨by decide, by decide⟩ ?_
    refine v_icmp_eq hC 20 dX1_holdsAnyKind_13 rfl (fun h13 => ?_) (fun h13 => ?_)
    · refine v_iconst hC dX1_holdsAnyKind_20 ⟨by decide, by decide⟩ ?_
      exact v_bret hC hR dX1_holdsAnyKind_21 (by omega) (⟨_, rfl, rfl, bI_f (fun q => q.2 h13)⟩)
    · refine v_iconst hC dX1_holdsAnyKind_16 ⟨by decide, by decide⟩ ?_
      refine v_goto hC 21 dX1_holdsAnyKind_17 rfl ?_
      exact v_bret hC hR dX1_holdsAnyKind_21 (by omega) (⟨_, rfl, rfl, bI_t ⟨h5, h13⟩⟩)
abbrev rmX1_prefers : Room := { frames := 1, cells := 0, slots := 0, locals := 22 }
set_option maxRecDepth 100000 in
set_option maxHeartbeats 4000000 in
theorem cX1_prefers_ok (p : Nat) (w : Int) (μ : MU) (hp : p < 20) (h1 : 0 ≤ μ 11 p) (h2 : μ 11 p ≤ 4) : CTi yX1_prefers cX1_prefers 3 (some .boolean) rmX1_prefers [aR 7 p, aI w] μ (fun r μ' => μ = μ' ∧ r = bI (prefP μ p w)) := by
  intro l9 b9 D9 K9
  refine met_of (by decide) (Nat.le_of_ble_eq_true rfl) (fun x hC hR hM hA => ?_)
  have hC : Ctx x RX1 cX1_prefers rmX1_prefers := hC
  refine v_aload_n hC 0 dX1_prefers_0 rfl rfl ?_
  refine v_iload_n hC 1 dX1_prefers_1 rfl rfl ?_
  refine v_callI1 hC (cwX1_31 hC ⟨Nat.le_of_ble_eq_true rfl, Nat.le_of_ble_eq_true rfl⟩) dX1_prefers_2 rfl rfl rfl (Nat.zero_le _) (Nat.zero_le _) (Nat.le_of_ble_eq_true rfl) (by first | decide | (simp only [vdn]; omega)) (cX1_placeOf_ok p w μ hp h1 h2) (fun r1 μ1 hp => ?_)
  obtain ⟨rfl, rfl⟩ := hp
  refine v_istore_n hC 2 dX1_prefers_5 rfl (Nat.le_of_ble_eq_true rfl) ?_
  refine v_iload_n hC 2 dX1_prefers_6 rfl rfl ?_
  refine v_iconst hC dX1_prefers_7 ⟨by decide, by decide⟩ ?_
  refine v_icmp_eq hC 34 dX1_prefers_8 rfl (fun h8 => ?_) (fun h8 => ?_)
  · refine v_iconst hC dX1_prefers_34 ⟨by decide, by decide⟩ ?_
    exact v_bret hC hR dX1_prefers_35 (by omega) (⟨_, rfl, rfl, bI_f (fun q => q.1 h8)⟩)
  · refine v_aload_n hC 0 dX1_prefers_11 rfl rfl ?_
    refine v_callI0 hC (cwX1_35 hC ⟨Nat.le_of_ble_eq_true rfl, Nat.le_of_ble_eq_true rfl⟩) dX1_prefers_12 rfl rfl rfl (Nat.zero_le _) (Nat.zero_le _) (Nat.le_of_ble_eq_true rfl) (by first | decide | (simp only [vdn]; omega)) (cX1_isPlaced_ok p μ hp) (fun r1 μ1 hp => ?_)
    obtain ⟨rfl, rfl⟩ := hp
    refine v_if_eq hC 30 dX1_prefers_15 rfl (fun h15 => ?_) (fun h15 => ?_)
    · refine v_iconst hC dX1_prefers_30 ⟨by decide, by decide⟩ ?_
      refine v_goto hC 35 dX1_prefers_31 rfl ?_
      exact v_bret hC hR dX1_prefers_35 (by omega) (⟨_, rfl, rfl, bI_t ⟨h8, Or.inl (Decidable.not_not.mp (bI_z.1 h15))⟩⟩)
    · refine v_iload_n hC 2 dX1_prefers_18 rfl rfl ?_
      refine v_aload_n hC 0 dX1_prefers_19 rfl rfl ?_
      refine v_aload_n hC 0 dX1_prefers_20 rfl rfl ?_
      refine v_getI hC foX1_18 dX1_prefers_21 rfl rfl rfl (by first | decide | (simp only [vdn]; omega)) ?_
      try simp only [Int.toNat_natCast, upM_at, upM_nef, ne_eq, not_false_eq_true, Nat.reduceEqDiff, Nat.reduceAdd]
      refine v_callI1 hC (cwX1_31 hC ⟨Nat.le_of_ble_eq_true rfl, Nat.le_of_ble_eq_true rfl⟩) dX1_prefers_24 rfl rfl rfl (Nat.zero_le _) (Nat.zero_le _) (Nat.le_of_ble_eq_true rfl) (by first | decide | (simp only [vdn]; omega)) (cX1_placeOf_ok p (μ 15 p) μ hp h1 h2) (fun r1 μ1 hp => ?_)
      obtain ⟨rfl, rfl⟩ := hp
      refine v_icmp_ge hC 34 dX1_prefers_27 rfl (fun h27 => ?_) (fun h27 => ?_)
      · refine v_iconst hC dX1_prefers_34 ⟨by decide, by decide⟩ ?_
        exact v_bret hC hR dX1_prefers_35 (by omega) (⟨_, rfl, rfl, bI_f (fun q => q.2.elim (show ¬ μ 15 p = -1 from bI_n.1 h15) (fun q => by omega))⟩)
      · refine v_iconst hC dX1_prefers_30 ⟨by decide, by decide⟩ ?_
        refine v_goto hC 35 dX1_prefers_31 rfl ?_
        exact v_bret hC hR dX1_prefers_35 (by omega) (⟨_, rfl, rfl, bI_t ⟨h8, Or.inr (by omega)⟩⟩)
abbrev rmX1_waitsFor : Room := { frames := 2, cells := 0, slots := 0, locals := 44 }
set_option maxRecDepth 100000 in
set_option maxHeartbeats 4000000 in
theorem cX1_waitsFor_ok (p : Nat) (w : Int) (μ : MU) (hp : p < 20) (h1 : 0 ≤ μ 11 p) (h2 : μ 11 p ≤ 4) : CTi yX1_waitsFor cX1_waitsFor 2 (some .boolean) rmX1_waitsFor [aR 7 p, aI w] μ (fun r μ' => μ = μ' ∧ r = bI (waitP μ p w)) := by
  intro l9 b9 D9 K9
  refine met_of (by decide) (Nat.le_of_ble_eq_true rfl) (fun x hC hR hM hA => ?_)
  have hC : Ctx x RX1 cX1_waitsFor rmX1_waitsFor := hC
  refine v_aload_n hC 0 dX1_waitsFor_0 rfl rfl ?_
  refine v_iload_n hC 1 dX1_waitsFor_1 rfl rfl ?_
  refine v_callI1 hC (cwX1_39 hC ⟨Nat.le_of_ble_eq_true rfl, Nat.le_of_ble_eq_true rfl⟩) dX1_waitsFor_2 rfl rfl rfl (Nat.zero_le _) (Nat.zero_le _) (Nat.le_of_ble_eq_true rfl) (by first | decide | (simp only [vdn]; omega)) (cX1_prefers_ok p w μ hp h1 h2) (fun r1 μ1 hp => ?_)
  obtain ⟨rfl, rfl⟩ := hp
  refine v_if_eq hC 24 dX1_waitsFor_5 rfl (fun h5 => ?_) (fun h5 => ?_)
  · refine v_iconst hC dX1_waitsFor_24 ⟨by decide, by decide⟩ ?_
    exact v_bret hC hR dX1_waitsFor_25 (by omega) (⟨_, rfl, rfl, bI_f (fun q => bI_z.1 h5 q.1)⟩)
  · refine v_aload_n hC 0 dX1_waitsFor_8 rfl rfl ?_
    refine v_iload_n hC 1 dX1_waitsFor_9 rfl rfl ?_
    refine v_callI1 hC (cwX1_31 hC ⟨Nat.le_of_ble_eq_true rfl, Nat.le_of_ble_eq_true rfl⟩) dX1_waitsFor_10 rfl rfl rfl (Nat.zero_le _) (Nat.zero_le _) (Nat.le_of_ble_eq_true rfl) (by first | decide | (simp only [vdn]; omega)) (cX1_placeOf_ok p w μ hp h1 h2) (fun r1 μ1 hp => ?_)
    obtain ⟨rfl, rfl⟩ := hp
    refine v_aload_n hC 0 dX1_waitsFor_13 rfl rfl ?_
    refine v_getI hC foX1_43 dX1_waitsFor_14 rfl rfl rfl (by first | decide | (simp only [vdn]; omega)) ?_
    try simp only [Int.toNat_natCast, upM_at, upM_nef, ne_eq, not_false_eq_true, Nat.reduceEqDiff, Nat.reduceAdd]
    refine v_icmp_ge hC 24 dX1_waitsFor_17 rfl (fun h17 => ?_) (fun h17 => ?_)
    · refine v_iconst hC dX1_waitsFor_24 ⟨by decide, by decide⟩ ?_
      exact v_bret hC hR dX1_waitsFor_25 (by omega) (⟨_, rfl, rfl, bI_f (fun q => by have := q.2; omega)⟩)
    · refine v_iconst hC dX1_waitsFor_20 ⟨by decide, by decide⟩ ?_
      refine v_goto hC 25 dX1_waitsFor_21 rfl ?_
      exact v_bret hC hR dX1_waitsFor_25 (by omega) (⟨_, rfl, rfl, bI_t ⟨bI_n.1 h5, by omega⟩⟩)
abbrev rmX1_sitAt : Room := { frames := 0, cells := 0, slots := 0, locals := 0 }
set_option maxRecDepth 100000 in
set_option maxHeartbeats 4000000 in
theorem cX1_sitAt_ok (p : Nat) (a k : Int) (μ : MU) (hp : p < 20) : CTv yX1_sitAt cX1_sitAt 3 rmX1_sitAt [aR 7 p, aI a, aI k] μ (fun μ' => sitM μ p a k = μ') := by
  intro l9 b9 D9 K9
  refine met_of (by decide) (Nat.le_of_ble_eq_true rfl) (fun x hC hR hM hA => ?_)
  have hC : Ctx x RX1 cX1_sitAt rmX1_sitAt := hC
  refine v_aload_n hC 0 dX1_sitAt_0 rfl rfl ?_
  refine v_iload_n hC 1 dX1_sitAt_1 rfl rfl ?_
  refine v_putI hC fwX1_18 dX1_sitAt_2 rfl rfl rfl (by decide) (by first | decide | (simp only [vdn]; omega)) ?_
  refine v_aload_n hC 0 dX1_sitAt_5 rfl rfl ?_
  refine v_iload_n hC 2 dX1_sitAt_6 rfl rfl ?_
  refine v_putI hC fwX1_22 dX1_sitAt_7 rfl rfl rfl (by decide) (by first | decide | (simp only [vdn]; omega)) ?_
  exact v_vret hC hR (Nat.le_refl _) (Nat.le_refl _) dX1_sitAt_10 (⟨rfl, rfl⟩)
abbrev rmX1_giveUpSeat : Room := { frames := 1, cells := 0, slots := 0, locals := 22 }
set_option maxRecDepth 100000 in
set_option maxHeartbeats 4000000 in
theorem cX1_giveUpSeat_ok (p : Nat) (μ : MU) (hp : p < 20) : CTv yX1_giveUpSeat cX1_giveUpSeat 1 rmX1_giveUpSeat [aR 7 p] μ (fun μ' => sitM μ p (-1) (-1) = μ') := by
  intro l9 b9 D9 K9
  refine met_of (by decide) (Nat.le_of_ble_eq_true rfl) (fun x hC hR hM hA => ?_)
  have hC : Ctx x RX1 cX1_giveUpSeat rmX1_giveUpSeat := hC
  refine v_aload_n hC 0 dX1_giveUpSeat_0 rfl rfl ?_
  refine v_iconst hC dX1_giveUpSeat_1 ⟨by decide, by decide⟩ ?_
  refine v_iconst hC dX1_giveUpSeat_2 ⟨by decide, by decide⟩ ?_
  refine v_callV2 hC (cwX1_46 hC ⟨Nat.le_of_ble_eq_true rfl, Nat.le_of_ble_eq_true rfl⟩) dX1_giveUpSeat_3 rfl rfl rfl (Nat.zero_le _) (Nat.zero_le _) (Nat.le_of_ble_eq_true rfl) (by first | decide | (simp only [vdn]; omega)) (cX1_sitAt_ok p (-1) (-1) μ hp) (fun μ1 hp => ?_)
  subst hp
  exact v_vret hC hR (Nat.le_refl _) (Nat.le_refl _) dX1_giveUpSeat_6 (⟨rfl, rfl⟩)
abbrev rmX1_mayAnswer : Room := { frames := 1, cells := 0, slots := 0, locals := 20 }
set_option maxRecDepth 100000 in
set_option maxHeartbeats 4000000 in
theorem cX1_mayAnswer_ok (p : Nat) (μ : MU) (hp : p < 20) : CTi yX1_mayAnswer cX1_mayAnswer 1 (some .boolean) rmX1_mayAnswer [aR 7 p] μ (fun r μ' => μ = μ' ∧ r = bI (mayP μ p)) := by
  intro l9 b9 D9 K9
  refine met_of (by decide) (Nat.le_of_ble_eq_true rfl) (fun x hC hR hM hA => ?_)
  have hC : Ctx x RX1 cX1_mayAnswer rmX1_mayAnswer := hC
  refine v_aload_n hC 0 dX1_mayAnswer_0 rfl rfl ?_
  refine v_getI hC foX1_25 dX1_mayAnswer_1 rfl rfl rfl (by first | decide | (simp only [vdn]; omega)) ?_
  try simp only [Int.toNat_natCast, upM_at, upM_nef, ne_eq, not_false_eq_true, Nat.reduceEqDiff, Nat.reduceAdd]
  refine v_if_ne hC 18 dX1_mayAnswer_4 rfl (fun h4 => ?_) (fun h4 => ?_)
  · refine v_iconst hC dX1_mayAnswer_18 ⟨by decide, by decide⟩ ?_
    exact v_bret hC hR dX1_mayAnswer_19 (by omega) (⟨_, rfl, rfl, bI_f (fun q => h4 q.1)⟩)
  · refine v_aload_n hC 0 dX1_mayAnswer_7 rfl rfl ?_
    refine v_callI0 hC (cwX1_35 hC ⟨Nat.le_of_ble_eq_true rfl, Nat.le_of_ble_eq_true rfl⟩) dX1_mayAnswer_8 rfl rfl rfl (Nat.zero_le _) (Nat.zero_le _) (Nat.le_of_ble_eq_true rfl) (by first | decide | (simp only [vdn]; omega)) (cX1_isPlaced_ok p μ hp) (fun r1 μ1 hp => ?_)
    obtain ⟨rfl, rfl⟩ := hp
    refine v_if_eq hC 18 dX1_mayAnswer_11 rfl (fun h11 => ?_) (fun h11 => ?_)
    · refine v_iconst hC dX1_mayAnswer_18 ⟨by decide, by decide⟩ ?_
      exact v_bret hC hR dX1_mayAnswer_19 (by omega) (⟨_, rfl, rfl, bI_f (fun q => bI_z.1 h11 q.2)⟩)
    · refine v_iconst hC dX1_mayAnswer_14 ⟨by decide, by decide⟩ ?_
      refine v_goto hC 19 dX1_mayAnswer_15 rfl ?_
      exact v_bret hC hR dX1_mayAnswer_19 (by omega) (⟨_, rfl, rfl, bI_t ⟨h4, bI_n.1 h11⟩⟩)
abbrev rmX1_accept : Room := { frames := 2, cells := 0, slots := 0, locals := 40 }
set_option maxRecDepth 100000 in
set_option maxHeartbeats 4000000 in
theorem cX1_accept_ok (p : Nat) (μ : MU) (hp : p < 20) : CTi yX1_accept cX1_accept 1 (some .boolean) rmX1_accept [aR 7 p] μ (fun r μ' => accM μ p = μ' ∧ r = bI (mayP μ p)) := by
  intro l9 b9 D9 K9
  refine met_of (by decide) (Nat.le_of_ble_eq_true rfl) (fun x hC hR hM hA => ?_)
  have hC : Ctx x RX1 cX1_accept rmX1_accept := hC
  refine v_aload_n hC 0 dX1_accept_0 rfl rfl ?_
  refine v_callI0 hC (cwX1_50 hC ⟨Nat.le_of_ble_eq_true rfl, Nat.le_of_ble_eq_true rfl⟩) dX1_accept_1 rfl rfl rfl (Nat.zero_le _) (Nat.zero_le _) (Nat.le_of_ble_eq_true rfl) (by first | decide | (simp only [vdn]; omega)) (cX1_mayAnswer_ok p μ hp) (fun r1 μ1 hp => ?_)
  obtain ⟨rfl, rfl⟩ := hp
  refine v_if_ne hC 9 dX1_accept_4 rfl (fun h4 => ?_) (fun h4 => ?_)
  · refine v_aload_n hC 0 dX1_accept_9 rfl rfl ?_
    refine v_iconst hC dX1_accept_10 ⟨by decide, by decide⟩ ?_
    refine v_putI hC fwX1_25 dX1_accept_11 rfl rfl rfl (by decide) (by first | decide | (simp only [vdn]; omega)) ?_
    refine v_iconst hC dX1_accept_14 ⟨by decide, by decide⟩ ?_
    exact v_bret hC hR dX1_accept_15 (by omega) (⟨_, rfl, if_pos (bI_n.1 h4), bI_t (bI_n.1 h4)⟩)
  · refine v_iconst hC dX1_accept_7 ⟨by decide, by decide⟩ ?_
    exact v_bret hC hR dX1_accept_8 (by omega) (⟨_, rfl, if_neg (bI_z.1 h4), bI_f (bI_z.1 h4)⟩)
abbrev rmX1_decline : Room := { frames := 2, cells := 0, slots := 0, locals := 42 }
set_option maxRecDepth 100000 in
set_option maxHeartbeats 4000000 in
theorem cX1_decline_ok (p : Nat) (μ : MU) (hp : p < 20) : CTi yX1_decline cX1_decline 1 (some .boolean) rmX1_decline [aR 7 p] μ (fun r μ' => decM μ p = μ' ∧ r = bI (mayP μ p)) := by
  intro l9 b9 D9 K9
  refine met_of (by decide) (Nat.le_of_ble_eq_true rfl) (fun x hC hR hM hA => ?_)
  have hC : Ctx x RX1 cX1_decline rmX1_decline := hC
  refine v_aload_n hC 0 dX1_decline_0 rfl rfl ?_
  refine v_callI0 hC (cwX1_50 hC ⟨Nat.le_of_ble_eq_true rfl, Nat.le_of_ble_eq_true rfl⟩) dX1_decline_1 rfl rfl rfl (Nat.zero_le _) (Nat.zero_le _) (Nat.le_of_ble_eq_true rfl) (by first | decide | (simp only [vdn]; omega)) (cX1_mayAnswer_ok p μ hp) (fun r1 μ1 hp => ?_)
  obtain ⟨rfl, rfl⟩ := hp
  refine v_if_ne hC 9 dX1_decline_4 rfl (fun h4 => ?_) (fun h4 => ?_)
  · refine v_aload_n hC 0 dX1_decline_9 rfl rfl ?_
    refine v_iconst hC dX1_decline_10 ⟨by decide, by decide⟩ ?_
    refine v_putI hC fwX1_25 dX1_decline_11 rfl rfl rfl (by decide) (by first | decide | (simp only [vdn]; omega)) ?_
    refine v_aload_n hC 0 dX1_decline_14 rfl rfl ?_
    refine v_callV0 hC (cwX1_53 hC ⟨Nat.le_of_ble_eq_true rfl, Nat.le_of_ble_eq_true rfl⟩) dX1_decline_15 rfl rfl rfl (Nat.zero_le _) (Nat.zero_le _) (Nat.le_of_ble_eq_true rfl) (by first | decide | (simp only [vdn]; omega)) (cX1_giveUpSeat_ok p _ hp) (fun μ1 hp => ?_)
    subst hp
    refine v_aload_n hC 0 dX1_decline_18 rfl rfl ?_
    refine v_iconst hC dX1_decline_19 ⟨by decide, by decide⟩ ?_
    refine v_putI hC fwX1_43 dX1_decline_20 rfl rfl rfl (by decide) (by first | decide | (simp only [vdn]; omega)) ?_
    refine v_iconst hC dX1_decline_23 ⟨by decide, by decide⟩ ?_
    exact v_bret hC hR dX1_decline_24 (by omega) (⟨_, rfl, if_pos (bI_n.1 h4), bI_t (bI_n.1 h4)⟩)
  · refine v_iconst hC dX1_decline_7 ⟨by decide, by decide⟩ ?_
    exact v_bret hC hR dX1_decline_8 (by omega) (⟨_, rfl, if_neg (bI_z.1 h4), bI_f (bI_z.1 h4)⟩)
abbrev rmX1_leave : Room := { frames := 2, cells := 0, slots := 0, locals := 42 }
set_option maxRecDepth 100000 in
set_option maxHeartbeats 4000000 in
theorem cX1_leave_ok (p : Nat) (μ : MU) (hp : p < 20) : CTv yX1_leave cX1_leave 1 rmX1_leave [aR 7 p] μ (fun μ' => leaM μ p 3 = μ') := by
  intro l9 b9 D9 K9
  refine met_of (by decide) (Nat.le_of_ble_eq_true rfl) (fun x hC hR hM hA => ?_)
  have hC : Ctx x RX1 cX1_leave rmX1_leave := hC
  refine v_aload_n hC 0 dX1_leave_0 rfl rfl ?_
  refine v_iconst hC dX1_leave_1 ⟨by decide, by decide⟩ ?_
  refine v_putI hC fwX1_25 dX1_leave_2 rfl rfl rfl (by decide) (by first | decide | (simp only [vdn]; omega)) ?_
  refine v_aload_n hC 0 dX1_leave_5 rfl rfl ?_
  refine v_callV0 hC (cwX1_53 hC ⟨Nat.le_of_ble_eq_true rfl, Nat.le_of_ble_eq_true rfl⟩) dX1_leave_6 rfl rfl rfl (Nat.zero_le _) (Nat.zero_le _) (Nat.le_of_ble_eq_true rfl) (by first | decide | (simp only [vdn]; omega)) (cX1_giveUpSeat_ok p _ hp) (fun μ1 hp => ?_)
  subst hp
  refine v_aload_n hC 0 dX1_leave_9 rfl rfl ?_
  refine v_iconst hC dX1_leave_10 ⟨by decide, by decide⟩ ?_
  refine v_putI hC fwX1_43 dX1_leave_11 rfl rfl rfl (by decide) (by first | decide | (simp only [vdn]; omega)) ?_
  exact v_vret hC hR (Nat.le_refl _) (Nat.le_refl _) dX1_leave_14 (⟨rfl, rfl⟩)
