/-! The reference's calls. -/
abbrev mIP (μ : MU) (w : Int) : Prop := 0 ≤ w ∧ w < μ 23 0
abbrev mIS (μ : MU) (w : Int) : Prop := 0 ≤ w ∧ w < μ 22 0
abbrev mscC (μ : MU) : Prop := ¬ μ 21 0 = 0 ∨ μ 22 0 = 6
def mscM (μ : MU) : MU := if mscC μ then upM μ 20 0 1 else upM (upM μ 20 0 0) 22 0 (μ 22 0 + 1)
def mscR (μ : MU) : Int := if mscC μ then 0 else μ 22 0
abbrev mpuC (f : Int) : Prop := f < 0 ∨ 15 < f
abbrev mpuD (μ : MU) : Prop := ¬ μ 21 0 = 0 ∨ μ 23 0 = 20
def mpuM (μ : MU) (f l : Int) : MU := if mpuC f then upM μ 20 0 1 else if mpuD μ then upM μ 20 0 2 else upM (upM (upM (upM μ 20 0 0) 27 (μ 23 0).toNat f) 28 (μ 23 0).toNat l) 23 0 (μ 23 0 + 1)
def mpuR (μ : MU) (f : Int) : Int := if mpuC f then 0 else if mpuD μ then 0 else μ 23 0
def mwiM (μ : MU) (P S : Int) : MU := if ¬ (mIP μ P ∧ mIS μ S) then upM μ 20 0 1 else if o9 (mplF μ P.toNat S) < 9 then upM (upM μ 20 0 0) 20 0 1 else if ¬ μ 21 0 = 0 ∨ μ 29 P.toNat = 4 then upM (upM μ 20 0 0) 20 0 2 else upM (upM (upM (upM μ 20 0 0) 20 0 0) 30 (4 * P.toNat + (μ 29 P.toNat).toNat) S) 29 P.toNat (μ 29 P.toNat + 1)
def mwiR (μ : MU) (P S : Int) : Int := if ¬ (mIP μ P ∧ mIS μ S) then 0 else if o9 (mplF μ P.toNat S) < 9 then 0 else if ¬ μ 21 0 = 0 ∨ μ 29 P.toNat = 4 then 0 else μ 29 P.toNat + 1
def mdrF (μ : MU) (P S n : Int) : Option Nat := fnd (fun q => decide (¬ (q : Int) = P ∧ μ 31 (6 * q + S.toNat) = n)) 0 (μ 23 0).toNat
abbrev mdrP (μ : MU) (P S n : Int) : Prop := (mIP μ P ∧ mIS μ S ∧ 0 ≤ n ∧ n ≤ 999 ∧ μ 21 0 = 0) ∧ mdrF μ P S n = none
def mdrM (μ : MU) (P S n : Int) : MU := if mdrP μ P S n then upM (upM μ 20 0 0) 31 (6 * P.toNat + S.toNat) n else upM μ 20 0 0
abbrev mapP (μ : MU) (P f : Int) : Prop := mIP μ P ∧ 0 ≤ f ∧ f ≤ 15
def mapM (μ : MU) (P f : Int) : MU := if mapP μ P f then upM (upM μ 20 0 0) 27 P.toNat f else upM μ 20 0 0
abbrev mstP (μ : MU) (P n : Int) : Prop := mIP μ P ∧ 0 ≤ n ∧ n ≤ 4 ∧ ¬ μ 21 0 = 0 ∧ ¬ μ 35 P.toNat = 3
def mstM (μ : MU) (P n : Int) : MU := if mstP μ P n then upM (upM μ 20 0 0) 37 P.toNat n else upM μ 20 0 0
def mseF (μ : MU) (P w : Int) : Int := if mIP μ P ∧ 0 ≤ w ∧ w ≤ 5 then (if w = 0 then μ 33 P.toNat else if w = 1 then μ 34 P.toNat else if w = 2 then μ 32 P.toNat else if w = 3 then μ 35 P.toNat else if w = 4 then μ 37 P.toNat else μ 27 P.toNat) else -1
def mlkF (μ : MU) (w : Int) : Int := if w = 0 then μ 22 0 else if w = 1 then μ 23 0 else if w = 2 then (if μ 21 0 = 0 then 0 else 1) else if w = 3 then itr (fun p a => a + μ 32 p) 0 (μ 23 0).toNat (0 : Int) else if w = 4 then cntF (fun p => decide (¬ μ 21 0 = 0 ∧ 0 ≤ μ 33 p)) (μ 23 0).toNat else -1
theorem mplF_of {a b : MU} {p : Nat} {w : Int} (h10 : ∀ j, b 30 j = a 30 j) (h11 : b 29 p = a 29 p) : mplF b p w = mplF a p w := by
  unfold mplF
  rw [h11]
  congr 1
  funext j
  rw [h10]
abbrev rmX4_school : Room := { frames := 0, cells := 0, slots := 0, locals := 0 }
set_option maxRecDepth 100000 in
set_option maxHeartbeats 4000000 in
theorem cX4_school_ok (μ : MU) (hSm : Sm μ) : CTi yX4_school cX4_school 1 (some .int) rmX4_school [aR 12 0] μ (fun r μ' => mscM μ = μ' ∧ r = mscR μ) := by
  intro l9 b9 D9 K9
  refine met_of (by decide) (Nat.le_of_ble_eq_true rfl) (fun x hC hR hM hA => ?_)
  have hC : Ctx x RX4 cX4_school rmX4_school := hC
  obtain ⟨⟨s1, s2⟩, ⟨n1, n2⟩, hr, hkc, hq, hpp, hli, hnu⟩ := hSm
  refine v_aload_n hC 0 dX4_school_0 rfl rfl ?_
  refine v_aload_n hC 0 dX4_school_1 rfl rfl ?_
  refine v_getI hC foX4_69 dX4_school_2 rfl rfl rfl (by first | decide | (simp only [vdn]; omega)) ?_
  try simp only [Int.toNat_natCast, upM_at, upM_nef, ne_eq, not_false_eq_true, Nat.reduceEqDiff, Nat.reduceAdd]
  refine v_if_ne hC 17 dX4_school_5 rfl (fun h5 => ?_) (fun h5 => ?_)
  · refine v_iconst hC dX4_school_17 ⟨by decide, by decide⟩ ?_
    refine v_goto hC 22 dX4_school_18 rfl ?_
    refine v_putI hC fwX4_59 dX4_school_22 rfl rfl rfl (by decide) (by first | decide | (simp only [vdn]; omega)) ?_
    refine v_aload_n hC 0 dX4_school_25 rfl rfl ?_
    refine v_getI hC foX4_59 dX4_school_26 rfl rfl rfl (by first | decide | (simp only [vdn]; omega)) ?_
    try simp only [Int.toNat_natCast, upM_at, upM_nef, ne_eq, not_false_eq_true, Nat.reduceEqDiff, Nat.reduceAdd]
    refine v_if_le hC 34 dX4_school_29 rfl (fun h29 => ?_) (fun h29 => ?_)
    · exfalso; omega
    · refine v_iconst hC dX4_school_32 ⟨by decide, by decide⟩ ?_
      exact v_iret hC hR dX4_school_33 (⟨_, rfl, if_pos (Or.inl h5), (if_pos (Or.inl h5)).symm⟩)
  · refine v_aload_n hC 0 dX4_school_8 rfl rfl ?_
    refine v_getI hC foX4_63 dX4_school_9 rfl rfl rfl (by first | decide | (simp only [vdn]; omega)) ?_
    try simp only [Int.toNat_natCast, upM_at, upM_nef, ne_eq, not_false_eq_true, Nat.reduceEqDiff, Nat.reduceAdd]
    refine v_bipush hC dX4_school_12 ⟨by decide, by decide⟩ ?_
    refine v_icmp_ne hC 21 dX4_school_14 rfl (fun h14 => ?_) (fun h14 => ?_)
    · refine v_iconst hC dX4_school_21 ⟨by decide, by decide⟩ ?_
      refine v_putI hC fwX4_59 dX4_school_22 rfl rfl rfl (by decide) (by first | decide | (simp only [vdn]; omega)) ?_
      refine v_aload_n hC 0 dX4_school_25 rfl rfl ?_
      refine v_getI hC foX4_59 dX4_school_26 rfl rfl rfl (by first | decide | (simp only [vdn]; omega)) ?_
      try simp only [Int.toNat_natCast, upM_at, upM_nef, ne_eq, not_false_eq_true, Nat.reduceEqDiff, Nat.reduceAdd]
      refine v_if_le hC 34 dX4_school_29 rfl (fun h29 => ?_) (fun h29 => ?_)
      · refine v_aload_n hC 0 dX4_school_34 rfl rfl ?_
        refine v_dupR hC dX4_school_35 ?_
        refine v_getI hC foX4_63 dX4_school_36 rfl rfl rfl (by first | decide | (simp only [vdn]; omega)) ?_
        try simp only [Int.toNat_natCast, upM_at, upM_nef, ne_eq, not_false_eq_true, Nat.reduceEqDiff, Nat.reduceAdd]
        refine v_iconst hC dX4_school_39 ⟨by decide, by decide⟩ ?_
        refine v_iadd hC dX4_school_40 ⟨by omega, by omega⟩ ?_
        refine v_putI hC fwX4_63 dX4_school_41 rfl rfl rfl (by decide) (by first | decide | (simp only [vdn]; omega)) ?_
        refine v_aload_n hC 0 dX4_school_44 rfl rfl ?_
        refine v_getI hC foX4_63 dX4_school_45 rfl rfl rfl (by first | decide | (simp only [vdn]; omega)) ?_
        try simp only [Int.toNat_natCast, upM_at, upM_nef, ne_eq, not_false_eq_true, Nat.reduceEqDiff, Nat.reduceAdd]
        refine v_iconst hC dX4_school_48 ⟨by decide, by decide⟩ ?_
        refine v_isub hC dX4_school_49 ⟨by omega, by omega⟩ ?_
        exact v_iret hC hR dX4_school_50 (⟨_, rfl, if_neg (fun q => q.elim (fun q => q h5) h14), by rw [mscR, if_neg (fun q => q.elim (fun q => q h5) h14)]; omega⟩)
      · exfalso; omega
    · refine v_iconst hC dX4_school_17 ⟨by decide, by decide⟩ ?_
      refine v_goto hC 22 dX4_school_18 rfl ?_
      refine v_putI hC fwX4_59 dX4_school_22 rfl rfl rfl (by decide) (by first | decide | (simp only [vdn]; omega)) ?_
      refine v_aload_n hC 0 dX4_school_25 rfl rfl ?_
      refine v_getI hC foX4_59 dX4_school_26 rfl rfl rfl (by first | decide | (simp only [vdn]; omega)) ?_
      try simp only [Int.toNat_natCast, upM_at, upM_nef, ne_eq, not_false_eq_true, Nat.reduceEqDiff, Nat.reduceAdd]
      refine v_if_le hC 34 dX4_school_29 rfl (fun h29 => ?_) (fun h29 => ?_)
      · exfalso; omega
      · refine v_iconst hC dX4_school_32 ⟨by decide, by decide⟩ ?_
        exact v_iret hC hR dX4_school_33 (⟨_, rfl, if_pos (Or.inr h14), (if_pos (Or.inr h14)).symm⟩)
abbrev rmX4_pupil : Room := { frames := 0, cells := 0, slots := 0, locals := 0 }
set_option maxRecDepth 100000 in
set_option maxHeartbeats 4000000 in
theorem cX4_pupil_ok (f l : Int) (μ : MU) (hSm : Sm μ) (hl : l = 0 ∨ l = 1) : CTi yX4_pupil cX4_pupil 3 (some .int) rmX4_pupil [aR 12 0, aI f, aI l] μ (fun r μ' => mpuM μ f l = μ' ∧ r = mpuR μ f) := by
  intro l9 b9 D9 K9
  refine met_of (by decide) (Nat.le_of_ble_eq_true rfl) (fun x hC hR hM hA => ?_)
  have hC : Ctx x RX4 cX4_pupil rmX4_pupil := hC
  obtain ⟨⟨s1, s2⟩, ⟨n1, n2⟩, hr, hkc, hq, hpp, hli, hnu⟩ := hSm
  refine v_aload_n hC 0 dX4_pupil_0 rfl rfl ?_
  refine v_iload_n hC 1 dX4_pupil_1 rfl rfl ?_
  refine v_if_lt hC 11 dX4_pupil_2 rfl (fun h2 => ?_) (fun h2 => ?_)
  · refine v_iconst hC dX4_pupil_11 ⟨by decide, by decide⟩ ?_
    refine v_goto hC 36 dX4_pupil_12 rfl ?_
    refine v_putI hC fwX4_59 dX4_pupil_36 rfl rfl rfl (by decide) (by first | decide | (simp only [vdn]; omega)) ?_
    refine v_aload_n hC 0 dX4_pupil_39 rfl rfl ?_
    refine v_getI hC foX4_59 dX4_pupil_40 rfl rfl rfl (by first | decide | (simp only [vdn]; omega)) ?_
    try simp only [Int.toNat_natCast, upM_at, upM_nef, ne_eq, not_false_eq_true, Nat.reduceEqDiff, Nat.reduceAdd]
    refine v_if_le hC 48 dX4_pupil_43 rfl (fun h43 => ?_) (fun h43 => ?_)
    · exfalso; omega
    · refine v_iconst hC dX4_pupil_46 ⟨by decide, by decide⟩ ?_
      exact v_iret hC hR dX4_pupil_47 (⟨_, rfl, if_pos (Or.inl h2), (if_pos (Or.inl h2)).symm⟩)
  · refine v_iload_n hC 1 dX4_pupil_5 rfl rfl ?_
    refine v_bipush hC dX4_pupil_6 ⟨by decide, by decide⟩ ?_
    refine v_icmp_le hC 15 dX4_pupil_8 rfl (fun h8 => ?_) (fun h8 => ?_)
    · refine v_aload_n hC 0 dX4_pupil_15 rfl rfl ?_
      refine v_getI hC foX4_69 dX4_pupil_16 rfl rfl rfl (by first | decide | (simp only [vdn]; omega)) ?_
      try simp only [Int.toNat_natCast, upM_at, upM_nef, ne_eq, not_false_eq_true, Nat.reduceEqDiff, Nat.reduceAdd]
      refine v_if_ne hC 31 dX4_pupil_19 rfl (fun h19 => ?_) (fun h19 => ?_)
      · refine v_iconst hC dX4_pupil_31 ⟨by decide, by decide⟩ ?_
        refine v_goto hC 36 dX4_pupil_32 rfl ?_
        refine v_putI hC fwX4_59 dX4_pupil_36 rfl rfl rfl (by decide) (by first | decide | (simp only [vdn]; omega)) ?_
        refine v_aload_n hC 0 dX4_pupil_39 rfl rfl ?_
        refine v_getI hC foX4_59 dX4_pupil_40 rfl rfl rfl (by first | decide | (simp only [vdn]; omega)) ?_
        try simp only [Int.toNat_natCast, upM_at, upM_nef, ne_eq, not_false_eq_true, Nat.reduceEqDiff, Nat.reduceAdd]
        refine v_if_le hC 48 dX4_pupil_43 rfl (fun h43 => ?_) (fun h43 => ?_)
        · exfalso; omega
        · refine v_iconst hC dX4_pupil_46 ⟨by decide, by decide⟩ ?_
          exact v_iret hC hR dX4_pupil_47 (⟨_, rfl, by rw [mpuM, if_neg (by omega), if_pos (Or.inl h19)], by rw [mpuR, if_neg (by omega), if_pos (Or.inl h19)]⟩)
      · refine v_aload_n hC 0 dX4_pupil_22 rfl rfl ?_
        refine v_getI hC foX4_66 dX4_pupil_23 rfl rfl rfl (by first | decide | (simp only [vdn]; omega)) ?_
        try simp only [Int.toNat_natCast, upM_at, upM_nef, ne_eq, not_false_eq_true, Nat.reduceEqDiff, Nat.reduceAdd]
        refine v_bipush hC dX4_pupil_26 ⟨by decide, by decide⟩ ?_
        refine v_icmp_ne hC 35 dX4_pupil_28 rfl (fun h28 => ?_) (fun h28 => ?_)
        · refine v_iconst hC dX4_pupil_35 ⟨by decide, by decide⟩ ?_
          refine v_putI hC fwX4_59 dX4_pupil_36 rfl rfl rfl (by decide) (by first | decide | (simp only [vdn]; omega)) ?_
          refine v_aload_n hC 0 dX4_pupil_39 rfl rfl ?_
          refine v_getI hC foX4_59 dX4_pupil_40 rfl rfl rfl (by first | decide | (simp only [vdn]; omega)) ?_
          try simp only [Int.toNat_natCast, upM_at, upM_nef, ne_eq, not_false_eq_true, Nat.reduceEqDiff, Nat.reduceAdd]
          refine v_if_le hC 48 dX4_pupil_43 rfl (fun h43 => ?_) (fun h43 => ?_)
          · refine v_aload_n hC 0 dX4_pupil_48 rfl rfl ?_
            refine v_getR hC foX4_19 dX4_pupil_49 rfl rfl rfl (by decide) (by first | decide | (simp only [vdn]; omega)) ?_
            refine v_aload_n hC 0 dX4_pupil_52 rfl rfl ?_
            refine v_getI hC foX4_66 dX4_pupil_53 rfl rfl rfl (by first | decide | (simp only [vdn]; omega)) ?_
            try simp only [Int.toNat_natCast, upM_at, upM_nef, ne_eq, not_false_eq_true, Nat.reduceEqDiff, Nat.reduceAdd]
            refine v_iload_n hC 1 dX4_pupil_56 rfl rfl ?_
            refine v_iast hC dX4_pupil_57 rfl rfl rfl (by decide) (by first | decide | (simp only [vdn]; omega)) ⟨by first | omega | (simp only [mlen]; omega), by first | omega | (simp only [mlen]; omega)⟩ ?_
            try simp only [Int.toNat_natCast, upM_at, upM_nef, ne_eq, not_false_eq_true, Nat.reduceEqDiff, Nat.reduceAdd]
            refine v_aload_n hC 0 dX4_pupil_58 rfl rfl ?_
            refine v_getR hC foX4_22 dX4_pupil_59 rfl rfl rfl (by decide) (by first | decide | (simp only [vdn]; omega)) ?_
            refine v_aload_n hC 0 dX4_pupil_62 rfl rfl ?_
            refine v_getI hC foX4_66 dX4_pupil_63 rfl rfl rfl (by first | decide | (simp only [vdn]; omega)) ?_
            try simp only [Int.toNat_natCast, upM_at, upM_nef, ne_eq, not_false_eq_true, Nat.reduceEqDiff, Nat.reduceAdd]
            refine v_iload_n hC 2 dX4_pupil_66 rfl rfl ?_
            refine v_zast hC dX4_pupil_67 rfl rfl rfl (by decide) (by first | decide | (simp only [vdn]; omega)) ⟨by first | omega | (simp only [mlen]; omega), by first | omega | (simp only [mlen]; omega)⟩ hl ?_
            try simp only [Int.toNat_natCast, upM_at, upM_nef, ne_eq, not_false_eq_true, Nat.reduceEqDiff, Nat.reduceAdd]
            refine v_aload_n hC 0 dX4_pupil_68 rfl rfl ?_
            refine v_dupR hC dX4_pupil_69 ?_
            refine v_getI hC foX4_66 dX4_pupil_70 rfl rfl rfl (by first | decide | (simp only [vdn]; omega)) ?_
            try simp only [Int.toNat_natCast, upM_at, upM_nef, ne_eq, not_false_eq_true, Nat.reduceEqDiff, Nat.reduceAdd]
            refine v_iconst hC dX4_pupil_73 ⟨by decide, by decide⟩ ?_
            refine v_iadd hC dX4_pupil_74 ⟨by omega, by omega⟩ ?_
            refine v_putI hC fwX4_66 dX4_pupil_75 rfl rfl rfl (by decide) (by first | decide | (simp only [vdn]; omega)) ?_
            refine v_aload_n hC 0 dX4_pupil_78 rfl rfl ?_
            refine v_getI hC foX4_66 dX4_pupil_79 rfl rfl rfl (by first | decide | (simp only [vdn]; omega)) ?_
            try simp only [Int.toNat_natCast, upM_at, upM_nef, ne_eq, not_false_eq_true, Nat.reduceEqDiff, Nat.reduceAdd]
            refine v_iconst hC dX4_pupil_82 ⟨by decide, by decide⟩ ?_
            refine v_isub hC dX4_pupil_83 ⟨by omega, by omega⟩ ?_
            exact v_iret hC hR dX4_pupil_84 (⟨_, rfl, by rw [mpuM, if_neg (by omega), if_neg (fun q => q.elim (fun q => q h19) h28)], by rw [mpuR, if_neg (by omega), if_neg (fun q => q.elim (fun q => q h19) h28)]; omega⟩)
          · exfalso; omega
        · refine v_iconst hC dX4_pupil_31 ⟨by decide, by decide⟩ ?_
          refine v_goto hC 36 dX4_pupil_32 rfl ?_
          refine v_putI hC fwX4_59 dX4_pupil_36 rfl rfl rfl (by decide) (by first | decide | (simp only [vdn]; omega)) ?_
          refine v_aload_n hC 0 dX4_pupil_39 rfl rfl ?_
          refine v_getI hC foX4_59 dX4_pupil_40 rfl rfl rfl (by first | decide | (simp only [vdn]; omega)) ?_
          try simp only [Int.toNat_natCast, upM_at, upM_nef, ne_eq, not_false_eq_true, Nat.reduceEqDiff, Nat.reduceAdd]
          refine v_if_le hC 48 dX4_pupil_43 rfl (fun h43 => ?_) (fun h43 => ?_)
          · exfalso; omega
          · refine v_iconst hC dX4_pupil_46 ⟨by decide, by decide⟩ ?_
            exact v_iret hC hR dX4_pupil_47 (⟨_, rfl, by rw [mpuM, if_neg (by omega), if_pos (Or.inr h28)], by rw [mpuR, if_neg (by omega), if_pos (Or.inr h28)]⟩)
    · refine v_iconst hC dX4_pupil_11 ⟨by decide, by decide⟩ ?_
      refine v_goto hC 36 dX4_pupil_12 rfl ?_
      refine v_putI hC fwX4_59 dX4_pupil_36 rfl rfl rfl (by decide) (by first | decide | (simp only [vdn]; omega)) ?_
      refine v_aload_n hC 0 dX4_pupil_39 rfl rfl ?_
      refine v_getI hC foX4_59 dX4_pupil_40 rfl rfl rfl (by first | decide | (simp only [vdn]; omega)) ?_
      try simp only [Int.toNat_natCast, upM_at, upM_nef, ne_eq, not_false_eq_true, Nat.reduceEqDiff, Nat.reduceAdd]
      refine v_if_le hC 48 dX4_pupil_43 rfl (fun h43 => ?_) (fun h43 => ?_)
      · exfalso; omega
      · refine v_iconst hC dX4_pupil_46 ⟨by decide, by decide⟩ ?_
        exact v_iret hC hR dX4_pupil_47 (⟨_, rfl, if_pos (Or.inr (by omega)), (if_pos (Or.inr (by omega))).symm⟩)
abbrev rmX4_wish : Room := { frames := 1, cells := 0, slots := 0, locals := 23 }
set_option maxRecDepth 100000 in
set_option maxHeartbeats 4000000 in
theorem cX4_wish_ok (P S : Int) (μ : MU) (hSm : Sm μ) : CTi yX4_wish cX4_wish 3 (some .int) rmX4_wish [aR 12 0, aI P, aI S] μ (fun r μ' => mwiM μ P S = μ' ∧ r = mwiR μ P S) := by
  intro l9 b9 D9 K9
  refine met_of (by decide) (Nat.le_of_ble_eq_true rfl) (fun x hC hR hM hA => ?_)
  have hC : Ctx x RX4 cX4_wish rmX4_wish := hC
  have hSm0 := hSm
  obtain ⟨⟨s1, s2⟩, ⟨n1, n2⟩, hr, hkc, hq, hpp, hli, hnu⟩ := hSm
  refine v_aload_n hC 0 dX4_wish_0 rfl rfl ?_
  refine v_aload_n hC 0 dX4_wish_1 rfl rfl ?_
  refine v_iload_n hC 1 dX4_wish_2 rfl rfl ?_
  refine v_callI1 hC (cwX4_77 hC ⟨Nat.le_of_ble_eq_true rfl, Nat.le_of_ble_eq_true rfl⟩) dX4_wish_3 rfl rfl rfl (Nat.zero_le _) (Nat.zero_le _) (Nat.le_of_ble_eq_true rfl) (by first | decide | (simp only [vdn]; omega)) (cX4_isPupil_ok P μ) (fun r1 μ1 hp => ?_)
  obtain ⟨rfl, rfl⟩ := hp
  refine v_if_eq hC 17 dX4_wish_6 rfl (fun h6 => ?_) (fun h6 => ?_)
  · refine v_iconst hC dX4_wish_17 ⟨by decide, by decide⟩ ?_
    refine v_goto hC 22 dX4_wish_18 rfl ?_
    refine v_putI hC fwX4_59 dX4_wish_22 rfl rfl rfl (by decide) (by first | decide | (simp only [vdn]; omega)) ?_
    refine v_aload_n hC 0 dX4_wish_25 rfl rfl ?_
    refine v_getI hC foX4_59 dX4_wish_26 rfl rfl rfl (by first | decide | (simp only [vdn]; omega)) ?_
    try simp only [Int.toNat_natCast, upM_at, upM_nef, ne_eq, not_false_eq_true, Nat.reduceEqDiff, Nat.reduceAdd]
    refine v_if_le hC 34 dX4_wish_29 rfl (fun h29 => ?_) (fun h29 => ?_)
    · exfalso; omega
    · refine v_iconst hC dX4_wish_32 ⟨by decide, by decide⟩ ?_
      exact v_iret hC hR dX4_wish_33 (⟨_, rfl, if_pos (fun q => bI_z.1 h6 q.1), (if_pos (fun q => bI_z.1 h6 q.1)).symm⟩)
  · refine v_aload_n hC 0 dX4_wish_9 rfl rfl ?_
    refine v_iload_n hC 2 dX4_wish_10 rfl rfl ?_
    refine v_callI1 hC (cwX4_73 hC ⟨Nat.le_of_ble_eq_true rfl, Nat.le_of_ble_eq_true rfl⟩) dX4_wish_11 rfl rfl rfl (Nat.zero_le _) (Nat.zero_le _) (Nat.le_of_ble_eq_true rfl) (by first | decide | (simp only [vdn]; omega)) (cX4_isSchool_ok S μ) (fun r1 μ1 hp => ?_)
    obtain ⟨rfl, rfl⟩ := hp
    refine v_if_ne hC 21 dX4_wish_14 rfl (fun h14 => ?_) (fun h14 => ?_)
    · refine v_iconst hC dX4_wish_21 ⟨by decide, by decide⟩ ?_
      refine v_putI hC fwX4_59 dX4_wish_22 rfl rfl rfl (by decide) (by first | decide | (simp only [vdn]; omega)) ?_
      refine v_aload_n hC 0 dX4_wish_25 rfl rfl ?_
      refine v_getI hC foX4_59 dX4_wish_26 rfl rfl rfl (by first | decide | (simp only [vdn]; omega)) ?_
      try simp only [Int.toNat_natCast, upM_at, upM_nef, ne_eq, not_false_eq_true, Nat.reduceEqDiff, Nat.reduceAdd]
      refine v_if_le hC 34 dX4_wish_29 rfl (fun h29 => ?_) (fun h29 => ?_)
      · obtain ⟨p1, p2⟩ := bI_n.1 h6
        obtain ⟨q1, q2⟩ := bI_n.1 h14
        have hc : ¬ ¬ (mIP μ P ∧ mIS μ S) := fun h => h ⟨⟨p1, p2⟩, ⟨q1, q2⟩⟩
        obtain ⟨p, rfl⟩ := Int.eq_ofNat_of_zero_le p1
        have hp1 := hpp p (by omega)
        have hSm1 : Sm (upM μ 20 0 0) := hSm0.up (by decide)
        have epl : mplF (upM μ 20 0 0) p S = mplF μ p S := mplF_of (fun j => upM_nef (by decide)) (upM_nef (by decide))
        have ei : ((4 : Int) * (p : Int) + μ 29 p).toNat = 4 * p + (μ 29 p).toNat := by omega
        refine v_aload_n hC 0 dX4_wish_34 rfl rfl ?_
        refine v_aload_n hC 0 dX4_wish_35 rfl rfl ?_
        refine v_iload_n hC 1 dX4_wish_36 rfl rfl ?_
        refine v_iload_n hC 2 dX4_wish_37 rfl rfl ?_
        refine v_callI2 hC (cwX4_80 hC ⟨Nat.le_of_ble_eq_true rfl, Nat.le_of_ble_eq_true rfl⟩) dX4_wish_38 rfl rfl rfl (Nat.zero_le _) (Nat.zero_le _) (Nat.le_of_ble_eq_true rfl) (by first | decide | (simp only [vdn]; omega)) (cX4_place_ok p S (upM μ 20 0 0) (by omega) hSm1) (fun r1 μ1 hp => ?_)
        obtain ⟨rfl, rfl⟩ := hp
        rw [epl]
        refine v_bipush hC dX4_wish_41 ⟨by decide, by decide⟩ ?_
        refine v_icmp_ge hC 50 dX4_wish_43 rfl (fun h43 => ?_) (fun h43 => ?_)
        · refine v_aload_n hC 0 dX4_wish_50 rfl rfl ?_
          refine v_getI hC foX4_69 dX4_wish_51 rfl rfl rfl (by first | decide | (simp only [vdn]; omega)) ?_
          try simp only [Int.toNat_natCast, upM_at, upM_nef, ne_eq, not_false_eq_true, Nat.reduceEqDiff, Nat.reduceAdd]
          refine v_if_ne hC 67 dX4_wish_54 rfl (fun h54 => ?_) (fun h54 => ?_)
          · refine v_iconst hC dX4_wish_67 ⟨by decide, by decide⟩ ?_
            refine v_goto hC 72 dX4_wish_68 rfl ?_
            refine v_putI hC fwX4_59 dX4_wish_72 rfl rfl rfl (by decide) (by first | decide | (simp only [vdn]; omega)) ?_
            refine v_aload_n hC 0 dX4_wish_75 rfl rfl ?_
            refine v_getI hC foX4_59 dX4_wish_76 rfl rfl rfl (by first | decide | (simp only [vdn]; omega)) ?_
            try simp only [Int.toNat_natCast, upM_at, upM_nef, ne_eq, not_false_eq_true, Nat.reduceEqDiff, Nat.reduceAdd]
            refine v_if_le hC 84 dX4_wish_79 rfl (fun h79 => ?_) (fun h79 => ?_)
            · exfalso; omega
            · refine v_iconst hC dX4_wish_82 ⟨by decide, by decide⟩ ?_
              exact v_iret hC hR dX4_wish_83 (⟨_, rfl, by rw [mwiM, if_neg hc, if_neg (by simp only [Int.toNat_natCast]; omega), if_pos (Or.inl h54)], by rw [mwiR, if_neg hc, if_neg (by simp only [Int.toNat_natCast]; omega), if_pos (Or.inl h54)]⟩)
          · refine v_aload_n hC 0 dX4_wish_57 rfl rfl ?_
            refine v_getR hC foX4_26 dX4_wish_58 rfl rfl rfl (by decide) (by first | decide | (simp only [vdn]; omega)) ?_
            refine v_iload_n hC 1 dX4_wish_61 rfl rfl ?_
            refine v_iald hC dX4_wish_62 rfl rfl rfl (by first | decide | (simp only [vdn]; omega)) ⟨by first | omega | (simp only [mlen]; omega), by first | omega | (simp only [mlen]; omega)⟩ ?_
            try simp only [Int.toNat_natCast, upM_at, upM_nef, ne_eq, not_false_eq_true, Nat.reduceEqDiff, Nat.reduceAdd]
            refine v_iconst hC dX4_wish_63 ⟨by decide, by decide⟩ ?_
            refine v_icmp_ne hC 71 dX4_wish_64 rfl (fun h64 => ?_) (fun h64 => ?_)
            · refine v_iconst hC dX4_wish_71 ⟨by decide, by decide⟩ ?_
              refine v_putI hC fwX4_59 dX4_wish_72 rfl rfl rfl (by decide) (by first | decide | (simp only [vdn]; omega)) ?_
              refine v_aload_n hC 0 dX4_wish_75 rfl rfl ?_
              refine v_getI hC foX4_59 dX4_wish_76 rfl rfl rfl (by first | decide | (simp only [vdn]; omega)) ?_
              try simp only [Int.toNat_natCast, upM_at, upM_nef, ne_eq, not_false_eq_true, Nat.reduceEqDiff, Nat.reduceAdd]
              refine v_if_le hC 84 dX4_wish_79 rfl (fun h79 => ?_) (fun h79 => ?_)
              · refine v_aload_n hC 0 dX4_wish_84 rfl rfl ?_
                refine v_getR hC foX4_29 dX4_wish_85 rfl rfl rfl (by decide) (by first | decide | (simp only [vdn]; omega)) ?_
                refine v_iconst hC dX4_wish_88 ⟨by decide, by decide⟩ ?_
                refine v_iload_n hC 1 dX4_wish_89 rfl rfl ?_
                refine v_imul hC dX4_wish_90 ⟨by omega, by omega⟩ ?_
                refine v_aload_n hC 0 dX4_wish_91 rfl rfl ?_
                refine v_getR hC foX4_26 dX4_wish_92 rfl rfl rfl (by decide) (by first | decide | (simp only [vdn]; omega)) ?_
                refine v_iload_n hC 1 dX4_wish_95 rfl rfl ?_
                refine v_iald hC dX4_wish_96 rfl rfl rfl (by first | decide | (simp only [vdn]; omega)) ⟨by first | omega | (simp only [mlen]; omega), by first | omega | (simp only [mlen]; omega)⟩ ?_
                try simp only [Int.toNat_natCast, upM_at, upM_nef, ne_eq, not_false_eq_true, Nat.reduceEqDiff, Nat.reduceAdd]
                refine v_iadd hC dX4_wish_97 ⟨by omega, by omega⟩ ?_
                refine v_iload_n hC 2 dX4_wish_98 rfl rfl ?_
                refine v_iast hC dX4_wish_99 rfl rfl rfl (by decide) (by first | decide | (simp only [vdn]; omega)) ⟨by first | omega | (simp only [mlen]; omega), by first | omega | (simp only [mlen]; omega)⟩ ?_
                try simp only [Int.toNat_natCast, upM_at, upM_nef, ne_eq, not_false_eq_true, Nat.reduceEqDiff, Nat.reduceAdd]
                rw [ei]
                refine v_aload_n hC 0 dX4_wish_100 rfl rfl ?_
                refine v_getR hC foX4_26 dX4_wish_101 rfl rfl rfl (by decide) (by first | decide | (simp only [vdn]; omega)) ?_
                refine v_iload_n hC 1 dX4_wish_104 rfl rfl ?_
                refine v_dup2 hC dX4_wish_105 ?_
                refine v_iald hC dX4_wish_106 rfl rfl rfl (by first | decide | (simp only [vdn]; omega)) ⟨by first | omega | (simp only [mlen]; omega), by first | omega | (simp only [mlen]; omega)⟩ ?_
                try simp only [Int.toNat_natCast, upM_at, upM_nef, ne_eq, not_false_eq_true, Nat.reduceEqDiff, Nat.reduceAdd]
                refine v_iconst hC dX4_wish_107 ⟨by decide, by decide⟩ ?_
                refine v_iadd hC dX4_wish_108 ⟨by omega, by omega⟩ ?_
                refine v_iast hC dX4_wish_109 rfl rfl rfl (by decide) (by first | decide | (simp only [vdn]; omega)) ⟨by first | omega | (simp only [mlen]; omega), by first | omega | (simp only [mlen]; omega)⟩ ?_
                try simp only [Int.toNat_natCast, upM_at, upM_nef, ne_eq, not_false_eq_true, Nat.reduceEqDiff, Nat.reduceAdd]
                refine v_aload_n hC 0 dX4_wish_110 rfl rfl ?_
                refine v_getR hC foX4_26 dX4_wish_111 rfl rfl rfl (by decide) (by first | decide | (simp only [vdn]; omega)) ?_
                refine v_iload_n hC 1 dX4_wish_114 rfl rfl ?_
                refine v_iald hC dX4_wish_115 rfl rfl rfl (by first | decide | (simp only [vdn]; omega)) ⟨by first | omega | (simp only [mlen]; omega), by first | omega | (simp only [mlen]; omega)⟩ ?_
                try simp only [Int.toNat_natCast, upM_at, upM_nef, ne_eq, not_false_eq_true, Nat.reduceEqDiff, Nat.reduceAdd]
                exact v_iret hC hR dX4_wish_116 (⟨_, rfl, by rw [mwiM, if_neg hc, if_neg (by simp only [Int.toNat_natCast]; omega), if_neg (fun q => q.elim (fun q => q h54) h64)] <;> rfl, by rw [mwiR, if_neg hc, if_neg (by simp only [Int.toNat_natCast]; omega), if_neg (fun q => q.elim (fun q => q h54) h64)] <;> rfl⟩)
              · exfalso; omega
            · refine v_iconst hC dX4_wish_67 ⟨by decide, by decide⟩ ?_
              refine v_goto hC 72 dX4_wish_68 rfl ?_
              refine v_putI hC fwX4_59 dX4_wish_72 rfl rfl rfl (by decide) (by first | decide | (simp only [vdn]; omega)) ?_
              refine v_aload_n hC 0 dX4_wish_75 rfl rfl ?_
              refine v_getI hC foX4_59 dX4_wish_76 rfl rfl rfl (by first | decide | (simp only [vdn]; omega)) ?_
              try simp only [Int.toNat_natCast, upM_at, upM_nef, ne_eq, not_false_eq_true, Nat.reduceEqDiff, Nat.reduceAdd]
              refine v_if_le hC 84 dX4_wish_79 rfl (fun h79 => ?_) (fun h79 => ?_)
              · exfalso; omega
              · refine v_iconst hC dX4_wish_82 ⟨by decide, by decide⟩ ?_
                exact v_iret hC hR dX4_wish_83 (⟨_, rfl, by rw [mwiM, if_neg hc, if_neg (by simp only [Int.toNat_natCast]; omega), if_pos (Or.inr (show μ 29 ((p : Int)).toNat = 4 from h64))], by rw [mwiR, if_neg hc, if_neg (by simp only [Int.toNat_natCast]; omega), if_pos (Or.inr (show μ 29 ((p : Int)).toNat = 4 from h64))]⟩)
        · refine v_iconst hC dX4_wish_46 ⟨by decide, by decide⟩ ?_
          refine v_goto hC 72 dX4_wish_47 rfl ?_
          refine v_putI hC fwX4_59 dX4_wish_72 rfl rfl rfl (by decide) (by first | decide | (simp only [vdn]; omega)) ?_
          refine v_aload_n hC 0 dX4_wish_75 rfl rfl ?_
          refine v_getI hC foX4_59 dX4_wish_76 rfl rfl rfl (by first | decide | (simp only [vdn]; omega)) ?_
          try simp only [Int.toNat_natCast, upM_at, upM_nef, ne_eq, not_false_eq_true, Nat.reduceEqDiff, Nat.reduceAdd]
          refine v_if_le hC 84 dX4_wish_79 rfl (fun h79 => ?_) (fun h79 => ?_)
          · exfalso; omega
          · refine v_iconst hC dX4_wish_82 ⟨by decide, by decide⟩ ?_
            exact v_iret hC hR dX4_wish_83 (⟨_, rfl, by rw [mwiM, if_neg hc, if_pos (by simp only [Int.toNat_natCast]; omega)], by rw [mwiR, if_neg hc, if_pos (by simp only [Int.toNat_natCast]; omega)]⟩)
      · exfalso; omega
    · refine v_iconst hC dX4_wish_17 ⟨by decide, by decide⟩ ?_
      refine v_goto hC 22 dX4_wish_18 rfl ?_
      refine v_putI hC fwX4_59 dX4_wish_22 rfl rfl rfl (by decide) (by first | decide | (simp only [vdn]; omega)) ?_
      refine v_aload_n hC 0 dX4_wish_25 rfl rfl ?_
      refine v_getI hC foX4_59 dX4_wish_26 rfl rfl rfl (by first | decide | (simp only [vdn]; omega)) ?_
      try simp only [Int.toNat_natCast, upM_at, upM_nef, ne_eq, not_false_eq_true, Nat.reduceEqDiff, Nat.reduceAdd]
      refine v_if_le hC 34 dX4_wish_29 rfl (fun h29 => ?_) (fun h29 => ?_)
      · exfalso; omega
      · refine v_iconst hC dX4_wish_32 ⟨by decide, by decide⟩ ?_
        exact v_iret hC hR dX4_wish_33 (⟨_, rfl, if_pos (fun q => bI_z.1 h14 q.2), (if_pos (fun q => bI_z.1 h14 q.2)).symm⟩)
abbrev rmX4_draw : Room := { frames := 1, cells := 0, slots := 0, locals := 21 }
set_option maxRecDepth 100000 in
set_option maxHeartbeats 4000000 in
theorem cX4_draw_ok (P S n : Int) (μ : MU) (hSm : Sm μ) : CTi yX4_draw cX4_draw 5 (some .boolean) rmX4_draw [aR 12 0, aI P, aI S, aI n] μ (fun r μ' => mdrM μ P S n = μ' ∧ r = bI (mdrP μ P S n)) := by
  intro l9 b9 D9 K9
  refine met_of (by decide) (Nat.le_of_ble_eq_true rfl) (fun x hC hR hM hA => ?_)
  have hC : Ctx x RX4 cX4_draw rmX4_draw := hC
  obtain ⟨⟨s1, s2⟩, ⟨n1, n2⟩, hr, hkc, hq, hpp, hli, hnu⟩ := hSm
  refine v_aload_n hC 0 dX4_draw_0 rfl rfl ?_
  refine v_iconst hC dX4_draw_1 ⟨by decide, by decide⟩ ?_
  refine v_putI hC fwX4_59 dX4_draw_2 rfl rfl rfl (by decide) (by first | decide | (simp only [vdn]; omega)) ?_
  refine v_aload_n hC 0 dX4_draw_5 rfl rfl ?_
  refine v_iload_n hC 1 dX4_draw_6 rfl rfl ?_
  refine v_callI1 hC (cwX4_77 hC ⟨Nat.le_of_ble_eq_true rfl, Nat.le_of_ble_eq_true rfl⟩) dX4_draw_7 rfl rfl rfl (Nat.zero_le _) (Nat.zero_le _) (Nat.le_of_ble_eq_true rfl) (by first | decide | (simp only [vdn]; omega)) (cX4_isPupil_ok P (upM μ 20 0 0)) (fun r1 μ1 hp => ?_)
  obtain ⟨rfl, rfl⟩ := hp
  refine v_if_eq hC 39 dX4_draw_10 rfl (fun h10 => ?_) (fun h10 => ?_)
  · refine v_iconst hC dX4_draw_39 ⟨by decide, by decide⟩ ?_
    exact v_bret hC hR dX4_draw_40 (by omega) (⟨_, rfl, fin_f (fun q => bI_z.1 h10 q.1.1)⟩)
  · refine v_aload_n hC 0 dX4_draw_13 rfl rfl ?_
    refine v_iload_n hC 2 dX4_draw_14 rfl rfl ?_
    refine v_callI1 hC (cwX4_73 hC ⟨Nat.le_of_ble_eq_true rfl, Nat.le_of_ble_eq_true rfl⟩) dX4_draw_15 rfl rfl rfl (Nat.zero_le _) (Nat.zero_le _) (Nat.le_of_ble_eq_true rfl) (by first | decide | (simp only [vdn]; omega)) (cX4_isSchool_ok S (upM μ 20 0 0)) (fun r1 μ1 hp => ?_)
    obtain ⟨rfl, rfl⟩ := hp
    refine v_if_eq hC 39 dX4_draw_18 rfl (fun h18 => ?_) (fun h18 => ?_)
    · refine v_iconst hC dX4_draw_39 ⟨by decide, by decide⟩ ?_
      exact v_bret hC hR dX4_draw_40 (by omega) (⟨_, rfl, fin_f (fun q => bI_z.1 h18 q.1.2.1)⟩)
    · refine v_iload_n hC 3 dX4_draw_21 rfl rfl ?_
      refine v_if_lt hC 39 dX4_draw_22 rfl (fun h22 => ?_) (fun h22 => ?_)
      · refine v_iconst hC dX4_draw_39 ⟨by decide, by decide⟩ ?_
        exact v_bret hC hR dX4_draw_40 (by omega) (⟨_, rfl, fin_f (fun q => by have := q.1.2.2.1; omega)⟩)
      · refine v_iload_n hC 3 dX4_draw_25 rfl rfl ?_
        refine v_sipush hC dX4_draw_26 ⟨by decide, by decide⟩ ?_
        refine v_icmp_gt hC 39 dX4_draw_29 rfl (fun h29 => ?_) (fun h29 => ?_)
        · refine v_iconst hC dX4_draw_39 ⟨by decide, by decide⟩ ?_
          exact v_bret hC hR dX4_draw_40 (by omega) (⟨_, rfl, fin_f (fun q => by have := q.1.2.2.2.1; omega)⟩)
        · refine v_aload_n hC 0 dX4_draw_32 rfl rfl ?_
          refine v_getI hC foX4_69 dX4_draw_33 rfl rfl rfl (by first | decide | (simp only [vdn]; omega)) ?_
          try simp only [Int.toNat_natCast, upM_at, upM_nef, ne_eq, not_false_eq_true, Nat.reduceEqDiff, Nat.reduceAdd]
          refine v_if_eq hC 41 dX4_draw_36 rfl (fun h36 => ?_) (fun h36 => ?_)
          · refine v_iconst hC dX4_draw_41 ⟨by decide, by decide⟩ ?_
            refine v_istore hC dX4_draw_42 (Nat.le_of_ble_eq_true rfl) ?_
            obtain ⟨p1, p2⟩ : mIP μ P := bI_n.1 h10
            obtain ⟨q1, q2⟩ : mIS μ S := bI_n.1 h18
            refine v_loop (fun i : Nat => (μ 23 0).toNat - i) (fun i => i ≤ 20 ∧ fnd (fun q => decide (¬ (q : Int) = P ∧ μ 31 (6 * q + S.toNat) = n)) i ((μ 23 0).toNat - i) = mdrF μ P S n) (fun i => V x 0 0 none 44 [some (aR 12 0), some (aI P), some (aI S), some (aI n), some (aI (i : Int))] [] (upM μ 20 0 0)) (fun i hi ih => ?_) 0 ⟨by decide, rfl⟩
            have ei : ((6 : Int) * (i : Int) + S).toNat = 6 * i + S.toNat := by omega
            have ej : ((6 : Int) * P + S).toNat = 6 * P.toNat + S.toNat := by omega
            refine v_iload hC dX4_draw_44 rfl ?_
            refine v_aload_n hC 0 dX4_draw_46 rfl rfl ?_
            refine v_getI hC foX4_66 dX4_draw_47 rfl rfl rfl (by first | decide | (simp only [vdn]; omega)) ?_
            try simp only [Int.toNat_natCast, upM_at, upM_nef, ne_eq, not_false_eq_true, Nat.reduceEqDiff, Nat.reduceAdd]
            refine v_icmp_ge hC 83 dX4_draw_50 rfl (fun h50 => ?_) (fun h50 => ?_)
            · refine v_aload_n hC 0 dX4_draw_83 rfl rfl ?_
              refine v_getR hC foX4_32 dX4_draw_84 rfl rfl rfl (by decide) (by first | decide | (simp only [vdn]; omega)) ?_
              refine v_bipush hC dX4_draw_87 ⟨by decide, by decide⟩ ?_
              refine v_iload_n hC 1 dX4_draw_89 rfl rfl ?_
              refine v_imul hC dX4_draw_90 ⟨by omega, by omega⟩ ?_
              refine v_iload_n hC 2 dX4_draw_91 rfl rfl ?_
              refine v_iadd hC dX4_draw_92 ⟨by omega, by omega⟩ ?_
              refine v_iload_n hC 3 dX4_draw_93 rfl rfl ?_
              refine v_iast hC dX4_draw_94 rfl rfl rfl (by decide) (by first | decide | (simp only [vdn]; omega)) ⟨by first | omega | (simp only [mlen]; omega), by first | omega | (simp only [mlen]; omega)⟩ ?_
              try simp only [Int.toNat_natCast, upM_at, upM_nef, ne_eq, not_false_eq_true, Nat.reduceEqDiff, Nat.reduceAdd]
              rw [ej]
              refine v_iconst hC dX4_draw_95 ⟨by decide, by decide⟩ ?_
              exact v_bret hC hR dX4_draw_96 (by omega) (⟨_, rfl, fin_t ⟨⟨⟨p1, p2⟩, ⟨q1, q2⟩, by omega, by omega, h36⟩, by rw [← hi.2, fnd_done (by omega)]⟩⟩)
            · refine v_iload hC dX4_draw_53 rfl ?_
              refine v_iload_n hC 1 dX4_draw_55 rfl rfl ?_
              refine v_icmp_eq hC 77 dX4_draw_56 rfl (fun h56 => ?_) (fun h56 => ?_)
              · refine v_iinc hC dX4_draw_77 rfl ⟨by omega, by omega⟩ ?_
                refine v_goto hC 44 dX4_draw_80 rfl ?_
                exact ih (i + 1) ⟨by omega, fnd_next (by omega) (fun h => (of_decide_eq_true h).1 h56) hi.2⟩ (by omega)
              · refine v_aload_n hC 0 dX4_draw_59 rfl rfl ?_
                refine v_getR hC foX4_32 dX4_draw_60 rfl rfl rfl (by decide) (by first | decide | (simp only [vdn]; omega)) ?_
                refine v_bipush hC dX4_draw_63 ⟨by decide, by decide⟩ ?_
                refine v_iload hC dX4_draw_65 rfl ?_
                refine v_imul hC dX4_draw_67 ⟨by omega, by omega⟩ ?_
                refine v_iload_n hC 2 dX4_draw_68 rfl rfl ?_
                refine v_iadd hC dX4_draw_69 ⟨by omega, by omega⟩ ?_
                refine v_iald hC dX4_draw_70 rfl rfl rfl (by first | decide | (simp only [vdn]; omega)) ⟨by first | omega | (simp only [mlen]; omega), by first | omega | (simp only [mlen]; omega)⟩ ?_
                try simp only [Int.toNat_natCast, upM_at, upM_nef, ne_eq, not_false_eq_true, Nat.reduceEqDiff, Nat.reduceAdd]
                rw [ei]
                refine v_iload_n hC 3 dX4_draw_71 rfl rfl ?_
                refine v_icmp_ne hC 77 dX4_draw_72 rfl (fun h72 => ?_) (fun h72 => ?_)
                · refine v_iinc hC dX4_draw_77 rfl ⟨by omega, by omega⟩ ?_
                  refine v_goto hC 44 dX4_draw_80 rfl ?_
                  exact ih (i + 1) ⟨by omega, fnd_next (by omega) (fun h => h72 (of_decide_eq_true h).2) hi.2⟩ (by omega)
                · refine v_iconst hC dX4_draw_75 ⟨by decide, by decide⟩ ?_
                  exact v_bret hC hR dX4_draw_76 (by omega) (⟨_, rfl, fin_f (fun q => by have h9 := q.2; rw [← hi.2, fnd_yes (by omega) (decide_eq_true ⟨h56, h72⟩)] at h9; cases h9)⟩)
          · refine v_iconst hC dX4_draw_39 ⟨by decide, by decide⟩ ?_
            exact v_bret hC hR dX4_draw_40 (by omega) (⟨_, rfl, fin_f (fun q => h36 q.1.2.2.2.2)⟩)
abbrev rmX4_appeal : Room := { frames := 1, cells := 0, slots := 0, locals := 21 }
set_option maxRecDepth 100000 in
set_option maxHeartbeats 4000000 in
theorem cX4_appeal_ok (P f : Int) (μ : MU) (hSm : Sm μ) : CTi yX4_appeal cX4_appeal 3 (some .boolean) rmX4_appeal [aR 12 0, aI P, aI f] μ (fun r μ' => mapM μ P f = μ' ∧ r = bI (mapP μ P f)) := by
  intro l9 b9 D9 K9
  refine met_of (by decide) (Nat.le_of_ble_eq_true rfl) (fun x hC hR hM hA => ?_)
  have hC : Ctx x RX4 cX4_appeal rmX4_appeal := hC
  obtain ⟨⟨s1, s2⟩, ⟨n1, n2⟩, hr, hkc, hq, hpp, hli, hnu⟩ := hSm
  refine v_aload_n hC 0 dX4_appeal_0 rfl rfl ?_
  refine v_iconst hC dX4_appeal_1 ⟨by decide, by decide⟩ ?_
  refine v_putI hC fwX4_59 dX4_appeal_2 rfl rfl rfl (by decide) (by first | decide | (simp only [vdn]; omega)) ?_
  refine v_aload_n hC 0 dX4_appeal_5 rfl rfl ?_
  refine v_iload_n hC 1 dX4_appeal_6 rfl rfl ?_
  refine v_callI1 hC (cwX4_77 hC ⟨Nat.le_of_ble_eq_true rfl, Nat.le_of_ble_eq_true rfl⟩) dX4_appeal_7 rfl rfl rfl (Nat.zero_le _) (Nat.zero_le _) (Nat.le_of_ble_eq_true rfl) (by first | decide | (simp only [vdn]; omega)) (cX4_isPupil_ok P (upM μ 20 0 0)) (fun r1 μ1 hp => ?_)
  obtain ⟨rfl, rfl⟩ := hp
  refine v_if_eq hC 23 dX4_appeal_10 rfl (fun h10 => ?_) (fun h10 => ?_)
  · refine v_iconst hC dX4_appeal_23 ⟨by decide, by decide⟩ ?_
    exact v_bret hC hR dX4_appeal_24 (by omega) (⟨_, rfl, fin_f (fun q => bI_z.1 h10 q.1)⟩)
  · refine v_iload_n hC 2 dX4_appeal_13 rfl rfl ?_
    refine v_if_lt hC 23 dX4_appeal_14 rfl (fun h14 => ?_) (fun h14 => ?_)
    · refine v_iconst hC dX4_appeal_23 ⟨by decide, by decide⟩ ?_
      exact v_bret hC hR dX4_appeal_24 (by omega) (⟨_, rfl, fin_f (fun q => by have := q.2.1; omega)⟩)
    · refine v_iload_n hC 2 dX4_appeal_17 rfl rfl ?_
      refine v_bipush hC dX4_appeal_18 ⟨by decide, by decide⟩ ?_
      refine v_icmp_le hC 25 dX4_appeal_20 rfl (fun h20 => ?_) (fun h20 => ?_)
      · obtain ⟨p1, p2⟩ : mIP μ P := bI_n.1 h10
        refine v_aload_n hC 0 dX4_appeal_25 rfl rfl ?_
        refine v_getR hC foX4_19 dX4_appeal_26 rfl rfl rfl (by decide) (by first | decide | (simp only [vdn]; omega)) ?_
        refine v_iload_n hC 1 dX4_appeal_29 rfl rfl ?_
        refine v_iload_n hC 2 dX4_appeal_30 rfl rfl ?_
        refine v_iast hC dX4_appeal_31 rfl rfl rfl (by decide) (by first | decide | (simp only [vdn]; omega)) ⟨by first | omega | (simp only [mlen]; omega), by first | omega | (simp only [mlen]; omega)⟩ ?_
        try simp only [Int.toNat_natCast, upM_at, upM_nef, ne_eq, not_false_eq_true, Nat.reduceEqDiff, Nat.reduceAdd]
        refine v_iconst hC dX4_appeal_32 ⟨by decide, by decide⟩ ?_
        exact v_bret hC hR dX4_appeal_33 (by omega) (⟨_, rfl, fin_t ⟨⟨p1, p2⟩, by omega, by omega⟩⟩)
      · refine v_iconst hC dX4_appeal_23 ⟨by decide, by decide⟩ ?_
        exact v_bret hC hR dX4_appeal_24 (by omega) (⟨_, rfl, fin_f (fun q => by have := q.2.2; omega)⟩)
abbrev rmX4_stay : Room := { frames := 1, cells := 0, slots := 0, locals := 21 }
set_option maxRecDepth 100000 in
set_option maxHeartbeats 4000000 in
theorem cX4_stay_ok (P n : Int) (μ : MU) (hSm : Sm μ) : CTi yX4_stay cX4_stay 3 (some .boolean) rmX4_stay [aR 12 0, aI P, aI n] μ (fun r μ' => mstM μ P n = μ' ∧ r = bI (mstP μ P n)) := by
  intro l9 b9 D9 K9
  refine met_of (by decide) (Nat.le_of_ble_eq_true rfl) (fun x hC hR hM hA => ?_)
  have hC : Ctx x RX4 cX4_stay rmX4_stay := hC
  obtain ⟨⟨s1, s2⟩, ⟨n1, n2⟩, hr, hkc, hq, hpp, hli, hnu⟩ := hSm
  refine v_aload_n hC 0 dX4_stay_0 rfl rfl ?_
  refine v_iconst hC dX4_stay_1 ⟨by decide, by decide⟩ ?_
  refine v_putI hC fwX4_59 dX4_stay_2 rfl rfl rfl (by decide) (by first | decide | (simp only [vdn]; omega)) ?_
  refine v_aload_n hC 0 dX4_stay_5 rfl rfl ?_
  refine v_iload_n hC 1 dX4_stay_6 rfl rfl ?_
  refine v_callI1 hC (cwX4_77 hC ⟨Nat.le_of_ble_eq_true rfl, Nat.le_of_ble_eq_true rfl⟩) dX4_stay_7 rfl rfl rfl (Nat.zero_le _) (Nat.zero_le _) (Nat.le_of_ble_eq_true rfl) (by first | decide | (simp only [vdn]; omega)) (cX4_isPupil_ok P (upM μ 20 0 0)) (fun r1 μ1 hp => ?_)
  obtain ⟨rfl, rfl⟩ := hp
  refine v_if_eq hC 29 dX4_stay_10 rfl (fun h10 => ?_) (fun h10 => ?_)
  · refine v_iconst hC dX4_stay_29 ⟨by decide, by decide⟩ ?_
    exact v_bret hC hR dX4_stay_30 (by omega) (⟨_, rfl, fin_f (fun q => bI_z.1 h10 q.1)⟩)
  · refine v_aload_n hC 0 dX4_stay_13 rfl rfl ?_
    refine v_getI hC foX4_69 dX4_stay_14 rfl rfl rfl (by first | decide | (simp only [vdn]; omega)) ?_
    try simp only [Int.toNat_natCast, upM_at, upM_nef, ne_eq, not_false_eq_true, Nat.reduceEqDiff, Nat.reduceAdd]
    refine v_if_eq hC 29 dX4_stay_17 rfl (fun h17 => ?_) (fun h17 => ?_)
    · refine v_iconst hC dX4_stay_29 ⟨by decide, by decide⟩ ?_
      exact v_bret hC hR dX4_stay_30 (by omega) (⟨_, rfl, fin_f (fun q => q.2.2.2.1 h17)⟩)
    · refine v_iload_n hC 2 dX4_stay_20 rfl rfl ?_
      refine v_if_lt hC 29 dX4_stay_21 rfl (fun h21 => ?_) (fun h21 => ?_)
      · refine v_iconst hC dX4_stay_29 ⟨by decide, by decide⟩ ?_
        exact v_bret hC hR dX4_stay_30 (by omega) (⟨_, rfl, fin_f (fun q => by have := q.2.1; omega)⟩)
      · refine v_iload_n hC 2 dX4_stay_24 rfl rfl ?_
        refine v_iconst hC dX4_stay_25 ⟨by decide, by decide⟩ ?_
        refine v_icmp_le hC 31 dX4_stay_26 rfl (fun h26 => ?_) (fun h26 => ?_)
        · obtain ⟨p1, p2⟩ : mIP μ P := bI_n.1 h10
          refine v_aload_n hC 0 dX4_stay_31 rfl rfl ?_
          refine v_getR hC foX4_44 dX4_stay_32 rfl rfl rfl (by decide) (by first | decide | (simp only [vdn]; omega)) ?_
          refine v_iload_n hC 1 dX4_stay_35 rfl rfl ?_
          refine v_iald hC dX4_stay_36 rfl rfl rfl (by first | decide | (simp only [vdn]; omega)) ⟨by first | omega | (simp only [mlen]; omega), by first | omega | (simp only [mlen]; omega)⟩ ?_
          try simp only [Int.toNat_natCast, upM_at, upM_nef, ne_eq, not_false_eq_true, Nat.reduceEqDiff, Nat.reduceAdd]
          refine v_iconst hC dX4_stay_37 ⟨by decide, by decide⟩ ?_
          refine v_icmp_ne hC 43 dX4_stay_38 rfl (fun h38 => ?_) (fun h38 => ?_)
          · refine v_aload_n hC 0 dX4_stay_43 rfl rfl ?_
            refine v_getR hC foX4_50 dX4_stay_44 rfl rfl rfl (by decide) (by first | decide | (simp only [vdn]; omega)) ?_
            refine v_iload_n hC 1 dX4_stay_47 rfl rfl ?_
            refine v_iload_n hC 2 dX4_stay_48 rfl rfl ?_
            refine v_iast hC dX4_stay_49 rfl rfl rfl (by decide) (by first | decide | (simp only [vdn]; omega)) ⟨by first | omega | (simp only [mlen]; omega), by first | omega | (simp only [mlen]; omega)⟩ ?_
            try simp only [Int.toNat_natCast, upM_at, upM_nef, ne_eq, not_false_eq_true, Nat.reduceEqDiff, Nat.reduceAdd]
            refine v_iconst hC dX4_stay_50 ⟨by decide, by decide⟩ ?_
            exact v_bret hC hR dX4_stay_51 (by omega) (⟨_, rfl, fin_t ⟨⟨p1, p2⟩, by omega, by omega, h17, h38⟩⟩)
          · refine v_iconst hC dX4_stay_41 ⟨by decide, by decide⟩ ?_
            exact v_bret hC hR dX4_stay_42 (by omega) (⟨_, rfl, fin_f (fun q => q.2.2.2.2 h38)⟩)
        · refine v_iconst hC dX4_stay_29 ⟨by decide, by decide⟩ ?_
          exact v_bret hC hR dX4_stay_30 (by omega) (⟨_, rfl, fin_f (fun q => by have := q.2.2.1; omega)⟩)
abbrev rmX4_seat : Room := { frames := 1, cells := 0, slots := 0, locals := 21 }
set_option maxRecDepth 100000 in
set_option maxHeartbeats 4000000 in
theorem cX4_seat_ok (P w : Int) (μ : MU) (hSm : Sm μ) : CTi yX4_seat cX4_seat 3 (some .int) rmX4_seat [aR 12 0, aI P, aI w] μ (fun r μ' => upM μ 20 0 0 = μ' ∧ r = mseF μ P w) := by
  intro l9 b9 D9 K9
  refine met_of (by decide) (Nat.le_of_ble_eq_true rfl) (fun x hC hR hM hA => ?_)
  have hC : Ctx x RX4 cX4_seat rmX4_seat := hC
  obtain ⟨⟨s1, s2⟩, ⟨n1, n2⟩, hr, hkc, hq, hpp, hli, hnu⟩ := hSm
  refine v_aload_n hC 0 dX4_seat_0 rfl rfl ?_
  refine v_iconst hC dX4_seat_1 ⟨by decide, by decide⟩ ?_
  refine v_putI hC fwX4_59 dX4_seat_2 rfl rfl rfl (by decide) (by first | decide | (simp only [vdn]; omega)) ?_
  refine v_aload_n hC 0 dX4_seat_5 rfl rfl ?_
  refine v_iload_n hC 1 dX4_seat_6 rfl rfl ?_
  refine v_callI1 hC (cwX4_77 hC ⟨Nat.le_of_ble_eq_true rfl, Nat.le_of_ble_eq_true rfl⟩) dX4_seat_7 rfl rfl rfl (Nat.zero_le _) (Nat.zero_le _) (Nat.le_of_ble_eq_true rfl) (by first | decide | (simp only [vdn]; omega)) (cX4_isPupil_ok P (upM μ 20 0 0)) (fun r1 μ1 hp => ?_)
  obtain ⟨rfl, rfl⟩ := hp
  refine v_if_eq hC 22 dX4_seat_10 rfl (fun h10 => ?_) (fun h10 => ?_)
  · refine v_iconst hC dX4_seat_22 ⟨by decide, by decide⟩ ?_
    exact v_iret hC hR dX4_seat_23 (⟨_, rfl, rfl, by rw [mseF, if_neg (fun q => bI_z.1 h10 q.1)]⟩)
  · refine v_iload_n hC 2 dX4_seat_13 rfl rfl ?_
    refine v_if_lt hC 22 dX4_seat_14 rfl (fun h14 => ?_) (fun h14 => ?_)
    · refine v_iconst hC dX4_seat_22 ⟨by decide, by decide⟩ ?_
      exact v_iret hC hR dX4_seat_23 (⟨_, rfl, rfl, by rw [mseF, if_neg (fun q => by have := q.2.1; omega)]⟩)
    · refine v_iload_n hC 2 dX4_seat_17 rfl rfl ?_
      refine v_iconst hC dX4_seat_18 ⟨by decide, by decide⟩ ?_
      refine v_icmp_le hC 24 dX4_seat_19 rfl (fun h19 => ?_) (fun h19 => ?_)
      · obtain ⟨p1, p2⟩ : mIP μ P := bI_n.1 h10
        refine v_iload_n hC 2 dX4_seat_24 rfl rfl ?_
        refine v_if_ne hC 37 dX4_seat_25 rfl (fun h25 => ?_) (fun h25 => ?_)
        · refine v_iload_n hC 2 dX4_seat_37 rfl rfl ?_
          refine v_iconst hC dX4_seat_38 ⟨by decide, by decide⟩ ?_
          refine v_icmp_ne hC 51 dX4_seat_39 rfl (fun h39 => ?_) (fun h39 => ?_)
          · refine v_iload_n hC 2 dX4_seat_51 rfl rfl ?_
            refine v_iconst hC dX4_seat_52 ⟨by decide, by decide⟩ ?_
            refine v_icmp_ne hC 65 dX4_seat_53 rfl (fun h53 => ?_) (fun h53 => ?_)
            · refine v_iload_n hC 2 dX4_seat_65 rfl rfl ?_
              refine v_iconst hC dX4_seat_66 ⟨by decide, by decide⟩ ?_
              refine v_icmp_ne hC 79 dX4_seat_67 rfl (fun h67 => ?_) (fun h67 => ?_)
              · refine v_iload_n hC 2 dX4_seat_79 rfl rfl ?_
                refine v_iconst hC dX4_seat_80 ⟨by decide, by decide⟩ ?_
                refine v_icmp_ne hC 93 dX4_seat_81 rfl (fun h81 => ?_) (fun h81 => ?_)
                · refine v_aload_n hC 0 dX4_seat_93 rfl rfl ?_
                  refine v_getR hC foX4_19 dX4_seat_94 rfl rfl rfl (by decide) (by first | decide | (simp only [vdn]; omega)) ?_
                  refine v_iload_n hC 1 dX4_seat_97 rfl rfl ?_
                  refine v_iald hC dX4_seat_98 rfl rfl rfl (by first | decide | (simp only [vdn]; omega)) ⟨by first | omega | (simp only [mlen]; omega), by first | omega | (simp only [mlen]; omega)⟩ ?_
                  try simp only [Int.toNat_natCast, upM_at, upM_nef, ne_eq, not_false_eq_true, Nat.reduceEqDiff, Nat.reduceAdd]
                  exact v_iret hC hR dX4_seat_99 (⟨_, rfl, rfl, by rw [mseF, if_pos ⟨⟨p1, p2⟩, by omega, by omega⟩, if_neg (by omega), if_neg (by omega), if_neg (by omega), if_neg (by omega), if_neg (by omega)]⟩)
                · refine v_aload_n hC 0 dX4_seat_84 rfl rfl ?_
                  refine v_getR hC foX4_50 dX4_seat_85 rfl rfl rfl (by decide) (by first | decide | (simp only [vdn]; omega)) ?_
                  refine v_iload_n hC 1 dX4_seat_88 rfl rfl ?_
                  refine v_iald hC dX4_seat_89 rfl rfl rfl (by first | decide | (simp only [vdn]; omega)) ⟨by first | omega | (simp only [mlen]; omega), by first | omega | (simp only [mlen]; omega)⟩ ?_
                  try simp only [Int.toNat_natCast, upM_at, upM_nef, ne_eq, not_false_eq_true, Nat.reduceEqDiff, Nat.reduceAdd]
                  refine v_goto hC 99 dX4_seat_90 rfl ?_
                  exact v_iret hC hR dX4_seat_99 (⟨_, rfl, rfl, by rw [mseF, if_pos ⟨⟨p1, p2⟩, by omega, by omega⟩, if_neg (by omega), if_neg (by omega), if_neg (by omega), if_neg (by omega), if_pos (by omega)]⟩)
              · refine v_aload_n hC 0 dX4_seat_70 rfl rfl ?_
                refine v_getR hC foX4_44 dX4_seat_71 rfl rfl rfl (by decide) (by first | decide | (simp only [vdn]; omega)) ?_
                refine v_iload_n hC 1 dX4_seat_74 rfl rfl ?_
                refine v_iald hC dX4_seat_75 rfl rfl rfl (by first | decide | (simp only [vdn]; omega)) ⟨by first | omega | (simp only [mlen]; omega), by first | omega | (simp only [mlen]; omega)⟩ ?_
                try simp only [Int.toNat_natCast, upM_at, upM_nef, ne_eq, not_false_eq_true, Nat.reduceEqDiff, Nat.reduceAdd]
                refine v_goto hC 99 dX4_seat_76 rfl ?_
                exact v_iret hC hR dX4_seat_99 (⟨_, rfl, rfl, by rw [mseF, if_pos ⟨⟨p1, p2⟩, by omega, by omega⟩, if_neg (by omega), if_neg (by omega), if_neg (by omega), if_pos (by omega)]⟩)
            · refine v_aload_n hC 0 dX4_seat_56 rfl rfl ?_
              refine v_getR hC foX4_35 dX4_seat_57 rfl rfl rfl (by decide) (by first | decide | (simp only [vdn]; omega)) ?_
              refine v_iload_n hC 1 dX4_seat_60 rfl rfl ?_
              refine v_iald hC dX4_seat_61 rfl rfl rfl (by first | decide | (simp only [vdn]; omega)) ⟨by first | omega | (simp only [mlen]; omega), by first | omega | (simp only [mlen]; omega)⟩ ?_
              try simp only [Int.toNat_natCast, upM_at, upM_nef, ne_eq, not_false_eq_true, Nat.reduceEqDiff, Nat.reduceAdd]
              refine v_goto hC 99 dX4_seat_62 rfl ?_
              exact v_iret hC hR dX4_seat_99 (⟨_, rfl, rfl, by rw [mseF, if_pos ⟨⟨p1, p2⟩, by omega, by omega⟩, if_neg (by omega), if_neg (by omega), if_pos (by omega)]⟩)
          · refine v_aload_n hC 0 dX4_seat_42 rfl rfl ?_
            refine v_getR hC foX4_41 dX4_seat_43 rfl rfl rfl (by decide) (by first | decide | (simp only [vdn]; omega)) ?_
            refine v_iload_n hC 1 dX4_seat_46 rfl rfl ?_
            refine v_iald hC dX4_seat_47 rfl rfl rfl (by first | decide | (simp only [vdn]; omega)) ⟨by first | omega | (simp only [mlen]; omega), by first | omega | (simp only [mlen]; omega)⟩ ?_
            try simp only [Int.toNat_natCast, upM_at, upM_nef, ne_eq, not_false_eq_true, Nat.reduceEqDiff, Nat.reduceAdd]
            refine v_goto hC 99 dX4_seat_48 rfl ?_
            exact v_iret hC hR dX4_seat_99 (⟨_, rfl, rfl, by rw [mseF, if_pos ⟨⟨p1, p2⟩, by omega, by omega⟩, if_neg (by omega), if_pos (by omega)]⟩)
        · refine v_aload_n hC 0 dX4_seat_28 rfl rfl ?_
          refine v_getR hC foX4_38 dX4_seat_29 rfl rfl rfl (by decide) (by first | decide | (simp only [vdn]; omega)) ?_
          refine v_iload_n hC 1 dX4_seat_32 rfl rfl ?_
          refine v_iald hC dX4_seat_33 rfl rfl rfl (by first | decide | (simp only [vdn]; omega)) ⟨by first | omega | (simp only [mlen]; omega), by first | omega | (simp only [mlen]; omega)⟩ ?_
          try simp only [Int.toNat_natCast, upM_at, upM_nef, ne_eq, not_false_eq_true, Nat.reduceEqDiff, Nat.reduceAdd]
          refine v_goto hC 99 dX4_seat_34 rfl ?_
          exact v_iret hC hR dX4_seat_99 (⟨_, rfl, rfl, by rw [mseF, if_pos ⟨⟨p1, p2⟩, by omega, by omega⟩, if_pos (by omega)]⟩)
      · refine v_iconst hC dX4_seat_22 ⟨by decide, by decide⟩ ?_
        exact v_iret hC hR dX4_seat_23 (⟨_, rfl, rfl, by rw [mseF, if_neg (fun q => by have := q.2.2; omega)]⟩)
abbrev rmX4_look : Room := { frames := 1, cells := 0, slots := 0, locals := 22 }
set_option maxRecDepth 100000 in
set_option maxHeartbeats 4000000 in
theorem cX4_look_ok (w : Int) (μ : MU) (hSm : Sm μ) : CTi yX4_look cX4_look 4 (some .int) rmX4_look [aR 12 0, aI w] μ (fun r μ' => upM μ 20 0 0 = μ' ∧ r = mlkF μ w) := by
  intro l9 b9 D9 K9
  refine met_of (by decide) (Nat.le_of_ble_eq_true rfl) (fun x hC hR hM hA => ?_)
  have hC : Ctx x RX4 cX4_look rmX4_look := hC
  have hSm0 := hSm
  obtain ⟨⟨s1, s2⟩, ⟨n1, n2⟩, hr, hkc, hq, hpp, hli, hnu⟩ := hSm
  refine v_aload_n hC 0 dX4_look_0 rfl rfl ?_
  refine v_iconst hC dX4_look_1 ⟨by decide, by decide⟩ ?_
  refine v_putI hC fwX4_59 dX4_look_2 rfl rfl rfl (by decide) (by first | decide | (simp only [vdn]; omega)) ?_
  refine v_iconst hC dX4_look_5 ⟨by decide, by decide⟩ ?_
  refine v_istore_n hC 2 dX4_look_6 rfl (Nat.le_of_ble_eq_true rfl) ?_
  refine v_iconst hC dX4_look_7 ⟨by decide, by decide⟩ ?_
  refine v_istore_n hC 3 dX4_look_8 rfl (Nat.le_of_ble_eq_true rfl) ?_
  refine v_loop (fun i : Nat => (μ 23 0).toNat - i) (fun _ => True) (fun i => ∀ c : Int, i ≤ 20 → 0 ≤ c → c ≤ 4 * i → itr (fun p a => a + μ 32 p) i ((μ 23 0).toNat - i) c = itr (fun p a => a + μ 32 p) 0 (μ 23 0).toNat (0 : Int) → V x 0 0 none 9 [some (aR 12 0), some (aI w), some (aI c), some (aI (i : Int))] [] (upM μ 20 0 0)) (fun i _ ih c a1 a2 a3 a4 => ?_) 0 trivial 0 (by decide) (by decide) (by decide) rfl
  refine v_iload_n hC 3 dX4_look_9 rfl rfl ?_
  refine v_aload_n hC 0 dX4_look_10 rfl rfl ?_
  refine v_getI hC foX4_66 dX4_look_11 rfl rfl rfl (by first | decide | (simp only [vdn]; omega)) ?_
  try simp only [Int.toNat_natCast, upM_at, upM_nef, ne_eq, not_false_eq_true, Nat.reduceEqDiff, Nat.reduceAdd]
  refine v_icmp_ge hC 32 dX4_look_14 rfl (fun h14 => ?_) (fun h14 => ?_)
  · have a5 : c = itr (fun p a => a + μ 32 p) 0 (μ 23 0).toNat (0 : Int) := by rw [← a4, itr_done (by omega)]
    refine v_iload_n hC 1 dX4_look_32 rfl rfl ?_
    refine v_if_ne hC 43 dX4_look_33 rfl (fun h33 => ?_) (fun h33 => ?_)
    · refine v_iload_n hC 1 dX4_look_43 rfl rfl ?_
      refine v_iconst hC dX4_look_44 ⟨by decide, by decide⟩ ?_
      refine v_icmp_ne hC 55 dX4_look_45 rfl (fun h45 => ?_) (fun h45 => ?_)
      · refine v_iload_n hC 1 dX4_look_55 rfl rfl ?_
        refine v_iconst hC dX4_look_56 ⟨by decide, by decide⟩ ?_
        refine v_icmp_ne hC 75 dX4_look_57 rfl (fun h57 => ?_) (fun h57 => ?_)
        · refine v_iload_n hC 1 dX4_look_75 rfl rfl ?_
          refine v_iconst hC dX4_look_76 ⟨by decide, by decide⟩ ?_
          refine v_icmp_ne hC 84 dX4_look_77 rfl (fun h77 => ?_) (fun h77 => ?_)
          · refine v_iload_n hC 1 dX4_look_84 rfl rfl ?_
            refine v_iconst hC dX4_look_85 ⟨by decide, by decide⟩ ?_
            refine v_icmp_ne hC 96 dX4_look_86 rfl (fun h86 => ?_) (fun h86 => ?_)
            · refine v_iconst hC dX4_look_96 ⟨by decide, by decide⟩ ?_
              exact v_iret hC hR dX4_look_97 (⟨_, rfl, rfl, by rw [mlkF, if_neg (by omega), if_neg (by omega), if_neg (by omega), if_neg (by omega), if_neg (by omega)]⟩)
            · refine v_aload_n hC 0 dX4_look_89 rfl rfl ?_
              refine v_callI0 hC (cwX4_103 hC ⟨Nat.le_of_ble_eq_true rfl, Nat.le_of_ble_eq_true rfl⟩) dX4_look_90 rfl rfl rfl (Nat.zero_le _) (Nat.zero_le _) (Nat.le_of_ble_eq_true rfl) (by first | decide | (simp only [vdn]; omega)) (cX4_placed_ok (upM μ 20 0 0) (hSm0.up (by decide))) (fun r1 μ1 hp => ?_)
              obtain ⟨rfl, rfl⟩ := hp
              refine v_goto hC 97 dX4_look_93 rfl ?_
              exact v_iret hC hR dX4_look_97 (⟨_, rfl, rfl, by rw [mlkF, if_neg (by omega), if_neg (by omega), if_neg (by omega), if_neg (by omega), if_pos (by omega)] <;> rfl⟩)
          · refine v_iload_n hC 2 dX4_look_80 rfl rfl ?_
            refine v_goto hC 97 dX4_look_81 rfl ?_
            exact v_iret hC hR dX4_look_97 (⟨_, rfl, rfl, by rw [mlkF, if_neg (by omega), if_neg (by omega), if_neg (by omega), if_pos (by omega), ← a5]⟩)
        · refine v_aload_n hC 0 dX4_look_60 rfl rfl ?_
          refine v_getI hC foX4_69 dX4_look_61 rfl rfl rfl (by first | decide | (simp only [vdn]; omega)) ?_
          try simp only [Int.toNat_natCast, upM_at, upM_nef, ne_eq, not_false_eq_true, Nat.reduceEqDiff, Nat.reduceAdd]
          refine v_if_eq hC 71 dX4_look_64 rfl (fun h64 => ?_) (fun h64 => ?_)
          · refine v_iconst hC dX4_look_71 ⟨by decide, by decide⟩ ?_
            refine v_goto hC 97 dX4_look_72 rfl ?_
            exact v_iret hC hR dX4_look_97 (⟨_, rfl, rfl, by rw [mlkF, if_neg (by omega), if_neg (by omega), if_pos (by omega), if_pos h64]⟩)
          · refine v_iconst hC dX4_look_67 ⟨by decide, by decide⟩ ?_
            refine v_goto hC 97 dX4_look_68 rfl ?_
            exact v_iret hC hR dX4_look_97 (⟨_, rfl, rfl, by rw [mlkF, if_neg (by omega), if_neg (by omega), if_pos (by omega), if_neg h64]⟩)
      · refine v_aload_n hC 0 dX4_look_48 rfl rfl ?_
        refine v_getI hC foX4_66 dX4_look_49 rfl rfl rfl (by first | decide | (simp only [vdn]; omega)) ?_
        try simp only [Int.toNat_natCast, upM_at, upM_nef, ne_eq, not_false_eq_true, Nat.reduceEqDiff, Nat.reduceAdd]
        refine v_goto hC 97 dX4_look_52 rfl ?_
        exact v_iret hC hR dX4_look_97 (⟨_, rfl, rfl, by rw [mlkF, if_neg (by omega), if_pos (by omega)]⟩)
    · refine v_aload_n hC 0 dX4_look_36 rfl rfl ?_
      refine v_getI hC foX4_63 dX4_look_37 rfl rfl rfl (by first | decide | (simp only [vdn]; omega)) ?_
      try simp only [Int.toNat_natCast, upM_at, upM_nef, ne_eq, not_false_eq_true, Nat.reduceEqDiff, Nat.reduceAdd]
      refine v_goto hC 97 dX4_look_40 rfl ?_
      exact v_iret hC hR dX4_look_97 (⟨_, rfl, rfl, by rw [mlkF, if_pos (by omega)]⟩)
  · refine v_iload_n hC 2 dX4_look_17 rfl rfl ?_
    refine v_aload_n hC 0 dX4_look_18 rfl rfl ?_
    refine v_getR hC foX4_35 dX4_look_19 rfl rfl rfl (by decide) (by first | decide | (simp only [vdn]; omega)) ?_
    refine v_iload_n hC 3 dX4_look_22 rfl rfl ?_
    refine v_iald hC dX4_look_23 rfl rfl rfl (by first | decide | (simp only [vdn]; omega)) ⟨by first | omega | (simp only [mlen]; omega), by first | omega | (simp only [mlen]; omega)⟩ ?_
    try simp only [Int.toNat_natCast, upM_at, upM_nef, ne_eq, not_false_eq_true, Nat.reduceEqDiff, Nat.reduceAdd]
    have h32 := (hpp i (by omega)).2.2
    refine v_iadd hC dX4_look_24 ⟨by omega, by omega⟩ ?_
    refine v_istore_n hC 2 dX4_look_25 rfl (Nat.le_of_ble_eq_true rfl) ?_
    refine v_iinc hC dX4_look_26 rfl ⟨by omega, by omega⟩ ?_
    refine v_goto hC 9 dX4_look_29 rfl ?_
    exact ih (i + 1) trivial (by omega) (c + μ 32 i) (by omega) (by omega) (by omega) (itr_next (by omega) rfl a4)
