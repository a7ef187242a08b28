/-! The office's calls that may throw. -/
abbrev scC (μ : MU) : Prop := ¬ μ 2 0 = 0 ∨ ¬ μ 0 0 < 6
abbrev ckC (μ : MU) (S n b0 b1 b2 : Int) : Prop := isS μ S ∧ 0 ≤ n ∧ n ≤ 6 ∧ b0 ≤ 15 ∧ b1 ≤ 15 ∧ b2 ≤ 15
abbrev ckS (μ : MU) (S : Int) : Prop := ¬ μ 2 0 = 0 ∨ ¬ μ 6 S.toNat < 3
def ckM (μ : MU) (s k : Nat) (n b0 b1 b2 : Int) : MU := upM (upM (bnd3 (upM μ 9 (3 * s + k) n) (3 * s + k) b0 b1 b2) 8 (3 * s + k) (bcV b0 b1 b2)) 6 s ((k : Int) + 1)
abbrev cpC (f : Int) : Prop := 0 ≤ f ∧ f ≤ 15
abbrev cpS (μ : MU) : Prop := ¬ μ 2 0 = 0 ∨ ¬ μ 1 0 < 20
abbrev wisC (μ : MU) (P S : Int) : Prop := isP μ P ∧ isS μ S ∧ oI (plF μ P.toNat S) = -1
abbrev wisS (μ : MU) (P : Int) : Prop := ¬ μ 2 0 = 0 ∨ ¬ μ 11 P.toNat < 4
abbrev coC (μ : MU) (P S : Int) : Prop := isP μ P ∧ ¬ oI (plF μ P.toNat S) = -1 ∧ ¬ μ 15 P.toNat = S
abbrev coS (μ : MU) (P : Int) : Prop := μ 2 0 = 0 ∨ μ 18 P.toNat = 3
abbrev ceC (μ : MU) (P Q : Int) : Prop := isP μ P ∧ isP μ Q ∧ ¬ μ 16 Q.toNat = -1
abbrev ceR (μ : MU) (P Q : Int) : Prop := prefP μ P.toNat (μ 15 Q.toNat) ∧ stdF μ Q.toNat (μ 15 Q.toNat).toNat (μ 16 Q.toNat).toNat < 100000 ∧ stdF μ P.toNat (μ 15 Q.toNat).toNat (μ 16 Q.toNat).toNat < stdF μ Q.toNat (μ 15 Q.toNat).toNat (μ 16 Q.toNat).toNat
/-- who holds a seat of a kind holds one that there may be -/
def Hd (μ : MU) : Prop := ∀ q, q < (μ 1 0).toNat → ¬ μ 16 q = -1 → 0 ≤ μ 15 q ∧ μ 15 q < 6 ∧ 0 ≤ μ 16 q ∧ μ 16 q < 3
theorem bnd3_ne {μ : MU} {q : Nat} {b0 b1 b2 : Int} {f j : Nat} (h : f ≠ 7) : bnd3 μ q b0 b1 b2 f j = μ f j := by
  unfold bnd3
  repeat' split
  all_goals simp only [upM_nef h]
abbrev rmX3_school : Room := { frames := 6, cells := 1, slots := 6, locals := 100 }
set_option maxRecDepth 100000 in
set_option maxHeartbeats 4000000 in
theorem cX3_school_ok (μ : MU) (hSf : Sf μ) : CTT yX3_school cX3_school 1 (some .int) rmX3_school [aR 0 0] μ (fun r μ' => ¬ scC μ ∧ upM μ 0 0 (μ 0 0 + 1) = μ' ∧ r = μ 0 0) (fun w μ' => μ = μ' ∧ w = 1 ∧ scC μ) := by
  intro l9 hl9 b9 D9 K9
  refine met_ofT hl9 (by decide) (Nat.le_of_ble_eq_true rfl) (fun x hC hT hR hM hA => ?_)
  have hC : Ctx x RX3 cX3_school rmX3_school := hC
  obtain ⟨⟨s1, s2⟩, ⟨n1, n2⟩, hr, hkc, hq, hpp, hli, hnu⟩ := hSf
  refine v_aload_n hC 0 dX3_school_0 rfl rfl ?_
  refine v_getI hC foX3_32 dX3_school_1 rfl rfl rfl (by first | decide | (simp only [vdn]; omega)) ?_
  try simp only [Int.toNat_natCast, upM_at, upM_nef, ne_eq, not_false_eq_true, Nat.reduceEqDiff, Nat.reduceAdd]
  refine v_if_ne hC 16 dX3_school_4 rfl (fun h4 => ?_) (fun h4 => ?_)
  · exact v_throw hC hT hR 1 (by decide) dX3_school_16 dX3_school_19 dX3_school_20 dX3_school_23 clIS iniIS atIS (Nat.le_of_ble_eq_true rfl) (Nat.le_of_ble_eq_true rfl) (Nat.le_of_ble_eq_true rfl) (Nat.le_of_ble_eq_true rfl) (⟨rfl, rfl, Or.inl h4⟩)
  · refine v_aload_n hC 0 dX3_school_7 rfl rfl ?_
    refine v_getI hC foX3_36 dX3_school_8 rfl rfl rfl (by first | decide | (simp only [vdn]; omega)) ?_
    try simp only [Int.toNat_natCast, upM_at, upM_nef, ne_eq, not_false_eq_true, Nat.reduceEqDiff, Nat.reduceAdd]
    refine v_bipush hC dX3_school_11 ⟨by decide, by decide⟩ ?_
    refine v_icmp_lt hC 24 dX3_school_13 rfl (fun h13 => ?_) (fun h13 => ?_)
    · refine v_aload_n hC 0 dX3_school_24 rfl rfl ?_
      refine v_dupR hC dX3_school_25 ?_
      refine v_getI hC foX3_36 dX3_school_26 rfl rfl rfl (by first | decide | (simp only [vdn]; omega)) ?_
      try simp only [Int.toNat_natCast, upM_at, upM_nef, ne_eq, not_false_eq_true, Nat.reduceEqDiff, Nat.reduceAdd]
      refine v_iconst hC dX3_school_29 ⟨by decide, by decide⟩ ?_
      refine v_iadd hC dX3_school_30 ⟨by omega, by omega⟩ ?_
      refine v_putI hC fwX3_36 dX3_school_31 rfl rfl rfl (by decide) (by first | decide | (simp only [vdn]; omega)) ?_
      refine v_aload_n hC 0 dX3_school_34 rfl rfl ?_
      refine v_getI hC foX3_36 dX3_school_35 rfl rfl rfl (by first | decide | (simp only [vdn]; omega)) ?_
      try simp only [Int.toNat_natCast, upM_at, upM_nef, ne_eq, not_false_eq_true, Nat.reduceEqDiff, Nat.reduceAdd]
      refine v_iconst hC dX3_school_38 ⟨by decide, by decide⟩ ?_
      refine v_isub hC dX3_school_39 ⟨by omega, by omega⟩ ?_
      exact v_iretT hC hR dX3_school_40 (⟨_, rfl, fun q => q.elim (fun q => q h4) (fun q => q h13), rfl, by omega⟩)
    · exact v_throw hC hT hR 1 (by decide) dX3_school_16 dX3_school_19 dX3_school_20 dX3_school_23 clIS iniIS atIS (Nat.le_of_ble_eq_true rfl) (Nat.le_of_ble_eq_true rfl) (Nat.le_of_ble_eq_true rfl) (Nat.le_of_ble_eq_true rfl) (⟨rfl, rfl, Or.inr h13⟩)
abbrev rmX3_kind : Room := { frames := 6, cells := 1, slots := 6, locals := 100 }
set_option maxRecDepth 100000 in
set_option maxHeartbeats 4000000 in
theorem cX3_kind_ok (S n b0 b1 b2 : Int) (μ : MU) (hSf : Sf μ) : CTT yX3_kind cX3_kind 8 (some .int) rmX3_kind [aR 0 0, aI S, aI n, aI b0, aI b1, aI b2] μ (fun r μ' => ckC μ S n b0 b1 b2 ∧ ¬ ckS μ S ∧ ckM μ S.toNat (μ 6 S.toNat).toNat n b0 b1 b2 = μ' ∧ r = μ 6 S.toNat) (fun w μ' => μ = μ' ∧ ((w = 0 ∧ ¬ ckC μ S n b0 b1 b2) ∨ (w = 1 ∧ ckC μ S n b0 b1 b2 ∧ ckS μ S))) := by
  intro l9 hl9 b9 D9 K9
  refine met_ofT hl9 (by decide) (Nat.le_of_ble_eq_true rfl) (fun x hC hT hR hM hA => ?_)
  have hC : Ctx x RX3 cX3_kind rmX3_kind := hC
  obtain ⟨⟨s1, s2⟩, ⟨n1, n2⟩, hr, hkc, hq, hpp, hli, hnu⟩ := hSf
  refine v_aload_n hC 0 dX3_kind_0 rfl rfl ?_
  refine v_iload_n hC 1 dX3_kind_1 rfl rfl ?_
  refine v_callI1 hC (cwX3_43 hC ⟨Nat.le_of_ble_eq_true rfl, Nat.le_of_ble_eq_true rfl⟩) dX3_kind_2 rfl rfl rfl (Nat.zero_le _) (Nat.zero_le _) (Nat.le_of_ble_eq_true rfl) (by first | decide | (simp only [vdn]; omega)) (cX3_isSchool_ok S μ) (fun r1 μ1 hp => ?_)
  obtain ⟨rfl, rfl⟩ := hp
  refine v_if_eq hC 18 dX3_kind_5 rfl (fun h5 => ?_) (fun h5 => ?_)
  · exact v_throw hC hT hR 0 (by decide) dX3_kind_18 dX3_kind_21 dX3_kind_22 dX3_kind_25 clIA iniIA atIA (Nat.le_of_ble_eq_true rfl) (Nat.le_of_ble_eq_true rfl) (Nat.le_of_ble_eq_true rfl) (Nat.le_of_ble_eq_true rfl) (⟨rfl, Or.inl ⟨rfl, fun q => bI_z.1 h5 q.1⟩⟩)
  · refine v_iload_n hC 2 dX3_kind_8 rfl rfl ?_
    refine v_if_lt hC 18 dX3_kind_9 rfl (fun h9 => ?_) (fun h9 => ?_)
    · exact v_throw hC hT hR 0 (by decide) dX3_kind_18 dX3_kind_21 dX3_kind_22 dX3_kind_25 clIA iniIA atIA (Nat.le_of_ble_eq_true rfl) (Nat.le_of_ble_eq_true rfl) (Nat.le_of_ble_eq_true rfl) (Nat.le_of_ble_eq_true rfl) (⟨rfl, Or.inl ⟨rfl, fun q => by have := q.2.1; omega⟩⟩)
    · refine v_iload_n hC 2 dX3_kind_12 rfl rfl ?_
      refine v_bipush hC dX3_kind_13 ⟨by decide, by decide⟩ ?_
      refine v_icmp_le hC 26 dX3_kind_15 rfl (fun h15 => ?_) (fun h15 => ?_)
      · refine v_iload_n hC 3 dX3_kind_26 rfl rfl ?_
        refine v_bipush hC dX3_kind_27 ⟨by decide, by decide⟩ ?_
        refine v_icmp_gt hC 46 dX3_kind_29 rfl (fun h29 => ?_) (fun h29 => ?_)
        · exact v_throw hC hT hR 0 (by decide) dX3_kind_46 dX3_kind_49 dX3_kind_50 dX3_kind_53 clIA iniIA atIA (Nat.le_of_ble_eq_true rfl) (Nat.le_of_ble_eq_true rfl) (Nat.le_of_ble_eq_true rfl) (Nat.le_of_ble_eq_true rfl) (⟨rfl, Or.inl ⟨rfl, fun q => by have := q.2.2.2.1; omega⟩⟩)
        · refine v_iload hC dX3_kind_32 rfl ?_
          refine v_bipush hC dX3_kind_34 ⟨by decide, by decide⟩ ?_
          refine v_icmp_gt hC 46 dX3_kind_36 rfl (fun h36 => ?_) (fun h36 => ?_)
          · exact v_throw hC hT hR 0 (by decide) dX3_kind_46 dX3_kind_49 dX3_kind_50 dX3_kind_53 clIA iniIA atIA (Nat.le_of_ble_eq_true rfl) (Nat.le_of_ble_eq_true rfl) (Nat.le_of_ble_eq_true rfl) (Nat.le_of_ble_eq_true rfl) (⟨rfl, Or.inl ⟨rfl, fun q => by have := q.2.2.2.2.1; omega⟩⟩)
          · refine v_iload hC dX3_kind_39 rfl ?_
            refine v_bipush hC dX3_kind_41 ⟨by decide, by decide⟩ ?_
            refine v_icmp_le hC 54 dX3_kind_43 rfl (fun h43 => ?_) (fun h43 => ?_)
            · obtain ⟨p1, p2⟩ : isS μ S := bI_n.1 h5
              have hc : ckC μ S n b0 b1 b2 := ⟨⟨p1, p2⟩, by omega, by omega, by omega, by omega, by omega⟩
              obtain ⟨s, rfl⟩ := Int.eq_ofNat_of_zero_le p1
              have hk1 := hkc s (by omega)
              obtain ⟨kc, hk9⟩ := Int.eq_ofNat_of_zero_le hk1.1
              refine v_aload_n hC 0 dX3_kind_54 rfl rfl ?_
              refine v_getR hC foX3_11 dX3_kind_55 rfl rfl rfl (by decide) (by first | decide | (simp only [vdn]; omega)) ?_
              refine v_iload_n hC 1 dX3_kind_58 rfl rfl ?_
              refine v_aald hC dX3_kind_59 rfl rfl (fun _ => rfl) rfl (by decide) (by first | decide | (simp only [vdn]; omega)) ⟨by first | omega | (simp only [mlen]; omega), by first | omega | (simp only [mlen]; omega)⟩ ?_
              try simp only [Int.toNat_natCast, upM_at, upM_nef, ne_eq, not_false_eq_true, Nat.reduceEqDiff, Nat.reduceAdd]
              refine v_astore hC dX3_kind_60 (Nat.le_of_ble_eq_true rfl) ?_
              refine v_aload_n hC 0 dX3_kind_62 rfl rfl ?_
              refine v_getI hC foX3_32 dX3_kind_63 rfl rfl rfl (by first | decide | (simp only [vdn]; omega)) ?_
              try simp only [Int.toNat_natCast, upM_at, upM_nef, ne_eq, not_false_eq_true, Nat.reduceEqDiff, Nat.reduceAdd]
              refine v_if_ne hC 78 dX3_kind_66 rfl (fun h66 => ?_) (fun h66 => ?_)
              · exact v_throw hC hT hR 1 (by decide) dX3_kind_78 dX3_kind_81 dX3_kind_82 dX3_kind_85 clIS iniIS atIS (Nat.le_of_ble_eq_true rfl) (Nat.le_of_ble_eq_true rfl) (Nat.le_of_ble_eq_true rfl) (Nat.le_of_ble_eq_true rfl) (⟨rfl, Or.inr ⟨rfl, hc, Or.inl h66⟩⟩)
              · refine v_aload hC dX3_kind_69 rfl ?_
                refine v_getI hC foX3_50 dX3_kind_71 rfl rfl rfl (by first | decide | (simp only [vdn]; omega)) ?_
                try simp only [Int.toNat_natCast, upM_at, upM_nef, ne_eq, not_false_eq_true, Nat.reduceEqDiff, Nat.reduceAdd]
                refine v_iconst hC dX3_kind_74 ⟨by decide, by decide⟩ ?_
                refine v_icmp_lt hC 86 dX3_kind_75 rfl (fun h75 => ?_) (fun h75 => ?_)
                · have hk3 : kc < 3 := by omega
                  have hd : ¬ ckS μ (s : Int) := fun q => q.elim (fun q => q h66) (fun q => q (by rw [Int.toNat_natCast]; exact h75))
                  refine v_aload hC dX3_kind_86 rfl ?_
                  refine v_getR hC foX3_53 dX3_kind_88 rfl rfl rfl (by decide) (by first | decide | (simp only [vdn]; omega)) ?_
                  refine v_aload hC dX3_kind_91 rfl ?_
                  refine v_getI hC foX3_50 dX3_kind_93 rfl rfl rfl (by first | decide | (simp only [vdn]; omega)) ?_
                  try simp only [Int.toNat_natCast, upM_at, upM_nef, ne_eq, not_false_eq_true, Nat.reduceEqDiff, Nat.reduceAdd]
                  rw [hk9]
                  refine v_aald hC dX3_kind_96 rfl rfl (fun _ => rfl) rfl (by decide) (by first | decide | (simp only [vdn]; omega)) ⟨by first | omega | (simp only [mlen]; omega), by first | omega | (simp only [mlen]; omega)⟩ ?_
                  try simp only [Int.toNat_natCast, upM_at, upM_nef, ne_eq, not_false_eq_true, Nat.reduceEqDiff, Nat.reduceAdd]
                  refine v_astore hC dX3_kind_97 (Nat.le_of_ble_eq_true rfl) ?_
                  refine v_aload hC dX3_kind_99 rfl ?_
                  refine v_iload_n hC 2 dX3_kind_101 rfl rfl ?_
                  refine v_putI hC fwX3_57 dX3_kind_102 rfl rfl rfl (by decide) (by first | decide | (simp only [vdn]; omega)) ?_
                  refine v_aload hC dX3_kind_105 rfl ?_
                  refine v_iload_n hC 3 dX3_kind_107 rfl rfl ?_
                  refine v_iload hC dX3_kind_108 rfl ?_
                  refine v_iload hC dX3_kind_110 rfl ?_
                  refine v_callV3 hC (cwX3_62 hC ⟨Nat.le_of_ble_eq_true rfl, Nat.le_of_ble_eq_true rfl⟩) dX3_kind_112 rfl rfl rfl (Nat.zero_le _) (Nat.zero_le _) (Nat.le_of_ble_eq_true rfl) (by first | decide | (simp only [vdn]; omega)) (cX0_setBands_ok (3 * s + kc) b0 b1 b2 (upM μ 9 (3 * s + kc) n) (by omega)) (fun μ1 hp => ?_)
                  subst hp
                  refine v_aload hC dX3_kind_115 rfl ?_
                  refine v_dupR hC dX3_kind_117 ?_
                  refine v_getI hC foX3_50 dX3_kind_118 rfl rfl rfl (by first | decide | (simp only [vdn]; omega)) ?_
                  try simp only [Int.toNat_natCast, upM_at, upM_nef, ne_eq, not_false_eq_true, Nat.reduceEqDiff, Nat.reduceAdd]
                  rw [hk9]
                  refine v_iconst hC dX3_kind_121 ⟨by decide, by decide⟩ ?_
                  refine v_iadd hC dX3_kind_122 ⟨by omega, by omega⟩ ?_
                  refine v_putI hC fwX3_50 dX3_kind_123 rfl rfl rfl (by decide) (by first | decide | (simp only [vdn]; omega)) ?_
                  refine v_aload hC dX3_kind_126 rfl ?_
                  refine v_getI hC foX3_50 dX3_kind_128 rfl rfl rfl (by first | decide | (simp only [vdn]; omega)) ?_
                  try simp only [Int.toNat_natCast, upM_at, upM_nef, ne_eq, not_false_eq_true, Nat.reduceEqDiff, Nat.reduceAdd]
                  refine v_iconst hC dX3_kind_131 ⟨by decide, by decide⟩ ?_
                  refine v_isub hC dX3_kind_132 ⟨by omega, by omega⟩ ?_
                  exact v_iretT hC hR dX3_kind_133 (⟨_, rfl, hc, hd, by rw [Int.toNat_natCast, hk9, Int.toNat_natCast] <;> rfl, by rw [Int.toNat_natCast, hk9]; omega⟩)
                · exact v_throw hC hT hR 1 (by decide) dX3_kind_78 dX3_kind_81 dX3_kind_82 dX3_kind_85 clIS iniIS atIS (Nat.le_of_ble_eq_true rfl) (Nat.le_of_ble_eq_true rfl) (Nat.le_of_ble_eq_true rfl) (Nat.le_of_ble_eq_true rfl) (⟨rfl, Or.inr ⟨rfl, hc, Or.inr (by rw [Int.toNat_natCast]; exact h75)⟩⟩)
            · exact v_throw hC hT hR 0 (by decide) dX3_kind_46 dX3_kind_49 dX3_kind_50 dX3_kind_53 clIA iniIA atIA (Nat.le_of_ble_eq_true rfl) (Nat.le_of_ble_eq_true rfl) (Nat.le_of_ble_eq_true rfl) (Nat.le_of_ble_eq_true rfl) (⟨rfl, Or.inl ⟨rfl, fun q => by have := q.2.2.2.2.2; omega⟩⟩)
      · exact v_throw hC hT hR 0 (by decide) dX3_kind_18 dX3_kind_21 dX3_kind_22 dX3_kind_25 clIA iniIA atIA (Nat.le_of_ble_eq_true rfl) (Nat.le_of_ble_eq_true rfl) (Nat.le_of_ble_eq_true rfl) (Nat.le_of_ble_eq_true rfl) (⟨rfl, Or.inl ⟨rfl, fun q => by have := q.2.2.1; omega⟩⟩)
abbrev rmX3_pupil : Room := { frames := 6, cells := 1, slots := 6, locals := 100 }
set_option maxRecDepth 100000 in
set_option maxHeartbeats 4000000 in
theorem cX3_pupil_ok (f l : Int) (μ : MU) (hSf : Sf μ) (hl : l = 0 ∨ l = 1) : CTT yX3_pupil cX3_pupil 4 (some .int) rmX3_pupil [aR 0 0, aI f, aI l] μ (fun r μ' => cpC f ∧ ¬ cpS μ ∧ upM (upM (upM μ 13 (μ 1 0).toNat f) 14 (μ 1 0).toNat l) 1 0 (μ 1 0 + 1) = μ' ∧ r = μ 1 0) (fun w μ' => μ = μ' ∧ ((w = 0 ∧ ¬ cpC f) ∨ (w = 1 ∧ cpC f ∧ cpS μ))) := by
  intro l9 hl9 b9 D9 K9
  refine met_ofT hl9 (by decide) (Nat.le_of_ble_eq_true rfl) (fun x hC hT hR hM hA => ?_)
  have hC : Ctx x RX3 cX3_pupil rmX3_pupil := hC
  obtain ⟨⟨s1, s2⟩, ⟨n1, n2⟩, hr, hkc, hq, hpp, hli, hnu⟩ := hSf
  refine v_iload_n hC 1 dX3_pupil_0 rfl rfl ?_
  refine v_callSI1 hC (cwX3_66 hC ⟨Nat.le_of_ble_eq_true rfl, Nat.le_of_ble_eq_true rfl⟩) dX3_pupil_1 (Nat.zero_le _) (Nat.zero_le _) (Nat.le_of_ble_eq_true rfl) (cX3_areFlags_ok f μ) (fun r1 μ1 hp => ?_)
  obtain ⟨rfl, rfl⟩ := hp
  refine v_if_ne hC 15 dX3_pupil_4 rfl (fun h4 => ?_) (fun h4 => ?_)
  · refine v_aload_n hC 0 dX3_pupil_15 rfl rfl ?_
    refine v_getI hC foX3_32 dX3_pupil_16 rfl rfl rfl (by first | decide | (simp only [vdn]; omega)) ?_
    try simp only [Int.toNat_natCast, upM_at, upM_nef, ne_eq, not_false_eq_true, Nat.reduceEqDiff, Nat.reduceAdd]
    refine v_if_ne hC 31 dX3_pupil_19 rfl (fun h19 => ?_) (fun h19 => ?_)
    · exact v_throw hC hT hR 1 (by decide) dX3_pupil_31 dX3_pupil_34 dX3_pupil_35 dX3_pupil_38 clIS iniIS atIS (Nat.le_of_ble_eq_true rfl) (Nat.le_of_ble_eq_true rfl) (Nat.le_of_ble_eq_true rfl) (Nat.le_of_ble_eq_true rfl) (⟨rfl, Or.inr ⟨rfl, bI_n.1 h4, Or.inl h19⟩⟩)
    · refine v_aload_n hC 0 dX3_pupil_22 rfl rfl ?_
      refine v_getI hC foX3_69 dX3_pupil_23 rfl rfl rfl (by first | decide | (simp only [vdn]; omega)) ?_
      try simp only [Int.toNat_natCast, upM_at, upM_nef, ne_eq, not_false_eq_true, Nat.reduceEqDiff, Nat.reduceAdd]
      refine v_bipush hC dX3_pupil_26 ⟨by decide, by decide⟩ ?_
      refine v_icmp_lt hC 39 dX3_pupil_28 rfl (fun h28 => ?_) (fun h28 => ?_)
      · obtain ⟨p, hp9⟩ := Int.eq_ofNat_of_zero_le n1
        have hd : ¬ cpS μ := fun q => q.elim (fun q => q h19) (fun q => q h28)
        refine v_aload_n hC 0 dX3_pupil_39 rfl rfl ?_
        refine v_getR hC foX3_18 dX3_pupil_40 rfl rfl rfl (by decide) (by first | decide | (simp only [vdn]; omega)) ?_
        refine v_aload_n hC 0 dX3_pupil_43 rfl rfl ?_
        refine v_getI hC foX3_69 dX3_pupil_44 rfl rfl rfl (by first | decide | (simp only [vdn]; omega)) ?_
        try simp only [Int.toNat_natCast, upM_at, upM_nef, ne_eq, not_false_eq_true, Nat.reduceEqDiff, Nat.reduceAdd]
        rw [hp9]
        refine v_aald hC dX3_pupil_47 rfl rfl (fun _ => rfl) rfl (by decide) (by first | decide | (simp only [vdn]; omega)) ⟨by first | omega | (simp only [mlen]; omega), by first | omega | (simp only [mlen]; omega)⟩ ?_
        try simp only [Int.toNat_natCast, upM_at, upM_nef, ne_eq, not_false_eq_true, Nat.reduceEqDiff, Nat.reduceAdd]
        refine v_astore_n hC 3 dX3_pupil_48 rfl (Nat.le_of_ble_eq_true rfl) ?_
        refine v_aload_n hC 3 dX3_pupil_49 rfl rfl ?_
        refine v_iload_n hC 1 dX3_pupil_50 rfl rfl ?_
        refine v_putI hC fwX3_72 dX3_pupil_51 rfl rfl rfl (by decide) (by first | decide | (simp only [vdn]; omega)) ?_
        refine v_aload_n hC 3 dX3_pupil_54 rfl rfl ?_
        refine v_iload_n hC 2 dX3_pupil_55 rfl rfl ?_
        refine v_putZ hC fwX3_75 dX3_pupil_56 rfl rfl rfl (by decide) (by first | decide | (simp only [vdn]; omega)) hl ?_
        refine v_aload_n hC 0 dX3_pupil_59 rfl rfl ?_
        refine v_dupR hC dX3_pupil_60 ?_
        refine v_getI hC foX3_69 dX3_pupil_61 rfl rfl rfl (by first | decide | (simp only [vdn]; omega)) ?_
        try simp only [Int.toNat_natCast, upM_at, upM_nef, ne_eq, not_false_eq_true, Nat.reduceEqDiff, Nat.reduceAdd]
        rw [hp9]
        refine v_iconst hC dX3_pupil_64 ⟨by decide, by decide⟩ ?_
        refine v_iadd hC dX3_pupil_65 ⟨by omega, by omega⟩ ?_
        refine v_putI hC fwX3_69 dX3_pupil_66 rfl rfl rfl (by decide) (by first | decide | (simp only [vdn]; omega)) ?_
        refine v_aload_n hC 0 dX3_pupil_69 rfl rfl ?_
        refine v_getI hC foX3_69 dX3_pupil_70 rfl rfl rfl (by first | decide | (simp only [vdn]; omega)) ?_
        try simp only [Int.toNat_natCast, upM_at, upM_nef, ne_eq, not_false_eq_true, Nat.reduceEqDiff, Nat.reduceAdd]
        refine v_iconst hC dX3_pupil_73 ⟨by decide, by decide⟩ ?_
        refine v_isub hC dX3_pupil_74 ⟨by omega, by omega⟩ ?_
        exact v_iretT hC hR dX3_pupil_75 (⟨_, rfl, bI_n.1 h4, hd, by rw [hp9, Int.toNat_natCast], by rw [hp9]; omega⟩)
      · exact v_throw hC hT hR 1 (by decide) dX3_pupil_31 dX3_pupil_34 dX3_pupil_35 dX3_pupil_38 clIS iniIS atIS (Nat.le_of_ble_eq_true rfl) (Nat.le_of_ble_eq_true rfl) (Nat.le_of_ble_eq_true rfl) (Nat.le_of_ble_eq_true rfl) (⟨rfl, Or.inr ⟨rfl, bI_n.1 h4, Or.inr h28⟩⟩)
  · exact v_throw hC hT hR 0 (by decide) dX3_pupil_7 dX3_pupil_10 dX3_pupil_11 dX3_pupil_14 clIA iniIA atIA (Nat.le_of_ble_eq_true rfl) (Nat.le_of_ble_eq_true rfl) (Nat.le_of_ble_eq_true rfl) (Nat.le_of_ble_eq_true rfl) (⟨rfl, Or.inl ⟨rfl, bI_z.1 h4⟩⟩)
abbrev rmX3_wish : Room := { frames := 6, cells := 1, slots := 6, locals := 100 }
set_option maxRecDepth 100000 in
set_option maxHeartbeats 4000000 in
theorem cX3_wish_ok (P S : Int) (μ : MU) (hSf : Sf μ) : CTT yX3_wish cX3_wish 4 (some .int) rmX3_wish [aR 0 0, aI P, aI S] μ (fun r μ' => wisC μ P S ∧ ¬ wisS μ P ∧ upM (upM μ 10 (4 * P.toNat + (μ 11 P.toNat).toNat) S) 11 P.toNat (μ 11 P.toNat + 1) = μ' ∧ r = μ 11 P.toNat + 1) (fun w μ' => μ = μ' ∧ ((w = 0 ∧ ¬ wisC μ P S) ∨ (w = 1 ∧ wisC μ P S ∧ wisS μ P))) := by
  intro l9 hl9 b9 D9 K9
  refine met_ofT hl9 (by decide) (Nat.le_of_ble_eq_true rfl) (fun x hC hT hR hM hA => ?_)
  have hC : Ctx x RX3 cX3_wish rmX3_wish := hC
  obtain ⟨⟨s1, s2⟩, ⟨n1, n2⟩, hr, hkc, hq, hpp, hli, hnu⟩ := hSf
  refine v_aload_n hC 0 dX3_wish_0 rfl rfl ?_
  refine v_iload_n hC 1 dX3_wish_1 rfl rfl ?_
  refine v_callI1 hC (cwX3_78 hC ⟨Nat.le_of_ble_eq_true rfl, Nat.le_of_ble_eq_true rfl⟩) dX3_wish_2 rfl rfl rfl (Nat.zero_le _) (Nat.zero_le _) (Nat.le_of_ble_eq_true rfl) (by first | decide | (simp only [vdn]; omega)) (cX3_isPupil_ok P μ) (fun r1 μ1 hp => ?_)
  obtain ⟨rfl, rfl⟩ := hp
  refine v_if_eq hC 30 dX3_wish_5 rfl (fun h5 => ?_) (fun h5 => ?_)
  · exact v_throw hC hT hR 0 (by decide) dX3_wish_30 dX3_wish_33 dX3_wish_34 dX3_wish_37 clIA iniIA atIA (Nat.le_of_ble_eq_true rfl) (Nat.le_of_ble_eq_true rfl) (Nat.le_of_ble_eq_true rfl) (Nat.le_of_ble_eq_true rfl) (⟨rfl, Or.inl ⟨rfl, fun q => bI_z.1 h5 q.1⟩⟩)
  · refine v_aload_n hC 0 dX3_wish_8 rfl rfl ?_
    refine v_iload_n hC 2 dX3_wish_9 rfl rfl ?_
    refine v_callI1 hC (cwX3_43 hC ⟨Nat.le_of_ble_eq_true rfl, Nat.le_of_ble_eq_true rfl⟩) dX3_wish_10 rfl rfl rfl (Nat.zero_le _) (Nat.zero_le _) (Nat.le_of_ble_eq_true rfl) (by first | decide | (simp only [vdn]; omega)) (cX3_isSchool_ok S μ) (fun r1 μ1 hp => ?_)
    obtain ⟨rfl, rfl⟩ := hp
    refine v_if_eq hC 30 dX3_wish_13 rfl (fun h13 => ?_) (fun h13 => ?_)
    · exact v_throw hC hT hR 0 (by decide) dX3_wish_30 dX3_wish_33 dX3_wish_34 dX3_wish_37 clIA iniIA atIA (Nat.le_of_ble_eq_true rfl) (Nat.le_of_ble_eq_true rfl) (Nat.le_of_ble_eq_true rfl) (Nat.le_of_ble_eq_true rfl) (⟨rfl, Or.inl ⟨rfl, fun q => bI_z.1 h13 q.2.1⟩⟩)
    · obtain ⟨p1, p2⟩ : isP μ P := bI_n.1 h5
      have hs1 : isS μ S := bI_n.1 h13
      obtain ⟨p, rfl⟩ := Int.eq_ofNat_of_zero_le p1
      have hp1 := hpp p (by omega)
      obtain ⟨ls9, hl9⟩ := Int.eq_ofNat_of_zero_le hp1.1
      refine v_aload_n hC 0 dX3_wish_16 rfl rfl ?_
      refine v_getR hC foX3_18 dX3_wish_17 rfl rfl rfl (by decide) (by first | decide | (simp only [vdn]; omega)) ?_
      refine v_iload_n hC 1 dX3_wish_20 rfl rfl ?_
      refine v_aald hC dX3_wish_21 rfl rfl (fun _ => rfl) rfl (by decide) (by first | decide | (simp only [vdn]; omega)) ⟨by first | omega | (simp only [mlen]; omega), by first | omega | (simp only [mlen]; omega)⟩ ?_
      try simp only [Int.toNat_natCast, upM_at, upM_nef, ne_eq, not_false_eq_true, Nat.reduceEqDiff, Nat.reduceAdd]
      refine v_iload_n hC 2 dX3_wish_22 rfl rfl ?_
      refine v_callI1 hC (cwX3_81 hC ⟨Nat.le_of_ble_eq_true rfl, Nat.le_of_ble_eq_true rfl⟩) dX3_wish_23 rfl rfl rfl (Nat.zero_le _) (Nat.zero_le _) (Nat.le_of_ble_eq_true rfl) (by first | decide | (simp only [vdn]; omega)) (cX1_placeOf_ok p S μ (by omega) hp1.1 hp1.2.1) (fun r1 μ1 hp => ?_)
      obtain ⟨rfl, rfl⟩ := hp
      refine v_iconst hC dX3_wish_26 ⟨by decide, by decide⟩ ?_
      refine v_icmp_eq hC 38 dX3_wish_27 rfl (fun h27 => ?_) (fun h27 => ?_)
      · have hc : wisC μ (p : Int) S := ⟨⟨p1, p2⟩, hs1, by rw [Int.toNat_natCast]; exact h27⟩
        refine v_aload_n hC 0 dX3_wish_38 rfl rfl ?_
        refine v_getR hC foX3_18 dX3_wish_39 rfl rfl rfl (by decide) (by first | decide | (simp only [vdn]; omega)) ?_
        refine v_iload_n hC 1 dX3_wish_42 rfl rfl ?_
        refine v_aald hC dX3_wish_43 rfl rfl (fun _ => rfl) rfl (by decide) (by first | decide | (simp only [vdn]; omega)) ⟨by first | omega | (simp only [mlen]; omega), by first | omega | (simp only [mlen]; omega)⟩ ?_
        try simp only [Int.toNat_natCast, upM_at, upM_nef, ne_eq, not_false_eq_true, Nat.reduceEqDiff, Nat.reduceAdd]
        refine v_astore_n hC 3 dX3_wish_44 rfl (Nat.le_of_ble_eq_true rfl) ?_
        refine v_aload_n hC 0 dX3_wish_45 rfl rfl ?_
        refine v_getI hC foX3_32 dX3_wish_46 rfl rfl rfl (by first | decide | (simp only [vdn]; omega)) ?_
        try simp only [Int.toNat_natCast, upM_at, upM_nef, ne_eq, not_false_eq_true, Nat.reduceEqDiff, Nat.reduceAdd]
        refine v_if_ne hC 60 dX3_wish_49 rfl (fun h49 => ?_) (fun h49 => ?_)
        · exact v_throw hC hT hR 1 (by decide) dX3_wish_60 dX3_wish_63 dX3_wish_64 dX3_wish_67 clIS iniIS atIS (Nat.le_of_ble_eq_true rfl) (Nat.le_of_ble_eq_true rfl) (Nat.le_of_ble_eq_true rfl) (Nat.le_of_ble_eq_true rfl) (⟨rfl, Or.inr ⟨rfl, hc, Or.inl h49⟩⟩)
        · refine v_aload_n hC 3 dX3_wish_52 rfl rfl ?_
          refine v_getI hC foX3_85 dX3_wish_53 rfl rfl rfl (by first | decide | (simp only [vdn]; omega)) ?_
          try simp only [Int.toNat_natCast, upM_at, upM_nef, ne_eq, not_false_eq_true, Nat.reduceEqDiff, Nat.reduceAdd]
          refine v_iconst hC dX3_wish_56 ⟨by decide, by decide⟩ ?_
          refine v_icmp_lt hC 68 dX3_wish_57 rfl (fun h57 => ?_) (fun h57 => ?_)
          · have hd : ¬ wisS μ (p : Int) := fun q => q.elim (fun q => q h49) (fun q => q (by rw [Int.toNat_natCast]; exact h57))
            refine v_aload_n hC 3 dX3_wish_68 rfl rfl ?_
            refine v_getR hC foX3_88 dX3_wish_69 rfl rfl rfl (by decide) (by first | decide | (simp only [vdn]; omega)) ?_
            refine v_aload_n hC 3 dX3_wish_72 rfl rfl ?_
            refine v_getI hC foX3_85 dX3_wish_73 rfl rfl rfl (by first | decide | (simp only [vdn]; omega)) ?_
            try simp only [Int.toNat_natCast, upM_at, upM_nef, ne_eq, not_false_eq_true, Nat.reduceEqDiff, Nat.reduceAdd]
            rw [hl9]
            refine v_iload_n hC 2 dX3_wish_76 rfl rfl ?_
            refine v_iast hC dX3_wish_77 rfl rfl rfl (by decide) (by first | decide | (simp only [vdn]; omega)) ⟨by first | omega | (simp only [mlen]; omega), by first | omega | (simp only [mlen]; omega)⟩ ?_
            try simp only [Int.toNat_natCast, upM_at, upM_nef, ne_eq, not_false_eq_true, Nat.reduceEqDiff, Nat.reduceAdd]
            refine v_aload_n hC 3 dX3_wish_78 rfl rfl ?_
            refine v_dupR hC dX3_wish_79 ?_
            refine v_getI hC foX3_85 dX3_wish_80 rfl rfl rfl (by first | decide | (simp only [vdn]; omega)) ?_
            try simp only [Int.toNat_natCast, upM_at, upM_nef, ne_eq, not_false_eq_true, Nat.reduceEqDiff, Nat.reduceAdd]
            rw [hl9]
            refine v_iconst hC dX3_wish_83 ⟨by decide, by decide⟩ ?_
            refine v_iadd hC dX3_wish_84 ⟨by omega, by omega⟩ ?_
            refine v_putI hC fwX3_85 dX3_wish_85 rfl rfl rfl (by decide) (by first | decide | (simp only [vdn]; omega)) ?_
            refine v_aload_n hC 3 dX3_wish_88 rfl rfl ?_
            refine v_getI hC foX3_85 dX3_wish_89 rfl rfl rfl (by first | decide | (simp only [vdn]; omega)) ?_
            try simp only [Int.toNat_natCast, upM_at, upM_nef, ne_eq, not_false_eq_true, Nat.reduceEqDiff, Nat.reduceAdd]
            exact v_iretT hC hR dX3_wish_92 (⟨_, rfl, hc, hd, by rw [Int.toNat_natCast, hl9, Int.toNat_natCast], by rw [Int.toNat_natCast, hl9]⟩)
          · exact v_throw hC hT hR 1 (by decide) dX3_wish_60 dX3_wish_63 dX3_wish_64 dX3_wish_67 clIS iniIS atIS (Nat.le_of_ble_eq_true rfl) (Nat.le_of_ble_eq_true rfl) (Nat.le_of_ble_eq_true rfl) (Nat.le_of_ble_eq_true rfl) (⟨rfl, Or.inr ⟨rfl, hc, Or.inr (by rw [Int.toNat_natCast]; exact h57)⟩⟩)
      · exact v_throw hC hT hR 0 (by decide) dX3_wish_30 dX3_wish_33 dX3_wish_34 dX3_wish_37 clIA iniIA atIA (Nat.le_of_ble_eq_true rfl) (Nat.le_of_ble_eq_true rfl) (Nat.le_of_ble_eq_true rfl) (Nat.le_of_ble_eq_true rfl) (⟨rfl, Or.inl ⟨rfl, fun q => h27 (by have h9 := q.2.2; rw [Int.toNat_natCast] at h9; exact h9)⟩⟩)
abbrev rmX3_over : Room := { frames := 6, cells := 1, slots := 6, locals := 100 }
set_option maxRecDepth 100000 in
set_option maxHeartbeats 4000000 in
theorem cX3_over_ok (P S : Int) (μ : MU) (hSf : Sf μ) : CTT yX3_over cX3_over 4 (some .boolean) rmX3_over [aR 0 0, aI P, aI S] μ (fun r μ' => coC μ P S ∧ ¬ coS μ P ∧ sitM μ P.toNat S (-1) = μ' ∧ r = 1) (fun w μ' => μ = μ' ∧ ((w = 0 ∧ ¬ coC μ P S) ∨ (w = 1 ∧ coC μ P S ∧ coS μ P))) := by
  intro l9 hl9 b9 D9 K9
  refine met_ofT hl9 (by decide) (Nat.le_of_ble_eq_true rfl) (fun x hC hT hR hM hA => ?_)
  have hC : Ctx x RX3 cX3_over rmX3_over := hC
  obtain ⟨⟨s1, s2⟩, ⟨n1, n2⟩, hr, hkc, hq, hpp, hli, hnu⟩ := hSf
  refine v_aload_n hC 0 dX3_over_0 rfl rfl ?_
  refine v_iload_n hC 1 dX3_over_1 rfl rfl ?_
  refine v_callI1 hC (cwX3_78 hC ⟨Nat.le_of_ble_eq_true rfl, Nat.le_of_ble_eq_true rfl⟩) dX3_over_2 rfl rfl rfl (Nat.zero_le _) (Nat.zero_le _) (Nat.le_of_ble_eq_true rfl) (by first | decide | (simp only [vdn]; omega)) (cX3_isPupil_ok P μ) (fun r1 μ1 hp => ?_)
  obtain ⟨rfl, rfl⟩ := hp
  refine v_if_ne hC 16 dX3_over_5 rfl (fun h5 => ?_) (fun h5 => ?_)
  · obtain ⟨p1, p2⟩ : isP μ P := bI_n.1 h5
    obtain ⟨p, rfl⟩ := Int.eq_ofNat_of_zero_le p1
    have hp1 := hpp p (by omega)
    refine v_aload_n hC 0 dX3_over_16 rfl rfl ?_
    refine v_getR hC foX3_18 dX3_over_17 rfl rfl rfl (by decide) (by first | decide | (simp only [vdn]; omega)) ?_
    refine v_iload_n hC 1 dX3_over_20 rfl rfl ?_
    refine v_aald hC dX3_over_21 rfl rfl (fun _ => rfl) rfl (by decide) (by first | decide | (simp only [vdn]; omega)) ⟨by first | omega | (simp only [mlen]; omega), by first | omega | (simp only [mlen]; omega)⟩ ?_
    try simp only [Int.toNat_natCast, upM_at, upM_nef, ne_eq, not_false_eq_true, Nat.reduceEqDiff, Nat.reduceAdd]
    refine v_astore_n hC 3 dX3_over_22 rfl (Nat.le_of_ble_eq_true rfl) ?_
    refine v_aload_n hC 3 dX3_over_23 rfl rfl ?_
    refine v_iload_n hC 2 dX3_over_24 rfl rfl ?_
    refine v_callI1 hC (cwX3_81 hC ⟨Nat.le_of_ble_eq_true rfl, Nat.le_of_ble_eq_true rfl⟩) dX3_over_25 rfl rfl rfl (Nat.zero_le _) (Nat.zero_le _) (Nat.le_of_ble_eq_true rfl) (by first | decide | (simp only [vdn]; omega)) (cX1_placeOf_ok p S μ (by omega) hp1.1 hp1.2.1) (fun r1 μ1 hp => ?_)
    obtain ⟨rfl, rfl⟩ := hp
    refine v_iconst hC dX3_over_28 ⟨by decide, by decide⟩ ?_
    refine v_icmp_eq hC 40 dX3_over_29 rfl (fun h29 => ?_) (fun h29 => ?_)
    · exact v_throw hC hT hR 0 (by decide) dX3_over_40 dX3_over_43 dX3_over_44 dX3_over_47 clIA iniIA atIA (Nat.le_of_ble_eq_true rfl) (Nat.le_of_ble_eq_true rfl) (Nat.le_of_ble_eq_true rfl) (Nat.le_of_ble_eq_true rfl) (⟨rfl, Or.inl ⟨rfl, fun q => q.2.1 (by rw [Int.toNat_natCast]; exact h29)⟩⟩)
    · refine v_aload_n hC 3 dX3_over_32 rfl rfl ?_
      refine v_getI hC foX3_123 dX3_over_33 rfl rfl rfl (by first | decide | (simp only [vdn]; omega)) ?_
      try simp only [Int.toNat_natCast, upM_at, upM_nef, ne_eq, not_false_eq_true, Nat.reduceEqDiff, Nat.reduceAdd]
      refine v_iload_n hC 2 dX3_over_36 rfl rfl ?_
      refine v_icmp_ne hC 48 dX3_over_37 rfl (fun h37 => ?_) (fun h37 => ?_)
      · have hc : coC μ (p : Int) S := ⟨⟨p1, p2⟩, by rw [Int.toNat_natCast]; exact h29, by rw [Int.toNat_natCast]; exact h37⟩
        refine v_aload_n hC 0 dX3_over_48 rfl rfl ?_
        refine v_getI hC foX3_32 dX3_over_49 rfl rfl rfl (by first | decide | (simp only [vdn]; omega)) ?_
        try simp only [Int.toNat_natCast, upM_at, upM_nef, ne_eq, not_false_eq_true, Nat.reduceEqDiff, Nat.reduceAdd]
        refine v_if_eq hC 62 dX3_over_52 rfl (fun h52 => ?_) (fun h52 => ?_)
        · exact v_throw hC hT hR 1 (by decide) dX3_over_62 dX3_over_65 dX3_over_66 dX3_over_69 clIS iniIS atIS (Nat.le_of_ble_eq_true rfl) (Nat.le_of_ble_eq_true rfl) (Nat.le_of_ble_eq_true rfl) (Nat.le_of_ble_eq_true rfl) (⟨rfl, Or.inr ⟨rfl, hc, Or.inl h52⟩⟩)
        · refine v_aload_n hC 3 dX3_over_55 rfl rfl ?_
          refine v_callI0 hC (cwX3_104 hC ⟨Nat.le_of_ble_eq_true rfl, Nat.le_of_ble_eq_true rfl⟩) dX3_over_56 rfl rfl rfl (Nat.zero_le _) (Nat.zero_le _) (Nat.le_of_ble_eq_true rfl) (by first | decide | (simp only [vdn]; omega)) (cX1_hasLeft_ok p μ (by omega)) (fun r1 μ1 hp => ?_)
          obtain ⟨rfl, rfl⟩ := hp
          refine v_if_eq hC 70 dX3_over_59 rfl (fun h59 => ?_) (fun h59 => ?_)
          · refine v_aload_n hC 3 dX3_over_70 rfl rfl ?_
            refine v_iload_n hC 2 dX3_over_71 rfl rfl ?_
            refine v_iconst hC dX3_over_72 ⟨by decide, by decide⟩ ?_
            refine v_callV2 hC (cwX3_126 hC ⟨Nat.le_of_ble_eq_true rfl, Nat.le_of_ble_eq_true rfl⟩) dX3_over_73 rfl rfl rfl (Nat.zero_le _) (Nat.zero_le _) (Nat.le_of_ble_eq_true rfl) (by first | decide | (simp only [vdn]; omega)) (cX1_sitAt_ok p S (-1) μ (by omega)) (fun μ1 hp => ?_)
            subst hp
            refine v_iconst hC dX3_over_76 ⟨by decide, by decide⟩ ?_
            exact v_bretT hC hR dX3_over_77 (by omega) (⟨_, rfl, hc, fun q => q.elim h52 (fun q => bI_z.1 h59 (by rw [Int.toNat_natCast] at q; exact q)), rfl, rfl⟩)
          · exact v_throw hC hT hR 1 (by decide) dX3_over_62 dX3_over_65 dX3_over_66 dX3_over_69 clIS iniIS atIS (Nat.le_of_ble_eq_true rfl) (Nat.le_of_ble_eq_true rfl) (Nat.le_of_ble_eq_true rfl) (Nat.le_of_ble_eq_true rfl) (⟨rfl, Or.inr ⟨rfl, hc, Or.inr (by rw [Int.toNat_natCast]; exact bI_n.1 h59)⟩⟩)
      · exact v_throw hC hT hR 0 (by decide) dX3_over_40 dX3_over_43 dX3_over_44 dX3_over_47 clIA iniIA atIA (Nat.le_of_ble_eq_true rfl) (Nat.le_of_ble_eq_true rfl) (Nat.le_of_ble_eq_true rfl) (Nat.le_of_ble_eq_true rfl) (⟨rfl, Or.inl ⟨rfl, fun q => q.2.2 (by rw [Int.toNat_natCast]; exact h37)⟩⟩)
  · exact v_throw hC hT hR 0 (by decide) dX3_over_8 dX3_over_11 dX3_over_12 dX3_over_15 clIA iniIA atIA (Nat.le_of_ble_eq_true rfl) (Nat.le_of_ble_eq_true rfl) (Nat.le_of_ble_eq_true rfl) (Nat.le_of_ble_eq_true rfl) (⟨rfl, Or.inl ⟨rfl, fun q => bI_z.1 h5 q.1⟩⟩)
abbrev rmX3_envies : Room := { frames := 6, cells := 1, slots := 6, locals := 100 }
set_option maxRecDepth 100000 in
set_option maxHeartbeats 4000000 in
theorem cX3_envies_ok (P Q : Int) (μ : MU) (hSf : Sf μ) (hHd : Hd μ) : CTT yX3_envies cX3_envies 6 (some .boolean) rmX3_envies [aR 0 0, aI P, aI Q] μ (fun r μ' => ceC μ P Q ∧ μ = μ' ∧ r = bI (ceR μ P Q)) (fun w μ' => μ = μ' ∧ w = 0 ∧ ¬ ceC μ P Q) := by
  intro l9 hl9 b9 D9 K9
  refine met_ofT hl9 (by decide) (Nat.le_of_ble_eq_true rfl) (fun x hC hT hR hM hA => ?_)
  have hC : Ctx x RX3 cX3_envies rmX3_envies := hC
  have hSf0 := hSf
  obtain ⟨⟨s1, s2⟩, ⟨n1, n2⟩, hr, hkc, hq, hpp, hli, hnu⟩ := hSf
  refine v_aload_n hC 0 dX3_envies_0 rfl rfl ?_
  refine v_iload_n hC 1 dX3_envies_1 rfl rfl ?_
  refine v_callI1 hC (cwX3_78 hC ⟨Nat.le_of_ble_eq_true rfl, Nat.le_of_ble_eq_true rfl⟩) dX3_envies_2 rfl rfl rfl (Nat.zero_le _) (Nat.zero_le _) (Nat.le_of_ble_eq_true rfl) (by first | decide | (simp only [vdn]; omega)) (cX3_isPupil_ok P μ) (fun r1 μ1 hp => ?_)
  obtain ⟨rfl, rfl⟩ := hp
  refine v_if_eq hC 29 dX3_envies_5 rfl (fun h5 => ?_) (fun h5 => ?_)
  · exact v_throw hC hT hR 0 (by decide) dX3_envies_29 dX3_envies_32 dX3_envies_33 dX3_envies_36 clIA iniIA atIA (Nat.le_of_ble_eq_true rfl) (Nat.le_of_ble_eq_true rfl) (Nat.le_of_ble_eq_true rfl) (Nat.le_of_ble_eq_true rfl) (⟨rfl, rfl, fun q => bI_z.1 h5 q.1⟩)
  · refine v_aload_n hC 0 dX3_envies_8 rfl rfl ?_
    refine v_iload_n hC 2 dX3_envies_9 rfl rfl ?_
    refine v_callI1 hC (cwX3_78 hC ⟨Nat.le_of_ble_eq_true rfl, Nat.le_of_ble_eq_true rfl⟩) dX3_envies_10 rfl rfl rfl (Nat.zero_le _) (Nat.zero_le _) (Nat.le_of_ble_eq_true rfl) (by first | decide | (simp only [vdn]; omega)) (cX3_isPupil_ok Q μ) (fun r1 μ1 hp => ?_)
    obtain ⟨rfl, rfl⟩ := hp
    refine v_if_eq hC 29 dX3_envies_13 rfl (fun h13 => ?_) (fun h13 => ?_)
    · exact v_throw hC hT hR 0 (by decide) dX3_envies_29 dX3_envies_32 dX3_envies_33 dX3_envies_36 clIA iniIA atIA (Nat.le_of_ble_eq_true rfl) (Nat.le_of_ble_eq_true rfl) (Nat.le_of_ble_eq_true rfl) (Nat.le_of_ble_eq_true rfl) (⟨rfl, rfl, fun q => bI_z.1 h13 q.2.1⟩)
    · obtain ⟨p1, p2⟩ : isP μ P := bI_n.1 h5
      obtain ⟨q1, q2⟩ : isP μ Q := bI_n.1 h13
      obtain ⟨p, rfl⟩ := Int.eq_ofNat_of_zero_le p1
      obtain ⟨q, rfl⟩ := Int.eq_ofNat_of_zero_le q1
      have hp1 := hpp p (by omega)
      refine v_aload_n hC 0 dX3_envies_16 rfl rfl ?_
      refine v_getR hC foX3_18 dX3_envies_17 rfl rfl rfl (by decide) (by first | decide | (simp only [vdn]; omega)) ?_
      refine v_iload_n hC 2 dX3_envies_20 rfl rfl ?_
      refine v_aald hC dX3_envies_21 rfl rfl (fun _ => rfl) rfl (by decide) (by first | decide | (simp only [vdn]; omega)) ⟨by first | omega | (simp only [mlen]; omega), by first | omega | (simp only [mlen]; omega)⟩ ?_
      try simp only [Int.toNat_natCast, upM_at, upM_nef, ne_eq, not_false_eq_true, Nat.reduceEqDiff, Nat.reduceAdd]
      refine v_getI hC foX3_130 dX3_envies_22 rfl rfl rfl (by first | decide | (simp only [vdn]; omega)) ?_
      try simp only [Int.toNat_natCast, upM_at, upM_nef, ne_eq, not_false_eq_true, Nat.reduceEqDiff, Nat.reduceAdd]
      refine v_iconst hC dX3_envies_25 ⟨by decide, by decide⟩ ?_
      refine v_icmp_ne hC 37 dX3_envies_26 rfl (fun h26 => ?_) (fun h26 => ?_)
      · have hc : ceC μ (p : Int) (q : Int) := ⟨⟨p1, p2⟩, ⟨q1, q2⟩, by rw [Int.toNat_natCast]; omega⟩
        have hh := hHd q (by omega) (by omega)
        obtain ⟨s, hs9⟩ := Int.eq_ofNat_of_zero_le hh.1
        obtain ⟨k, hk9⟩ := Int.eq_ofNat_of_zero_le hh.2.2.1
        have hcR : ceR μ (p : Int) (q : Int) ↔ prefP μ p (s : Int) ∧ stdF μ q s k < 100000 ∧ stdF μ p s k < stdF μ q s k := by
          unfold ceR
          simp only [Int.toNat_natCast, hs9, hk9]
        refine v_aload_n hC 0 dX3_envies_37 rfl rfl ?_
        refine v_getR hC foX3_18 dX3_envies_38 rfl rfl rfl (by decide) (by first | decide | (simp only [vdn]; omega)) ?_
        refine v_iload_n hC 2 dX3_envies_41 rfl rfl ?_
        refine v_aald hC dX3_envies_42 rfl rfl (fun _ => rfl) rfl (by decide) (by first | decide | (simp only [vdn]; omega)) ⟨by first | omega | (simp only [mlen]; omega), by first | omega | (simp only [mlen]; omega)⟩ ?_
        try simp only [Int.toNat_natCast, upM_at, upM_nef, ne_eq, not_false_eq_true, Nat.reduceEqDiff, Nat.reduceAdd]
        refine v_getI hC foX3_123 dX3_envies_43 rfl rfl rfl (by first | decide | (simp only [vdn]; omega)) ?_
        try simp only [Int.toNat_natCast, upM_at, upM_nef, ne_eq, not_false_eq_true, Nat.reduceEqDiff, Nat.reduceAdd]
        rw [hs9]
        refine v_istore_n hC 3 dX3_envies_46 rfl (Nat.le_of_ble_eq_true rfl) ?_
        refine v_aload_n hC 0 dX3_envies_47 rfl rfl ?_
        refine v_getR hC foX3_18 dX3_envies_48 rfl rfl rfl (by decide) (by first | decide | (simp only [vdn]; omega)) ?_
        refine v_iload_n hC 2 dX3_envies_51 rfl rfl ?_
        refine v_aald hC dX3_envies_52 rfl rfl (fun _ => rfl) rfl (by decide) (by first | decide | (simp only [vdn]; omega)) ⟨by first | omega | (simp only [mlen]; omega), by first | omega | (simp only [mlen]; omega)⟩ ?_
        try simp only [Int.toNat_natCast, upM_at, upM_nef, ne_eq, not_false_eq_true, Nat.reduceEqDiff, Nat.reduceAdd]
        refine v_getI hC foX3_130 dX3_envies_53 rfl rfl rfl (by first | decide | (simp only [vdn]; omega)) ?_
        try simp only [Int.toNat_natCast, upM_at, upM_nef, ne_eq, not_false_eq_true, Nat.reduceEqDiff, Nat.reduceAdd]
        rw [hk9]
        refine v_istore hC dX3_envies_56 (Nat.le_of_ble_eq_true rfl) ?_
        refine v_aload_n hC 0 dX3_envies_58 rfl rfl ?_
        refine v_getR hC foX3_18 dX3_envies_59 rfl rfl rfl (by decide) (by first | decide | (simp only [vdn]; omega)) ?_
        refine v_iload_n hC 1 dX3_envies_62 rfl rfl ?_
        refine v_aald hC dX3_envies_63 rfl rfl (fun _ => rfl) rfl (by decide) (by first | decide | (simp only [vdn]; omega)) ⟨by first | omega | (simp only [mlen]; omega), by first | omega | (simp only [mlen]; omega)⟩ ?_
        try simp only [Int.toNat_natCast, upM_at, upM_nef, ne_eq, not_false_eq_true, Nat.reduceEqDiff, Nat.reduceAdd]
        refine v_iload_n hC 3 dX3_envies_64 rfl rfl ?_
        refine v_callI1 hC (cwX3_150 hC ⟨Nat.le_of_ble_eq_true rfl, Nat.le_of_ble_eq_true rfl⟩) dX3_envies_65 rfl rfl rfl (Nat.zero_le _) (Nat.zero_le _) (Nat.le_of_ble_eq_true rfl) (by first | decide | (simp only [vdn]; omega)) (cX1_prefers_ok p s μ (by omega) hp1.1 hp1.2.1) (fun r1 μ1 hp => ?_)
        obtain ⟨rfl, rfl⟩ := hp
        refine v_if_ne hC 73 dX3_envies_68 rfl (fun h68 => ?_) (fun h68 => ?_)
        · refine v_aload_n hC 0 dX3_envies_73 rfl rfl ?_
          refine v_iload_n hC 2 dX3_envies_74 rfl rfl ?_
          refine v_iload_n hC 3 dX3_envies_75 rfl rfl ?_
          refine v_iload hC dX3_envies_76 rfl ?_
          refine v_callI3 hC (cwX3_153 hC ⟨Nat.le_of_ble_eq_true rfl, Nat.le_of_ble_eq_true rfl⟩) dX3_envies_78 rfl rfl rfl (Nat.zero_le _) (Nat.zero_le _) (Nat.le_of_ble_eq_true rfl) (by first | decide | (simp only [vdn]; omega)) (cX3_standing_ok q s k μ (by omega) (by omega) (by omega) hSf0) (fun r1 μ1 hp => ?_)
          obtain ⟨rfl, rfl⟩ := hp
          refine v_istore hC dX3_envies_81 (Nat.le_of_ble_eq_true rfl) ?_
          refine v_iload hC dX3_envies_83 rfl ?_
          refine v_ldc (v := 100000) hC dX3_envies_85 ldX3_157 ⟨by decide, by decide⟩ ?_
          refine v_icmp_ge hC 107 dX3_envies_87 rfl (fun h87 => ?_) (fun h87 => ?_)
          · refine v_iconst hC dX3_envies_107 ⟨by decide, by decide⟩ ?_
            exact v_bretT hC hR dX3_envies_108 (by omega) (⟨_, rfl, hc, rfl, bI_f (fun h => by have := (hcR.1 h).2.1; omega)⟩)
          · refine v_aload_n hC 0 dX3_envies_90 rfl rfl ?_
            refine v_iload_n hC 1 dX3_envies_91 rfl rfl ?_
            refine v_iload_n hC 3 dX3_envies_92 rfl rfl ?_
            refine v_iload hC dX3_envies_93 rfl ?_
            refine v_callI3 hC (cwX3_153 hC ⟨Nat.le_of_ble_eq_true rfl, Nat.le_of_ble_eq_true rfl⟩) dX3_envies_95 rfl rfl rfl (Nat.zero_le _) (Nat.zero_le _) (Nat.le_of_ble_eq_true rfl) (by first | decide | (simp only [vdn]; omega)) (cX3_standing_ok p s k μ (by omega) (by omega) (by omega) hSf0) (fun r1 μ1 hp => ?_)
            obtain ⟨rfl, rfl⟩ := hp
            refine v_iload hC dX3_envies_98 rfl ?_
            refine v_icmp_ge hC 107 dX3_envies_100 rfl (fun h100 => ?_) (fun h100 => ?_)
            · refine v_iconst hC dX3_envies_107 ⟨by decide, by decide⟩ ?_
              exact v_bretT hC hR dX3_envies_108 (by omega) (⟨_, rfl, hc, rfl, bI_f (fun h => by have := (hcR.1 h).2.2; omega)⟩)
            · refine v_iconst hC dX3_envies_103 ⟨by decide, by decide⟩ ?_
              refine v_goto hC 108 dX3_envies_104 rfl ?_
              exact v_bretT hC hR dX3_envies_108 (by omega) (⟨_, rfl, hc, rfl, bI_t (hcR.2 ⟨bI_n.1 h68, by omega, by omega⟩)⟩)
        · refine v_iconst hC dX3_envies_71 ⟨by decide, by decide⟩ ?_
          exact v_bretT hC hR dX3_envies_72 (by omega) (⟨_, rfl, hc, rfl, bI_f (fun h => bI_z.1 h68 (hcR.1 h).1)⟩)
      · exact v_throw hC hT hR 0 (by decide) dX3_envies_29 dX3_envies_32 dX3_envies_33 dX3_envies_36 clIA iniIA atIA (Nat.le_of_ble_eq_true rfl) (Nat.le_of_ble_eq_true rfl) (Nat.le_of_ble_eq_true rfl) (Nat.le_of_ble_eq_true rfl) (⟨rfl, rfl, fun h => h.2.2 (by rw [Int.toNat_natCast]; omega)⟩)
