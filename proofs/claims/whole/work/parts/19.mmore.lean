/-! The reference's other calls. -/
abbrev manC (μ : MU) (P w : Int) : Prop := (mIP μ P ∧ ¬ μ 21 0 = 0 ∧ 0 ≤ w ∧ w ≤ 2) ∧ ¬ μ 35 P.toNat = 3 ∧ (2 ≤ w ∨ μ 36 P.toNat = 0 ∧ 0 ≤ μ 33 P.toNat)
abbrev manA (μ : MU) (P w : Int) : MU := upM (upM (upM μ 20 0 0) 36 P.toNat 1) 35 P.toNat (w + 1)
def manM (μ : MU) (P w : Int) : MU := if manC μ P w then (if 0 < w then upM (upM (upM (manA μ P w) 33 P.toNat (-1)) 34 P.toNat (-1)) 37 P.toNat 0 else manA μ P w) else upM μ 20 0 0
abbrev movC (μ : MU) (P S : Int) : Prop := o9 (mplF μ P.toNat S) = 9 ∨ (¬ μ 21 0 = 0 ∧ μ 33 P.toNat = S)
abbrev movD (μ : MU) (P : Int) : Prop := μ 21 0 = 0 ∨ μ 35 P.toNat = 3
def movM (μ : MU) (P S : Int) : MU := if ¬ mIP μ P then upM μ 20 0 1 else if movC μ P S then upM (upM μ 20 0 0) 20 0 1 else if movD μ P then upM (upM μ 20 0 0) 20 0 2 else upM (upM (upM (upM μ 20 0 0) 20 0 0) 33 P.toNat S) 34 P.toNat (-1)
def movR (μ : MU) (P S : Int) : Int := if ¬ mIP μ P then 0 else if movC μ P S then 0 else if movD μ P then 0 else 1
def mwhF (μ : MU) (P S : Int) : Int := if mIP μ P ∧ mIS μ S then (if μ 33 P.toNat = S then 0 else if o9 (mplF μ P.toNat S) = 9 then 1 else if (fnd (fun k => (mbnF μ P.toNat S.toNat k).isSome) 0 (μ 24 S.toNat).toNat).isSome = true then (if ownF μ P.toNat < o9 (mplF μ P.toNat S) then 3 else 4) else 2) else -1
abbrev menC (μ : MU) (a b : Int) : Prop := mIP μ a ∧ mIP μ b
abbrev menD (μ : MU) (b : Int) : Prop := 0 ≤ μ 33 b.toNat ∧ 0 ≤ μ 34 b.toNat
abbrev menP (μ : MU) (a b : Int) : Prop := o9 (mplF μ a.toNat (μ 33 b.toNat)) < ownF μ a.toNat ∧ (mbnF μ a.toNat (μ 33 b.toNat).toNat (μ 34 b.toNat).toNat).isSome = true ∧ (mbnF μ b.toNat (μ 33 b.toNat).toNat (μ 34 b.toNat).toNat).isSome = true ∧ rkF μ a.toNat (μ 33 b.toNat).toNat (μ 34 b.toNat).toNat < rkF μ b.toNat (μ 33 b.toNat).toNat (μ 34 b.toNat).toNat
def menM (μ : MU) (a b : Int) : MU := if menC μ a b then (if menD μ b then upM (upM μ 20 0 0) 20 0 0 else upM (upM μ 20 0 0) 20 0 1) else upM μ 20 0 1
def menR (μ : MU) (a b : Int) : Int := if menC μ a b then (if menD μ b then bI (menP μ a b) else 0) else 0
def mfr (μ : MU) : MU := upM μ 20 0 0
theorem ownF_of {a b : MU} {p : Nat} (h10 : ∀ j, b 30 j = a 30 j) (h11 : b 29 p = a 29 p) (h33 : b 33 p = a 33 p) : ownF b p = ownF a p := by
  unfold ownF
  rw [mplF_of h10 h11, h33]
/-- the last holder -/
def mlaS (μ : MU) (s k p : Nat) (l : Int) : Int := if μ 33 p = (s : Int) ∧ μ 34 p = (k : Int) then (if l < 0 ∨ ¬ (mbnF μ p s k).isSome = true ∨ ((mbnF μ l.toNat s k).isSome = true ∧ rkF μ l.toNat s k < rkF μ p s k) then (p : Int) else l) else l
def mlaF (μ : MU) (s k : Nat) : Int := itr (mlaS μ s k) 0 (μ 23 0).toNat (-1)
def mheF (μ : MU) (S K w : Int) : Int := if (mIS μ S ∧ 0 ≤ K ∧ 0 ≤ w ∧ w ≤ 2) ∧ K < μ 24 S.toNat then (if w = 0 then μ 25 (3 * S.toNat + K.toNat) else if w = 1 then cntF (fun p => decide (μ 33 p = (S.toNat : Int) ∧ μ 34 p = (K.toNat : Int))) (μ 23 0).toNat else mlaF μ S.toNat K.toNat) else -1
abbrev rmX4_answer : Room := { frames := 1, cells := 0, slots := 0, locals := 21 }
set_option maxRecDepth 100000 in
set_option maxHeartbeats 4000000 in
theorem cX4_answer_ok (P w : Int) (μ : MU) (hSm : Sm μ) : CTi yX4_answer cX4_answer 3 (some .boolean) rmX4_answer [aR 12 0, aI P, aI w] μ (fun r μ' => manM μ P w = μ' ∧ r = bI (manC μ P w)) := by
  intro l9 b9 D9 K9
  refine met_of (by decide) (Nat.le_of_ble_eq_true rfl) (fun x hC hR hM hA => ?_)
  have hC : Ctx x RX4 cX4_answer rmX4_answer := hC
  obtain ⟨⟨s1, s2⟩, ⟨n1, n2⟩, hr, hkc, hq, hpp, hli, hnu⟩ := hSm
  refine v_aload_n hC 0 dX4_answer_0 rfl rfl ?_
  refine v_iconst hC dX4_answer_1 ⟨by decide, by decide⟩ ?_
  refine v_putI hC fwX4_59 dX4_answer_2 rfl rfl rfl (by decide) (by first | decide | (simp only [vdn]; omega)) ?_
  refine v_aload_n hC 0 dX4_answer_5 rfl rfl ?_
  refine v_iload_n hC 1 dX4_answer_6 rfl rfl ?_
  refine v_callI1 hC (cwX4_77 hC ⟨Nat.le_of_ble_eq_true rfl, Nat.le_of_ble_eq_true rfl⟩) dX4_answer_7 rfl rfl rfl (Nat.zero_le _) (Nat.zero_le _) (Nat.le_of_ble_eq_true rfl) (by first | decide | (simp only [vdn]; omega)) (cX4_isPupil_ok P (upM μ 20 0 0)) (fun r1 μ1 hp => ?_)
  obtain ⟨rfl, rfl⟩ := hp
  refine v_if_eq hC 29 dX4_answer_10 rfl (fun h10 => ?_) (fun h10 => ?_)
  · refine v_iconst hC dX4_answer_29 ⟨by decide, by decide⟩ ?_
    exact v_bret hC hR dX4_answer_30 (by omega) (⟨_, rfl, fin_f (fun q => bI_z.1 h10 q.1.1)⟩)
  · refine v_aload_n hC 0 dX4_answer_13 rfl rfl ?_
    refine v_getI hC foX4_69 dX4_answer_14 rfl rfl rfl (by first | decide | (simp only [vdn]; omega)) ?_
    try simp only [Int.toNat_natCast, upM_at, upM_nef, ne_eq, not_false_eq_true, Nat.reduceEqDiff, Nat.reduceAdd]
    refine v_if_eq hC 29 dX4_answer_17 rfl (fun h17 => ?_) (fun h17 => ?_)
    · refine v_iconst hC dX4_answer_29 ⟨by decide, by decide⟩ ?_
      exact v_bret hC hR dX4_answer_30 (by omega) (⟨_, rfl, fin_f (fun q => q.1.2.1 h17)⟩)
    · refine v_iload_n hC 2 dX4_answer_20 rfl rfl ?_
      refine v_if_lt hC 29 dX4_answer_21 rfl (fun h21 => ?_) (fun h21 => ?_)
      · refine v_iconst hC dX4_answer_29 ⟨by decide, by decide⟩ ?_
        exact v_bret hC hR dX4_answer_30 (by omega) (⟨_, rfl, fin_f (fun q => by have := q.1.2.2.1; omega)⟩)
      · refine v_iload_n hC 2 dX4_answer_24 rfl rfl ?_
        refine v_iconst hC dX4_answer_25 ⟨by decide, by decide⟩ ?_
        refine v_icmp_le hC 31 dX4_answer_26 rfl (fun h26 => ?_) (fun h26 => ?_)
        · obtain ⟨p1, p2⟩ : mIP μ P := bI_n.1 h10
          have hc0 : mIP μ P ∧ ¬ μ 21 0 = 0 ∧ 0 ≤ w ∧ w ≤ 2 := ⟨⟨p1, p2⟩, h17, by omega, by omega⟩
          refine v_aload_n hC 0 dX4_answer_31 rfl rfl ?_
          refine v_getR hC foX4_44 dX4_answer_32 rfl rfl rfl (by decide) (by first | decide | (simp only [vdn]; omega)) ?_
          refine v_iload_n hC 1 dX4_answer_35 rfl rfl ?_
          refine v_iald hC dX4_answer_36 rfl rfl rfl (by first | decide | (simp only [vdn]; omega)) ⟨by first | omega | (simp only [mlen]; omega), by first | omega | (simp only [mlen]; omega)⟩ ?_
          try simp only [Int.toNat_natCast, upM_at, upM_nef, ne_eq, not_false_eq_true, Nat.reduceEqDiff, Nat.reduceAdd]
          refine v_iconst hC dX4_answer_37 ⟨by decide, by decide⟩ ?_
          refine v_icmp_eq hC 64 dX4_answer_38 rfl (fun h38 => ?_) (fun h38 => ?_)
          · refine v_iconst hC dX4_answer_64 ⟨by decide, by decide⟩ ?_
            exact v_bret hC hR dX4_answer_65 (by omega) (⟨_, rfl, fin_f (fun q => q.2.1 h38)⟩)
          · refine v_iload_n hC 2 dX4_answer_41 rfl rfl ?_
            refine v_iconst hC dX4_answer_42 ⟨by decide, by decide⟩ ?_
            refine v_icmp_ge hC 66 dX4_answer_43 rfl (fun h43 => ?_) (fun h43 => ?_)
            · have hc : manC μ P w := ⟨hc0, h38, Or.inl (by omega)⟩
              refine v_aload_n hC 0 dX4_answer_66 rfl rfl ?_
              refine v_getR hC foX4_47 dX4_answer_67 rfl rfl rfl (by decide) (by first | decide | (simp only [vdn]; omega)) ?_
              refine v_iload_n hC 1 dX4_answer_70 rfl rfl ?_
              refine v_iconst hC dX4_answer_71 ⟨by decide, by decide⟩ ?_
              refine v_zast hC dX4_answer_72 rfl rfl rfl (by decide) (by first | decide | (simp only [vdn]; omega)) ⟨by first | omega | (simp only [mlen]; omega), by first | omega | (simp only [mlen]; omega)⟩ (by omega) ?_
              try simp only [Int.toNat_natCast, upM_at, upM_nef, ne_eq, not_false_eq_true, Nat.reduceEqDiff, Nat.reduceAdd]
              refine v_aload_n hC 0 dX4_answer_73 rfl rfl ?_
              refine v_getR hC foX4_44 dX4_answer_74 rfl rfl rfl (by decide) (by first | decide | (simp only [vdn]; omega)) ?_
              refine v_iload_n hC 1 dX4_answer_77 rfl rfl ?_
              refine v_iload_n hC 2 dX4_answer_78 rfl rfl ?_
              refine v_iconst hC dX4_answer_79 ⟨by decide, by decide⟩ ?_
              refine v_iadd hC dX4_answer_80 ⟨by omega, by omega⟩ ?_
              refine v_iast hC dX4_answer_81 rfl rfl rfl (by decide) (by first | decide | (simp only [vdn]; omega)) ⟨by first | omega | (simp only [mlen]; omega), by first | omega | (simp only [mlen]; omega)⟩ ?_
              try simp only [Int.toNat_natCast, upM_at, upM_nef, ne_eq, not_false_eq_true, Nat.reduceEqDiff, Nat.reduceAdd]
              refine v_iload_n hC 2 dX4_answer_82 rfl rfl ?_
              refine v_if_le hC 91 dX4_answer_83 rfl (fun h83 => ?_) (fun h83 => ?_)
              · refine v_iconst hC dX4_answer_91 ⟨by decide, by decide⟩ ?_
                exact v_bret hC hR dX4_answer_92 (by omega) (⟨_, rfl, by rw [manM, if_pos hc, if_neg (by omega)], bI_t hc⟩)
              · obtain ⟨p, rfl⟩ := Int.eq_ofNat_of_zero_le p1
                refine v_aload_n hC 0 dX4_answer_86 rfl rfl ?_
                refine v_iload_n hC 1 dX4_answer_87 rfl rfl ?_
                refine v_callV1 hC (cwX4_107 hC ⟨Nat.le_of_ble_eq_true rfl, Nat.le_of_ble_eq_true rfl⟩) dX4_answer_88 rfl rfl rfl (Nat.zero_le _) (Nat.zero_le _) (Nat.le_of_ble_eq_true rfl) (by first | decide | (simp only [vdn]; omega)) (cX4_give_ok p _ (by omega)) (fun μ1 hp => ?_)
                subst hp
                refine v_iconst hC dX4_answer_91 ⟨by decide, by decide⟩ ?_
                exact v_bret hC hR dX4_answer_92 (by omega) (⟨_, rfl, by rw [manM, if_pos hc, if_pos (by omega)] <;> rfl, bI_t hc⟩)
            · refine v_aload_n hC 0 dX4_answer_46 rfl rfl ?_
              refine v_getR hC foX4_47 dX4_answer_47 rfl rfl rfl (by decide) (by first | decide | (simp only [vdn]; omega)) ?_
              refine v_iload_n hC 1 dX4_answer_50 rfl rfl ?_
              refine v_zald hC dX4_answer_51 rfl rfl rfl (by first | decide | (simp only [vdn]; omega)) ⟨by first | omega | (simp only [mlen]; omega), by first | omega | (simp only [mlen]; omega)⟩ ?_
              try simp only [Int.toNat_natCast, upM_at, upM_nef, ne_eq, not_false_eq_true, Nat.reduceEqDiff, Nat.reduceAdd]
              refine v_if_ne hC 64 dX4_answer_52 rfl (fun h52 => ?_) (fun h52 => ?_)
              · refine v_iconst hC dX4_answer_64 ⟨by decide, by decide⟩ ?_
                exact v_bret hC hR dX4_answer_65 (by omega) (⟨_, rfl, fin_f (fun q => q.2.2.elim (fun h => by omega) (fun h => h52 h.1))⟩)
              · refine v_aload_n hC 0 dX4_answer_55 rfl rfl ?_
                refine v_getR hC foX4_38 dX4_answer_56 rfl rfl rfl (by decide) (by first | decide | (simp only [vdn]; omega)) ?_
                refine v_iload_n hC 1 dX4_answer_59 rfl rfl ?_
                refine v_iald hC dX4_answer_60 rfl rfl rfl (by first | decide | (simp only [vdn]; omega)) ⟨by first | omega | (simp only [mlen]; omega), by first | omega | (simp only [mlen]; omega)⟩ ?_
                try simp only [Int.toNat_natCast, upM_at, upM_nef, ne_eq, not_false_eq_true, Nat.reduceEqDiff, Nat.reduceAdd]
                refine v_if_ge hC 66 dX4_answer_61 rfl (fun h61 => ?_) (fun h61 => ?_)
                · have hc : manC μ P w := ⟨hc0, h38, Or.inr ⟨h52, by omega⟩⟩
                  refine v_aload_n hC 0 dX4_answer_66 rfl rfl ?_
                  refine v_getR hC foX4_47 dX4_answer_67 rfl rfl rfl (by decide) (by first | decide | (simp only [vdn]; omega)) ?_
                  refine v_iload_n hC 1 dX4_answer_70 rfl rfl ?_
                  refine v_iconst hC dX4_answer_71 ⟨by decide, by decide⟩ ?_
                  refine v_zast hC dX4_answer_72 rfl rfl rfl (by decide) (by first | decide | (simp only [vdn]; omega)) ⟨by first | omega | (simp only [mlen]; omega), by first | omega | (simp only [mlen]; omega)⟩ (by omega) ?_
                  try simp only [Int.toNat_natCast, upM_at, upM_nef, ne_eq, not_false_eq_true, Nat.reduceEqDiff, Nat.reduceAdd]
                  refine v_aload_n hC 0 dX4_answer_73 rfl rfl ?_
                  refine v_getR hC foX4_44 dX4_answer_74 rfl rfl rfl (by decide) (by first | decide | (simp only [vdn]; omega)) ?_
                  refine v_iload_n hC 1 dX4_answer_77 rfl rfl ?_
                  refine v_iload_n hC 2 dX4_answer_78 rfl rfl ?_
                  refine v_iconst hC dX4_answer_79 ⟨by decide, by decide⟩ ?_
                  refine v_iadd hC dX4_answer_80 ⟨by omega, by omega⟩ ?_
                  refine v_iast hC dX4_answer_81 rfl rfl rfl (by decide) (by first | decide | (simp only [vdn]; omega)) ⟨by first | omega | (simp only [mlen]; omega), by first | omega | (simp only [mlen]; omega)⟩ ?_
                  try simp only [Int.toNat_natCast, upM_at, upM_nef, ne_eq, not_false_eq_true, Nat.reduceEqDiff, Nat.reduceAdd]
                  refine v_iload_n hC 2 dX4_answer_82 rfl rfl ?_
                  refine v_if_le hC 91 dX4_answer_83 rfl (fun h83 => ?_) (fun h83 => ?_)
                  · refine v_iconst hC dX4_answer_91 ⟨by decide, by decide⟩ ?_
                    exact v_bret hC hR dX4_answer_92 (by omega) (⟨_, rfl, by rw [manM, if_pos hc, if_neg (by omega)], bI_t hc⟩)
                  · obtain ⟨p, rfl⟩ := Int.eq_ofNat_of_zero_le p1
                    refine v_aload_n hC 0 dX4_answer_86 rfl rfl ?_
                    refine v_iload_n hC 1 dX4_answer_87 rfl rfl ?_
                    refine v_callV1 hC (cwX4_107 hC ⟨Nat.le_of_ble_eq_true rfl, Nat.le_of_ble_eq_true rfl⟩) dX4_answer_88 rfl rfl rfl (Nat.zero_le _) (Nat.zero_le _) (Nat.le_of_ble_eq_true rfl) (by first | decide | (simp only [vdn]; omega)) (cX4_give_ok p _ (by omega)) (fun μ1 hp => ?_)
                    subst hp
                    refine v_iconst hC dX4_answer_91 ⟨by decide, by decide⟩ ?_
                    exact v_bret hC hR dX4_answer_92 (by omega) (⟨_, rfl, by rw [manM, if_pos hc, if_pos (by omega)] <;> rfl, bI_t hc⟩)
                · refine v_iconst hC dX4_answer_64 ⟨by decide, by decide⟩ ?_
                  exact v_bret hC hR dX4_answer_65 (by omega) (⟨_, rfl, fin_f (fun q => q.2.2.elim (fun h => by omega) (fun h => by have := h.2; omega))⟩)
        · refine v_iconst hC dX4_answer_29 ⟨by decide, by decide⟩ ?_
          exact v_bret hC hR dX4_answer_30 (by omega) (⟨_, rfl, fin_f (fun q => by have := q.1.2.2.2; omega)⟩)
abbrev rmX4_over : Room := { frames := 1, cells := 0, slots := 0, locals := 23 }
set_option maxRecDepth 100000 in
set_option maxHeartbeats 4000000 in
theorem cX4_over_ok (P S : Int) (μ : MU) (hSm : Sm μ) : CTi yX4_over cX4_over 3 (some .boolean) rmX4_over [aR 12 0, aI P, aI S] μ (fun r μ' => movM μ P S = μ' ∧ r = movR μ P S) := by
  intro l9 b9 D9 K9
  refine met_of (by decide) (Nat.le_of_ble_eq_true rfl) (fun x hC hR hM hA => ?_)
  have hC : Ctx x RX4 cX4_over rmX4_over := hC
  have hSm0 := hSm
  obtain ⟨⟨s1, s2⟩, ⟨n1, n2⟩, hr, hkc, hq, hpp, hli, hnu⟩ := hSm
  refine v_aload_n hC 0 dX4_over_0 rfl rfl ?_
  refine v_aload_n hC 0 dX4_over_1 rfl rfl ?_
  refine v_iload_n hC 1 dX4_over_2 rfl rfl ?_
  refine v_callI1 hC (cwX4_77 hC ⟨Nat.le_of_ble_eq_true rfl, Nat.le_of_ble_eq_true rfl⟩) dX4_over_3 rfl rfl rfl (Nat.zero_le _) (Nat.zero_le _) (Nat.le_of_ble_eq_true rfl) (by first | decide | (simp only [vdn]; omega)) (cX4_isPupil_ok P μ) (fun r1 μ1 hp => ?_)
  obtain ⟨rfl, rfl⟩ := hp
  refine v_if_eq hC 13 dX4_over_6 rfl (fun h6 => ?_) (fun h6 => ?_)
  · refine v_iconst hC dX4_over_13 ⟨by decide, by decide⟩ ?_
    refine v_putI hC fwX4_59 dX4_over_14 rfl rfl rfl (by decide) (by first | decide | (simp only [vdn]; omega)) ?_
    refine v_aload_n hC 0 dX4_over_17 rfl rfl ?_
    refine v_getI hC foX4_59 dX4_over_18 rfl rfl rfl (by first | decide | (simp only [vdn]; omega)) ?_
    try simp only [Int.toNat_natCast, upM_at, upM_nef, ne_eq, not_false_eq_true, Nat.reduceEqDiff, Nat.reduceAdd]
    refine v_if_le hC 26 dX4_over_21 rfl (fun h21 => ?_) (fun h21 => ?_)
    · exfalso; omega
    · refine v_iconst hC dX4_over_24 ⟨by decide, by decide⟩ ?_
      exact v_bret hC hR dX4_over_25 (by omega) (⟨_, rfl, if_pos (bI_z.1 h6), (if_pos (bI_z.1 h6)).symm⟩)
  · refine v_iconst hC dX4_over_9 ⟨by decide, by decide⟩ ?_
    refine v_goto hC 14 dX4_over_10 rfl ?_
    refine v_putI hC fwX4_59 dX4_over_14 rfl rfl rfl (by decide) (by first | decide | (simp only [vdn]; omega)) ?_
    refine v_aload_n hC 0 dX4_over_17 rfl rfl ?_
    refine v_getI hC foX4_59 dX4_over_18 rfl rfl rfl (by first | decide | (simp only [vdn]; omega)) ?_
    try simp only [Int.toNat_natCast, upM_at, upM_nef, ne_eq, not_false_eq_true, Nat.reduceEqDiff, Nat.reduceAdd]
    refine v_if_le hC 26 dX4_over_21 rfl (fun h21 => ?_) (fun h21 => ?_)
    · obtain ⟨p1, p2⟩ : mIP μ P := bI_n.1 h6
      have hc : ¬ ¬ mIP μ P := fun h => h ⟨p1, p2⟩
      obtain ⟨p, rfl⟩ := Int.eq_ofNat_of_zero_le p1
      have hSm1 : Sm (upM μ 20 0 0) := hSm0.up (by decide)
      have epl : mplF (upM μ 20 0 0) p S = mplF μ p S := mplF_of (fun j => upM_nef (by decide)) (upM_nef (by decide))
      refine v_aload_n hC 0 dX4_over_26 rfl rfl ?_
      refine v_aload_n hC 0 dX4_over_27 rfl rfl ?_
      refine v_iload_n hC 1 dX4_over_28 rfl rfl ?_
      refine v_iload_n hC 2 dX4_over_29 rfl rfl ?_
      refine v_callI2 hC (cwX4_80 hC ⟨Nat.le_of_ble_eq_true rfl, Nat.le_of_ble_eq_true rfl⟩) dX4_over_30 rfl rfl rfl (Nat.zero_le _) (Nat.zero_le _) (Nat.le_of_ble_eq_true rfl) (by first | decide | (simp only [vdn]; omega)) (cX4_place_ok p S (upM μ 20 0 0) (by omega) hSm1) (fun r1 μ1 hp => ?_)
      obtain ⟨rfl, rfl⟩ := hp
      rw [epl]
      refine v_bipush hC dX4_over_33 ⟨by decide, by decide⟩ ?_
      refine v_icmp_eq hC 55 dX4_over_35 rfl (fun h35 => ?_) (fun h35 => ?_)
      · refine v_iconst hC dX4_over_55 ⟨by decide, by decide⟩ ?_
        refine v_goto hC 81 dX4_over_56 rfl ?_
        refine v_putI hC fwX4_59 dX4_over_81 rfl rfl rfl (by decide) (by first | decide | (simp only [vdn]; omega)) ?_
        have hd : movC μ (p : Int) S := Or.inl h35
        refine v_aload_n hC 0 dX4_over_84 rfl rfl ?_
        refine v_getI hC foX4_59 dX4_over_85 rfl rfl rfl (by first | decide | (simp only [vdn]; omega)) ?_
        try simp only [Int.toNat_natCast, upM_at, upM_nef, ne_eq, not_false_eq_true, Nat.reduceEqDiff, Nat.reduceAdd]
        refine v_if_le hC 93 dX4_over_88 rfl (fun h88 => ?_) (fun h88 => ?_)
        · exfalso; omega
        · refine v_iconst hC dX4_over_91 ⟨by decide, by decide⟩ ?_
          exact v_bret hC hR dX4_over_92 (by omega) (⟨_, rfl, by rw [movM, if_neg hc, if_pos hd], by rw [movR, if_neg hc, if_pos hd]⟩)
      · refine v_aload_n hC 0 dX4_over_38 rfl rfl ?_
        refine v_getI hC foX4_69 dX4_over_39 rfl rfl rfl (by first | decide | (simp only [vdn]; omega)) ?_
        try simp only [Int.toNat_natCast, upM_at, upM_nef, ne_eq, not_false_eq_true, Nat.reduceEqDiff, Nat.reduceAdd]
        refine v_if_eq hC 59 dX4_over_42 rfl (fun h42 => ?_) (fun h42 => ?_)
        · refine v_aload_n hC 0 dX4_over_59 rfl rfl ?_
          refine v_getI hC foX4_69 dX4_over_60 rfl rfl rfl (by first | decide | (simp only [vdn]; omega)) ?_
          try simp only [Int.toNat_natCast, upM_at, upM_nef, ne_eq, not_false_eq_true, Nat.reduceEqDiff, Nat.reduceAdd]
          refine v_if_eq hC 76 dX4_over_63 rfl (fun h63 => ?_) (fun h63 => ?_)
          · refine v_iconst hC dX4_over_76 ⟨by decide, by decide⟩ ?_
            refine v_goto hC 81 dX4_over_77 rfl ?_
            refine v_putI hC fwX4_59 dX4_over_81 rfl rfl rfl (by decide) (by first | decide | (simp only [vdn]; omega)) ?_
            have hd : ¬ movC μ (p : Int) S := fun q => q.elim h35 (fun q => q.1 h42)
            have hd2 : movD μ (p : Int) := Or.inl h63
            refine v_aload_n hC 0 dX4_over_84 rfl rfl ?_
            refine v_getI hC foX4_59 dX4_over_85 rfl rfl rfl (by first | decide | (simp only [vdn]; omega)) ?_
            try simp only [Int.toNat_natCast, upM_at, upM_nef, ne_eq, not_false_eq_true, Nat.reduceEqDiff, Nat.reduceAdd]
            refine v_if_le hC 93 dX4_over_88 rfl (fun h88 => ?_) (fun h88 => ?_)
            · exfalso; omega
            · refine v_iconst hC dX4_over_91 ⟨by decide, by decide⟩ ?_
              exact v_bret hC hR dX4_over_92 (by omega) (⟨_, rfl, by rw [movM, if_neg hc, if_neg hd, if_pos hd2], by rw [movR, if_neg hc, if_neg hd, if_pos hd2]⟩)
          · refine v_aload_n hC 0 dX4_over_66 rfl rfl ?_
            refine v_getR hC foX4_44 dX4_over_67 rfl rfl rfl (by decide) (by first | decide | (simp only [vdn]; omega)) ?_
            refine v_iload_n hC 1 dX4_over_70 rfl rfl ?_
            refine v_iald hC dX4_over_71 rfl rfl rfl (by first | decide | (simp only [vdn]; omega)) ⟨by first | omega | (simp only [mlen]; omega), by first | omega | (simp only [mlen]; omega)⟩ ?_
            try simp only [Int.toNat_natCast, upM_at, upM_nef, ne_eq, not_false_eq_true, Nat.reduceEqDiff, Nat.reduceAdd]
            refine v_iconst hC dX4_over_72 ⟨by decide, by decide⟩ ?_
            refine v_icmp_ne hC 80 dX4_over_73 rfl (fun h73 => ?_) (fun h73 => ?_)
            · refine v_iconst hC dX4_over_80 ⟨by decide, by decide⟩ ?_
              refine v_putI hC fwX4_59 dX4_over_81 rfl rfl rfl (by decide) (by first | decide | (simp only [vdn]; omega)) ?_
              have hd : ¬ movC μ (p : Int) S := fun q => q.elim h35 (fun q => q.1 h42)
              have hd2 : ¬ movD μ (p : Int) := fun q => q.elim h63 h73
              refine v_aload_n hC 0 dX4_over_84 rfl rfl ?_
              refine v_getI hC foX4_59 dX4_over_85 rfl rfl rfl (by first | decide | (simp only [vdn]; omega)) ?_
              try simp only [Int.toNat_natCast, upM_at, upM_nef, ne_eq, not_false_eq_true, Nat.reduceEqDiff, Nat.reduceAdd]
              refine v_if_le hC 93 dX4_over_88 rfl (fun h88 => ?_) (fun h88 => ?_)
              · refine v_aload_n hC 0 dX4_over_93 rfl rfl ?_
                refine v_getR hC foX4_38 dX4_over_94 rfl rfl rfl (by decide) (by first | decide | (simp only [vdn]; omega)) ?_
                refine v_iload_n hC 1 dX4_over_97 rfl rfl ?_
                refine v_iload_n hC 2 dX4_over_98 rfl rfl ?_
                refine v_iast hC dX4_over_99 rfl rfl rfl (by decide) (by first | decide | (simp only [vdn]; omega)) ⟨by first | omega | (simp only [mlen]; omega), by first | omega | (simp only [mlen]; omega)⟩ ?_
                try simp only [Int.toNat_natCast, upM_at, upM_nef, ne_eq, not_false_eq_true, Nat.reduceEqDiff, Nat.reduceAdd]
                refine v_aload_n hC 0 dX4_over_100 rfl rfl ?_
                refine v_getR hC foX4_41 dX4_over_101 rfl rfl rfl (by decide) (by first | decide | (simp only [vdn]; omega)) ?_
                refine v_iload_n hC 1 dX4_over_104 rfl rfl ?_
                refine v_iconst hC dX4_over_105 ⟨by decide, by decide⟩ ?_
                refine v_iast hC dX4_over_106 rfl rfl rfl (by decide) (by first | decide | (simp only [vdn]; omega)) ⟨by first | omega | (simp only [mlen]; omega), by first | omega | (simp only [mlen]; omega)⟩ ?_
                try simp only [Int.toNat_natCast, upM_at, upM_nef, ne_eq, not_false_eq_true, Nat.reduceEqDiff, Nat.reduceAdd]
                refine v_iconst hC dX4_over_107 ⟨by decide, by decide⟩ ?_
                exact v_bret hC hR dX4_over_108 (by omega) (⟨_, rfl, by rw [movM, if_neg hc, if_neg hd, if_neg hd2] <;> rfl, by rw [movR, if_neg hc, if_neg hd, if_neg hd2]⟩)
              · exfalso; omega
            · refine v_iconst hC dX4_over_76 ⟨by decide, by decide⟩ ?_
              refine v_goto hC 81 dX4_over_77 rfl ?_
              refine v_putI hC fwX4_59 dX4_over_81 rfl rfl rfl (by decide) (by first | decide | (simp only [vdn]; omega)) ?_
              have hd : ¬ movC μ (p : Int) S := fun q => q.elim h35 (fun q => q.1 h42)
              have hd2 : movD μ (p : Int) := Or.inr h73
              refine v_aload_n hC 0 dX4_over_84 rfl rfl ?_
              refine v_getI hC foX4_59 dX4_over_85 rfl rfl rfl (by first | decide | (simp only [vdn]; omega)) ?_
              try simp only [Int.toNat_natCast, upM_at, upM_nef, ne_eq, not_false_eq_true, Nat.reduceEqDiff, Nat.reduceAdd]
              refine v_if_le hC 93 dX4_over_88 rfl (fun h88 => ?_) (fun h88 => ?_)
              · exfalso; omega
              · refine v_iconst hC dX4_over_91 ⟨by decide, by decide⟩ ?_
                exact v_bret hC hR dX4_over_92 (by omega) (⟨_, rfl, by rw [movM, if_neg hc, if_neg hd, if_pos hd2], by rw [movR, if_neg hc, if_neg hd, if_pos hd2]⟩)
        · refine v_aload_n hC 0 dX4_over_45 rfl rfl ?_
          refine v_getR hC foX4_38 dX4_over_46 rfl rfl rfl (by decide) (by first | decide | (simp only [vdn]; omega)) ?_
          refine v_iload_n hC 1 dX4_over_49 rfl rfl ?_
          refine v_iald hC dX4_over_50 rfl rfl rfl (by first | decide | (simp only [vdn]; omega)) ⟨by first | omega | (simp only [mlen]; omega), by first | omega | (simp only [mlen]; omega)⟩ ?_
          try simp only [Int.toNat_natCast, upM_at, upM_nef, ne_eq, not_false_eq_true, Nat.reduceEqDiff, Nat.reduceAdd]
          refine v_iload_n hC 2 dX4_over_51 rfl rfl ?_
          refine v_icmp_ne hC 59 dX4_over_52 rfl (fun h52 => ?_) (fun h52 => ?_)
          · refine v_aload_n hC 0 dX4_over_59 rfl rfl ?_
            refine v_getI hC foX4_69 dX4_over_60 rfl rfl rfl (by first | decide | (simp only [vdn]; omega)) ?_
            try simp only [Int.toNat_natCast, upM_at, upM_nef, ne_eq, not_false_eq_true, Nat.reduceEqDiff, Nat.reduceAdd]
            refine v_if_eq hC 76 dX4_over_63 rfl (fun h63 => ?_) (fun h63 => ?_)
            · refine v_iconst hC dX4_over_76 ⟨by decide, by decide⟩ ?_
              refine v_goto hC 81 dX4_over_77 rfl ?_
              refine v_putI hC fwX4_59 dX4_over_81 rfl rfl rfl (by decide) (by first | decide | (simp only [vdn]; omega)) ?_
              have hd : ¬ movC μ (p : Int) S := fun q => q.elim h35 (fun q => h52 q.2)
              have hd2 : movD μ (p : Int) := Or.inl h63
              refine v_aload_n hC 0 dX4_over_84 rfl rfl ?_
              refine v_getI hC foX4_59 dX4_over_85 rfl rfl rfl (by first | decide | (simp only [vdn]; omega)) ?_
              try simp only [Int.toNat_natCast, upM_at, upM_nef, ne_eq, not_false_eq_true, Nat.reduceEqDiff, Nat.reduceAdd]
              refine v_if_le hC 93 dX4_over_88 rfl (fun h88 => ?_) (fun h88 => ?_)
              · exfalso; omega
              · refine v_iconst hC dX4_over_91 ⟨by decide, by decide⟩ ?_
                exact v_bret hC hR dX4_over_92 (by omega) (⟨_, rfl, by rw [movM, if_neg hc, if_neg hd, if_pos hd2], by rw [movR, if_neg hc, if_neg hd, if_pos hd2]⟩)
            · refine v_aload_n hC 0 dX4_over_66 rfl rfl ?_
              refine v_getR hC foX4_44 dX4_over_67 rfl rfl rfl (by decide) (by first | decide | (simp only [vdn]; omega)) ?_
              refine v_iload_n hC 1 dX4_over_70 rfl rfl ?_
              refine v_iald hC dX4_over_71 rfl rfl rfl (by first | decide | (simp only [vdn]; omega)) ⟨by first | omega | (simp only [mlen]; omega), by first | omega | (simp only [mlen]; omega)⟩ ?_
              try simp only [Int.toNat_natCast, upM_at, upM_nef, ne_eq, not_false_eq_true, Nat.reduceEqDiff, Nat.reduceAdd]
              refine v_iconst hC dX4_over_72 ⟨by decide, by decide⟩ ?_
              refine v_icmp_ne hC 80 dX4_over_73 rfl (fun h73 => ?_) (fun h73 => ?_)
              · refine v_iconst hC dX4_over_80 ⟨by decide, by decide⟩ ?_
                refine v_putI hC fwX4_59 dX4_over_81 rfl rfl rfl (by decide) (by first | decide | (simp only [vdn]; omega)) ?_
                have hd : ¬ movC μ (p : Int) S := fun q => q.elim h35 (fun q => h52 q.2)
                have hd2 : ¬ movD μ (p : Int) := fun q => q.elim h63 h73
                refine v_aload_n hC 0 dX4_over_84 rfl rfl ?_
                refine v_getI hC foX4_59 dX4_over_85 rfl rfl rfl (by first | decide | (simp only [vdn]; omega)) ?_
                try simp only [Int.toNat_natCast, upM_at, upM_nef, ne_eq, not_false_eq_true, Nat.reduceEqDiff, Nat.reduceAdd]
                refine v_if_le hC 93 dX4_over_88 rfl (fun h88 => ?_) (fun h88 => ?_)
                · refine v_aload_n hC 0 dX4_over_93 rfl rfl ?_
                  refine v_getR hC foX4_38 dX4_over_94 rfl rfl rfl (by decide) (by first | decide | (simp only [vdn]; omega)) ?_
                  refine v_iload_n hC 1 dX4_over_97 rfl rfl ?_
                  refine v_iload_n hC 2 dX4_over_98 rfl rfl ?_
                  refine v_iast hC dX4_over_99 rfl rfl rfl (by decide) (by first | decide | (simp only [vdn]; omega)) ⟨by first | omega | (simp only [mlen]; omega), by first | omega | (simp only [mlen]; omega)⟩ ?_
                  try simp only [Int.toNat_natCast, upM_at, upM_nef, ne_eq, not_false_eq_true, Nat.reduceEqDiff, Nat.reduceAdd]
                  refine v_aload_n hC 0 dX4_over_100 rfl rfl ?_
                  refine v_getR hC foX4_41 dX4_over_101 rfl rfl rfl (by decide) (by first | decide | (simp only [vdn]; omega)) ?_
                  refine v_iload_n hC 1 dX4_over_104 rfl rfl ?_
                  refine v_iconst hC dX4_over_105 ⟨by decide, by decide⟩ ?_
                  refine v_iast hC dX4_over_106 rfl rfl rfl (by decide) (by first | decide | (simp only [vdn]; omega)) ⟨by first | omega | (simp only [mlen]; omega), by first | omega | (simp only [mlen]; omega)⟩ ?_
                  try simp only [Int.toNat_natCast, upM_at, upM_nef, ne_eq, not_false_eq_true, Nat.reduceEqDiff, Nat.reduceAdd]
                  refine v_iconst hC dX4_over_107 ⟨by decide, by decide⟩ ?_
                  exact v_bret hC hR dX4_over_108 (by omega) (⟨_, rfl, by rw [movM, if_neg hc, if_neg hd, if_neg hd2] <;> rfl, by rw [movR, if_neg hc, if_neg hd, if_neg hd2]⟩)
                · exfalso; omega
              · refine v_iconst hC dX4_over_76 ⟨by decide, by decide⟩ ?_
                refine v_goto hC 81 dX4_over_77 rfl ?_
                refine v_putI hC fwX4_59 dX4_over_81 rfl rfl rfl (by decide) (by first | decide | (simp only [vdn]; omega)) ?_
                have hd : ¬ movC μ (p : Int) S := fun q => q.elim h35 (fun q => h52 q.2)
                have hd2 : movD μ (p : Int) := Or.inr h73
                refine v_aload_n hC 0 dX4_over_84 rfl rfl ?_
                refine v_getI hC foX4_59 dX4_over_85 rfl rfl rfl (by first | decide | (simp only [vdn]; omega)) ?_
                try simp only [Int.toNat_natCast, upM_at, upM_nef, ne_eq, not_false_eq_true, Nat.reduceEqDiff, Nat.reduceAdd]
                refine v_if_le hC 93 dX4_over_88 rfl (fun h88 => ?_) (fun h88 => ?_)
                · exfalso; omega
                · refine v_iconst hC dX4_over_91 ⟨by decide, by decide⟩ ?_
                  exact v_bret hC hR dX4_over_92 (by omega) (⟨_, rfl, by rw [movM, if_neg hc, if_neg hd, if_pos hd2], by rw [movR, if_neg hc, if_neg hd, if_pos hd2]⟩)
          · refine v_iconst hC dX4_over_55 ⟨by decide, by decide⟩ ?_
            refine v_goto hC 81 dX4_over_56 rfl ?_
            refine v_putI hC fwX4_59 dX4_over_81 rfl rfl rfl (by decide) (by first | decide | (simp only [vdn]; omega)) ?_
            have hd : movC μ (p : Int) S := Or.inr ⟨h42, h52⟩
            refine v_aload_n hC 0 dX4_over_84 rfl rfl ?_
            refine v_getI hC foX4_59 dX4_over_85 rfl rfl rfl (by first | decide | (simp only [vdn]; omega)) ?_
            try simp only [Int.toNat_natCast, upM_at, upM_nef, ne_eq, not_false_eq_true, Nat.reduceEqDiff, Nat.reduceAdd]
            refine v_if_le hC 93 dX4_over_88 rfl (fun h88 => ?_) (fun h88 => ?_)
            · exfalso; omega
            · refine v_iconst hC dX4_over_91 ⟨by decide, by decide⟩ ?_
              exact v_bret hC hR dX4_over_92 (by omega) (⟨_, rfl, by rw [movM, if_neg hc, if_pos hd], by rw [movR, if_neg hc, if_pos hd]⟩)
    · exfalso; omega
abbrev rmX4_why : Room := { frames := 2, cells := 0, slots := 0, locals := 48 }
set_option maxRecDepth 100000 in
set_option maxHeartbeats 4000000 in
theorem cX4_why_ok (P S : Int) (μ : MU) (hSm : Sm μ) : CTi yX4_why cX4_why 6 (some .int) rmX4_why [aR 12 0, aI P, aI S] μ (fun r μ' => upM μ 20 0 0 = μ' ∧ r = mwhF μ P S) := by
  intro l9 b9 D9 K9
  refine met_of (by decide) (Nat.le_of_ble_eq_true rfl) (fun x hC hR hM hA => ?_)
  have hC : Ctx x RX4 cX4_why rmX4_why := hC
  have hSm0 := hSm
  obtain ⟨⟨s1, s2⟩, ⟨n1, n2⟩, hr, hkc, hq, hpp, hli, hnu⟩ := hSm
  refine v_aload_n hC 0 dX4_why_0 rfl rfl ?_
  refine v_iconst hC dX4_why_1 ⟨by decide, by decide⟩ ?_
  refine v_putI hC fwX4_59 dX4_why_2 rfl rfl rfl (by decide) (by first | decide | (simp only [vdn]; omega)) ?_
  refine v_aload_n hC 0 dX4_why_5 rfl rfl ?_
  refine v_iload_n hC 1 dX4_why_6 rfl rfl ?_
  refine v_callI1 hC (cwX4_77 hC ⟨Nat.le_of_ble_eq_true rfl, Nat.le_of_ble_eq_true rfl⟩) dX4_why_7 rfl rfl rfl (Nat.zero_le _) (Nat.zero_le _) (Nat.le_of_ble_eq_true rfl) (by first | decide | (simp only [vdn]; omega)) (cX4_isPupil_ok P (upM μ 20 0 0)) (fun r1 μ1 hp => ?_)
  obtain ⟨rfl, rfl⟩ := hp
  refine v_if_eq hC 21 dX4_why_10 rfl (fun h10 => ?_) (fun h10 => ?_)
  · refine v_iconst hC dX4_why_21 ⟨by decide, by decide⟩ ?_
    exact v_iret hC hR dX4_why_22 (⟨_, rfl, rfl, by rw [mwhF, if_neg (fun q => bI_z.1 h10 q.1)]⟩)
  · refine v_aload_n hC 0 dX4_why_13 rfl rfl ?_
    refine v_iload_n hC 2 dX4_why_14 rfl rfl ?_
    refine v_callI1 hC (cwX4_73 hC ⟨Nat.le_of_ble_eq_true rfl, Nat.le_of_ble_eq_true rfl⟩) dX4_why_15 rfl rfl rfl (Nat.zero_le _) (Nat.zero_le _) (Nat.le_of_ble_eq_true rfl) (by first | decide | (simp only [vdn]; omega)) (cX4_isSchool_ok S (upM μ 20 0 0)) (fun r1 μ1 hp => ?_)
    obtain ⟨rfl, rfl⟩ := hp
    refine v_if_ne hC 23 dX4_why_18 rfl (fun h18 => ?_) (fun h18 => ?_)
    · obtain ⟨p1, p2⟩ : mIP μ P := bI_n.1 h10
      obtain ⟨q1, q2⟩ : mIS μ S := bI_n.1 h18
      have hc : mIP μ P ∧ mIS μ S := ⟨⟨p1, p2⟩, ⟨q1, q2⟩⟩
      obtain ⟨p, rfl⟩ := Int.eq_ofNat_of_zero_le p1
      obtain ⟨s, rfl⟩ := Int.eq_ofNat_of_zero_le q1
      have hk1 := hkc s (by omega)
      have hSm1 : Sm (upM μ 20 0 0) := hSm0.up (by decide)
      have epl : ∀ w, mplF (upM μ 20 0 0) p w = mplF μ p w := fun w => mplF_of (fun j => upM_nef (by decide)) (upM_nef (by decide))
      have ebn : ∀ k, mbnF (upM μ 20 0 0) p s k = mbnF μ p s k := fun k => mbnF_of (fun j => upM_nef (by decide)) (upM_nef (by decide))
      have eow : ownF (upM μ 20 0 0) p = ownF μ p := ownF_of (fun j => upM_nef (by decide)) (upM_nef (by decide)) (upM_nef (by decide))
      refine v_aload_n hC 0 dX4_why_23 rfl rfl ?_
      refine v_getR hC foX4_38 dX4_why_24 rfl rfl rfl (by decide) (by first | decide | (simp only [vdn]; omega)) ?_
      refine v_iload_n hC 1 dX4_why_27 rfl rfl ?_
      refine v_iald hC dX4_why_28 rfl rfl rfl (by first | decide | (simp only [vdn]; omega)) ⟨by first | omega | (simp only [mlen]; omega), by first | omega | (simp only [mlen]; omega)⟩ ?_
      try simp only [Int.toNat_natCast, upM_at, upM_nef, ne_eq, not_false_eq_true, Nat.reduceEqDiff, Nat.reduceAdd]
      refine v_iload_n hC 2 dX4_why_29 rfl rfl ?_
      refine v_icmp_ne hC 35 dX4_why_30 rfl (fun h30 => ?_) (fun h30 => ?_)
      · refine v_aload_n hC 0 dX4_why_35 rfl rfl ?_
        refine v_iload_n hC 1 dX4_why_36 rfl rfl ?_
        refine v_iload_n hC 2 dX4_why_37 rfl rfl ?_
        refine v_callI2 hC (cwX4_80 hC ⟨Nat.le_of_ble_eq_true rfl, Nat.le_of_ble_eq_true rfl⟩) dX4_why_38 rfl rfl rfl (Nat.zero_le _) (Nat.zero_le _) (Nat.le_of_ble_eq_true rfl) (by first | decide | (simp only [vdn]; omega)) (cX4_place_ok p s (upM μ 20 0 0) (by omega) hSm1) (fun r1 μ1 hp => ?_)
        obtain ⟨rfl, rfl⟩ := hp
        rw [epl]
        refine v_istore_n hC 3 dX4_why_41 rfl (Nat.le_of_ble_eq_true rfl) ?_
        refine v_iconst hC dX4_why_42 ⟨by decide, by decide⟩ ?_
        refine v_istore hC dX4_why_43 (Nat.le_of_ble_eq_true rfl) ?_
        refine v_iconst hC dX4_why_45 ⟨by decide, by decide⟩ ?_
        refine v_istore hC dX4_why_46 (Nat.le_of_ble_eq_true rfl) ?_
        refine v_loop (fun k : Nat => (μ 24 s).toNat - k) (fun _ => True) (fun k => ∀ c : Int, k ≤ 3 → (c = 0 ∧ fnd (fun k => (mbnF μ p s k).isSome) k ((μ 24 s).toNat - k) = fnd (fun k => (mbnF μ p s k).isSome) 0 (μ 24 s).toNat ∨ c = 1 ∧ (fnd (fun k => (mbnF μ p s k).isSome) 0 (μ 24 s).toNat).isSome = true) → V x 0 0 none 48 [some (aR 12 0), some (aI p), some (aI s), some (aI (o9 (mplF μ p s))), some (aI c), some (aI (k : Int))] [] (upM μ 20 0 0)) (fun k _ ih c a1 a2 => ?_) 0 trivial 0 (by decide) (Or.inl ⟨rfl, rfl⟩)
        refine v_iload hC dX4_why_48 rfl ?_
        refine v_aload_n hC 0 dX4_why_50 rfl rfl ?_
        refine v_getR hC foX4_7 dX4_why_51 rfl rfl rfl (by decide) (by first | decide | (simp only [vdn]; omega)) ?_
        refine v_iload_n hC 2 dX4_why_54 rfl rfl ?_
        refine v_iald hC dX4_why_55 rfl rfl rfl (by first | decide | (simp only [vdn]; omega)) ⟨by first | omega | (simp only [mlen]; omega), by first | omega | (simp only [mlen]; omega)⟩ ?_
        try simp only [Int.toNat_natCast, upM_at, upM_nef, ne_eq, not_false_eq_true, Nat.reduceEqDiff, Nat.reduceAdd]
        refine v_icmp_ge hC 88 dX4_why_56 rfl (fun h56 => ?_) (fun h56 => ?_)
        · have hany : ¬ c = 0 ↔ (fnd (fun k => (mbnF μ p s k).isSome) 0 (μ 24 s).toNat).isSome = true := by
            rcases a2 with ⟨h1, h2⟩ | ⟨h1, h2⟩
            · rw [← h2, fnd_done (by omega)]
              exact ⟨fun h => absurd h1 h, fun h => by cases h⟩
            · exact ⟨fun _ => h2, fun _ => by omega⟩
          have hc2 : ¬ μ 33 ((p : Int)).toNat = (s : Int) := h30
          refine v_iload_n hC 3 dX4_why_88 rfl rfl ?_
          refine v_bipush hC dX4_why_89 ⟨by decide, by decide⟩ ?_
          refine v_icmp_ne hC 98 dX4_why_91 rfl (fun h91 => ?_) (fun h91 => ?_)
          · refine v_iload hC dX4_why_98 rfl ?_
            refine v_if_ne hC 107 dX4_why_100 rfl (fun h100 => ?_) (fun h100 => ?_)
            · refine v_aload_n hC 0 dX4_why_107 rfl rfl ?_
              refine v_iload_n hC 1 dX4_why_108 rfl rfl ?_
              refine v_callI1 hC (cwX4_110 hC ⟨Nat.le_of_ble_eq_true rfl, Nat.le_of_ble_eq_true rfl⟩) dX4_why_109 rfl rfl rfl (Nat.zero_le _) (Nat.zero_le _) (Nat.le_of_ble_eq_true rfl) (by first | decide | (simp only [vdn]; omega)) (cX4_own_ok p (upM μ 20 0 0) (by omega) hSm1) (fun r1 μ1 hp => ?_)
              obtain ⟨rfl, hr9⟩ := hp
              have hr9 : r1 = ownF (upM μ 20 0 0) p := hr9
              rw [eow] at hr9
              subst hr9
              refine v_iload_n hC 3 dX4_why_112 rfl rfl ?_
              refine v_icmp_ge hC 120 dX4_why_113 rfl (fun h113 => ?_) (fun h113 => ?_)
              · refine v_iconst hC dX4_why_120 ⟨by decide, by decide⟩ ?_
                exact v_iret hC hR dX4_why_121 (⟨_, rfl, rfl, by rw [mwhF, if_pos hc]; simp only [Int.toNat_natCast]; rw [if_neg h30, if_neg h91, if_pos (hany.1 h100), if_neg (by omega)]⟩)
              · refine v_iconst hC dX4_why_116 ⟨by decide, by decide⟩ ?_
                refine v_goto hC 121 dX4_why_117 rfl ?_
                exact v_iret hC hR dX4_why_121 (⟨_, rfl, rfl, by rw [mwhF, if_pos hc]; simp only [Int.toNat_natCast]; rw [if_neg h30, if_neg h91, if_pos (hany.1 h100), if_pos (by omega)]⟩)
            · refine v_iconst hC dX4_why_103 ⟨by decide, by decide⟩ ?_
              refine v_goto hC 121 dX4_why_104 rfl ?_
              exact v_iret hC hR dX4_why_121 (⟨_, rfl, rfl, by rw [mwhF, if_pos hc]; simp only [Int.toNat_natCast]; rw [if_neg h30, if_neg h91, if_neg (fun h => (hany.2 h) h100)]⟩)
          · refine v_iconst hC dX4_why_94 ⟨by decide, by decide⟩ ?_
            refine v_goto hC 121 dX4_why_95 rfl ?_
            exact v_iret hC hR dX4_why_121 (⟨_, rfl, rfl, by rw [mwhF, if_pos hc, if_neg hc2, if_pos (show o9 (mplF μ ((p : Int)).toNat s) = 9 from h91)]⟩)
        · refine v_iload hC dX4_why_59 rfl ?_
          refine v_if_ne hC 75 dX4_why_61 rfl (fun h61 => ?_) (fun h61 => ?_)
          · refine v_iconst hC dX4_why_75 ⟨by decide, by decide⟩ ?_
            refine v_goto hC 80 dX4_why_76 rfl ?_
            refine v_istore hC dX4_why_80 (Nat.le_of_ble_eq_true rfl) ?_
            refine v_iinc hC dX4_why_82 rfl ⟨by omega, by omega⟩ ?_
            refine v_goto hC 48 dX4_why_85 rfl ?_
            exact ih (k + 1) trivial (by omega) 1 (by omega) (Or.inr ⟨rfl, (a2.resolve_left (fun h => h61 h.1)).2⟩)
          · refine v_aload_n hC 0 dX4_why_64 rfl rfl ?_
            refine v_iload_n hC 1 dX4_why_65 rfl rfl ?_
            refine v_iload_n hC 2 dX4_why_66 rfl rfl ?_
            refine v_iload hC dX4_why_67 rfl ?_
            refine v_callI3 hC (cwX4_89 hC ⟨Nat.le_of_ble_eq_true rfl, Nat.le_of_ble_eq_true rfl⟩) dX4_why_69 rfl rfl rfl (Nat.zero_le _) (Nat.zero_le _) (Nat.le_of_ble_eq_true rfl) (by first | decide | (simp only [vdn]; omega)) (cX4_eligible_ok p s k (upM μ 20 0 0) (by omega) (by omega) (by omega)) (fun r1 μ1 hp => ?_)
            obtain ⟨rfl, rfl⟩ := hp
            refine v_if_eq hC 79 dX4_why_72 rfl (fun h72 => ?_) (fun h72 => ?_)
            · refine v_iconst hC dX4_why_79 ⟨by decide, by decide⟩ ?_
              refine v_istore hC dX4_why_80 (Nat.le_of_ble_eq_true rfl) ?_
              refine v_iinc hC dX4_why_82 rfl ⟨by omega, by omega⟩ ?_
              refine v_goto hC 48 dX4_why_85 rfl ?_
              rw [ebn] at h72
              exact ih (k + 1) trivial (by omega) 0 (by omega) (Or.inl ⟨rfl, fnd_next (by omega) (bI_z.1 h72) (a2.resolve_right (fun h => by omega)).2⟩)
            · refine v_iconst hC dX4_why_75 ⟨by decide, by decide⟩ ?_
              refine v_goto hC 80 dX4_why_76 rfl ?_
              refine v_istore hC dX4_why_80 (Nat.le_of_ble_eq_true rfl) ?_
              refine v_iinc hC dX4_why_82 rfl ⟨by omega, by omega⟩ ?_
              refine v_goto hC 48 dX4_why_85 rfl ?_
              rw [ebn] at h72
              exact ih (k + 1) trivial (by omega) 1 (by omega) (Or.inr ⟨rfl, by rw [← (a2.resolve_right (fun h => by omega)).2, fnd_yes (by omega) (bI_n.1 h72)]; rfl⟩)
      · refine v_iconst hC dX4_why_33 ⟨by decide, by decide⟩ ?_
        exact v_iret hC hR dX4_why_34 (⟨_, rfl, rfl, by rw [mwhF, if_pos hc, if_pos (show μ 33 ((p : Int)).toNat = (s : Int) from h30)]⟩)
    · refine v_iconst hC dX4_why_21 ⟨by decide, by decide⟩ ?_
      exact v_iret hC hR dX4_why_22 (⟨_, rfl, rfl, by rw [mwhF, if_neg (fun q => bI_z.1 h18 q.2)]⟩)
abbrev rmX4_envies : Room := { frames := 2, cells := 0, slots := 0, locals := 49 }
set_option maxRecDepth 100000 in
set_option maxHeartbeats 4000000 in
theorem cX4_envies_ok (a b : Int) (μ : MU) (hSm : Sm μ) (hkd : ∀ q : Nat, q < (μ 23 0).toNat → μ 33 q < 6 ∧ μ 34 q < 3) : CTi yX4_envies cX4_envies 5 (some .boolean) rmX4_envies [aR 12 0, aI a, aI b] μ (fun r μ' => menM μ a b = μ' ∧ r = menR μ a b) := by
  intro l9 b9 D9 K9
  refine met_of (by decide) (Nat.le_of_ble_eq_true rfl) (fun x hC hR hM hA => ?_)
  have hC : Ctx x RX4 cX4_envies rmX4_envies := hC
  have hSm0 := hSm
  obtain ⟨⟨s1, s2⟩, ⟨n1, n2⟩, hr, hkc, hq, hpp, hli, hnu⟩ := hSm
  refine v_aload_n hC 0 dX4_envies_0 rfl rfl ?_
  refine v_aload_n hC 0 dX4_envies_1 rfl rfl ?_
  refine v_iload_n hC 1 dX4_envies_2 rfl rfl ?_
  refine v_callI1 hC (cwX4_77 hC ⟨Nat.le_of_ble_eq_true rfl, Nat.le_of_ble_eq_true rfl⟩) dX4_envies_3 rfl rfl rfl (Nat.zero_le _) (Nat.zero_le _) (Nat.le_of_ble_eq_true rfl) (by first | decide | (simp only [vdn]; omega)) (cX4_isPupil_ok a μ) (fun r1 μ1 hp => ?_)
  obtain ⟨rfl, rfl⟩ := hp
  refine v_if_eq hC 21 dX4_envies_6 rfl (fun h6 => ?_) (fun h6 => ?_)
  · refine v_iconst hC dX4_envies_21 ⟨by decide, by decide⟩ ?_
    refine v_putI hC fwX4_59 dX4_envies_22 rfl rfl rfl (by decide) (by first | decide | (simp only [vdn]; omega)) ?_
    refine v_aload_n hC 0 dX4_envies_25 rfl rfl ?_
    refine v_getI hC foX4_59 dX4_envies_26 rfl rfl rfl (by first | decide | (simp only [vdn]; omega)) ?_
    try simp only [Int.toNat_natCast, upM_at, upM_nef, ne_eq, not_false_eq_true, Nat.reduceEqDiff, Nat.reduceAdd]
    refine v_if_le hC 34 dX4_envies_29 rfl (fun h29 => ?_) (fun h29 => ?_)
    · exfalso; omega
    · refine v_iconst hC dX4_envies_32 ⟨by decide, by decide⟩ ?_
      exact v_bret hC hR dX4_envies_33 (by omega) (⟨_, rfl, if_neg (fun q => bI_z.1 h6 q.1), (if_neg (fun q => bI_z.1 h6 q.1)).symm⟩)
  · refine v_aload_n hC 0 dX4_envies_9 rfl rfl ?_
    refine v_iload_n hC 2 dX4_envies_10 rfl rfl ?_
    refine v_callI1 hC (cwX4_77 hC ⟨Nat.le_of_ble_eq_true rfl, Nat.le_of_ble_eq_true rfl⟩) dX4_envies_11 rfl rfl rfl (Nat.zero_le _) (Nat.zero_le _) (Nat.le_of_ble_eq_true rfl) (by first | decide | (simp only [vdn]; omega)) (cX4_isPupil_ok b μ) (fun r1 μ1 hp => ?_)
    obtain ⟨rfl, rfl⟩ := hp
    refine v_if_eq hC 21 dX4_envies_14 rfl (fun h14 => ?_) (fun h14 => ?_)
    · refine v_iconst hC dX4_envies_21 ⟨by decide, by decide⟩ ?_
      refine v_putI hC fwX4_59 dX4_envies_22 rfl rfl rfl (by decide) (by first | decide | (simp only [vdn]; omega)) ?_
      refine v_aload_n hC 0 dX4_envies_25 rfl rfl ?_
      refine v_getI hC foX4_59 dX4_envies_26 rfl rfl rfl (by first | decide | (simp only [vdn]; omega)) ?_
      try simp only [Int.toNat_natCast, upM_at, upM_nef, ne_eq, not_false_eq_true, Nat.reduceEqDiff, Nat.reduceAdd]
      refine v_if_le hC 34 dX4_envies_29 rfl (fun h29 => ?_) (fun h29 => ?_)
      · exfalso; omega
      · refine v_iconst hC dX4_envies_32 ⟨by decide, by decide⟩ ?_
        exact v_bret hC hR dX4_envies_33 (by omega) (⟨_, rfl, if_neg (fun q => bI_z.1 h14 q.2), (if_neg (fun q => bI_z.1 h14 q.2)).symm⟩)
    · refine v_iconst hC dX4_envies_17 ⟨by decide, by decide⟩ ?_
      refine v_goto hC 22 dX4_envies_18 rfl ?_
      refine v_putI hC fwX4_59 dX4_envies_22 rfl rfl rfl (by decide) (by first | decide | (simp only [vdn]; omega)) ?_
      refine v_aload_n hC 0 dX4_envies_25 rfl rfl ?_
      refine v_getI hC foX4_59 dX4_envies_26 rfl rfl rfl (by first | decide | (simp only [vdn]; omega)) ?_
      try simp only [Int.toNat_natCast, upM_at, upM_nef, ne_eq, not_false_eq_true, Nat.reduceEqDiff, Nat.reduceAdd]
      refine v_if_le hC 34 dX4_envies_29 rfl (fun h29 => ?_) (fun h29 => ?_)
      · obtain ⟨p1, p2⟩ : mIP μ a := bI_n.1 h6
        obtain ⟨q1, q2⟩ : mIP μ b := bI_n.1 h14
        have hc : menC μ a b := ⟨⟨p1, p2⟩, ⟨q1, q2⟩⟩
        obtain ⟨pa, rfl⟩ := Int.eq_ofNat_of_zero_le p1
        obtain ⟨pb, rfl⟩ := Int.eq_ofNat_of_zero_le q1
        have hkb := hkd pb (by omega)
        refine v_aload_n hC 0 dX4_envies_34 rfl rfl ?_
        refine v_aload_n hC 0 dX4_envies_35 rfl rfl ?_
        refine v_getR hC foX4_38 dX4_envies_36 rfl rfl rfl (by decide) (by first | decide | (simp only [vdn]; omega)) ?_
        refine v_iload_n hC 2 dX4_envies_39 rfl rfl ?_
        refine v_iald hC dX4_envies_40 rfl rfl rfl (by first | decide | (simp only [vdn]; omega)) ⟨by first | omega | (simp only [mlen]; omega), by first | omega | (simp only [mlen]; omega)⟩ ?_
        try simp only [Int.toNat_natCast, upM_at, upM_nef, ne_eq, not_false_eq_true, Nat.reduceEqDiff, Nat.reduceAdd]
        refine v_if_lt hC 57 dX4_envies_41 rfl (fun h41 => ?_) (fun h41 => ?_)
        · refine v_iconst hC dX4_envies_57 ⟨by decide, by decide⟩ ?_
          refine v_putI hC fwX4_59 dX4_envies_58 rfl rfl rfl (by decide) (by first | decide | (simp only [vdn]; omega)) ?_
          refine v_aload_n hC 0 dX4_envies_61 rfl rfl ?_
          refine v_getI hC foX4_59 dX4_envies_62 rfl rfl rfl (by first | decide | (simp only [vdn]; omega)) ?_
          try simp only [Int.toNat_natCast, upM_at, upM_nef, ne_eq, not_false_eq_true, Nat.reduceEqDiff, Nat.reduceAdd]
          refine v_if_le hC 70 dX4_envies_65 rfl (fun h65 => ?_) (fun h65 => ?_)
          · exfalso; omega
          · refine v_iconst hC dX4_envies_68 ⟨by decide, by decide⟩ ?_
            exact v_bret hC hR dX4_envies_69 (by omega) (⟨_, rfl, by rw [menM, if_pos hc, if_neg (fun q => by have : 0 ≤ μ 33 pb := q.1; omega)], by rw [menR, if_pos hc, if_neg (fun q => by have : 0 ≤ μ 33 pb := q.1; omega)]⟩)
        · refine v_aload_n hC 0 dX4_envies_44 rfl rfl ?_
          refine v_getR hC foX4_41 dX4_envies_45 rfl rfl rfl (by decide) (by first | decide | (simp only [vdn]; omega)) ?_
          refine v_iload_n hC 2 dX4_envies_48 rfl rfl ?_
          refine v_iald hC dX4_envies_49 rfl rfl rfl (by first | decide | (simp only [vdn]; omega)) ⟨by first | omega | (simp only [mlen]; omega), by first | omega | (simp only [mlen]; omega)⟩ ?_
          try simp only [Int.toNat_natCast, upM_at, upM_nef, ne_eq, not_false_eq_true, Nat.reduceEqDiff, Nat.reduceAdd]
          refine v_if_lt hC 57 dX4_envies_50 rfl (fun h50 => ?_) (fun h50 => ?_)
          · refine v_iconst hC dX4_envies_57 ⟨by decide, by decide⟩ ?_
            refine v_putI hC fwX4_59 dX4_envies_58 rfl rfl rfl (by decide) (by first | decide | (simp only [vdn]; omega)) ?_
            refine v_aload_n hC 0 dX4_envies_61 rfl rfl ?_
            refine v_getI hC foX4_59 dX4_envies_62 rfl rfl rfl (by first | decide | (simp only [vdn]; omega)) ?_
            try simp only [Int.toNat_natCast, upM_at, upM_nef, ne_eq, not_false_eq_true, Nat.reduceEqDiff, Nat.reduceAdd]
            refine v_if_le hC 70 dX4_envies_65 rfl (fun h65 => ?_) (fun h65 => ?_)
            · exfalso; omega
            · refine v_iconst hC dX4_envies_68 ⟨by decide, by decide⟩ ?_
              exact v_bret hC hR dX4_envies_69 (by omega) (⟨_, rfl, by rw [menM, if_pos hc, if_neg (fun q => by have : 0 ≤ μ 34 pb := q.2; omega)], by rw [menR, if_pos hc, if_neg (fun q => by have : 0 ≤ μ 34 pb := q.2; omega)]⟩)
          · refine v_iconst hC dX4_envies_53 ⟨by decide, by decide⟩ ?_
            refine v_goto hC 58 dX4_envies_54 rfl ?_
            refine v_putI hC fwX4_59 dX4_envies_58 rfl rfl rfl (by decide) (by first | decide | (simp only [vdn]; omega)) ?_
            refine v_aload_n hC 0 dX4_envies_61 rfl rfl ?_
            refine v_getI hC foX4_59 dX4_envies_62 rfl rfl rfl (by first | decide | (simp only [vdn]; omega)) ?_
            try simp only [Int.toNat_natCast, upM_at, upM_nef, ne_eq, not_false_eq_true, Nat.reduceEqDiff, Nat.reduceAdd]
            refine v_if_le hC 70 dX4_envies_65 rfl (fun h65 => ?_) (fun h65 => ?_)
            · have hd : menD μ (pb : Int) := ⟨show 0 ≤ μ 33 pb by omega, show 0 ≤ μ 34 pb by omega⟩
              obtain ⟨s, hs⟩ := Int.eq_ofNat_of_zero_le (show 0 ≤ μ 33 pb by omega)
              obtain ⟨k, hk⟩ := Int.eq_ofNat_of_zero_le (show 0 ≤ μ 34 pb by omega)
              have hSm1 : Sm (upM (upM μ 20 0 0) 20 0 0) := (hSm0.up (by decide)).up (by decide)
              have epl : ∀ w, mplF (upM (upM μ 20 0 0) 20 0 0) pa w = mplF μ pa w := fun w => mplF_of (fun j => (upM_nef (by decide)).trans (upM_nef (by decide))) ((upM_nef (by decide)).trans (upM_nef (by decide)))
              have ebn : ∀ p s k, mbnF (upM (upM μ 20 0 0) 20 0 0) p s k = mbnF μ p s k := fun p s k => mbnF_of (fun j => (upM_nef (by decide)).trans (upM_nef (by decide))) ((upM_nef (by decide)).trans (upM_nef (by decide)))
              have erk : ∀ p s k, rkF (upM (upM μ 20 0 0) 20 0 0) p s k = rkF μ p s k := fun p s k => ((Fr.up (S := [20]) (Fr.up Fr.rf (by decide)) (by decide)).rk (by decide) p s k)
              have eow : ownF (upM (upM μ 20 0 0) 20 0 0) pa = ownF μ pa := ownF_of (fun j => (upM_nef (by decide)).trans (upM_nef (by decide))) ((upM_nef (by decide)).trans (upM_nef (by decide))) ((upM_nef (by decide)).trans (upM_nef (by decide)))
              have hP : menP μ (pa : Int) (pb : Int) ↔ (o9 (mplF μ pa s) < ownF μ pa ∧ (mbnF μ pa s k).isSome = true ∧ (mbnF μ pb s k).isSome = true ∧ rkF μ pa s k < rkF μ pb s k) := by
                unfold menP
                simp only [Int.toNat_natCast, hs, hk]
              refine v_aload_n hC 0 dX4_envies_70 rfl rfl ?_
              refine v_getR hC foX4_38 dX4_envies_71 rfl rfl rfl (by decide) (by first | decide | (simp only [vdn]; omega)) ?_
              refine v_iload_n hC 2 dX4_envies_74 rfl rfl ?_
              refine v_iald hC dX4_envies_75 rfl rfl rfl (by first | decide | (simp only [vdn]; omega)) ⟨by first | omega | (simp only [mlen]; omega), by first | omega | (simp only [mlen]; omega)⟩ ?_
              try simp only [Int.toNat_natCast, upM_at, upM_nef, ne_eq, not_false_eq_true, Nat.reduceEqDiff, Nat.reduceAdd]
              rw [hs]
              refine v_istore_n hC 3 dX4_envies_76 rfl (Nat.le_of_ble_eq_true rfl) ?_
              refine v_aload_n hC 0 dX4_envies_77 rfl rfl ?_
              refine v_getR hC foX4_41 dX4_envies_78 rfl rfl rfl (by decide) (by first | decide | (simp only [vdn]; omega)) ?_
              refine v_iload_n hC 2 dX4_envies_81 rfl rfl ?_
              refine v_iald hC dX4_envies_82 rfl rfl rfl (by first | decide | (simp only [vdn]; omega)) ⟨by first | omega | (simp only [mlen]; omega), by first | omega | (simp only [mlen]; omega)⟩ ?_
              try simp only [Int.toNat_natCast, upM_at, upM_nef, ne_eq, not_false_eq_true, Nat.reduceEqDiff, Nat.reduceAdd]
              rw [hk]
              refine v_istore hC dX4_envies_83 (Nat.le_of_ble_eq_true rfl) ?_
              refine v_aload_n hC 0 dX4_envies_85 rfl rfl ?_
              refine v_iload_n hC 1 dX4_envies_86 rfl rfl ?_
              refine v_iload_n hC 3 dX4_envies_87 rfl rfl ?_
              refine v_callI2 hC (cwX4_80 hC ⟨Nat.le_of_ble_eq_true rfl, Nat.le_of_ble_eq_true rfl⟩) dX4_envies_88 rfl rfl rfl (Nat.zero_le _) (Nat.zero_le _) (Nat.le_of_ble_eq_true rfl) (by first | decide | (simp only [vdn]; omega)) (cX4_place_ok pa s (upM (upM μ 20 0 0) 20 0 0) (by omega) hSm1) (fun r1 μ1 hp => ?_)
              obtain ⟨rfl, rfl⟩ := hp
              rw [epl]
              refine v_aload_n hC 0 dX4_envies_91 rfl rfl ?_
              refine v_iload_n hC 1 dX4_envies_92 rfl rfl ?_
              refine v_callI1 hC (cwX4_110 hC ⟨Nat.le_of_ble_eq_true rfl, Nat.le_of_ble_eq_true rfl⟩) dX4_envies_93 rfl rfl rfl (Nat.zero_le _) (Nat.zero_le _) (Nat.le_of_ble_eq_true rfl) (by first | decide | (simp only [vdn]; omega)) (cX4_own_ok pa (upM (upM μ 20 0 0) 20 0 0) (by omega) hSm1) (fun r1 μ1 hp => ?_)
              obtain ⟨rfl, hr9⟩ := hp
              have hr9 : r1 = ownF (upM (upM μ 20 0 0) 20 0 0) pa := hr9
              rw [eow] at hr9
              subst hr9
              refine v_icmp_ge hC 144 dX4_envies_96 rfl (fun h96 => ?_) (fun h96 => ?_)
              · refine v_iconst hC dX4_envies_144 ⟨by decide, by decide⟩ ?_
                exact v_bret hC hR dX4_envies_145 (by omega) (⟨_, rfl, by rw [menM, if_pos hc, if_pos hd], by rw [menR, if_pos hc, if_pos hd]; exact bI_f (fun q => by have := (hP.1 q).1; omega)⟩)
              · refine v_aload_n hC 0 dX4_envies_99 rfl rfl ?_
                refine v_iload_n hC 1 dX4_envies_100 rfl rfl ?_
                refine v_iload_n hC 3 dX4_envies_101 rfl rfl ?_
                refine v_iload hC dX4_envies_102 rfl ?_
                refine v_callI3 hC (cwX4_89 hC ⟨Nat.le_of_ble_eq_true rfl, Nat.le_of_ble_eq_true rfl⟩) dX4_envies_104 rfl rfl rfl (Nat.zero_le _) (Nat.zero_le _) (Nat.le_of_ble_eq_true rfl) (by first | decide | (simp only [vdn]; omega)) (cX4_eligible_ok pa s k (upM (upM μ 20 0 0) 20 0 0) (by omega) (by omega) (by omega)) (fun r1 μ1 hp => ?_)
                obtain ⟨rfl, rfl⟩ := hp
                rw [ebn]
                refine v_if_eq hC 144 dX4_envies_107 rfl (fun h107 => ?_) (fun h107 => ?_)
                · refine v_iconst hC dX4_envies_144 ⟨by decide, by decide⟩ ?_
                  exact v_bret hC hR dX4_envies_145 (by omega) (⟨_, rfl, by rw [menM, if_pos hc, if_pos hd], by rw [menR, if_pos hc, if_pos hd]; exact bI_f (fun q => bI_z.1 h107 (hP.1 q).2.1)⟩)
                · refine v_aload_n hC 0 dX4_envies_110 rfl rfl ?_
                  refine v_iload_n hC 2 dX4_envies_111 rfl rfl ?_
                  refine v_iload_n hC 3 dX4_envies_112 rfl rfl ?_
                  refine v_iload hC dX4_envies_113 rfl ?_
                  refine v_callI3 hC (cwX4_89 hC ⟨Nat.le_of_ble_eq_true rfl, Nat.le_of_ble_eq_true rfl⟩) dX4_envies_115 rfl rfl rfl (Nat.zero_le _) (Nat.zero_le _) (Nat.le_of_ble_eq_true rfl) (by first | decide | (simp only [vdn]; omega)) (cX4_eligible_ok pb s k (upM (upM μ 20 0 0) 20 0 0) (by omega) (by omega) (by omega)) (fun r1 μ1 hp => ?_)
                  obtain ⟨rfl, rfl⟩ := hp
                  rw [ebn]
                  refine v_if_eq hC 144 dX4_envies_118 rfl (fun h118 => ?_) (fun h118 => ?_)
                  · refine v_iconst hC dX4_envies_144 ⟨by decide, by decide⟩ ?_
                    exact v_bret hC hR dX4_envies_145 (by omega) (⟨_, rfl, by rw [menM, if_pos hc, if_pos hd], by rw [menR, if_pos hc, if_pos hd]; exact bI_f (fun q => bI_z.1 h118 (hP.1 q).2.2.1)⟩)
                  · refine v_aload_n hC 0 dX4_envies_121 rfl rfl ?_
                    refine v_iload_n hC 1 dX4_envies_122 rfl rfl ?_
                    refine v_iload_n hC 3 dX4_envies_123 rfl rfl ?_
                    refine v_iload hC dX4_envies_124 rfl ?_
                    refine v_callI3 hC (cwX4_93 hC ⟨Nat.le_of_ble_eq_true rfl, Nat.le_of_ble_eq_true rfl⟩) dX4_envies_126 rfl rfl rfl (Nat.zero_le _) (Nat.zero_le _) (Nat.le_of_ble_eq_true rfl) (by first | decide | (simp only [vdn]; omega)) (cX4_rank_ok pa s k (upM (upM μ 20 0 0) 20 0 0) (by omega) (by omega) (by omega) hSm1) (fun r1 μ1 hp => ?_)
                    obtain ⟨rfl, rfl⟩ := hp
                    rw [erk]
                    refine v_aload_n hC 0 dX4_envies_129 rfl rfl ?_
                    refine v_iload_n hC 2 dX4_envies_130 rfl rfl ?_
                    refine v_iload_n hC 3 dX4_envies_131 rfl rfl ?_
                    refine v_iload hC dX4_envies_132 rfl ?_
                    refine v_callI3 hC (cwX4_93 hC ⟨Nat.le_of_ble_eq_true rfl, Nat.le_of_ble_eq_true rfl⟩) dX4_envies_134 rfl rfl rfl (Nat.zero_le _) (Nat.zero_le _) (Nat.le_of_ble_eq_true rfl) (by first | decide | (simp only [vdn]; omega)) (cX4_rank_ok pb s k (upM (upM μ 20 0 0) 20 0 0) (by omega) (by omega) (by omega) hSm1) (fun r1 μ1 hp => ?_)
                    obtain ⟨rfl, rfl⟩ := hp
                    rw [erk]
                    refine v_icmp_ge hC 144 dX4_envies_137 rfl (fun h137 => ?_) (fun h137 => ?_)
                    · refine v_iconst hC dX4_envies_144 ⟨by decide, by decide⟩ ?_
                      exact v_bret hC hR dX4_envies_145 (by omega) (⟨_, rfl, by rw [menM, if_pos hc, if_pos hd], by rw [menR, if_pos hc, if_pos hd]; exact bI_f (fun q => by have := (hP.1 q).2.2.2; omega)⟩)
                    · refine v_iconst hC dX4_envies_140 ⟨by decide, by decide⟩ ?_
                      refine v_goto hC 145 dX4_envies_141 rfl ?_
                      exact v_bret hC hR dX4_envies_145 (by omega) (⟨_, rfl, by rw [menM, if_pos hc, if_pos hd], by rw [menR, if_pos hc, if_pos hd]; exact bI_t (hP.2 ⟨by omega, bI_n.1 h107, bI_n.1 h118, by omega⟩)⟩)
            · exfalso; omega
      · exfalso; omega
