/-! The office's calls that throw nothing. -/
theorem fin_f {α : Type} {P : Prop} [Decidable P] {a b : α} (h : ¬ P) : (if P then a else b) = b ∧ 0 = bI P := ⟨if_neg h, bI_f h⟩
theorem fin_t {α : Type} {P : Prop} [Decidable P] {a b : α} (h : P) : (if P then a else b) = a ∧ 1 = bI P := ⟨if_pos h, bI_t h⟩
def drF (μ : MU) (P S n : Int) : Option Nat := fnd (fun q => decide (¬ (q : Int) = P ∧ μ 12 (6 * q + S.toNat) = n)) 0 (μ 1 0).toNat
abbrev drP (μ : MU) (P S n : Int) : Prop := (isP μ P ∧ isS μ S ∧ 0 ≤ n ∧ n ≤ 999 ∧ μ 2 0 = 0) ∧ drF μ P S n = none
def drM (μ : MU) (P S n : Int) : MU := if drP μ P S n then upM μ 12 (6 * P.toNat + S.toNat) n else μ
abbrev apP (μ : MU) (P f : Int) : Prop := isP μ P ∧ 0 ≤ f ∧ f ≤ 15
def apM (μ : MU) (P f : Int) : MU := if apP μ P f then upM μ 13 P.toNat f else μ
abbrev stP (μ : MU) (P n : Int) : Prop := isP μ P ∧ 0 ≤ n ∧ n ≤ 4 ∧ ¬ μ 2 0 = 0 ∧ ¬ μ 18 P.toNat = 3
def stM (μ : MU) (P n : Int) : MU := if stP μ P n then upM μ 19 P.toNat n else μ
abbrev anC (μ : MU) (P : Int) : Prop := isP μ P ∧ ¬ μ 2 0 = 0 ∧ ¬ μ 18 P.toNat = 3
def anM (μ : MU) (P w : Int) : MU := if anC μ P then (if w = 0 then accM μ P.toNat else if w = 1 then decM μ P.toNat else if w = 2 then leaM μ P.toNat 3 else μ) else μ
def anR (μ : MU) (P w : Int) : Int := if anC μ P then (if w = 0 ∨ w = 1 then bI (mayP μ P.toNat) else if w = 2 then 1 else 0) else 0
def seF (μ : MU) (P w : Int) : Int := if isP μ P then (if w = 0 then μ 15 P.toNat else if w = 1 then μ 16 P.toNat else if w = 2 then μ 17 P.toNat else if w = 3 then μ 18 P.toNat else if w = 4 then μ 19 P.toNat else if w = 5 then μ 13 P.toNat else -1) else -1
def laF (μ : MU) (s k : Nat) : Int := (itr (maxS (fun p => decide (holdP μ p s k)) (fun p => stdF μ p s k)) 0 (μ 1 0).toNat (-1, -1)).1
def heF (μ : MU) (S K w : Int) : Int := if isS μ S ∧ 0 ≤ K ∧ K < μ 6 S.toNat then (if w = 0 then μ 9 (3 * S.toNat + K.toNat) else if w = 1 then cntF (fun p => decide (holdP μ p (S.toNat : Int) (K.toNat : Int))) (μ 1 0).toNat else if w = 2 then laF μ S.toNat K.toNat else -1) else -1
def whF (μ : MU) (P S : Int) : Int := if isP μ P ∧ isS μ S then (if μ 15 P.toNat = S then 0 else if oI (plF μ P.toNat S) = -1 then 1 else if (admF μ S.toNat (μ 13 P.toNat)).isSome = true then (if prefP μ P.toNat S then 4 else 3) else 2) else -1
def lkF (μ : MU) (w : Int) : Int := if w = 0 then μ 0 0 else if w = 1 then μ 1 0 else if w = 2 then (if μ 2 0 = 0 then 0 else 1) else if w = 3 then itr (fun p a => a + μ 17 p) 0 (μ 1 0).toNat (0 : Int) else if w = 4 then cntF (fun p => decide (¬ μ 15 p = -1)) (μ 1 0).toNat else -1
abbrev rmX3_draw : Room := { frames := 1, cells := 0, slots := 0, locals := 21 }
set_option maxRecDepth 100000 in
set_option maxHeartbeats 4000000 in
theorem cX3_draw_ok (P S n : Int) (μ : MU) (hSf : Sf μ) : CTi yX3_draw cX3_draw 5 (some .boolean) rmX3_draw [aR 0 0, aI P, aI S, aI n] μ (fun r μ' => drM μ P S n = μ' ∧ r = bI (drP μ P S n)) := by
  intro l9 b9 D9 K9
  refine met_of (by decide) (Nat.le_of_ble_eq_true rfl) (fun x hC hR hM hA => ?_)
  have hC : Ctx x RX3 cX3_draw rmX3_draw := hC
  obtain ⟨⟨s1, s2⟩, ⟨n1, n2⟩, hr, hkc, hq, hpp, hli, hnu⟩ := hSf
  refine v_aload_n hC 0 dX3_draw_0 rfl rfl ?_
  refine v_iload_n hC 1 dX3_draw_1 rfl rfl ?_
  refine v_callI1 hC (cwX3_78 hC ⟨Nat.le_of_ble_eq_true rfl, Nat.le_of_ble_eq_true rfl⟩) dX3_draw_2 rfl rfl rfl (Nat.zero_le _) (Nat.zero_le _) (Nat.le_of_ble_eq_true rfl) (by first | decide | (simp only [vdn]; omega)) (cX3_isPupil_ok P μ) (fun r1 μ1 hp => ?_)
  obtain ⟨rfl, rfl⟩ := hp
  refine v_if_eq hC 34 dX3_draw_5 rfl (fun h5 => ?_) (fun h5 => ?_)
  · refine v_iconst hC dX3_draw_34 ⟨by decide, by decide⟩ ?_
    exact v_bret hC hR dX3_draw_35 (by omega) (⟨_, rfl, fin_f (fun q => bI_z.1 h5 q.1.1)⟩)
  · refine v_aload_n hC 0 dX3_draw_8 rfl rfl ?_
    refine v_iload_n hC 2 dX3_draw_9 rfl rfl ?_
    refine v_callI1 hC (cwX3_43 hC ⟨Nat.le_of_ble_eq_true rfl, Nat.le_of_ble_eq_true rfl⟩) dX3_draw_10 rfl rfl rfl (Nat.zero_le _) (Nat.zero_le _) (Nat.le_of_ble_eq_true rfl) (by first | decide | (simp only [vdn]; omega)) (cX3_isSchool_ok S μ) (fun r1 μ1 hp => ?_)
    obtain ⟨rfl, rfl⟩ := hp
    refine v_if_eq hC 34 dX3_draw_13 rfl (fun h13 => ?_) (fun h13 => ?_)
    · refine v_iconst hC dX3_draw_34 ⟨by decide, by decide⟩ ?_
      exact v_bret hC hR dX3_draw_35 (by omega) (⟨_, rfl, fin_f (fun q => bI_z.1 h13 q.1.2.1)⟩)
    · refine v_iload_n hC 3 dX3_draw_16 rfl rfl ?_
      refine v_if_lt hC 34 dX3_draw_17 rfl (fun h17 => ?_) (fun h17 => ?_)
      · refine v_iconst hC dX3_draw_34 ⟨by decide, by decide⟩ ?_
        exact v_bret hC hR dX3_draw_35 (by omega) (⟨_, rfl, fin_f (fun q => by have := q.1.2.2.1; omega)⟩)
      · refine v_iload_n hC 3 dX3_draw_20 rfl rfl ?_
        refine v_sipush hC dX3_draw_21 ⟨by decide, by decide⟩ ?_
        refine v_icmp_gt hC 34 dX3_draw_24 rfl (fun h24 => ?_) (fun h24 => ?_)
        · refine v_iconst hC dX3_draw_34 ⟨by decide, by decide⟩ ?_
          exact v_bret hC hR dX3_draw_35 (by omega) (⟨_, rfl, fin_f (fun q => by have := q.1.2.2.2.1; omega)⟩)
        · refine v_aload_n hC 0 dX3_draw_27 rfl rfl ?_
          refine v_getI hC foX3_32 dX3_draw_28 rfl rfl rfl (by first | decide | (simp only [vdn]; omega)) ?_
          try simp only [Int.toNat_natCast, upM_at, upM_nef, ne_eq, not_false_eq_true, Nat.reduceEqDiff, Nat.reduceAdd]
          refine v_if_eq hC 36 dX3_draw_31 rfl (fun h31 => ?_) (fun h31 => ?_)
          · refine v_iconst hC dX3_draw_36 ⟨by decide, by decide⟩ ?_
            refine v_istore hC dX3_draw_37 (Nat.le_of_ble_eq_true rfl) ?_
            obtain ⟨p1, p2⟩ := bI_n.1 h5
            obtain ⟨q1, q2⟩ := bI_n.1 h13
            refine v_loop (fun i : Nat => (μ 1 0).toNat - i) (fun i => i ≤ 20 ∧ fnd (fun q => decide (¬ (q : Int) = P ∧ μ 12 (6 * q + S.toNat) = n)) i ((μ 1 0).toNat - i) = drF μ P S n) (fun i => V x 0 0 none 39 [some (aR 0 0), some (aI P), some (aI S), some (aI n), some (aI (i : Int))] [] μ) (fun i hi ih => ?_) 0 ⟨by decide, rfl⟩
            refine v_iload hC dX3_draw_39 rfl ?_
            refine v_aload_n hC 0 dX3_draw_41 rfl rfl ?_
            refine v_getI hC foX3_69 dX3_draw_42 rfl rfl rfl (by first | decide | (simp only [vdn]; omega)) ?_
            try simp only [Int.toNat_natCast, upM_at, upM_nef, ne_eq, not_false_eq_true, Nat.reduceEqDiff, Nat.reduceAdd]
            refine v_icmp_ge hC 78 dX3_draw_45 rfl (fun h45 => ?_) (fun h45 => ?_)
            · refine v_aload_n hC 0 dX3_draw_78 rfl rfl ?_
              refine v_getR hC foX3_18 dX3_draw_79 rfl rfl rfl (by decide) (by first | decide | (simp only [vdn]; omega)) ?_
              refine v_iload_n hC 1 dX3_draw_82 rfl rfl ?_
              refine v_aald hC dX3_draw_83 rfl rfl (fun _ => rfl) rfl (by decide) (by first | decide | (simp only [vdn]; omega)) ⟨by first | omega | (simp only [mlen]; omega), by first | omega | (simp only [mlen]; omega)⟩ ?_
              try simp only [Int.toNat_natCast, upM_at, upM_nef, ne_eq, not_false_eq_true, Nat.reduceEqDiff, Nat.reduceAdd]
              refine v_getR hC foX3_91 dX3_draw_84 rfl rfl rfl (by decide) (by first | decide | (simp only [vdn]; omega)) ?_
              refine v_iload_n hC 2 dX3_draw_87 rfl rfl ?_
              refine v_iload_n hC 3 dX3_draw_88 rfl rfl ?_
              refine v_iast hC dX3_draw_89 rfl rfl rfl (by decide) (by first | decide | (simp only [vdn]; omega)) ⟨by first | omega | (simp only [mlen]; omega), by first | omega | (simp only [mlen]; omega)⟩ ?_
              try simp only [Int.toNat_natCast, upM_at, upM_nef, ne_eq, not_false_eq_true, Nat.reduceEqDiff, Nat.reduceAdd]
              refine v_iconst hC dX3_draw_90 ⟨by decide, by decide⟩ ?_
              exact v_bret hC hR dX3_draw_91 (by omega) (⟨_, rfl, fin_t ⟨⟨⟨p1, p2⟩, ⟨q1, q2⟩, by omega, by omega, h31⟩, by rw [← hi.2, fnd_done (by omega)]⟩⟩)
            · refine v_iload hC dX3_draw_48 rfl ?_
              refine v_iload_n hC 1 dX3_draw_50 rfl rfl ?_
              refine v_icmp_eq hC 72 dX3_draw_51 rfl (fun h51 => ?_) (fun h51 => ?_)
              · refine v_iinc hC dX3_draw_72 rfl ⟨by omega, by omega⟩ ?_
                refine v_goto hC 39 dX3_draw_75 rfl ?_
                exact ih (i + 1) ⟨by omega, fnd_next (by omega) (fun h => (of_decide_eq_true h).1 h51) hi.2⟩ (by omega)
              · refine v_aload_n hC 0 dX3_draw_54 rfl rfl ?_
                refine v_getR hC foX3_18 dX3_draw_55 rfl rfl rfl (by decide) (by first | decide | (simp only [vdn]; omega)) ?_
                refine v_iload hC dX3_draw_58 rfl ?_
                refine v_aald hC dX3_draw_60 rfl rfl (fun _ => rfl) rfl (by decide) (by first | decide | (simp only [vdn]; omega)) ⟨by first | omega | (simp only [mlen]; omega), by first | omega | (simp only [mlen]; omega)⟩ ?_
                try simp only [Int.toNat_natCast, upM_at, upM_nef, ne_eq, not_false_eq_true, Nat.reduceEqDiff, Nat.reduceAdd]
                refine v_getR hC foX3_91 dX3_draw_61 rfl rfl rfl (by decide) (by first | decide | (simp only [vdn]; omega)) ?_
                refine v_iload_n hC 2 dX3_draw_64 rfl rfl ?_
                refine v_iald hC dX3_draw_65 rfl rfl rfl (by first | decide | (simp only [vdn]; omega)) ⟨by first | omega | (simp only [mlen]; omega), by first | omega | (simp only [mlen]; omega)⟩ ?_
                try simp only [Int.toNat_natCast, upM_at, upM_nef, ne_eq, not_false_eq_true, Nat.reduceEqDiff, Nat.reduceAdd]
                refine v_iload_n hC 3 dX3_draw_66 rfl rfl ?_
                refine v_icmp_ne hC 72 dX3_draw_67 rfl (fun h67 => ?_) (fun h67 => ?_)
                · refine v_iinc hC dX3_draw_72 rfl ⟨by omega, by omega⟩ ?_
                  refine v_goto hC 39 dX3_draw_75 rfl ?_
                  exact ih (i + 1) ⟨by omega, fnd_next (by omega) (fun h => h67 (of_decide_eq_true h).2) hi.2⟩ (by omega)
                · refine v_iconst hC dX3_draw_70 ⟨by decide, by decide⟩ ?_
                  exact v_bret hC hR dX3_draw_71 (by omega) (⟨_, rfl, fin_f (fun q => by have h9 := q.2; rw [← hi.2, fnd_yes (by omega) (decide_eq_true ⟨h51, h67⟩)] at h9; cases h9)⟩)
          · refine v_iconst hC dX3_draw_34 ⟨by decide, by decide⟩ ?_
            exact v_bret hC hR dX3_draw_35 (by omega) (⟨_, rfl, fin_f (fun q => h31 q.1.2.2.2.2)⟩)
abbrev rmX3_appeal : Room := { frames := 1, cells := 0, slots := 0, locals := 21 }
set_option maxRecDepth 100000 in
set_option maxHeartbeats 4000000 in
theorem cX3_appeal_ok (P f : Int) (μ : MU) (hSf : Sf μ) : CTi yX3_appeal cX3_appeal 3 (some .boolean) rmX3_appeal [aR 0 0, aI P, aI f] μ (fun r μ' => apM μ P f = μ' ∧ r = bI (apP μ P f)) := by
  intro l9 b9 D9 K9
  refine met_of (by decide) (Nat.le_of_ble_eq_true rfl) (fun x hC hR hM hA => ?_)
  have hC : Ctx x RX3 cX3_appeal rmX3_appeal := hC
  obtain ⟨⟨s1, s2⟩, ⟨n1, n2⟩, hr, hkc, hq, hpp, hli, hnu⟩ := hSf
  refine v_aload_n hC 0 dX3_appeal_0 rfl rfl ?_
  refine v_iload_n hC 1 dX3_appeal_1 rfl rfl ?_
  refine v_callI1 hC (cwX3_78 hC ⟨Nat.le_of_ble_eq_true rfl, Nat.le_of_ble_eq_true rfl⟩) dX3_appeal_2 rfl rfl rfl (Nat.zero_le _) (Nat.zero_le _) (Nat.le_of_ble_eq_true rfl) (by first | decide | (simp only [vdn]; omega)) (cX3_isPupil_ok P μ) (fun r1 μ1 hp => ?_)
  obtain ⟨rfl, rfl⟩ := hp
  refine v_if_eq hC 15 dX3_appeal_5 rfl (fun h5 => ?_) (fun h5 => ?_)
  · refine v_iconst hC dX3_appeal_15 ⟨by decide, by decide⟩ ?_
    exact v_bret hC hR dX3_appeal_16 (by omega) (⟨_, rfl, fin_f (fun q => bI_z.1 h5 q.1)⟩)
  · refine v_iload_n hC 2 dX3_appeal_8 rfl rfl ?_
    refine v_callSI1 hC (cwX3_66 hC ⟨Nat.le_of_ble_eq_true rfl, Nat.le_of_ble_eq_true rfl⟩) dX3_appeal_9 (Nat.zero_le _) (Nat.zero_le _) (Nat.le_of_ble_eq_true rfl) (cX3_areFlags_ok f μ) (fun r1 μ1 hp => ?_)
    obtain ⟨rfl, rfl⟩ := hp
    refine v_if_ne hC 17 dX3_appeal_12 rfl (fun h12 => ?_) (fun h12 => ?_)
    · obtain ⟨p1, p2⟩ := bI_n.1 h5
      refine v_aload_n hC 0 dX3_appeal_17 rfl rfl ?_
      refine v_getR hC foX3_18 dX3_appeal_18 rfl rfl rfl (by decide) (by first | decide | (simp only [vdn]; omega)) ?_
      refine v_iload_n hC 1 dX3_appeal_21 rfl rfl ?_
      refine v_aald hC dX3_appeal_22 rfl rfl (fun _ => rfl) rfl (by decide) (by first | decide | (simp only [vdn]; omega)) ⟨by first | omega | (simp only [mlen]; omega), by first | omega | (simp only [mlen]; omega)⟩ ?_
      try simp only [Int.toNat_natCast, upM_at, upM_nef, ne_eq, not_false_eq_true, Nat.reduceEqDiff, Nat.reduceAdd]
      refine v_iload_n hC 2 dX3_appeal_23 rfl rfl ?_
      refine v_putI hC fwX3_72 dX3_appeal_24 rfl rfl rfl (by decide) (by first | decide | (simp only [vdn]; omega)) ?_
      refine v_iconst hC dX3_appeal_27 ⟨by decide, by decide⟩ ?_
      exact v_bret hC hR dX3_appeal_28 (by omega) (⟨_, rfl, fin_t ⟨⟨p1, p2⟩, bI_n.1 h12⟩⟩)
    · refine v_iconst hC dX3_appeal_15 ⟨by decide, by decide⟩ ?_
      exact v_bret hC hR dX3_appeal_16 (by omega) (⟨_, rfl, fin_f (fun q => bI_z.1 h12 q.2)⟩)
abbrev rmX3_stay : Room := { frames := 1, cells := 0, slots := 0, locals := 21 }
set_option maxRecDepth 100000 in
set_option maxHeartbeats 4000000 in
theorem cX3_stay_ok (P n : Int) (μ : MU) (hSf : Sf μ) : CTi yX3_stay cX3_stay 3 (some .boolean) rmX3_stay [aR 0 0, aI P, aI n] μ (fun r μ' => stM μ P n = μ' ∧ r = bI (stP μ P n)) := by
  intro l9 b9 D9 K9
  refine met_of (by decide) (Nat.le_of_ble_eq_true rfl) (fun x hC hR hM hA => ?_)
  have hC : Ctx x RX3 cX3_stay rmX3_stay := hC
  obtain ⟨⟨s1, s2⟩, ⟨n1, n2⟩, hr, hkc, hq, hpp, hli, hnu⟩ := hSf
  refine v_aload_n hC 0 dX3_stay_0 rfl rfl ?_
  refine v_iload_n hC 1 dX3_stay_1 rfl rfl ?_
  refine v_callI1 hC (cwX3_78 hC ⟨Nat.le_of_ble_eq_true rfl, Nat.le_of_ble_eq_true rfl⟩) dX3_stay_2 rfl rfl rfl (Nat.zero_le _) (Nat.zero_le _) (Nat.le_of_ble_eq_true rfl) (by first | decide | (simp only [vdn]; omega)) (cX3_isPupil_ok P μ) (fun r1 μ1 hp => ?_)
  obtain ⟨rfl, rfl⟩ := hp
  refine v_if_eq hC 36 dX3_stay_5 rfl (fun h5 => ?_) (fun h5 => ?_)
  · refine v_iconst hC dX3_stay_36 ⟨by decide, by decide⟩ ?_
    exact v_bret hC hR dX3_stay_37 (by omega) (⟨_, rfl, fin_f (fun q => bI_z.1 h5 q.1)⟩)
  · refine v_iload_n hC 2 dX3_stay_8 rfl rfl ?_
    refine v_if_lt hC 36 dX3_stay_9 rfl (fun h9 => ?_) (fun h9 => ?_)
    · refine v_iconst hC dX3_stay_36 ⟨by decide, by decide⟩ ?_
      exact v_bret hC hR dX3_stay_37 (by omega) (⟨_, rfl, fin_f (fun q => by have := q.2.1; omega)⟩)
    · refine v_iload_n hC 2 dX3_stay_12 rfl rfl ?_
      refine v_iconst hC dX3_stay_13 ⟨by decide, by decide⟩ ?_
      refine v_icmp_gt hC 36 dX3_stay_14 rfl (fun h14 => ?_) (fun h14 => ?_)
      · refine v_iconst hC dX3_stay_36 ⟨by decide, by decide⟩ ?_
        exact v_bret hC hR dX3_stay_37 (by omega) (⟨_, rfl, fin_f (fun q => by have := q.2.2.1; omega)⟩)
      · refine v_aload_n hC 0 dX3_stay_17 rfl rfl ?_
        refine v_getI hC foX3_32 dX3_stay_18 rfl rfl rfl (by first | decide | (simp only [vdn]; omega)) ?_
        try simp only [Int.toNat_natCast, upM_at, upM_nef, ne_eq, not_false_eq_true, Nat.reduceEqDiff, Nat.reduceAdd]
        refine v_if_eq hC 36 dX3_stay_21 rfl (fun h21 => ?_) (fun h21 => ?_)
        · refine v_iconst hC dX3_stay_36 ⟨by decide, by decide⟩ ?_
          exact v_bret hC hR dX3_stay_37 (by omega) (⟨_, rfl, fin_f (fun q => q.2.2.2.1 h21)⟩)
        · obtain ⟨p1, p2⟩ := bI_n.1 h5
          refine v_aload_n hC 0 dX3_stay_24 rfl rfl ?_
          refine v_getR hC foX3_18 dX3_stay_25 rfl rfl rfl (by decide) (by first | decide | (simp only [vdn]; omega)) ?_
          refine v_iload_n hC 1 dX3_stay_28 rfl rfl ?_
          refine v_aald hC dX3_stay_29 rfl rfl (fun _ => rfl) rfl (by decide) (by first | decide | (simp only [vdn]; omega)) ⟨by first | omega | (simp only [mlen]; omega), by first | omega | (simp only [mlen]; omega)⟩ ?_
          try simp only [Int.toNat_natCast, upM_at, upM_nef, ne_eq, not_false_eq_true, Nat.reduceEqDiff, Nat.reduceAdd]
          refine v_callI0 hC (cwX3_104 hC ⟨Nat.le_of_ble_eq_true rfl, Nat.le_of_ble_eq_true rfl⟩) dX3_stay_30 rfl rfl rfl (Nat.zero_le _) (Nat.zero_le _) (Nat.le_of_ble_eq_true rfl) (by first | decide | (simp only [vdn]; omega)) (cX1_hasLeft_ok P.toNat μ (by omega)) (fun r1 μ1 hp => ?_)
          obtain ⟨rfl, rfl⟩ := hp
          refine v_if_eq hC 38 dX3_stay_33 rfl (fun h33 => ?_) (fun h33 => ?_)
          · refine v_aload_n hC 0 dX3_stay_38 rfl rfl ?_
            refine v_getR hC foX3_18 dX3_stay_39 rfl rfl rfl (by decide) (by first | decide | (simp only [vdn]; omega)) ?_
            refine v_iload_n hC 1 dX3_stay_42 rfl rfl ?_
            refine v_aald hC dX3_stay_43 rfl rfl (fun _ => rfl) rfl (by decide) (by first | decide | (simp only [vdn]; omega)) ⟨by first | omega | (simp only [mlen]; omega), by first | omega | (simp only [mlen]; omega)⟩ ?_
            try simp only [Int.toNat_natCast, upM_at, upM_nef, ne_eq, not_false_eq_true, Nat.reduceEqDiff, Nat.reduceAdd]
            refine v_iload_n hC 2 dX3_stay_44 rfl rfl ?_
            refine v_putI hC fwX3_117 dX3_stay_45 rfl rfl rfl (by decide) (by first | decide | (simp only [vdn]; omega)) ?_
            refine v_iconst hC dX3_stay_48 ⟨by decide, by decide⟩ ?_
            exact v_bret hC hR dX3_stay_49 (by omega) (⟨_, rfl, fin_t ⟨⟨p1, p2⟩, by omega, by omega, h21, bI_z.1 h33⟩⟩)
          · refine v_iconst hC dX3_stay_36 ⟨by decide, by decide⟩ ?_
            exact v_bret hC hR dX3_stay_37 (by omega) (⟨_, rfl, fin_f (fun q => q.2.2.2.2 (bI_n.1 h33))⟩)
abbrev rmX3_answer : Room := { frames := 3, cells := 0, slots := 0, locals := 62 }
set_option maxRecDepth 100000 in
set_option maxHeartbeats 4000000 in
theorem cX3_answer_ok (P w : Int) (μ : MU) (hSf : Sf μ) : CTi yX3_answer cX3_answer 4 (some .boolean) rmX3_answer [aR 0 0, aI P, aI w] μ (fun r μ' => anM μ P w = μ' ∧ r = anR μ P w) := by
  intro l9 b9 D9 K9
  refine met_of (by decide) (Nat.le_of_ble_eq_true rfl) (fun x hC hR hM hA => ?_)
  have hC : Ctx x RX3 cX3_answer rmX3_answer := hC
  obtain ⟨⟨s1, s2⟩, ⟨n1, n2⟩, hr, hkc, hq, hpp, hli, hnu⟩ := hSf
  refine v_aload_n hC 0 dX3_answer_0 rfl rfl ?_
  refine v_iload_n hC 1 dX3_answer_1 rfl rfl ?_
  refine v_callI1 hC (cwX3_78 hC ⟨Nat.le_of_ble_eq_true rfl, Nat.le_of_ble_eq_true rfl⟩) dX3_answer_2 rfl rfl rfl (Nat.zero_le _) (Nat.zero_le _) (Nat.le_of_ble_eq_true rfl) (by first | decide | (simp only [vdn]; omega)) (cX3_isPupil_ok P μ) (fun r1 μ1 hp => ?_)
  obtain ⟨rfl, rfl⟩ := hp
  refine v_if_eq hC 27 dX3_answer_5 rfl (fun h5 => ?_) (fun h5 => ?_)
  · refine v_iconst hC dX3_answer_27 ⟨by decide, by decide⟩ ?_
    exact v_bret hC hR dX3_answer_28 (by omega) (⟨_, rfl, if_neg (fun q => bI_z.1 h5 q.1), (if_neg (fun q => bI_z.1 h5 q.1)).symm⟩)
  · refine v_aload_n hC 0 dX3_answer_8 rfl rfl ?_
    refine v_getI hC foX3_32 dX3_answer_9 rfl rfl rfl (by first | decide | (simp only [vdn]; omega)) ?_
    try simp only [Int.toNat_natCast, upM_at, upM_nef, ne_eq, not_false_eq_true, Nat.reduceEqDiff, Nat.reduceAdd]
    refine v_if_eq hC 27 dX3_answer_12 rfl (fun h12 => ?_) (fun h12 => ?_)
    · refine v_iconst hC dX3_answer_27 ⟨by decide, by decide⟩ ?_
      exact v_bret hC hR dX3_answer_28 (by omega) (⟨_, rfl, if_neg (fun q => q.2.1 h12), (if_neg (fun q => q.2.1 h12)).symm⟩)
    · obtain ⟨p1, p2⟩ := bI_n.1 h5
      refine v_aload_n hC 0 dX3_answer_15 rfl rfl ?_
      refine v_getR hC foX3_18 dX3_answer_16 rfl rfl rfl (by decide) (by first | decide | (simp only [vdn]; omega)) ?_
      refine v_iload_n hC 1 dX3_answer_19 rfl rfl ?_
      refine v_aald hC dX3_answer_20 rfl rfl (fun _ => rfl) rfl (by decide) (by first | decide | (simp only [vdn]; omega)) ⟨by first | omega | (simp only [mlen]; omega), by first | omega | (simp only [mlen]; omega)⟩ ?_
      try simp only [Int.toNat_natCast, upM_at, upM_nef, ne_eq, not_false_eq_true, Nat.reduceEqDiff, Nat.reduceAdd]
      refine v_callI0 hC (cwX3_104 hC ⟨Nat.le_of_ble_eq_true rfl, Nat.le_of_ble_eq_true rfl⟩) dX3_answer_21 rfl rfl rfl (Nat.zero_le _) (Nat.zero_le _) (Nat.le_of_ble_eq_true rfl) (by first | decide | (simp only [vdn]; omega)) (cX1_hasLeft_ok P.toNat μ (by omega)) (fun r1 μ1 hp => ?_)
      obtain ⟨rfl, rfl⟩ := hp
      refine v_if_eq hC 29 dX3_answer_24 rfl (fun h24 => ?_) (fun h24 => ?_)
      · have hc : anC μ P := ⟨⟨p1, p2⟩, h12, bI_z.1 h24⟩
        refine v_aload_n hC 0 dX3_answer_29 rfl rfl ?_
        refine v_getR hC foX3_18 dX3_answer_30 rfl rfl rfl (by decide) (by first | decide | (simp only [vdn]; omega)) ?_
        refine v_iload_n hC 1 dX3_answer_33 rfl rfl ?_
        refine v_aald hC dX3_answer_34 rfl rfl (fun _ => rfl) rfl (by decide) (by first | decide | (simp only [vdn]; omega)) ⟨by first | omega | (simp only [mlen]; omega), by first | omega | (simp only [mlen]; omega)⟩ ?_
        try simp only [Int.toNat_natCast, upM_at, upM_nef, ne_eq, not_false_eq_true, Nat.reduceEqDiff, Nat.reduceAdd]
        refine v_astore_n hC 3 dX3_answer_35 rfl (Nat.le_of_ble_eq_true rfl) ?_
        refine v_iload_n hC 2 dX3_answer_36 rfl rfl ?_
        refine v_tsw hC dX3_answer_37 80 rfl (fun j => match j with | 0 => 64 | 1 => 69 | _ => 74) (fun j hj => by
          have hj : j < 3 := hj
          rcases (by omega : j = 0 ∨ j = 1 ∨ j = 2) with rfl | rfl | rfl <;> exact ⟨_, rfl, rfl⟩) rfl (fun h37 => ?_) (fun j hj h37 => ?_)
        · refine v_iconst hC dX3_answer_80 ⟨by decide, by decide⟩ ?_
          exact v_bret hC hR dX3_answer_81 (by omega) (⟨_, rfl, by rw [anM, if_pos hc, if_neg (by omega), if_neg (by omega), if_neg (by omega)], by rw [anR, if_pos hc, if_neg (by omega), if_neg (by omega)]⟩)
        · have hj : j < 3 := hj
          rcases (by omega : j = 0 ∨ j = 1 ∨ j = 2) with rfl | rfl | rfl
          · show V _ _ _ _ 64 _ _ _
            refine v_aload_n hC 3 dX3_answer_64 rfl rfl ?_
            refine v_callI0 hC (cwX3_108 hC ⟨Nat.le_of_ble_eq_true rfl, Nat.le_of_ble_eq_true rfl⟩) dX3_answer_65 rfl rfl rfl (Nat.zero_le _) (Nat.zero_le _) (Nat.le_of_ble_eq_true rfl) (by first | decide | (simp only [vdn]; omega)) (cX1_accept_ok P.toNat μ (by omega)) (fun r1 μ1 hp => ?_)
            obtain ⟨rfl, rfl⟩ := hp
            exact v_bret hC hR dX3_answer_68 bI_01 (⟨_, rfl, by rw [anM, if_pos hc, if_pos (by omega)], by rw [anR, if_pos hc, if_pos (Or.inl (by omega))]⟩)
          · show V _ _ _ _ 69 _ _ _
            refine v_aload_n hC 3 dX3_answer_69 rfl rfl ?_
            refine v_callI0 hC (cwX3_111 hC ⟨Nat.le_of_ble_eq_true rfl, Nat.le_of_ble_eq_true rfl⟩) dX3_answer_70 rfl rfl rfl (Nat.zero_le _) (Nat.zero_le _) (Nat.le_of_ble_eq_true rfl) (by first | decide | (simp only [vdn]; omega)) (cX1_decline_ok P.toNat μ (by omega)) (fun r1 μ1 hp => ?_)
            obtain ⟨rfl, rfl⟩ := hp
            exact v_bret hC hR dX3_answer_73 bI_01 (⟨_, rfl, by rw [anM, if_pos hc, if_neg (by omega), if_pos (by omega)], by rw [anR, if_pos hc, if_pos (Or.inr (by omega))]⟩)
          · show V _ _ _ _ 74 _ _ _
            refine v_aload_n hC 3 dX3_answer_74 rfl rfl ?_
            refine v_callV0 hC (cwX3_114 hC ⟨Nat.le_of_ble_eq_true rfl, Nat.le_of_ble_eq_true rfl⟩) dX3_answer_75 rfl rfl rfl (Nat.zero_le _) (Nat.zero_le _) (Nat.le_of_ble_eq_true rfl) (by first | decide | (simp only [vdn]; omega)) (cX1_leave_ok P.toNat μ (by omega)) (fun μ1 hp => ?_)
            subst hp
            refine v_iconst hC dX3_answer_78 ⟨by decide, by decide⟩ ?_
            exact v_bret hC hR dX3_answer_79 (by omega) (⟨_, rfl, by rw [anM, if_pos hc, if_neg (by omega), if_neg (by omega), if_pos (by omega)], by rw [anR, if_pos hc, if_neg (by omega), if_pos (by omega)]⟩)
      · refine v_iconst hC dX3_answer_27 ⟨by decide, by decide⟩ ?_
        exact v_bret hC hR dX3_answer_28 (by omega) (⟨_, rfl, if_neg (fun q => q.2.2 (bI_n.1 h24)), (if_neg (fun q => q.2.2 (bI_n.1 h24))).symm⟩)
abbrev rmX3_seat : Room := { frames := 1, cells := 0, slots := 0, locals := 21 }
set_option maxRecDepth 100000 in
set_option maxHeartbeats 4000000 in
theorem cX3_seat_ok (P w : Int) (μ : MU) (hSf : Sf μ) : CTi yX3_seat cX3_seat 4 (some .int) rmX3_seat [aR 0 0, aI P, aI w] μ (fun r μ' => μ = μ' ∧ r = seF μ P w) := by
  intro l9 b9 D9 K9
  refine met_of (by decide) (Nat.le_of_ble_eq_true rfl) (fun x hC hR hM hA => ?_)
  have hC : Ctx x RX3 cX3_seat rmX3_seat := hC
  obtain ⟨⟨s1, s2⟩, ⟨n1, n2⟩, hr, hkc, hq, hpp, hli, hnu⟩ := hSf
  refine v_aload_n hC 0 dX3_seat_0 rfl rfl ?_
  refine v_iload_n hC 1 dX3_seat_1 rfl rfl ?_
  refine v_callI1 hC (cwX3_78 hC ⟨Nat.le_of_ble_eq_true rfl, Nat.le_of_ble_eq_true rfl⟩) dX3_seat_2 rfl rfl rfl (Nat.zero_le _) (Nat.zero_le _) (Nat.le_of_ble_eq_true rfl) (by first | decide | (simp only [vdn]; omega)) (cX3_isPupil_ok P μ) (fun r1 μ1 hp => ?_)
  obtain ⟨rfl, rfl⟩ := hp
  refine v_if_ne hC 10 dX3_seat_5 rfl (fun h5 => ?_) (fun h5 => ?_)
  · obtain ⟨p1, p2⟩ := bI_n.1 h5
    refine v_aload_n hC 0 dX3_seat_10 rfl rfl ?_
    refine v_getR hC foX3_18 dX3_seat_11 rfl rfl rfl (by decide) (by first | decide | (simp only [vdn]; omega)) ?_
    refine v_iload_n hC 1 dX3_seat_14 rfl rfl ?_
    refine v_aald hC dX3_seat_15 rfl rfl (fun _ => rfl) rfl (by decide) (by first | decide | (simp only [vdn]; omega)) ⟨by first | omega | (simp only [mlen]; omega), by first | omega | (simp only [mlen]; omega)⟩ ?_
    try simp only [Int.toNat_natCast, upM_at, upM_nef, ne_eq, not_false_eq_true, Nat.reduceEqDiff, Nat.reduceAdd]
    refine v_astore_n hC 3 dX3_seat_16 rfl (Nat.le_of_ble_eq_true rfl) ?_
    refine v_iload_n hC 2 dX3_seat_17 rfl rfl ?_
    refine v_tsw hC dX3_seat_18 86 rfl (fun j => match j with | 0 => 56 | 1 => 61 | 2 => 66 | 3 => 71 | 4 => 76 | _ => 81) (fun j hj => by
      have hj : j < 6 := hj
      rcases (by omega : j = 0 ∨ j = 1 ∨ j = 2 ∨ j = 3 ∨ j = 4 ∨ j = 5) with rfl | rfl | rfl | rfl | rfl | rfl <;> exact ⟨_, rfl, rfl⟩) rfl (fun h18 => ?_) (fun j hj h18 => ?_)
    · refine v_iconst hC dX3_seat_86 ⟨by decide, by decide⟩ ?_
      exact v_iret hC hR dX3_seat_87 (⟨_, rfl, rfl, by rw [seF, if_pos ⟨p1, p2⟩, if_neg (by omega), if_neg (by omega), if_neg (by omega), if_neg (by omega), if_neg (by omega), if_neg (by omega)]⟩)
    · have hj : j < 6 := hj
      rcases (by omega : j = 0 ∨ j = 1 ∨ j = 2 ∨ j = 3 ∨ j = 4 ∨ j = 5) with rfl | rfl | rfl | rfl | rfl | rfl
      · show V _ _ _ _ 56 _ _ _
        refine v_aload_n hC 3 dX3_seat_56 rfl rfl ?_
        refine v_getI hC foX3_123 dX3_seat_57 rfl rfl rfl (by first | decide | (simp only [vdn]; omega)) ?_
        try simp only [Int.toNat_natCast, upM_at, upM_nef, ne_eq, not_false_eq_true, Nat.reduceEqDiff, Nat.reduceAdd]
        exact v_iret hC hR dX3_seat_60 (⟨_, rfl, rfl, by rw [seF, if_pos ⟨p1, p2⟩, if_pos (by omega)]⟩)
      · show V _ _ _ _ 61 _ _ _
        refine v_aload_n hC 3 dX3_seat_61 rfl rfl ?_
        refine v_getI hC foX3_130 dX3_seat_62 rfl rfl rfl (by first | decide | (simp only [vdn]; omega)) ?_
        try simp only [Int.toNat_natCast, upM_at, upM_nef, ne_eq, not_false_eq_true, Nat.reduceEqDiff, Nat.reduceAdd]
        exact v_iret hC hR dX3_seat_65 (⟨_, rfl, rfl, by rw [seF, if_pos ⟨p1, p2⟩, if_neg (by omega), if_pos (by omega)]⟩)
      · show V _ _ _ _ 66 _ _ _
        refine v_aload_n hC 3 dX3_seat_66 rfl rfl ?_
        refine v_getI hC foX3_133 dX3_seat_67 rfl rfl rfl (by first | decide | (simp only [vdn]; omega)) ?_
        try simp only [Int.toNat_natCast, upM_at, upM_nef, ne_eq, not_false_eq_true, Nat.reduceEqDiff, Nat.reduceAdd]
        exact v_iret hC hR dX3_seat_70 (⟨_, rfl, rfl, by rw [seF, if_pos ⟨p1, p2⟩, if_neg (by omega), if_neg (by omega), if_pos (by omega)]⟩)
      · show V _ _ _ _ 71 _ _ _
        refine v_aload_n hC 3 dX3_seat_71 rfl rfl ?_
        refine v_getI hC foX3_136 dX3_seat_72 rfl rfl rfl (by first | decide | (simp only [vdn]; omega)) ?_
        try simp only [Int.toNat_natCast, upM_at, upM_nef, ne_eq, not_false_eq_true, Nat.reduceEqDiff, Nat.reduceAdd]
        exact v_iret hC hR dX3_seat_75 (⟨_, rfl, rfl, by rw [seF, if_pos ⟨p1, p2⟩, if_neg (by omega), if_neg (by omega), if_neg (by omega), if_pos (by omega)]⟩)
      · show V _ _ _ _ 76 _ _ _
        refine v_aload_n hC 3 dX3_seat_76 rfl rfl ?_
        refine v_getI hC foX3_117 dX3_seat_77 rfl rfl rfl (by first | decide | (simp only [vdn]; omega)) ?_
        try simp only [Int.toNat_natCast, upM_at, upM_nef, ne_eq, not_false_eq_true, Nat.reduceEqDiff, Nat.reduceAdd]
        exact v_iret hC hR dX3_seat_80 (⟨_, rfl, rfl, by rw [seF, if_pos ⟨p1, p2⟩, if_neg (by omega), if_neg (by omega), if_neg (by omega), if_neg (by omega), if_pos (by omega)]⟩)
      · show V _ _ _ _ 81 _ _ _
        refine v_aload_n hC 3 dX3_seat_81 rfl rfl ?_
        refine v_getI hC foX3_72 dX3_seat_82 rfl rfl rfl (by first | decide | (simp only [vdn]; omega)) ?_
        try simp only [Int.toNat_natCast, upM_at, upM_nef, ne_eq, not_false_eq_true, Nat.reduceEqDiff, Nat.reduceAdd]
        exact v_iret hC hR dX3_seat_85 (⟨_, rfl, rfl, by rw [seF, if_pos ⟨p1, p2⟩, if_neg (by omega), if_neg (by omega), if_neg (by omega), if_neg (by omega), if_neg (by omega), if_pos (by omega)]⟩)
  · refine v_iconst hC dX3_seat_8 ⟨by decide, by decide⟩ ?_
    exact v_iret hC hR dX3_seat_9 (⟨_, rfl, rfl, by rw [seF, if_neg (bI_z.1 h5)]⟩)
abbrev rmX3_held : Room := { frames := 3, cells := 0, slots := 0, locals := 74 }
set_option maxRecDepth 100000 in
set_option maxHeartbeats 4000000 in
theorem cX3_held_ok (S K w : Int) (μ : MU) (hSf : Sf μ) : CTi yX3_held cX3_held 4 (some .int) rmX3_held [aR 0 0, aI S, aI K, aI w] μ (fun r μ' => μ = μ' ∧ r = heF μ S K w) := by
  intro l9 b9 D9 K9
  refine met_of (by decide) (Nat.le_of_ble_eq_true rfl) (fun x hC hR hM hA => ?_)
  have hC : Ctx x RX3 cX3_held rmX3_held := hC
  have hSf0 := hSf
  obtain ⟨⟨s1, s2⟩, ⟨n1, n2⟩, hr, hkc, hq, hpp, hli, hnu⟩ := hSf
  refine v_aload_n hC 0 dX3_held_0 rfl rfl ?_
  refine v_iload_n hC 1 dX3_held_1 rfl rfl ?_
  refine v_callI1 hC (cwX3_43 hC ⟨Nat.le_of_ble_eq_true rfl, Nat.le_of_ble_eq_true rfl⟩) dX3_held_2 rfl rfl rfl (Nat.zero_le _) (Nat.zero_le _) (Nat.le_of_ble_eq_true rfl) (by first | decide | (simp only [vdn]; omega)) (cX3_isSchool_ok S μ) (fun r1 μ1 hp => ?_)
  obtain ⟨rfl, rfl⟩ := hp
  refine v_if_eq hC 25 dX3_held_5 rfl (fun h5 => ?_) (fun h5 => ?_)
  · refine v_iconst hC dX3_held_25 ⟨by decide, by decide⟩ ?_
    exact v_iret hC hR dX3_held_26 (⟨_, rfl, rfl, by rw [heF, if_neg (fun q => bI_z.1 h5 q.1)]⟩)
  · refine v_iload_n hC 2 dX3_held_8 rfl rfl ?_
    refine v_if_lt hC 25 dX3_held_9 rfl (fun h9 => ?_) (fun h9 => ?_)
    · refine v_iconst hC dX3_held_25 ⟨by decide, by decide⟩ ?_
      exact v_iret hC hR dX3_held_26 (⟨_, rfl, rfl, by rw [heF, if_neg (fun q => by have := q.2.1; omega)]⟩)
    · obtain ⟨p1, p2⟩ := bI_n.1 h5
      refine v_iload_n hC 2 dX3_held_12 rfl rfl ?_
      refine v_aload_n hC 0 dX3_held_13 rfl rfl ?_
      refine v_getR hC foX3_11 dX3_held_14 rfl rfl rfl (by decide) (by first | decide | (simp only [vdn]; omega)) ?_
      refine v_iload_n hC 1 dX3_held_17 rfl rfl ?_
      refine v_aald hC dX3_held_18 rfl rfl (fun _ => rfl) rfl (by decide) (by first | decide | (simp only [vdn]; omega)) ⟨by first | omega | (simp only [mlen]; omega), by first | omega | (simp only [mlen]; omega)⟩ ?_
      try simp only [Int.toNat_natCast, upM_at, upM_nef, ne_eq, not_false_eq_true, Nat.reduceEqDiff, Nat.reduceAdd]
      refine v_getI hC foX3_50 dX3_held_19 rfl rfl rfl (by first | decide | (simp only [vdn]; omega)) ?_
      try simp only [Int.toNat_natCast, upM_at, upM_nef, ne_eq, not_false_eq_true, Nat.reduceEqDiff, Nat.reduceAdd]
      refine v_icmp_lt hC 27 dX3_held_22 rfl (fun h22 => ?_) (fun h22 => ?_)
      · have hc : isS μ S ∧ 0 ≤ K ∧ K < μ 6 S.toNat := ⟨⟨p1, p2⟩, by omega, by omega⟩
        have hk1 := hkc S.toNat (by omega)
        obtain ⟨s, rfl⟩ := Int.eq_ofNat_of_zero_le p1
        obtain ⟨k, rfl⟩ := Int.eq_ofNat_of_zero_le (show 0 ≤ K by omega)
        simp only [Int.toNat_natCast] at hk1 h22
        refine v_iload_n hC 3 dX3_held_27 rfl rfl ?_
        refine v_tsw hC dX3_held_28 85 rfl (fun j => match j with | 0 => 56 | 1 => 71 | _ => 78) (fun j hj => by
          have hj : j < 3 := hj
          rcases (by omega : j = 0 ∨ j = 1 ∨ j = 2) with rfl | rfl | rfl <;> exact ⟨_, rfl, rfl⟩) rfl (fun h28 => ?_) (fun j hj h28 => ?_)
        · refine v_iconst hC dX3_held_85 ⟨by decide, by decide⟩ ?_
          exact v_iret hC hR dX3_held_86 (⟨_, rfl, rfl, by rw [heF, if_pos hc, if_neg (by omega), if_neg (by omega), if_neg (by omega)] <;> rfl⟩)
        · have hj : j < 3 := hj
          rcases (by omega : j = 0 ∨ j = 1 ∨ j = 2) with rfl | rfl | rfl
          · show V _ _ _ _ 56 _ _ _
            refine v_aload_n hC 0 dX3_held_56 rfl rfl ?_
            refine v_getR hC foX3_11 dX3_held_57 rfl rfl rfl (by decide) (by first | decide | (simp only [vdn]; omega)) ?_
            refine v_iload_n hC 1 dX3_held_60 rfl rfl ?_
            refine v_aald hC dX3_held_61 rfl rfl (fun _ => rfl) rfl (by decide) (by first | decide | (simp only [vdn]; omega)) ⟨by first | omega | (simp only [mlen]; omega), by first | omega | (simp only [mlen]; omega)⟩ ?_
            try simp only [Int.toNat_natCast, upM_at, upM_nef, ne_eq, not_false_eq_true, Nat.reduceEqDiff, Nat.reduceAdd]
            refine v_getR hC foX3_53 dX3_held_62 rfl rfl rfl (by decide) (by first | decide | (simp only [vdn]; omega)) ?_
            refine v_iload_n hC 2 dX3_held_65 rfl rfl ?_
            refine v_aald hC dX3_held_66 rfl rfl (fun _ => rfl) rfl (by decide) (by first | decide | (simp only [vdn]; omega)) ⟨by first | omega | (simp only [mlen]; omega), by first | omega | (simp only [mlen]; omega)⟩ ?_
            try simp only [Int.toNat_natCast, upM_at, upM_nef, ne_eq, not_false_eq_true, Nat.reduceEqDiff, Nat.reduceAdd]
            refine v_getI hC foX3_57 dX3_held_67 rfl rfl rfl (by first | decide | (simp only [vdn]; omega)) ?_
            try simp only [Int.toNat_natCast, upM_at, upM_nef, ne_eq, not_false_eq_true, Nat.reduceEqDiff, Nat.reduceAdd]
            exact v_iret hC hR dX3_held_70 (⟨_, rfl, rfl, by rw [heF, if_pos hc, if_pos (by omega)] <;> rfl⟩)
          · show V _ _ _ _ 71 _ _ _
            refine v_aload_n hC 0 dX3_held_71 rfl rfl ?_
            refine v_iload_n hC 1 dX3_held_72 rfl rfl ?_
            refine v_iload_n hC 2 dX3_held_73 rfl rfl ?_
            refine v_callI2 hC (cwX3_139 hC ⟨Nat.le_of_ble_eq_true rfl, Nat.le_of_ble_eq_true rfl⟩) dX3_held_74 rfl rfl rfl (Nat.zero_le _) (Nat.zero_le _) (Nat.le_of_ble_eq_true rfl) (by first | decide | (simp only [vdn]; omega)) (cX3_countHolders_ok s k μ hSf0) (fun r1 μ1 hp => ?_)
            obtain ⟨rfl, rfl⟩ := hp
            exact v_iret hC hR dX3_held_77 (⟨_, rfl, rfl, by rw [heF, if_pos hc, if_neg (by omega), if_pos (by omega)] <;> rfl⟩)
          · show V _ _ _ _ 78 _ _ _
            refine v_aload_n hC 0 dX3_held_78 rfl rfl ?_
            refine v_iload_n hC 1 dX3_held_79 rfl rfl ?_
            refine v_iload_n hC 2 dX3_held_80 rfl rfl ?_
            refine v_callI2 hC (cwX3_143 hC ⟨Nat.le_of_ble_eq_true rfl, Nat.le_of_ble_eq_true rfl⟩) dX3_held_81 rfl rfl rfl (Nat.zero_le _) (Nat.zero_le _) (Nat.le_of_ble_eq_true rfl) (by first | decide | (simp only [vdn]; omega)) (cX3_lastHolder_ok s k μ (by omega) (by omega) hSf0) (fun r1 μ1 hp => ?_)
            obtain ⟨rfl, rfl⟩ := hp
            exact v_iret hC hR dX3_held_84 (⟨_, rfl, rfl, by rw [heF, if_pos hc, if_neg (by omega), if_neg (by omega), if_pos (by omega)] <;> rfl⟩)
      · refine v_iconst hC dX3_held_25 ⟨by decide, by decide⟩ ?_
        exact v_iret hC hR dX3_held_26 (⟨_, rfl, rfl, by rw [heF, if_neg (fun q => by have := q.2.2; omega)]⟩)
abbrev rmX3_why : Room := { frames := 2, cells := 0, slots := 0, locals := 44 }
set_option maxRecDepth 100000 in
set_option maxHeartbeats 4000000 in
theorem cX3_why_ok (P S : Int) (μ : MU) (hSf : Sf μ) : CTi yX3_why cX3_why 4 (some .int) rmX3_why [aR 0 0, aI P, aI S] μ (fun r μ' => μ = μ' ∧ r = whF μ P S) := by
  intro l9 b9 D9 K9
  refine met_of (by decide) (Nat.le_of_ble_eq_true rfl) (fun x hC hR hM hA => ?_)
  have hC : Ctx x RX3 cX3_why rmX3_why := hC
  obtain ⟨⟨s1, s2⟩, ⟨n1, n2⟩, hr, hkc, hq, hpp, hli, hnu⟩ := hSf
  refine v_aload_n hC 0 dX3_why_0 rfl rfl ?_
  refine v_iload_n hC 1 dX3_why_1 rfl rfl ?_
  refine v_callI1 hC (cwX3_78 hC ⟨Nat.le_of_ble_eq_true rfl, Nat.le_of_ble_eq_true rfl⟩) dX3_why_2 rfl rfl rfl (Nat.zero_le _) (Nat.zero_le _) (Nat.le_of_ble_eq_true rfl) (by first | decide | (simp only [vdn]; omega)) (cX3_isPupil_ok P μ) (fun r1 μ1 hp => ?_)
  obtain ⟨rfl, rfl⟩ := hp
  refine v_if_eq hC 16 dX3_why_5 rfl (fun h5 => ?_) (fun h5 => ?_)
  · refine v_iconst hC dX3_why_16 ⟨by decide, by decide⟩ ?_
    exact v_iret hC hR dX3_why_17 (⟨_, rfl, rfl, by rw [whF, if_neg (fun q => bI_z.1 h5 q.1)]⟩)
  · refine v_aload_n hC 0 dX3_why_8 rfl rfl ?_
    refine v_iload_n hC 2 dX3_why_9 rfl rfl ?_
    refine v_callI1 hC (cwX3_43 hC ⟨Nat.le_of_ble_eq_true rfl, Nat.le_of_ble_eq_true rfl⟩) dX3_why_10 rfl rfl rfl (Nat.zero_le _) (Nat.zero_le _) (Nat.le_of_ble_eq_true rfl) (by first | decide | (simp only [vdn]; omega)) (cX3_isSchool_ok S μ) (fun r1 μ1 hp => ?_)
    obtain ⟨rfl, rfl⟩ := hp
    refine v_if_ne hC 18 dX3_why_13 rfl (fun h13 => ?_) (fun h13 => ?_)
    · have hc : isP μ P ∧ isS μ S := ⟨bI_n.1 h5, bI_n.1 h13⟩
      obtain ⟨p1, p2⟩ := bI_n.1 h5
      obtain ⟨q1, q2⟩ := bI_n.1 h13
      have hp1 := hpp P.toNat (by omega)
      have hk1 := hkc S.toNat (by omega)
      refine v_aload_n hC 0 dX3_why_18 rfl rfl ?_
      refine v_getR hC foX3_18 dX3_why_19 rfl rfl rfl (by decide) (by first | decide | (simp only [vdn]; omega)) ?_
      refine v_iload_n hC 1 dX3_why_22 rfl rfl ?_
      refine v_aald hC dX3_why_23 rfl rfl (fun _ => rfl) rfl (by decide) (by first | decide | (simp only [vdn]; omega)) ⟨by first | omega | (simp only [mlen]; omega), by first | omega | (simp only [mlen]; omega)⟩ ?_
      try simp only [Int.toNat_natCast, upM_at, upM_nef, ne_eq, not_false_eq_true, Nat.reduceEqDiff, Nat.reduceAdd]
      refine v_astore_n hC 3 dX3_why_24 rfl (Nat.le_of_ble_eq_true rfl) ?_
      refine v_aload_n hC 3 dX3_why_25 rfl rfl ?_
      refine v_getI hC foX3_123 dX3_why_26 rfl rfl rfl (by first | decide | (simp only [vdn]; omega)) ?_
      try simp only [Int.toNat_natCast, upM_at, upM_nef, ne_eq, not_false_eq_true, Nat.reduceEqDiff, Nat.reduceAdd]
      refine v_iload_n hC 2 dX3_why_29 rfl rfl ?_
      refine v_icmp_ne hC 35 dX3_why_30 rfl (fun h30 => ?_) (fun h30 => ?_)
      · refine v_aload_n hC 3 dX3_why_35 rfl rfl ?_
        refine v_iload_n hC 2 dX3_why_36 rfl rfl ?_
        refine v_callI1 hC (cwX3_81 hC ⟨Nat.le_of_ble_eq_true rfl, Nat.le_of_ble_eq_true rfl⟩) dX3_why_37 rfl rfl rfl (Nat.zero_le _) (Nat.zero_le _) (Nat.le_of_ble_eq_true rfl) (by first | decide | (simp only [vdn]; omega)) (cX1_placeOf_ok P.toNat S μ (by omega) hp1.1 hp1.2.1) (fun r1 μ1 hp => ?_)
        obtain ⟨rfl, rfl⟩ := hp
        refine v_iconst hC dX3_why_40 ⟨by decide, by decide⟩ ?_
        refine v_icmp_ne hC 46 dX3_why_41 rfl (fun h41 => ?_) (fun h41 => ?_)
        · refine v_aload_n hC 0 dX3_why_46 rfl rfl ?_
          refine v_getR hC foX3_11 dX3_why_47 rfl rfl rfl (by decide) (by first | decide | (simp only [vdn]; omega)) ?_
          refine v_iload_n hC 2 dX3_why_50 rfl rfl ?_
          refine v_aald hC dX3_why_51 rfl rfl (fun _ => rfl) rfl (by decide) (by first | decide | (simp only [vdn]; omega)) ⟨by first | omega | (simp only [mlen]; omega), by first | omega | (simp only [mlen]; omega)⟩ ?_
          try simp only [Int.toNat_natCast, upM_at, upM_nef, ne_eq, not_false_eq_true, Nat.reduceEqDiff, Nat.reduceAdd]
          refine v_aload_n hC 3 dX3_why_52 rfl rfl ?_
          refine v_getI hC foX3_72 dX3_why_53 rfl rfl rfl (by first | decide | (simp only [vdn]; omega)) ?_
          try simp only [Int.toNat_natCast, upM_at, upM_nef, ne_eq, not_false_eq_true, Nat.reduceEqDiff, Nat.reduceAdd]
          refine v_callI1 hC (cwX3_158 hC ⟨Nat.le_of_ble_eq_true rfl, Nat.le_of_ble_eq_true rfl⟩) dX3_why_56 rfl rfl rfl (Nat.zero_le _) (Nat.zero_le _) (Nat.le_of_ble_eq_true rfl) (by first | decide | (simp only [vdn]; omega)) (cX2_admits_ok S.toNat (μ 13 P.toNat) μ (by omega) hk1.1 hk1.2 (fun q hq9 => ⟨(hq q hq9).1, (hq q hq9).2.1⟩)) (fun r1 μ1 hp => ?_)
          obtain ⟨rfl, rfl⟩ := hp
          refine v_if_ne hC 64 dX3_why_59 rfl (fun h59 => ?_) (fun h59 => ?_)
          · refine v_aload_n hC 3 dX3_why_64 rfl rfl ?_
            refine v_iload_n hC 2 dX3_why_65 rfl rfl ?_
            refine v_callI1 hC (cwX3_150 hC ⟨Nat.le_of_ble_eq_true rfl, Nat.le_of_ble_eq_true rfl⟩) dX3_why_66 rfl rfl rfl (Nat.zero_le _) (Nat.zero_le _) (Nat.le_of_ble_eq_true rfl) (by first | decide | (simp only [vdn]; omega)) (cX1_prefers_ok P.toNat S μ (by omega) hp1.1 hp1.2.1) (fun r1 μ1 hp => ?_)
            obtain ⟨rfl, rfl⟩ := hp
            refine v_if_eq hC 76 dX3_why_69 rfl (fun h69 => ?_) (fun h69 => ?_)
            · refine v_iconst hC dX3_why_76 ⟨by decide, by decide⟩ ?_
              exact v_iret hC hR dX3_why_77 (⟨_, rfl, rfl, by rw [whF, if_pos hc, if_neg h30, if_neg h41, if_pos (bI_n.1 h59), if_neg (bI_z.1 h69)]⟩)
            · refine v_iconst hC dX3_why_72 ⟨by decide, by decide⟩ ?_
              refine v_goto hC 77 dX3_why_73 rfl ?_
              exact v_iret hC hR dX3_why_77 (⟨_, rfl, rfl, by rw [whF, if_pos hc, if_neg h30, if_neg h41, if_pos (bI_n.1 h59), if_pos (bI_n.1 h69)]⟩)
          · refine v_iconst hC dX3_why_62 ⟨by decide, by decide⟩ ?_
            exact v_iret hC hR dX3_why_63 (⟨_, rfl, rfl, by rw [whF, if_pos hc, if_neg h30, if_neg h41, if_neg (bI_z.1 h59)]⟩)
        · refine v_iconst hC dX3_why_44 ⟨by decide, by decide⟩ ?_
          exact v_iret hC hR dX3_why_45 (⟨_, rfl, rfl, by rw [whF, if_pos hc, if_neg h30, if_pos h41]⟩)
      · refine v_iconst hC dX3_why_33 ⟨by decide, by decide⟩ ?_
        exact v_iret hC hR dX3_why_34 (⟨_, rfl, rfl, by rw [whF, if_pos hc, if_pos h30]⟩)
    · refine v_iconst hC dX3_why_16 ⟨by decide, by decide⟩ ?_
      exact v_iret hC hR dX3_why_17 (⟨_, rfl, rfl, by rw [whF, if_neg (fun q => bI_z.1 h13 q.2)]⟩)
abbrev rmX3_look : Room := { frames := 2, cells := 0, slots := 0, locals := 42 }
set_option maxRecDepth 100000 in
set_option maxHeartbeats 4000000 in
theorem cX3_look_ok (w : Int) (μ : MU) (hSf : Sf μ) : CTi yX3_look cX3_look 2 (some .int) rmX3_look [aR 0 0, aI w] μ (fun r μ' => μ = μ' ∧ r = lkF μ w) := by
  intro l9 b9 D9 K9
  refine met_of (by decide) (Nat.le_of_ble_eq_true rfl) (fun x hC hR hM hA => ?_)
  have hC : Ctx x RX3 cX3_look rmX3_look := hC
  refine v_iload_n hC 1 dX3_look_0 rfl rfl ?_
  refine v_tsw hC dX3_look_1 69 rfl (fun j => match j with | 0 => 36 | 1 => 41 | 2 => 46 | 3 => 59 | _ => 64) (fun j hj => by
    have hj : j < 5 := hj
    rcases (by omega : j = 0 ∨ j = 1 ∨ j = 2 ∨ j = 3 ∨ j = 4) with rfl | rfl | rfl | rfl | rfl <;> exact ⟨_, rfl, rfl⟩) rfl (fun h1 => ?_) (fun j hj h1 => ?_)
  · refine v_iconst hC dX3_look_69 ⟨by decide, by decide⟩ ?_
    exact v_iret hC hR dX3_look_70 (⟨_, rfl, rfl, by rw [lkF, if_neg (by omega), if_neg (by omega), if_neg (by omega), if_neg (by omega), if_neg (by omega)]⟩)
  · have hj : j < 5 := hj
    rcases (by omega : j = 0 ∨ j = 1 ∨ j = 2 ∨ j = 3 ∨ j = 4) with rfl | rfl | rfl | rfl | rfl
    · show V _ _ _ _ 36 _ _ _
      refine v_aload_n hC 0 dX3_look_36 rfl rfl ?_
      refine v_getI hC foX3_36 dX3_look_37 rfl rfl rfl (by first | decide | (simp only [vdn]; omega)) ?_
      try simp only [Int.toNat_natCast, upM_at, upM_nef, ne_eq, not_false_eq_true, Nat.reduceEqDiff, Nat.reduceAdd]
      exact v_iret hC hR dX3_look_40 (⟨_, rfl, rfl, by rw [lkF, if_pos (by omega)]⟩)
    · show V _ _ _ _ 41 _ _ _
      refine v_aload_n hC 0 dX3_look_41 rfl rfl ?_
      refine v_getI hC foX3_69 dX3_look_42 rfl rfl rfl (by first | decide | (simp only [vdn]; omega)) ?_
      try simp only [Int.toNat_natCast, upM_at, upM_nef, ne_eq, not_false_eq_true, Nat.reduceEqDiff, Nat.reduceAdd]
      exact v_iret hC hR dX3_look_45 (⟨_, rfl, rfl, by rw [lkF, if_neg (by omega), if_pos (by omega)]⟩)
    · show V _ _ _ _ 46 _ _ _
      refine v_aload_n hC 0 dX3_look_46 rfl rfl ?_
      refine v_getI hC foX3_32 dX3_look_47 rfl rfl rfl (by first | decide | (simp only [vdn]; omega)) ?_
      try simp only [Int.toNat_natCast, upM_at, upM_nef, ne_eq, not_false_eq_true, Nat.reduceEqDiff, Nat.reduceAdd]
      refine v_if_eq hC 57 dX3_look_50 rfl (fun h50 => ?_) (fun h50 => ?_)
      · refine v_iconst hC dX3_look_57 ⟨by decide, by decide⟩ ?_
        exact v_iret hC hR dX3_look_58 (⟨_, rfl, rfl, by rw [lkF, if_neg (by omega), if_neg (by omega), if_pos (by omega), if_pos h50]⟩)
      · refine v_iconst hC dX3_look_53 ⟨by decide, by decide⟩ ?_
        refine v_goto hC 58 dX3_look_54 rfl ?_
        exact v_iret hC hR dX3_look_58 (⟨_, rfl, rfl, by rw [lkF, if_neg (by omega), if_neg (by omega), if_pos (by omega), if_neg h50]⟩)
    · show V _ _ _ _ 59 _ _ _
      refine v_aload_n hC 0 dX3_look_59 rfl rfl ?_
      refine v_callI0 hC (cwX3_161 hC ⟨Nat.le_of_ble_eq_true rfl, Nat.le_of_ble_eq_true rfl⟩) dX3_look_60 rfl rfl rfl (Nat.zero_le _) (Nat.zero_le _) (Nat.le_of_ble_eq_true rfl) (by first | decide | (simp only [vdn]; omega)) (cX3_countAsks_ok μ hSf) (fun r1 μ1 hp => ?_)
      obtain ⟨rfl, rfl⟩ := hp
      exact v_iret hC hR dX3_look_63 (⟨_, rfl, rfl, by rw [lkF, if_neg (by omega), if_neg (by omega), if_neg (by omega), if_pos (by omega)]⟩)
    · show V _ _ _ _ 64 _ _ _
      refine v_aload_n hC 0 dX3_look_64 rfl rfl ?_
      refine v_callI0 hC (cwX3_101 hC ⟨Nat.le_of_ble_eq_true rfl, Nat.le_of_ble_eq_true rfl⟩) dX3_look_65 rfl rfl rfl (Nat.zero_le _) (Nat.zero_le _) (Nat.le_of_ble_eq_true rfl) (by first | decide | (simp only [vdn]; omega)) (cX3_countPlaced_ok μ hSf) (fun r1 μ1 hp => ?_)
      obtain ⟨rfl, rfl⟩ := hp
      exact v_iret hC hR dX3_look_68 (⟨_, rfl, rfl, by rw [lkF, if_neg (by omega), if_neg (by omega), if_neg (by omega), if_neg (by omega), if_pos (by omega)]⟩)
/-- blocking pairs, one by one: how many so far, or the answer -/
abbrev blkP (μ : MU) (p j : Nat) : Prop := ¬ μ 18 p = 3 ∧ prefP μ p (μ 10 (4 * p + j)) ∧ ¬ chV μ (μ 10 (4 * p + j)).toNat (chO μ (μ 10 (4 * p + j)).toNat p) p = -1
def blS (μ : MU) (i : Int) (p j : Nat) (acc : Int ⊕ Int) : Int ⊕ Int := match acc with
  | .inr r => .inr r
  | .inl c => if blkP μ p j then (if c = i then .inr (8 * (p : Int) + μ 10 (4 * p + j)) else .inl (c + 1)) else .inl c
def blO (μ : MU) (i : Int) (p : Nat) (acc : Int ⊕ Int) : Int ⊕ Int := itr (blS μ i p) 0 (μ 11 p).toNat acc
def blF (μ : MU) (i : Int) : Int ⊕ Int := itr (blO μ i) 0 (μ 1 0).toNat (.inl 0)
def blR (i : Int) : Int ⊕ Int → Int
  | .inr r => r
  | .inl c => if i = -1 then c else -1
theorem blS_r {μ : MU} {i r : Int} {p : Nat} : ∀ (m j : Nat), itr (blS μ i p) j m (.inr r) = .inr r
  | 0, _ => rfl
  | m + 1, j => blS_r m (j + 1)
theorem blO_r {μ : MU} {i r : Int} : ∀ (m p : Nat), itr (blO μ i) p m (.inr r) = .inr r
  | 0, _ => rfl
  | m + 1, p => by
    show itr (blO μ i) (p + 1) m (blO μ i p (.inr r)) = _
    rw [blO, blS_r]
    exact blO_r m (p + 1)
theorem prefP_of {a b : MU} {p : Nat} {w : Int} (h10 : ∀ j, b 10 j = a 10 j) (h11 : b 11 p = a 11 p) (h15 : b 15 p = a 15 p) : prefP b p w ↔ prefP a p w := by
  have e : ∀ w, plF b p w = plF a p w := fun w => by
    unfold plF
    rw [h11]
    congr 1
    funext j
    rw [h10]
  unfold prefP
  rw [e, e, h15]
theorem blkP_of {a b : MU} (h : Fr [3, 4, 5] a b) {p j : Nat} (hp : p < (a 1 0).toNat) : blkP b p j ↔ blkP a p j := by
  have e10 : ∀ j, b 10 j = a 10 j := fun j => h 10 j (by decide)
  have eO : ∀ s q, chO b s p q = chO a s p q := fun s q => by unfold chO anyP; rw [h 15 q (by decide), h 16 q (by decide)]
  unfold blkP
  rw [h 18 p (by decide), e10, prefP_of e10 (h 11 p (by decide)) (h 15 p (by decide)), chV_of (h 1 0 (by decide)) (h 6 _ (by decide)) (fun j => h 9 j (by decide)) (fun q k => h.std (by decide) q _ k) (fun q _ => eO _ q) p hp]
abbrev rmX3_blocking : Room := { frames := 6, cells := 0, slots := 0, locals := 145 }
set_option maxRecDepth 100000 in
set_option maxHeartbeats 4000000 in
theorem cX3_blocking_ok (i : Int) (μ : MU) (hSf : Sf μ) (hI : ∀ s, s < 6 → Inj μ s) : CTi yX3_blocking cX3_blocking 7 (some .int) rmX3_blocking [aR 0 0, aI i] μ (fun r μ' => Fr [3, 4, 5] μ μ' ∧ r = if μ 2 0 = 0 then -1 else blR i (blF μ i)) := by
  intro l9 b9 D9 K9
  refine met_of (by decide) (Nat.le_of_ble_eq_true rfl) (fun x hC hR hM hA => ?_)
  have hC : Ctx x RX3 cX3_blocking rmX3_blocking := hC
  have hSf0 := hSf
  obtain ⟨⟨s1, s2⟩, ⟨n1, n2⟩, hr, hkc, hq, hpp, hli, hnu⟩ := hSf
  refine v_aload_n hC 0 dX3_blocking_0 rfl rfl ?_
  refine v_getI hC foX3_32 dX3_blocking_1 rfl rfl rfl (by first | decide | (simp only [vdn]; omega)) ?_
  try simp only [Int.toNat_natCast, upM_at, upM_nef, ne_eq, not_false_eq_true, Nat.reduceEqDiff, Nat.reduceAdd]
  refine v_if_ne hC 9 dX3_blocking_4 rfl (fun h4 => ?_) (fun h4 => ?_)
  · refine v_iconst hC dX3_blocking_9 ⟨by decide, by decide⟩ ?_
    refine v_istore_n hC 2 dX3_blocking_10 rfl (Nat.le_of_ble_eq_true rfl) ?_
    refine v_iconst hC dX3_blocking_11 ⟨by decide, by decide⟩ ?_
    refine v_istore_n hC 3 dX3_blocking_12 rfl (Nat.le_of_ble_eq_true rfl) ?_
    refine v_loop (fun p : Nat => (μ 1 0).toNat - p) (fun _ => True) (fun p => ∀ (μ1 : MU) (c : Int), p ≤ 20 → 0 ≤ c → c ≤ 4 * p → Fr [3, 4, 5] μ μ1 → itr (blO μ i) p ((μ 1 0).toNat - p) (.inl c) = blF μ i → V x 0 0 none 13 [some (aR 0 0), some (aI i), some (aI c), some (aI (p : Int)), none, none, none] [] μ1) (fun p _ ih μ1 c a1 a2 a3 hF1 a4 => ?_) 0 trivial μ 0 (by decide) (by decide) (by decide) Fr.rf rfl
    have e1 : μ1 1 0 = μ 1 0 := hF1 1 0 (by decide)
    refine v_iload_n hC 3 dX3_blocking_13 rfl rfl ?_
    refine v_aload_n hC 0 dX3_blocking_14 rfl rfl ?_
    refine v_getI hC foX3_69 dX3_blocking_15 rfl rfl rfl (by first | decide | (simp only [vdn]; omega)) ?_
    try simp only [Int.toNat_natCast, upM_at, upM_nef, ne_eq, not_false_eq_true, Nat.reduceEqDiff, Nat.reduceAdd]
    refine v_icmp_ge hC 90 dX3_blocking_18 rfl (fun h18 => ?_) (fun h18 => ?_)
    · refine v_iload_n hC 1 dX3_blocking_90 rfl rfl ?_
      refine v_iconst hC dX3_blocking_91 ⟨by decide, by decide⟩ ?_
      refine v_icmp_ne hC 99 dX3_blocking_92 rfl (fun h92 => ?_) (fun h92 => ?_)
      · refine v_iconst hC dX3_blocking_99 ⟨by decide, by decide⟩ ?_
        exact v_iret hC hR dX3_blocking_100 (⟨_, rfl, hF1, by rw [if_neg h4, ← a4, itr_done (by omega), blR, if_neg h92]⟩)
      · refine v_iload_n hC 2 dX3_blocking_95 rfl rfl ?_
        refine v_goto hC 100 dX3_blocking_96 rfl ?_
        exact v_iret hC hR dX3_blocking_100 (⟨_, rfl, hF1, by rw [if_neg h4, ← a4, itr_done (by omega), blR, if_pos h92]⟩)
    · refine v_aload_n hC 0 dX3_blocking_21 rfl rfl ?_
      refine v_getR hC foX3_18 dX3_blocking_22 rfl rfl rfl (by decide) (by first | decide | (simp only [vdn]; omega)) ?_
      refine v_iload_n hC 3 dX3_blocking_25 rfl rfl ?_
      refine v_aald hC dX3_blocking_26 rfl rfl (fun _ => rfl) rfl (by decide) (by first | decide | (simp only [vdn]; omega)) ⟨by first | omega | (simp only [mlen]; omega), by first | omega | (simp only [mlen]; omega)⟩ ?_
      try simp only [Int.toNat_natCast, upM_at, upM_nef, ne_eq, not_false_eq_true, Nat.reduceEqDiff, Nat.reduceAdd]
      refine v_astore hC dX3_blocking_27 (Nat.le_of_ble_eq_true rfl) ?_
      refine v_iconst hC dX3_blocking_29 ⟨by decide, by decide⟩ ?_
      refine v_istore hC dX3_blocking_30 (Nat.le_of_ble_eq_true rfl) ?_
      have hp1 := hpp p (by omega)
      rw [itr_step (by omega)] at a4
      refine v_loop (fun j : Nat => (μ 11 p).toNat - j) (fun _ => True) (fun j => ∀ (μ2 : MU) (c2 : Int) (u : Option AV), j ≤ 4 → 0 ≤ c2 → c2 ≤ 4 * p + j → Fr [3, 4, 5] μ μ2 → itr (blO μ i) (p + 1) ((μ 1 0).toNat - (p + 1)) (itr (blS μ i p) j ((μ 11 p).toNat - j) (.inl c2)) = blF μ i → V x 0 0 none 32 [some (aR 0 0), some (aI i), some (aI c2), some (aI (p : Int)), some (aR 7 p), some (aI (j : Int)), none] [] μ2) (fun j _ ih2 μ2 c2 u b1 b2 b3 hF2 b4 => ?_) 0 trivial μ1 c none (by decide) a2 (by omega) hF1 a4
      have f1 : μ2 1 0 = μ 1 0 := hF2 1 0 (by decide)
      have f11 : μ2 11 p = μ 11 p := hF2 11 p (by decide)
      have f10 : μ2 10 (4 * p + j) = μ 10 (4 * p + j) := hF2 10 _ (by decide)
      have hSf2 : Sf μ2 := hF2.Sf hSf0 (by decide)
      refine v_iload hC dX3_blocking_32 rfl ?_
      refine v_aload hC dX3_blocking_34 rfl ?_
      refine v_getI hC foX3_85 dX3_blocking_36 rfl rfl rfl (by first | decide | (simp only [vdn]; omega)) ?_
      try simp only [Int.toNat_natCast, upM_at, upM_nef, ne_eq, not_false_eq_true, Nat.reduceEqDiff, Nat.reduceAdd]
      refine v_icmp_ge hC 84 dX3_blocking_39 rfl (fun h39 => ?_) (fun h39 => ?_)
      · refine v_iinc hC dX3_blocking_84 rfl ⟨by omega, by omega⟩ ?_
        refine v_goto hC 13 dX3_blocking_87 rfl ?_
        refine v_forget 4 (v_forget 5 (v_forget 6 ?_))
        exact ih (p + 1) trivial (by omega) μ2 c2 (by omega) (by omega) (by omega) hF2 (by rw [← b4, itr_done (f := blS μ i p) (i := j) (n := (μ 11 p).toNat) (by omega)])
      · refine v_aload hC dX3_blocking_42 rfl ?_
        refine v_getR hC foX3_88 dX3_blocking_44 rfl rfl rfl (by decide) (by first | decide | (simp only [vdn]; omega)) ?_
        refine v_iload hC dX3_blocking_47 rfl ?_
        refine v_iald hC dX3_blocking_49 rfl rfl rfl (by first | decide | (simp only [vdn]; omega)) ⟨by first | omega | (simp only [mlen]; omega), by first | omega | (simp only [mlen]; omega)⟩ ?_
        try simp only [Int.toNat_natCast, upM_at, upM_nef, ne_eq, not_false_eq_true, Nat.reduceEqDiff, Nat.reduceAdd]
        have hl10 := hli (4 * p + j) (by omega)
        obtain ⟨sj, hsj⟩ := Int.eq_ofNat_of_zero_le hl10.1
        rw [f10, hsj]
        refine v_istore hC dX3_blocking_50 (Nat.le_of_ble_eq_true rfl) ?_
        refine v_aload_n hC 0 dX3_blocking_52 rfl rfl ?_
        refine v_iload_n hC 3 dX3_blocking_53 rfl rfl ?_
        refine v_iload hC dX3_blocking_54 rfl ?_
        refine v_callI2 hC (cwX3_146 hC ⟨Nat.le_of_ble_eq_true rfl, Nat.le_of_ble_eq_true rfl⟩) dX3_blocking_56 rfl rfl rfl (Nat.zero_le _) (Nat.zero_le _) (Nat.le_of_ble_eq_true rfl) (by first | decide | (simp only [vdn]; omega)) (cX3_blocks_ok p sj μ2 (by omega) (by omega) hSf2 (hF2.inj (hI sj (by omega)) (by decide) (by decide))) (fun r1 μ1 hp => ?_)
        obtain ⟨hF3, rfl⟩ := hp
        have hbe := blkP_of hF2 (p := p) (j := j) (by omega)
        have hbx : blkP μ2 p j ↔ (¬ μ2 18 p = 3 ∧ prefP μ2 p sj ∧ ¬ chV μ2 sj (chO μ2 sj p) p = -1) := by unfold blkP; rw [f10, hsj, Int.toNat_natCast]
        refine v_if_eq hC 78 dX3_blocking_59 rfl (fun h59 => ?_) (fun h59 => ?_)
        · have hb : ¬ blkP μ p j := fun h => bI_z.1 h59 (hbx.1 (hbe.2 h))
          refine v_iinc hC dX3_blocking_78 rfl ⟨by omega, by omega⟩ ?_
          refine v_goto hC 32 dX3_blocking_81 rfl ?_
          refine v_forget 6 ?_
          exact ih2 (j + 1) trivial (by omega) μ1 c2 none (by omega) b2 (by omega) (hF2.trans hF3) (by rw [← b4]; rw [itr_step (f := blS μ i p) (i := j) (n := (μ 11 p).toNat) (by omega), blS, if_neg hb]) 
        · have hb : blkP μ p j := hbe.1 (hbx.2 (bI_n.1 h59))
          refine v_iload_n hC 2 dX3_blocking_62 rfl rfl ?_
          refine v_iload_n hC 1 dX3_blocking_63 rfl rfl ?_
          refine v_icmp_ne hC 75 dX3_blocking_64 rfl (fun h64 => ?_) (fun h64 => ?_)
          · refine v_iinc hC dX3_blocking_75 rfl ⟨by omega, by omega⟩ ?_
            refine v_iinc hC dX3_blocking_78 rfl ⟨by omega, by omega⟩ ?_
            refine v_goto hC 32 dX3_blocking_81 rfl ?_
            refine v_forget 6 ?_
            exact ih2 (j + 1) trivial (by omega) μ1 (c2 + 1) none (by omega) (by omega) (by omega) (hF2.trans hF3) (by rw [← b4]; rw [itr_step (f := blS μ i p) (i := j) (n := (μ 11 p).toNat) (by omega), blS, if_pos hb, if_neg h64])
          · refine v_bipush hC dX3_blocking_67 ⟨by decide, by decide⟩ ?_
            refine v_iload_n hC 3 dX3_blocking_69 rfl rfl ?_
            refine v_imul hC dX3_blocking_70 ⟨by omega, by omega⟩ ?_
            refine v_iload hC dX3_blocking_71 rfl ?_
            refine v_iadd hC dX3_blocking_73 ⟨by omega, by omega⟩ ?_
            exact v_iret hC hR dX3_blocking_74 (⟨_, rfl, hF2.trans hF3, by
              rw [if_neg h4, ← b4, itr_step (f := blS μ i p) (i := j) (n := (μ 11 p).toNat) (by omega), blS, if_pos hb, if_pos h64, blS_r, blO_r, blR, hsj]⟩)
  · refine v_iconst hC dX3_blocking_7 ⟨by decide, by decide⟩ ?_
    exact v_iret hC hR dX3_blocking_8 (⟨_, rfl, Fr.rf, by rw [if_pos h4]⟩)
