/-! The reference moves, runs its chains and its round. -/
abbrev mhlP (μ : MU) (p : Nat) (s k : Int) : Prop := μ 33 p = s ∧ μ 34 p = k
abbrev mfrP (μ : MU) (s k : Nat) : Prop := cntF (fun p => decide (μ 33 p = (s : Int) ∧ μ 34 p = (k : Int))) (μ 23 0).toNat < μ 25 (3 * s + k)
def mfw (μ : MU) (s k : Nat) : Int := bst (μ 23 0).toNat (fun q => mg μ s k q) 1000000 (fun q => decide (mwtP μ q s))
def mmvK (μ : MU) (s : Nat) : Option Nat := fnd (fun k => decide (mfrP μ s k ∧ ¬ mfw μ s k = -1)) 0 (μ 24 s).toNat
def mmvS (μ : MU) : Option Nat := fnd (fun s => (mmvK μ s).isSome) 0 (μ 22 0).toNat
abbrev msit (μ : MU) (p : Nat) (a k : Int) : MU := upM (upM μ 33 p a) 34 p k
def mmvM (μ : MU) : MU := match mmvS μ with
  | none => μ
  | some s => match mmvK μ s with
    | none => μ
    | some k => msit μ (mfw μ s k).toNat s k
theorem mmvM_none {μ : MU} (h : mmvS μ = none) : mmvM μ = μ := by
  unfold mmvM; rw [h]
theorem mfw_r (μ : MU) (s k : Nat) (h : ¬ mfw μ s k = -1) : ∃ p : Nat, mfw μ s k = (p : Int) ∧ p < (μ 23 0).toNat ∧ mwtP μ p s ∧ mg μ s k p < 1000000 := by
  rcases bst_spec (μ 23 0).toNat (fun q => mg μ s k q) 1000000 (fun q => decide (mwtP μ q s)) with ⟨e, -⟩ | ⟨p, hp, e, hE, hlt, -⟩
  · exact absurd e h
  · exact ⟨p, e, hp, of_decide_eq_true hE, hlt⟩
abbrev rmX4_move : Room := { frames := 3, cells := 0, slots := 0, locals := 67 }
set_option maxRecDepth 100000 in
set_option maxHeartbeats 4000000 in
theorem cX4_move_ok (μ : MU) (hSm : Sm μ) : CTi yX4_move cX4_move 6 (some .boolean) rmX4_move [aR 12 0] μ (fun r μ' => mmvM μ = μ' ∧ r = bI ((mmvS μ).isSome = true)) := by
  intro l9 b9 D9 K9
  refine met_of (by decide) (Nat.le_of_ble_eq_true rfl) (fun x hC hR hM hA => ?_)
  have hC : Ctx x RX4 cX4_move rmX4_move := hC
  have hSm0 := hSm
  obtain ⟨⟨s1, s2⟩, ⟨n1, n2⟩, hr, hkc, hq, hpp, hli, hnu⟩ := hSm
  refine v_iconst hC dX4_move_0 ⟨by decide, by decide⟩ ?_
  refine v_istore_n hC 1 dX4_move_1 rfl (Nat.le_of_ble_eq_true rfl) ?_
  refine v_loop (fun s : Nat => (μ 22 0).toNat - s) (fun s => s ≤ 6 ∧ fnd (fun s => (mmvK μ s).isSome) s ((μ 22 0).toNat - s) = mmvS μ) (fun s => V x 0 0 none 2 [some (aR 12 0), some (aI (s : Int)), none, none, none, none] [] μ) (fun s hs ih => ?_) 0 ⟨by decide, rfl⟩
  refine v_iload_n hC 1 dX4_move_2 rfl rfl ?_
  refine v_aload_n hC 0 dX4_move_3 rfl rfl ?_
  refine v_getI hC foX4_63 dX4_move_4 rfl rfl rfl (by first | decide | (simp only [vdn]; omega)) ?_
  try simp only [Int.toNat_natCast, upM_at, upM_nef, ne_eq, not_false_eq_true, Nat.reduceEqDiff, Nat.reduceAdd]
  refine v_icmp_ge hC 163 dX4_move_7 rfl (fun h7 => ?_) (fun h7 => ?_)
  · refine v_iconst hC dX4_move_163 ⟨by decide, by decide⟩ ?_
    exact v_bret hC hR dX4_move_164 (by omega) (⟨_, rfl, mmvM_none (by rw [← hs.2, fnd_done (by omega)]), bI_f (by rw [← hs.2, fnd_done (by omega)]; exact Bool.false_ne_true)⟩)
  · refine v_iconst hC dX4_move_10 ⟨by decide, by decide⟩ ?_
    refine v_istore_n hC 2 dX4_move_11 rfl (Nat.le_of_ble_eq_true rfl) ?_
    have hk1 := hkc s (by omega)
    refine v_loop (fun k : Nat => (μ 24 s).toNat - k) (fun k => k ≤ 3 ∧ fnd (fun k => decide (mfrP μ s k ∧ ¬ mfw μ s k = -1)) k ((μ 24 s).toNat - k) = mmvK μ s) (fun k => V x 0 0 none 12 [some (aR 12 0), some (aI (s : Int)), some (aI (k : Int)), none, none, none] [] μ) (fun k hk ih2 => ?_) 0 ⟨by decide, rfl⟩
    refine v_iload_n hC 2 dX4_move_12 rfl rfl ?_
    refine v_aload_n hC 0 dX4_move_13 rfl rfl ?_
    refine v_getR hC foX4_7 dX4_move_14 rfl rfl rfl (by decide) (by first | decide | (simp only [vdn]; omega)) ?_
    refine v_iload_n hC 1 dX4_move_17 rfl rfl ?_
    refine v_iald hC dX4_move_18 rfl rfl rfl (by first | decide | (simp only [vdn]; omega)) ⟨by first | omega | (simp only [mlen]; omega), by first | omega | (simp only [mlen]; omega)⟩ ?_
    try simp only [Int.toNat_natCast, upM_at, upM_nef, ne_eq, not_false_eq_true, Nat.reduceEqDiff, Nat.reduceAdd]
    refine v_icmp_ge hC 157 dX4_move_19 rfl (fun h19 => ?_) (fun h19 => ?_)
    · refine v_iinc hC dX4_move_157 rfl ⟨by omega, by omega⟩ ?_
      refine v_goto hC 2 dX4_move_160 rfl ?_
      refine v_forget 2 ?_
      exact ih (s + 1) ⟨by omega, fnd_next (by omega) (by rw [← hk.2, fnd_done (by omega)]; exact Bool.false_ne_true) hs.2⟩ (by omega)
    · refine v_iconst hC dX4_move_22 ⟨by decide, by decide⟩ ?_
      refine v_istore_n hC 3 dX4_move_23 rfl (Nat.le_of_ble_eq_true rfl) ?_
      refine v_iconst hC dX4_move_24 ⟨by decide, by decide⟩ ?_
      refine v_istore hC dX4_move_25 (Nat.le_of_ble_eq_true rfl) ?_
      have ei : ((3 : Int) * (s : Int) + (k : Int)).toNat = 3 * s + k := by omega
      have hk2 : k < 3 := by omega
      refine v_loop (fun p : Nat => (μ 23 0).toNat - p) (fun _ => True) (fun p => ∀ (c d : Int), p ≤ (μ 23 0).toNat → bsI (fun q => decide (mwtP μ q s)) (fun q => mg μ s k q) 1000000 p c d → itr (minS (fun q => decide (mwtP μ q s)) (fun q => mg μ s k q)) p ((μ 23 0).toNat - p) (c, d) = itr (minS (fun q => decide (mwtP μ q s)) (fun q => mg μ s k q)) 0 (μ 23 0).toNat (-1, 1000000) → (¬ mfrP μ s k → c = -1) → V x 0 0 none 27 [some (aR 12 0), some (aI (s : Int)), some (aI (k : Int)), some (aI c), some (aI (p : Int)), none] [] μ) (fun p _ ih3 c d c1 c3 c4 c5 => ?_) 0 trivial (-1) 1000000 (Nat.zero_le _) (Or.inl ⟨rfl, rfl⟩) rfl (fun _ => rfl)
      have c3' : bsI (fun q => decide (mwtP μ q s)) (fun q => mg μ s k q) 1000000 (p + 1) c d := c3.imp id (fun ⟨q, h1, h2, h3⟩ => ⟨q, h1, by omega, h3⟩)
      have hnof : ¬ ((fun q => decide (mwtP μ q s)) p = true ∧ (mbnF μ p s k).isSome = true) → minS (fun q => decide (mwtP μ q s)) (fun q => mg μ s k q) p (c, d) = (c, d) := fun h => if_neg (fun h9 => h ⟨h9.1, by
        have h8 := h9.2
        unfold mg at h8
        dsimp only at h8
        rcases c3 with ⟨-, hd⟩ | ⟨q, -, -, hd, -, hd2⟩
        · by_cases h7 : (mbnF μ p s k).isSome = true
          · exact h7
          · rw [if_neg h7] at h8; omega
        · by_cases h7 : (mbnF μ p s k).isSome = true
          · exact h7
          · rw [if_neg h7] at h8
            have hd : d = mg μ s k q := hd
            have hd2 : mg μ s k q < 1000000 := hd2
            omega⟩)
      refine v_iload hC dX4_move_27 rfl ?_
      refine v_aload_n hC 0 dX4_move_29 rfl rfl ?_
      refine v_getI hC foX4_66 dX4_move_30 rfl rfl rfl (by first | decide | (simp only [vdn]; omega)) ?_
      try simp only [Int.toNat_natCast, upM_at, upM_nef, ne_eq, not_false_eq_true, Nat.reduceEqDiff, Nat.reduceAdd]
      refine v_icmp_ge hC 131 dX4_move_33 rfl (fun h33 => ?_) (fun h33 => ?_)
      · refine v_iload_n hC 3 dX4_move_131 rfl rfl ?_
        refine v_if_lt hC 151 dX4_move_132 rfl (fun h132 => ?_) (fun h132 => ?_)
        · refine v_iinc hC dX4_move_151 rfl ⟨by omega, by omega⟩ ?_
          refine v_goto hC 12 dX4_move_154 rfl ?_
          refine v_forget 3 (v_forget 4 ?_)
          have hc : c = -1 := by rcases c3 with h | ⟨q, h, -⟩ <;> omega
          have hb : mfw μ s k = -1 := by rw [mfw, bst, ← c4, itr_done (by omega)]; exact hc
          exact ih2 (k + 1) ⟨by omega, fnd_next (by omega) (fun h => (of_decide_eq_true h).2 hb) hk.2⟩ (by omega)
        · obtain ⟨q, rfl, hqp⟩ : ∃ q : Nat, c = (q : Int) ∧ q < p := by
            rcases c3 with ⟨h, -⟩ | ⟨q, h, h2, -⟩
            · omega
            · exact ⟨q, h, h2⟩
          have hfr : mfrP μ s k := Decidable.byContradiction (fun h => by have := c5 h; omega)
          have hb : mfw μ s k = (q : Int) := by rw [mfw, bst, ← c4, itr_done (by omega)]
          have hmk : mmvK μ s = some k := by rw [← hk.2, fnd_yes (by omega) (decide_eq_true ⟨hfr, by omega⟩)]
          have hms : mmvS μ = some s := by rw [← hs.2, fnd_yes (by omega) (by rw [hmk]; rfl)]
          have hmm : mmvM μ = msit μ q s k := by unfold mmvM; rw [hms]; dsimp only; rw [hmk]; dsimp only; rw [hb, Int.toNat_natCast]
          refine v_aload_n hC 0 dX4_move_135 rfl rfl ?_
          refine v_getR hC foX4_38 dX4_move_136 rfl rfl rfl (by decide) (by first | decide | (simp only [vdn]; omega)) ?_
          refine v_iload_n hC 3 dX4_move_139 rfl rfl ?_
          refine v_iload_n hC 1 dX4_move_140 rfl rfl ?_
          refine v_iast hC dX4_move_141 rfl rfl rfl (by decide) (by first | decide | (simp only [vdn]; omega)) ⟨by first | omega | (simp only [mlen]; omega), by first | omega | (simp only [mlen]; omega)⟩ ?_
          try simp only [Int.toNat_natCast, upM_at, upM_nef, ne_eq, not_false_eq_true, Nat.reduceEqDiff, Nat.reduceAdd]
          refine v_aload_n hC 0 dX4_move_142 rfl rfl ?_
          refine v_getR hC foX4_41 dX4_move_143 rfl rfl rfl (by decide) (by first | decide | (simp only [vdn]; omega)) ?_
          refine v_iload_n hC 3 dX4_move_146 rfl rfl ?_
          refine v_iload_n hC 2 dX4_move_147 rfl rfl ?_
          refine v_iast hC dX4_move_148 rfl rfl rfl (by decide) (by first | decide | (simp only [vdn]; omega)) ⟨by first | omega | (simp only [mlen]; omega), by first | omega | (simp only [mlen]; omega)⟩ ?_
          try simp only [Int.toNat_natCast, upM_at, upM_nef, ne_eq, not_false_eq_true, Nat.reduceEqDiff, Nat.reduceAdd]
          refine v_iconst hC dX4_move_149 ⟨by decide, by decide⟩ ?_
          exact v_bret hC hR dX4_move_150 (by omega) (⟨_, rfl, hmm, bI_t (by rw [hms]; rfl)⟩)
      · refine v_aload_n hC 0 dX4_move_36 rfl rfl ?_
        refine v_iload_n hC 1 dX4_move_37 rfl rfl ?_
        refine v_iload_n hC 2 dX4_move_38 rfl rfl ?_
        refine v_callI2 hC (cwX4_114 hC ⟨Nat.le_of_ble_eq_true rfl, Nat.le_of_ble_eq_true rfl⟩) dX4_move_39 rfl rfl rfl (Nat.zero_le _) (Nat.zero_le _) (Nat.le_of_ble_eq_true rfl) (by first | decide | (simp only [vdn]; omega)) (cX4_holders_ok s k μ hSm0) (fun r1 μ1 hp => ?_)
        obtain ⟨rfl, rfl⟩ := hp
        refine v_aload_n hC 0 dX4_move_42 rfl rfl ?_
        refine v_getR hC foX4_13 dX4_move_43 rfl rfl rfl (by decide) (by first | decide | (simp only [vdn]; omega)) ?_
        refine v_iconst hC dX4_move_46 ⟨by decide, by decide⟩ ?_
        refine v_iload_n hC 1 dX4_move_47 rfl rfl ?_
        refine v_imul hC dX4_move_48 ⟨by omega, by omega⟩ ?_
        refine v_iload_n hC 2 dX4_move_49 rfl rfl ?_
        refine v_iadd hC dX4_move_50 ⟨by omega, by omega⟩ ?_
        refine v_iald hC dX4_move_51 rfl rfl rfl (by first | decide | (simp only [vdn]; omega)) ⟨by first | omega | (simp only [mlen]; omega), by first | omega | (simp only [mlen]; omega)⟩ ?_
        try simp only [Int.toNat_natCast, upM_at, upM_nef, ne_eq, not_false_eq_true, Nat.reduceEqDiff, Nat.reduceAdd]
        rw [ei]
        refine v_icmp_ge hC 131 dX4_move_52 rfl (fun h52 => ?_) (fun h52 => ?_)
        · refine v_iload_n hC 3 dX4_move_131 rfl rfl ?_
          refine v_if_lt hC 151 dX4_move_132 rfl (fun h132 => ?_) (fun h132 => ?_)
          · refine v_iinc hC dX4_move_151 rfl ⟨by omega, by omega⟩ ?_
            refine v_goto hC 12 dX4_move_154 rfl ?_
            refine v_forget 3 (v_forget 4 ?_)
            exact ih2 (k + 1) ⟨by omega, fnd_next (by omega) (fun h => by have h9 : cntF _ _ < _ := (of_decide_eq_true h).1; omega) hk.2⟩ (by omega)
          · have h9 := c5 (fun h => by have h9 : cntF _ _ < _ := h; omega)
            exfalso; omega
        · refine v_aload_n hC 0 dX4_move_55 rfl rfl ?_
          refine v_iload hC dX4_move_56 rfl ?_
          refine v_iload_n hC 1 dX4_move_58 rfl rfl ?_
          refine v_callI2 hC (cwX4_117 hC ⟨Nat.le_of_ble_eq_true rfl, Nat.le_of_ble_eq_true rfl⟩) dX4_move_59 rfl rfl rfl (Nat.zero_le _) (Nat.zero_le _) (Nat.le_of_ble_eq_true rfl) (by first | decide | (simp only [vdn]; omega)) (cX4_waits_ok p s μ (by omega) hSm0) (fun r1 μ1 hp => ?_)
          obtain ⟨rfl, rfl⟩ := hp
          refine v_if_eq hC 80 dX4_move_62 rfl (fun h62 => ?_) (fun h62 => ?_)
          · refine v_iconst hC dX4_move_80 ⟨by decide, by decide⟩ ?_
            refine v_istore hC dX4_move_81 (Nat.le_of_ble_eq_true rfl) ?_
            refine v_iload hC dX4_move_83 rfl ?_
            refine v_if_eq hC 123 dX4_move_85 rfl (fun h85 => ?_) (fun h85 => ?_)
            · refine v_iload_n hC 3 dX4_move_123 rfl rfl ?_
              refine v_istore_n hC 3 dX4_move_124 rfl (Nat.le_of_ble_eq_true rfl) ?_
              refine v_iinc hC dX4_move_125 rfl ⟨by omega, by omega⟩ ?_
              refine v_goto hC 27 dX4_move_128 rfl ?_
              have hfr : mfrP μ s k := by show cntF _ _ < _; omega
              refine v_forget 5 ?_
              exact ih3 (p + 1) trivial (by omega) c (d) (by omega) (c3') (itr_next (by omega) (hnof (fun h => bI_z.1 h62 (of_decide_eq_true h.1))) c4) (fun h => absurd hfr h)
            · exfalso; omega
          · refine v_aload_n hC 0 dX4_move_65 rfl rfl ?_
            refine v_iload hC dX4_move_66 rfl ?_
            refine v_iload_n hC 1 dX4_move_68 rfl rfl ?_
            refine v_iload_n hC 2 dX4_move_69 rfl rfl ?_
            refine v_callI3 hC (cwX4_89 hC ⟨Nat.le_of_ble_eq_true rfl, Nat.le_of_ble_eq_true rfl⟩) dX4_move_70 rfl rfl rfl (Nat.zero_le _) (Nat.zero_le _) (Nat.le_of_ble_eq_true rfl) (by first | decide | (simp only [vdn]; omega)) (cX4_eligible_ok p s k μ (by omega) (by omega) hk2) (fun r1 μ1 hp => ?_)
            obtain ⟨rfl, rfl⟩ := hp
            refine v_if_eq hC 80 dX4_move_73 rfl (fun h73 => ?_) (fun h73 => ?_)
            · refine v_iconst hC dX4_move_80 ⟨by decide, by decide⟩ ?_
              refine v_istore hC dX4_move_81 (Nat.le_of_ble_eq_true rfl) ?_
              refine v_iload hC dX4_move_83 rfl ?_
              refine v_if_eq hC 123 dX4_move_85 rfl (fun h85 => ?_) (fun h85 => ?_)
              · refine v_iload_n hC 3 dX4_move_123 rfl rfl ?_
                refine v_istore_n hC 3 dX4_move_124 rfl (Nat.le_of_ble_eq_true rfl) ?_
                refine v_iinc hC dX4_move_125 rfl ⟨by omega, by omega⟩ ?_
                refine v_goto hC 27 dX4_move_128 rfl ?_
                have hfr : mfrP μ s k := by show cntF _ _ < _; omega
                refine v_forget 5 ?_
                exact ih3 (p + 1) trivial (by omega) c (d) (by omega) (c3') (itr_next (by omega) (hnof (fun h => bI_z.1 h73 h.2)) c4) (fun h => absurd hfr h)
              · exfalso; omega
            · refine v_iconst hC dX4_move_76 ⟨by decide, by decide⟩ ?_
              refine v_goto hC 81 dX4_move_77 rfl ?_
              refine v_istore hC dX4_move_81 (Nat.le_of_ble_eq_true rfl) ?_
              refine v_iload hC dX4_move_83 rfl ?_
              refine v_if_eq hC 123 dX4_move_85 rfl (fun h85 => ?_) (fun h85 => ?_)
              · exfalso; omega
              · refine v_iload_n hC 3 dX4_move_88 rfl rfl ?_
                refine v_if_lt hC 118 dX4_move_89 rfl (fun h89 => ?_) (fun h89 => ?_)
                · refine v_iload hC dX4_move_118 rfl ?_
                  refine v_goto hC 124 dX4_move_120 rfl ?_
                  refine v_istore_n hC 3 dX4_move_124 rfl (Nat.le_of_ble_eq_true rfl) ?_
                  refine v_iinc hC dX4_move_125 rfl ⟨by omega, by omega⟩ ?_
                  refine v_goto hC 27 dX4_move_128 rfl ?_
                  refine v_forget 5 ?_
                  have hfr : mfrP μ s k := by show cntF _ _ < _; omega
                  have hE : (fun q => decide (mwtP μ q s)) p = true := decide_eq_true (bI_n.1 h62)
                  have hel : (mbnF μ p s k).isSome = true := bI_n.1 h73
                  have hgp : mg μ s k p = rkF μ p s k := if_pos hel
                  have hrr := rkF_r (k := k) hSm0 (p := p) (by omega) (show s < 6 by omega)
                  have hd : d = 1000000 := by rcases c3 with ⟨-, h⟩ | ⟨q, h, -⟩ <;> omega
                  exact ih3 (p + 1) trivial (by omega) p (mg μ s k p) (by omega) (Or.inr ⟨p, rfl, by omega, rfl, hE, (by show mg μ s k p < 1000000; omega)⟩) (itr_next (by omega) (by rw [minS, if_pos ⟨hE, by dsimp only; omega⟩]) c4) (fun h => absurd hfr h)
                · obtain ⟨q, rfl, hqp, hqd, hqE, hqB⟩ : ∃ q : Nat, c = (q : Int) ∧ q < p ∧ d = mg μ s k q ∧ (fun q => decide (mwtP μ q s)) q = true ∧ mg μ s k q < 1000000 := by
                    rcases c3 with ⟨h, -⟩ | h
                    · omega
                    · exact h
                  have hE : (fun q => decide (mwtP μ q s)) p = true := decide_eq_true (bI_n.1 h62)
                  have hel : (mbnF μ p s k).isSome = true := bI_n.1 h73
                  have hgp : mg μ s k p = rkF μ p s k := if_pos hel
                  have hrr := rkF_r (k := k) hSm0 (p := p) (by omega) (show s < 6 by omega)
                  have hgq : mg μ s k q = rkF μ q s k := by
                    unfold mg at hqB ⊢
                    by_cases h7 : (mbnF μ q s k).isSome = true
                    · rw [if_pos h7]
                    · rw [if_neg h7] at hqB; omega
                  refine v_aload_n hC 0 dX4_move_92 rfl rfl ?_
                  refine v_iload hC dX4_move_93 rfl ?_
                  refine v_iload_n hC 1 dX4_move_95 rfl rfl ?_
                  refine v_iload_n hC 2 dX4_move_96 rfl rfl ?_
                  refine v_callI3 hC (cwX4_93 hC ⟨Nat.le_of_ble_eq_true rfl, Nat.le_of_ble_eq_true rfl⟩) dX4_move_97 rfl rfl rfl (Nat.zero_le _) (Nat.zero_le _) (Nat.le_of_ble_eq_true rfl) (by first | decide | (simp only [vdn]; omega)) (cX4_rank_ok p s k μ (by omega) (by omega) hk2 hSm0) (fun r1 μ1 hp => ?_)
                  obtain ⟨rfl, rfl⟩ := hp
                  refine v_aload_n hC 0 dX4_move_100 rfl rfl ?_
                  refine v_iload_n hC 3 dX4_move_101 rfl rfl ?_
                  refine v_if_ge hC 109 dX4_move_102 rfl (fun h102 => ?_) (fun h102 => ?_)
                  · refine v_iload_n hC 3 dX4_move_109 rfl rfl ?_
                    refine v_iload_n hC 1 dX4_move_110 rfl rfl ?_
                    refine v_iload_n hC 2 dX4_move_111 rfl rfl ?_
                    refine v_callI3 hC (cwX4_93 hC ⟨Nat.le_of_ble_eq_true rfl, Nat.le_of_ble_eq_true rfl⟩) dX4_move_112 rfl rfl rfl (Nat.zero_le _) (Nat.zero_le _) (Nat.le_of_ble_eq_true rfl) (by first | decide | (simp only [vdn]; omega)) (cX4_rank_ok q s k μ (by omega) (by omega) hk2 hSm0) (fun r1 μ1 hp => ?_)
                    obtain ⟨rfl, rfl⟩ := hp
                    refine v_icmp_ge hC 123 dX4_move_115 rfl (fun h115 => ?_) (fun h115 => ?_)
                    · refine v_iload_n hC 3 dX4_move_123 rfl rfl ?_
                      refine v_istore_n hC 3 dX4_move_124 rfl (Nat.le_of_ble_eq_true rfl) ?_
                      refine v_iinc hC dX4_move_125 rfl ⟨by omega, by omega⟩ ?_
                      refine v_goto hC 27 dX4_move_128 rfl ?_
                      refine v_forget 5 ?_
                      have hfr : mfrP μ s k := by show cntF _ _ < _; omega
                      exact ih3 (p + 1) trivial (by omega) (q : Int) d (by omega) c3' (itr_next (by omega) (by rw [minS, if_neg (fun h9 => by have h8 := h9.2; dsimp only at h8; omega)]) c4) (fun h => absurd hfr h)
                    · refine v_iload hC dX4_move_118 rfl ?_
                      refine v_goto hC 124 dX4_move_120 rfl ?_
                      refine v_istore_n hC 3 dX4_move_124 rfl (Nat.le_of_ble_eq_true rfl) ?_
                      refine v_iinc hC dX4_move_125 rfl ⟨by omega, by omega⟩ ?_
                      refine v_goto hC 27 dX4_move_128 rfl ?_
                      refine v_forget 5 ?_
                      have hfr : mfrP μ s k := by show cntF _ _ < _; omega
                      exact ih3 (p + 1) trivial (by omega) p (mg μ s k p) (by omega) (Or.inr ⟨p, rfl, by omega, rfl, hE, (by show mg μ s k p < 1000000; omega)⟩) (itr_next (by omega) (by rw [minS, if_pos ⟨hE, by dsimp only; omega⟩]) c4) (fun h => absurd hfr h)
                  · exfalso; omega
/-- a sum below n -/
def smF (f : Nat → Nat) : Nat → Nat
  | 0 => 0
  | n + 1 => smF f n + f n
theorem smF_le {f g : Nat → Nat} : ∀ (n : Nat), (∀ p, p < n → f p ≤ g p) → smF f n ≤ smF g n
  | 0, _ => Nat.le_refl _
  | n + 1, h => Nat.add_le_add (smF_le n (fun p hp => h p (by omega))) (h n (by omega))
theorem smF_lt {f g : Nat → Nat} {q : Nat} : ∀ (n : Nat), (∀ p, p < n → f p ≤ g p) → q < n → f q < g q → smF f n < smF g n
  | 0, _, hq, _ => by omega
  | n + 1, h, hq, hl => by
    have h2 := h n (by omega)
    show smF f n + f n < smF g n + g n
    by_cases e : q = n
    · have h1 := smF_le n (fun p hp => h p (by omega))
      rw [e] at hl
      omega
    · have h1 := smF_lt n (fun p hp => h p (by omega)) (show q < n by omega) hl
      omega
theorem smF_b {f : Nat → Nat} {m : Nat} : ∀ (n : Nat), (∀ p, p < n → f p ≤ m) → smF f n ≤ n * m
  | 0, _ => Nat.zero_le _
  | n + 1, h => by
    have h1 := smF_b n (fun p hp => h p (by omega))
    have h2 := h n (by omega)
    show smF f n + f n ≤ _
    rw [Nat.succ_mul]
    omega
/-- moves one after another -/
def mit : Nat → MU → MU
  | 0, μ => μ
  | n + 1, μ => mmvM (mit n μ)
theorem mmvM_c {μ : MU} (h : (mmvS μ).isSome = true) : ∃ s k q : Nat, mmvM μ = msit μ q s k ∧ q < (μ 23 0).toNat ∧ mwtP μ q s := by
  obtain ⟨s, hs⟩ := Option.isSome_iff_exists.1 h
  have hk := (fnd_some _ _ hs).2.2.1
  obtain ⟨k, hk'⟩ := Option.isSome_iff_exists.1 hk
  have h2 := of_decide_eq_true (fnd_some _ _ hk').2.2.1
  obtain ⟨q, e, hq, hw, -⟩ := mfw_r μ s k h2.2
  refine ⟨s, k, q, ?_, hq, hw⟩
  unfold mmvM; rw [hs]; dsimp only; rw [hk']; dsimp only; rw [e, Int.toNat_natCast]
theorem mmvM_fr (μ : MU) : Fr [33, 34] μ (mmvM μ) := by
  cases h : mmvS μ with
  | none => rw [mmvM_none h]; exact Fr.rf
  | some s =>
    obtain ⟨s, k, q, e, -⟩ := mmvM_c (μ := μ) (by rw [h]; rfl)
    rw [e]
    exact (Fr.rf.up (by decide)).up (by decide)
theorem mit_fr (μ : MU) : ∀ n, Fr [33, 34] μ (mit n μ)
  | 0 => Fr.rf
  | n + 1 => (mit_fr μ n).trans (mmvM_fr _)
def mpot (μ : MU) : Nat := smF (fun p => (ownF μ p).toNat) (μ 23 0).toNat
theorem mpl_of {a b : MU} {p : Nat} {w : Int} (h30 : ∀ j, b 30 j = a 30 j) (h29 : b 29 p = a 29 p) : mplF b p w = mplF a p w := by
  unfold mplF
  rw [h29]
  congr 1
  funext j
  rw [h30]
/-- a move is a step up for one pupil -/
theorem mmvM_pot {μ : MU} (hSm : Sm μ) (h : (mmvS μ).isSome = true) : mpot (mmvM μ) < mpot μ := by
  obtain ⟨s, k, q, e, hq, hw⟩ := mmvM_c h
  have hF := mmvM_fr μ
  unfold mpot
  rw [hF 23 0 (by decide)]
  have ho : ∀ p, ¬ p = q → ownF (mmvM μ) p = ownF μ p := fun p hp => by
    refine ownF_of (fun j => hF 30 j (by decide)) (hF 29 p (by decide)) ?_
    rw [e]
    show upM (upM μ 33 q s) 34 q k 33 p = μ 33 p
    rw [upM_nef (by decide), upM_ne (fun h => hp h.2)]
  have hoq : ownF (mmvM μ) q = o9 (mplF μ q s) := by
    unfold ownF
    rw [mpl_of (a := μ) (fun j => hF 30 j (by decide)) (hF 29 q (by decide))]
    have e3 : mmvM μ 33 q = (s : Int) := by
      rw [e]
      show upM (upM μ 33 q s) 34 q k 33 q = (s : Int)
      rw [upM_nef (by decide), upM_at]
    rw [e3, if_neg (by omega)]
  have h9 := (hSm.2.2.2.2.2.1 q (by have := hSm.2.1; omega)).2.1
  have h8 : 0 ≤ o9 (mplF μ q s) := (o9_r (n := (μ 29 q).toNat) (by omega)).1
  have hl : (ownF (mmvM μ) q).toNat < (ownF μ q).toNat := by
    rw [hoq]
    have := hw.2.2
    omega
  refine smF_lt (q := q) _ (fun p hp => ?_) hq hl
  by_cases e9 : p = q
  · rw [e9]; exact Nat.le_of_lt hl
  · rw [ho p e9]; exact Nat.le_refl _
theorem mpot_b {μ : MU} (hSm : Sm μ) : mpot μ ≤ 180 := by
  have h1 := smF_b (f := fun p => (ownF μ p).toNat) (m := 9) (μ 23 0).toNat (fun p hp => by
    have h9 := (hSm.2.2.2.2.2.1 p (by have := hSm.2.1; omega)).2.1
    have := (own_r (μ := μ) (p := p) h9).2
    show (ownF μ p).toNat ≤ 9
    omega)
  unfold mpot
  have := hSm.2.1
  omega
/-- a chain: n moves, then none -/
def mchP (μ : MU) (n : Nat) (μ' : MU) : Prop := μ' = mit n μ ∧ (∀ i, i < n → (mmvS (mit i μ)).isSome = true) ∧ (mmvS (mit n μ)).isSome = false
abbrev rmX4_chain : Room := { frames := 4, cells := 0, slots := 0, locals := 92 }
set_option maxRecDepth 100000 in
set_option maxHeartbeats 4000000 in
theorem cX4_chain_ok (μ : MU) (hSm : Sm μ) : CTi yX4_chain cX4_chain 2 (some .int) rmX4_chain [aR 12 0] μ (fun r μ' => (μ 21 0 = 0 → r = 0 ∧ upM μ 20 0 1 = μ') ∧ (μ 21 0 ≠ 0 → ∃ n : Nat, r = (n : Int) ∧ mchP (upM μ 20 0 0) n μ')) := by
  intro l9 b9 D9 K9
  refine met_of (by decide) (Nat.le_of_ble_eq_true rfl) (fun x hC hR hM hA => ?_)
  have hC : Ctx x RX4 cX4_chain rmX4_chain := hC
  have hSm0 := hSm
  obtain ⟨⟨s1, s2⟩, ⟨n1, n2⟩, hr, hkc, hq, hpp, hli, hnu⟩ := hSm
  refine v_aload_n hC 0 dX4_chain_0 rfl rfl ?_
  refine v_aload_n hC 0 dX4_chain_1 rfl rfl ?_
  refine v_getI hC foX4_69 dX4_chain_2 rfl rfl rfl (by first | decide | (simp only [vdn]; omega)) ?_
  try simp only [Int.toNat_natCast, upM_at, upM_nef, ne_eq, not_false_eq_true, Nat.reduceEqDiff, Nat.reduceAdd]
  refine v_if_eq hC 12 dX4_chain_5 rfl (fun h5 => ?_) (fun h5 => ?_)
  · refine v_iconst hC dX4_chain_12 ⟨by decide, by decide⟩ ?_
    refine v_putI hC fwX4_59 dX4_chain_13 rfl rfl rfl (by decide) (by first | decide | (simp only [vdn]; omega)) ?_
    refine v_iconst hC dX4_chain_16 ⟨by decide, by decide⟩ ?_
    refine v_istore_n hC 1 dX4_chain_17 rfl (Nat.le_of_ble_eq_true rfl) ?_
    refine v_aload_n hC 0 dX4_chain_18 rfl rfl ?_
    refine v_getI hC foX4_59 dX4_chain_19 rfl rfl rfl (by first | decide | (simp only [vdn]; omega)) ?_
    try simp only [Int.toNat_natCast, upM_at, upM_nef, ne_eq, not_false_eq_true, Nat.reduceEqDiff, Nat.reduceAdd]
    refine v_if_ne hC 38 dX4_chain_22 rfl (fun h22 => ?_) (fun h22 => ?_)
    · refine v_iload_n hC 1 dX4_chain_38 rfl rfl ?_
      exact v_iret hC hR dX4_chain_39 (⟨_, rfl, fun _ => ⟨rfl, rfl⟩, fun h => absurd h5 h⟩)
    · exfalso; omega
  · refine v_iconst hC dX4_chain_8 ⟨by decide, by decide⟩ ?_
    refine v_goto hC 13 dX4_chain_9 rfl ?_
    refine v_putI hC fwX4_59 dX4_chain_13 rfl rfl rfl (by decide) (by first | decide | (simp only [vdn]; omega)) ?_
    refine v_iconst hC dX4_chain_16 ⟨by decide, by decide⟩ ?_
    refine v_istore_n hC 1 dX4_chain_17 rfl (Nat.le_of_ble_eq_true rfl) ?_
    have hSm1 : Sm (upM μ 20 0 0) := hSm0.up (by decide)
    have hb := mpot_b hSm1
    refine v_loop (fun n : Nat => mpot (mit n (upM μ 20 0 0))) (fun n => mpot (mit n (upM μ 20 0 0)) + n ≤ 180 ∧ ∀ i, i < n → (mmvS (mit i (upM μ 20 0 0))).isSome = true) (fun n => V x 0 0 none 18 [some (aR 12 0), some (aI (n : Int))] [] (mit n (upM μ 20 0 0))) (fun n hn ih => ?_) 0 ⟨hb, fun i hi => by omega⟩
    have hF := mit_fr (upM μ 20 0 0) n
    have e20 : mit n (upM μ 20 0 0) 20 0 = 0 := (hF 20 0 (by decide)).trans (upM_at _ _ _ _)
    have hSm2 : Sm (mit n (upM μ 20 0 0)) := hF.Sm hSm1 (by decide)
    refine v_aload_n hC 0 dX4_chain_18 rfl rfl ?_
    refine v_getI hC foX4_59 dX4_chain_19 rfl rfl rfl (by first | decide | (simp only [vdn]; omega)) ?_
    try simp only [Int.toNat_natCast, upM_at, upM_nef, ne_eq, not_false_eq_true, Nat.reduceEqDiff, Nat.reduceAdd]
    refine v_if_ne hC 38 dX4_chain_22 rfl (fun h22 => ?_) (fun h22 => ?_)
    · exact absurd e20 h22
    · refine v_aload_n hC 0 dX4_chain_25 rfl rfl ?_
      refine v_callI0 hC (cwX4_121 hC ⟨Nat.le_of_ble_eq_true rfl, Nat.le_of_ble_eq_true rfl⟩) dX4_chain_26 rfl rfl rfl (Nat.zero_le _) (Nat.zero_le _) (Nat.le_of_ble_eq_true rfl) (by first | decide | (simp only [vdn]; omega)) (cX4_move_ok (mit n (upM μ 20 0 0)) hSm2) (fun r1 μ1 hp => ?_)
      obtain ⟨rfl, rfl⟩ := hp
      refine v_if_eq hC 38 dX4_chain_29 rfl (fun h29 => ?_) (fun h29 => ?_)
      · refine v_iload_n hC 1 dX4_chain_38 rfl rfl ?_
        exact v_iret hC hR dX4_chain_39 (⟨_, rfl, fun h => absurd h h5, fun _ => ⟨n, rfl, mmvM_none (Option.not_isSome_iff_eq_none.1 (bI_z.1 h29)), hn.2, Bool.eq_false_iff.2 (bI_z.1 h29)⟩⟩)
      · refine v_iinc hC dX4_chain_32 rfl ⟨by have := hn.1; omega, by have := hn.1; omega⟩ ?_
        refine v_goto hC 18 dX4_chain_35 rfl ?_
        have h8 : mpot (mit (n + 1) (upM μ 20 0 0)) < mpot (mit n (upM μ 20 0 0)) := mmvM_pot hSm2 (bI_n.1 h29)
        exact ih (n + 1) ⟨by have := hn.1; omega, fun i hi => by
          by_cases e : i = n
          · rw [e]; exact bI_n.1 h29
          · exact hn.2 i (by omega)⟩ h8
