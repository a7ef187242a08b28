/-! The reference's round, and its kinds. -/
abbrev mcnA (c : MU) (p : Nat) : Prop := c 33 p < 0 ∧ c 32 p < c 29 p
/-- reached by asking: whatever asking keeps, holds -/
def mRe (a b : MU) : Prop := ∀ J : MU → Prop, J a → (∀ (c : MU) (p s : Nat) (c' : MU), J c → p < (c 23 0).toNat → mcnA c p → c 30 (4 * p + (c 32 p).toNat) = (s : Int) → mAskP c p s c' → J c') → J b
theorem mRe.rf {a : MU} : mRe a a := fun _ h _ => h
theorem mRe.step {a c c' : MU} {p s : Nat} (h : mRe a c) (h1 : p < (c 23 0).toNat) (h2 : mcnA c p) (h3 : c 30 (4 * p + (c 32 p).toNat) = (s : Int)) (h4 : mAskP c p s c') : mRe a c' := fun J ha hs => hs c p s c' (h J ha hs) h1 h2 h3 h4
theorem mAskP_Sm {c c' : MU} {p s : Nat} (h : mAskP c p s c') (hS : Sm c) (hp : p < 20) (ha : c 32 p < 4) : Sm c' := by
  refine (hS.ask hp ha).of (fun f j hf => ?_)
  by_cases e : f = 32
  · subst e
    rw [h.2.1 j]
    by_cases e2 : j = p
    · rw [if_pos e2, e2, upM_at]
    · rw [if_neg e2, upM_ne (fun h => e2 h.2)]
  · rw [upM_nef e]
    refine h.1 f j (fun h9 => ?_)
    simp only [List.mem_cons, List.not_mem_nil, or_false] at hf h9
    omega
def mpt (c : MU) : Nat := smF (fun p => (c 29 p - c 32 p).toNat) (c 23 0).toNat
theorem mAskP_pt {c c' : MU} {p s : Nat} (h : mAskP c p s c') (hp : p < (c 23 0).toNat) (ha : c 32 p < c 29 p) : mpt c' < mpt c := by
  unfold mpt
  rw [h.1 23 0 (by decide)]
  have hl : (c' 29 p - c' 32 p).toNat < (c 29 p - c 32 p).toNat := by
    rw [h.1 29 p (by decide), h.2.1 p, if_pos rfl]
    omega
  refine smF_lt (q := p) _ (fun q hq => ?_) hp hl
  by_cases e : q = p
  · rw [e]; exact Nat.le_of_lt hl
  · show (c' 29 q - c' 32 q).toNat ≤ (c 29 q - c 32 q).toNat
    rw [h.1 29 q (by decide), h.2.1 q, if_neg e]
    exact Nat.le_refl _
abbrev mru0 (μ : MU) : MU := upM (upM μ 20 0 0) 21 0 1
def mclP (c : MU) : Prop := ∀ p, p < (c 23 0).toNat → ¬ mcnA c p
abbrev rmX4_run : Room := { frames := 4, cells := 0, slots := 0, locals := 98 }
set_option maxRecDepth 100000 in
set_option maxHeartbeats 4000000 in
theorem cX4_run_ok (μ : MU) (hSm : Sm μ) : CTi yX4_run cX4_run 3 (some .int) rmX4_run [aR 12 0] μ (fun r μ' => (μ 21 0 ≠ 0 → r = 0 ∧ upM μ 20 0 1 = μ') ∧ (μ 21 0 = 0 → mRe (mru0 μ) μ' ∧ mclP μ' ∧ r = cntF (fun p => decide (¬ μ' 21 0 = 0 ∧ 0 ≤ μ' 33 p)) (μ' 23 0).toNat)) := by
  intro l9 b9 D9 K9
  refine met_of (by decide) (Nat.le_of_ble_eq_true rfl) (fun x hC hR hM hA => ?_)
  have hC : Ctx x RX4 cX4_run rmX4_run := hC
  have hSm0 := hSm
  obtain ⟨⟨s1, s2⟩, ⟨n1, n2⟩, hr, hkc, hq, hpp, hli, hnu⟩ := hSm
  refine v_aload_n hC 0 dX4_run_0 rfl rfl ?_
  refine v_aload_n hC 0 dX4_run_1 rfl rfl ?_
  refine v_getI hC foX4_69 dX4_run_2 rfl rfl rfl (by first | decide | (simp only [vdn]; omega)) ?_
  try simp only [Int.toNat_natCast, upM_at, upM_nef, ne_eq, not_false_eq_true, Nat.reduceEqDiff, Nat.reduceAdd]
  refine v_if_eq hC 12 dX4_run_5 rfl (fun h5 => ?_) (fun h5 => ?_)
  · refine v_iconst hC dX4_run_12 ⟨by decide, by decide⟩ ?_
    refine v_putI hC fwX4_59 dX4_run_13 rfl rfl rfl (by decide) (by first | decide | (simp only [vdn]; omega)) ?_
    refine v_aload_n hC 0 dX4_run_16 rfl rfl ?_
    refine v_getI hC foX4_59 dX4_run_17 rfl rfl rfl (by first | decide | (simp only [vdn]; omega)) ?_
    try simp only [Int.toNat_natCast, upM_at, upM_nef, ne_eq, not_false_eq_true, Nat.reduceEqDiff, Nat.reduceAdd]
    refine v_if_le hC 25 dX4_run_20 rfl (fun h20 => ?_) (fun h20 => ?_)
    · refine v_aload_n hC 0 dX4_run_25 rfl rfl ?_
      refine v_iconst hC dX4_run_26 ⟨by decide, by decide⟩ ?_
      refine v_putZ hC fwX4_69 dX4_run_27 rfl rfl rfl (by decide) (by first | decide | (simp only [vdn]; omega)) (by omega) ?_
      refine v_iconst hC dX4_run_30 ⟨by decide, by decide⟩ ?_
      refine v_istore_n hC 1 dX4_run_31 rfl (Nat.le_of_ble_eq_true rfl) ?_
      have hSm1 : Sm (mru0 μ) := by
        have h1 : Sm (upM μ 20 0 0) := hSm0.up (by decide)
        exact ⟨h1.1, h1.2.1, Or.inr (upM_at _ _ _ _), h1.2.2.2⟩
      refine v_loop (fun t : Nat => t) (fun _ => True) (fun t => ∀ (μa : MU) (ma : Int), 2 * mpt μa + ma.toNat = t → Fr [32, 33, 34, 38, 39] (mru0 μ) μa → Sm μa → mRe (mru0 μ) μa → (ma = 1 ∨ ma = 0 ∧ mclP μa) → V x 0 0 none 32 [some (aR 12 0), some (aI ma), none] [] μa) (fun t _ ih μa ma ht hFa hSa hRa hma => ?_) _ trivial (mru0 μ) 1 rfl Fr.rf hSm1 mRe.rf (Or.inl rfl)
      refine v_iload_n hC 1 dX4_run_32 rfl rfl ?_
      refine v_if_eq hC 88 dX4_run_33 rfl (fun h33 => ?_) (fun h33 => ?_)
      · refine v_aload_n hC 0 dX4_run_88 rfl rfl ?_
        refine v_callI0 hC (cwX4_103 hC ⟨Nat.le_of_ble_eq_true rfl, Nat.le_of_ble_eq_true rfl⟩) dX4_run_89 rfl rfl rfl (Nat.zero_le _) (Nat.zero_le _) (Nat.le_of_ble_eq_true rfl) (by first | decide | (simp only [vdn]; omega)) (cX4_placed_ok μa hSa) (fun r1 μ1 hp => ?_)
        obtain ⟨rfl, rfl⟩ := hp
        exact v_iret hC hR dX4_run_92 (⟨_, rfl, fun h => absurd h5 h, fun _ => ⟨hRa, hma.elim (fun h => absurd h33 (by omega)) (fun h => h.2), rfl⟩⟩)
      · refine v_iconst hC dX4_run_36 ⟨by decide, by decide⟩ ?_
        refine v_istore_n hC 1 dX4_run_37 rfl (Nat.le_of_ble_eq_true rfl) ?_
        refine v_iconst hC dX4_run_38 ⟨by decide, by decide⟩ ?_
        refine v_istore_n hC 2 dX4_run_39 rfl (Nat.le_of_ble_eq_true rfl) ?_
        have hma1 : ma = 1 := hma.elim id (fun h => absurd h.1 h33)
        refine v_loop (fun p : Nat => 20 - p) (fun _ => True) (fun p => ∀ (μ2 : MU) (m2 : Int), p ≤ 20 → Fr [32, 33, 34, 38, 39] (mru0 μ) μ2 → Sm μ2 → mRe (mru0 μ) μ2 → ((m2 = 0 ∧ μ2 = μa ∧ ∀ q, q < p → ¬ mcnA μ2 q) ∨ (m2 = 1 ∧ mpt μ2 < mpt μa)) → V x 0 0 none 40 [some (aR 12 0), some (aI m2), some (aI (p : Int))] [] μ2) (fun p _ ih2 μ2 m2 a1 hF2 hS2 hR2 hm2 => ?_) 0 trivial μa 0 (by decide) hFa hSa hRa (Or.inl ⟨rfl, rfl, fun q hq => by omega⟩)
        have hn2 := hS2.2.1
        refine v_iload_n hC 2 dX4_run_40 rfl rfl ?_
        refine v_aload_n hC 0 dX4_run_41 rfl rfl ?_
        refine v_getI hC foX4_66 dX4_run_42 rfl rfl rfl (by first | decide | (simp only [vdn]; omega)) ?_
        try simp only [Int.toNat_natCast, upM_at, upM_nef, ne_eq, not_false_eq_true, Nat.reduceEqDiff, Nat.reduceAdd]
        refine v_icmp_ge hC 85 dX4_run_45 rfl (fun h45 => ?_) (fun h45 => ?_)
        · refine v_goto hC 32 dX4_run_85 rfl ?_
          refine v_forget 2 ?_
          rcases hm2 with ⟨e1, e2, hcl⟩ | ⟨e1, hlt⟩
          · subst e1
            subst e2
            exact ih _ (by trivial) (by show 2 * mpt μ2 + (0 : Int).toNat < t; omega) μ2 0 rfl hF2 hS2 hR2 (Or.inr ⟨rfl, fun q hq => hcl q (by omega)⟩)
          · subst e1
            exact ih _ (by trivial) (by show 2 * mpt μ2 + (1 : Int).toNat < t; omega) μ2 1 rfl hF2 hS2 hR2 (Or.inl rfl)
        · refine v_aload_n hC 0 dX4_run_48 rfl rfl ?_
          refine v_getR hC foX4_38 dX4_run_49 rfl rfl rfl (by decide) (by first | decide | (simp only [vdn]; omega)) ?_
          refine v_iload_n hC 2 dX4_run_52 rfl rfl ?_
          refine v_iald hC dX4_run_53 rfl rfl rfl (by first | decide | (simp only [vdn]; omega)) ⟨by first | omega | (simp only [mlen]; omega), by first | omega | (simp only [mlen]; omega)⟩ ?_
          try simp only [Int.toNat_natCast, upM_at, upM_nef, ne_eq, not_false_eq_true, Nat.reduceEqDiff, Nat.reduceAdd]
          refine v_if_ge hC 79 dX4_run_54 rfl (fun h54 => ?_) (fun h54 => ?_)
          · refine v_iinc hC dX4_run_79 rfl ⟨by omega, by omega⟩ ?_
            refine v_goto hC 40 dX4_run_82 rfl ?_
            exact ih2 (p + 1) trivial (by omega) μ2 m2 (by omega) hF2 hS2 hR2 (hm2.imp (fun ⟨e1, e2, h3⟩ => ⟨e1, e2, fun q hq => by
              by_cases e : q = p
              · rw [e]; exact fun h => by have := h.1; omega
              · exact h3 q (by omega)⟩) id)
          · refine v_aload_n hC 0 dX4_run_57 rfl rfl ?_
            refine v_getR hC foX4_35 dX4_run_58 rfl rfl rfl (by decide) (by first | decide | (simp only [vdn]; omega)) ?_
            refine v_iload_n hC 2 dX4_run_61 rfl rfl ?_
            refine v_iald hC dX4_run_62 rfl rfl rfl (by first | decide | (simp only [vdn]; omega)) ⟨by first | omega | (simp only [mlen]; omega), by first | omega | (simp only [mlen]; omega)⟩ ?_
            try simp only [Int.toNat_natCast, upM_at, upM_nef, ne_eq, not_false_eq_true, Nat.reduceEqDiff, Nat.reduceAdd]
            refine v_aload_n hC 0 dX4_run_63 rfl rfl ?_
            refine v_getR hC foX4_26 dX4_run_64 rfl rfl rfl (by decide) (by first | decide | (simp only [vdn]; omega)) ?_
            refine v_iload_n hC 2 dX4_run_67 rfl rfl ?_
            refine v_iald hC dX4_run_68 rfl rfl rfl (by first | decide | (simp only [vdn]; omega)) ⟨by first | omega | (simp only [mlen]; omega), by first | omega | (simp only [mlen]; omega)⟩ ?_
            try simp only [Int.toNat_natCast, upM_at, upM_nef, ne_eq, not_false_eq_true, Nat.reduceEqDiff, Nat.reduceAdd]
            refine v_icmp_ge hC 79 dX4_run_69 rfl (fun h69 => ?_) (fun h69 => ?_)
            · refine v_iinc hC dX4_run_79 rfl ⟨by omega, by omega⟩ ?_
              refine v_goto hC 40 dX4_run_82 rfl ?_
              exact ih2 (p + 1) trivial (by omega) μ2 m2 (by omega) hF2 hS2 hR2 (hm2.imp (fun ⟨e1, e2, h3⟩ => ⟨e1, e2, fun q hq => by
                by_cases e : q = p
                · rw [e]; exact fun h => by have := h.2; omega
                · exact h3 q (by omega)⟩) id)
            · have hp2 := hS2.2.2.2.2.2.1 p (by omega)
              have hl2 := hS2.2.2.2.2.2.2.1 (4 * p + (μ2 32 p).toNat) (by omega)
              obtain ⟨s, hse⟩ := Int.eq_ofNat_of_zero_le hl2.1
              refine v_aload_n hC 0 dX4_run_72 rfl rfl ?_
              refine v_iload_n hC 2 dX4_run_73 rfl rfl ?_
              refine v_callV1 hC (cwX4_100 hC ⟨Nat.le_of_ble_eq_true rfl, Nat.le_of_ble_eq_true rfl⟩) dX4_run_74 rfl rfl rfl (Nat.zero_le _) (Nat.zero_le _) (Nat.le_of_ble_eq_true rfl) (by first | decide | (simp only [vdn]; omega)) (cX4_ask_ok p s μ2 (by omega) (by omega) hS2 (by omega) hse) (fun μ1 hp => ?_)
              have hA : mAskP μ2 p s μ1 := hp
              refine v_iconst hC dX4_run_77 ⟨by decide, by decide⟩ ?_
              refine v_istore_n hC 1 dX4_run_78 rfl (Nat.le_of_ble_eq_true rfl) ?_
              refine v_iinc hC dX4_run_79 rfl ⟨by omega, by omega⟩ ?_
              refine v_goto hC 40 dX4_run_82 rfl ?_
              have hpt := mAskP_pt hA (by omega) (by omega)
              exact ih2 (p + 1) trivial (by omega) μ1 1 (by omega) (hF2.trans hA.1) (mAskP_Sm hA hS2 (by omega) (by omega)) (hR2.step (by omega) ⟨by omega, by omega⟩ hse hA) (Or.inr ⟨rfl, by
                rcases hm2 with ⟨-, e, -⟩ | ⟨-, h⟩
                · rw [e] at hpt; exact hpt
                · omega⟩)
    · exfalso; omega
  · refine v_iconst hC dX4_run_8 ⟨by decide, by decide⟩ ?_
    refine v_goto hC 13 dX4_run_9 rfl ?_
    refine v_putI hC fwX4_59 dX4_run_13 rfl rfl rfl (by decide) (by first | decide | (simp only [vdn]; omega)) ?_
    refine v_aload_n hC 0 dX4_run_16 rfl rfl ?_
    refine v_getI hC foX4_59 dX4_run_17 rfl rfl rfl (by first | decide | (simp only [vdn]; omega)) ?_
    try simp only [Int.toNat_natCast, upM_at, upM_nef, ne_eq, not_false_eq_true, Nat.reduceEqDiff, Nat.reduceAdd]
    refine v_if_le hC 25 dX4_run_20 rfl (fun h20 => ?_) (fun h20 => ?_)
    · exfalso; omega
    · refine v_iconst hC dX4_run_23 ⟨by decide, by decide⟩ ?_
      exact v_iret hC hR dX4_run_24 (⟨_, rfl, fun _ => ⟨rfl, rfl⟩, fun h => absurd h h5⟩)
/-- a kind more -/
abbrev mkdC (μ : MU) (S n b0 b1 b2 : Int) : Prop := mIS μ S ∧ 0 ≤ n ∧ n ≤ 6 ∧ b0 ≤ 15 ∧ b1 ≤ 15 ∧ b2 ≤ 15
def mkd0 (μ : MU) (s k : Nat) (n c0 c1 c2 : Int) : MU := upM (upM (upM (upM (upM (upM (upM μ 20 0 0) 20 0 0) 25 (3 * s + k) n) 26 (3 * (3 * s + k)) c0) 26 (3 * (3 * s + k) + 1) c1) 26 (3 * (3 * s + k) + 2) c2) 24 s ((k : Int) + 1)
def mkdM (μ : MU) (S n b0 b1 b2 : Int) : MU := if ¬ mkdC μ S n b0 b1 b2 then upM μ 20 0 1 else if ¬ μ 21 0 = 0 ∨ μ 24 S.toNat = 3 then upM (upM μ 20 0 0) 20 0 2 else
  mkd0 μ S.toNat (μ 24 S.toNat).toNat n (if b0 < 0 then -1 else b0) (if b0 < 0 ∨ b1 < 0 then -1 else b1) (if b0 < 0 ∨ b1 < 0 ∨ b2 < 0 then -1 else b2)
def mkdR (μ : MU) (S n b0 b1 b2 : Int) : Int := if ¬ mkdC μ S n b0 b1 b2 then 0 else if ¬ μ 21 0 = 0 ∨ μ 24 S.toNat = 3 then 0 else μ 24 S.toNat
abbrev rmX4_kind : Room := { frames := 1, cells := 0, slots := 0, locals := 21 }
set_option maxRecDepth 100000 in
set_option maxHeartbeats 4000000 in
theorem cX4_kind_ok (S n b0 b1 b2 : Int) (μ : MU) (hSm : Sm μ) : CTi yX4_kind cX4_kind 7 (some .int) rmX4_kind [aR 12 0, aI S, aI n, aI b0, aI b1, aI b2] μ (fun r μ' => mkdM μ S n b0 b1 b2 = μ' ∧ r = mkdR μ S n b0 b1 b2) := by
  intro l9 b9 D9 K9
  refine met_of (by decide) (Nat.le_of_ble_eq_true rfl) (fun x hC hR hM hA => ?_)
  have hC : Ctx x RX4 cX4_kind rmX4_kind := hC
  have hSm0 := hSm
  obtain ⟨⟨s1, s2⟩, ⟨n1, n2⟩, hr, hkc, hq, hpp, hli, hnu⟩ := hSm
  refine v_aload_n hC 0 dX4_kind_0 rfl rfl ?_
  refine v_aload_n hC 0 dX4_kind_1 rfl rfl ?_
  refine v_iload_n hC 1 dX4_kind_2 rfl rfl ?_
  refine v_callI1 hC (cwX4_73 hC ⟨Nat.le_of_ble_eq_true rfl, Nat.le_of_ble_eq_true rfl⟩) dX4_kind_3 rfl rfl rfl (Nat.zero_le _) (Nat.zero_le _) (Nat.le_of_ble_eq_true rfl) (by first | decide | (simp only [vdn]; omega)) (cX4_isSchool_ok S μ) (fun r1 μ1 hp => ?_)
  obtain ⟨rfl, rfl⟩ := hp
  refine v_if_eq hC 39 dX4_kind_6 rfl (fun h6 => ?_) (fun h6 => ?_)
  · refine v_iconst hC dX4_kind_39 ⟨by decide, by decide⟩ ?_
    refine v_goto hC 44 dX4_kind_40 rfl ?_
    refine v_putI hC fwX4_59 dX4_kind_44 rfl rfl rfl (by decide) (by first | decide | (simp only [vdn]; omega)) ?_
    refine v_aload_n hC 0 dX4_kind_47 rfl rfl ?_
    refine v_getI hC foX4_59 dX4_kind_48 rfl rfl rfl (by first | decide | (simp only [vdn]; omega)) ?_
    try simp only [Int.toNat_natCast, upM_at, upM_nef, ne_eq, not_false_eq_true, Nat.reduceEqDiff, Nat.reduceAdd]
    refine v_if_le hC 56 dX4_kind_51 rfl (fun h51 => ?_) (fun h51 => ?_)
    · exfalso; omega
    · refine v_iconst hC dX4_kind_54 ⟨by decide, by decide⟩ ?_
      exact v_iret hC hR dX4_kind_55 (⟨_, rfl, if_pos (fun q => bI_z.1 h6 q.1), (if_pos (fun q => bI_z.1 h6 q.1)).symm⟩)
  · refine v_iload_n hC 2 dX4_kind_9 rfl rfl ?_
    refine v_if_lt hC 39 dX4_kind_10 rfl (fun h10 => ?_) (fun h10 => ?_)
    · refine v_iconst hC dX4_kind_39 ⟨by decide, by decide⟩ ?_
      refine v_goto hC 44 dX4_kind_40 rfl ?_
      refine v_putI hC fwX4_59 dX4_kind_44 rfl rfl rfl (by decide) (by first | decide | (simp only [vdn]; omega)) ?_
      refine v_aload_n hC 0 dX4_kind_47 rfl rfl ?_
      refine v_getI hC foX4_59 dX4_kind_48 rfl rfl rfl (by first | decide | (simp only [vdn]; omega)) ?_
      try simp only [Int.toNat_natCast, upM_at, upM_nef, ne_eq, not_false_eq_true, Nat.reduceEqDiff, Nat.reduceAdd]
      refine v_if_le hC 56 dX4_kind_51 rfl (fun h51 => ?_) (fun h51 => ?_)
      · exfalso; omega
      · refine v_iconst hC dX4_kind_54 ⟨by decide, by decide⟩ ?_
        exact v_iret hC hR dX4_kind_55 (⟨_, rfl, if_pos (fun q => by have := q.2.1; omega), (if_pos (fun q => by have := q.2.1; omega)).symm⟩)
    · refine v_iload_n hC 2 dX4_kind_13 rfl rfl ?_
      refine v_bipush hC dX4_kind_14 ⟨by decide, by decide⟩ ?_
      refine v_icmp_gt hC 39 dX4_kind_16 rfl (fun h16 => ?_) (fun h16 => ?_)
      · refine v_iconst hC dX4_kind_39 ⟨by decide, by decide⟩ ?_
        refine v_goto hC 44 dX4_kind_40 rfl ?_
        refine v_putI hC fwX4_59 dX4_kind_44 rfl rfl rfl (by decide) (by first | decide | (simp only [vdn]; omega)) ?_
        refine v_aload_n hC 0 dX4_kind_47 rfl rfl ?_
        refine v_getI hC foX4_59 dX4_kind_48 rfl rfl rfl (by first | decide | (simp only [vdn]; omega)) ?_
        try simp only [Int.toNat_natCast, upM_at, upM_nef, ne_eq, not_false_eq_true, Nat.reduceEqDiff, Nat.reduceAdd]
        refine v_if_le hC 56 dX4_kind_51 rfl (fun h51 => ?_) (fun h51 => ?_)
        · exfalso; omega
        · refine v_iconst hC dX4_kind_54 ⟨by decide, by decide⟩ ?_
          exact v_iret hC hR dX4_kind_55 (⟨_, rfl, if_pos (fun q => by have := q.2.2.1; omega), (if_pos (fun q => by have := q.2.2.1; omega)).symm⟩)
      · refine v_iload_n hC 3 dX4_kind_19 rfl rfl ?_
        refine v_bipush hC dX4_kind_20 ⟨by decide, by decide⟩ ?_
        refine v_icmp_gt hC 39 dX4_kind_22 rfl (fun h22 => ?_) (fun h22 => ?_)
        · refine v_iconst hC dX4_kind_39 ⟨by decide, by decide⟩ ?_
          refine v_goto hC 44 dX4_kind_40 rfl ?_
          refine v_putI hC fwX4_59 dX4_kind_44 rfl rfl rfl (by decide) (by first | decide | (simp only [vdn]; omega)) ?_
          refine v_aload_n hC 0 dX4_kind_47 rfl rfl ?_
          refine v_getI hC foX4_59 dX4_kind_48 rfl rfl rfl (by first | decide | (simp only [vdn]; omega)) ?_
          try simp only [Int.toNat_natCast, upM_at, upM_nef, ne_eq, not_false_eq_true, Nat.reduceEqDiff, Nat.reduceAdd]
          refine v_if_le hC 56 dX4_kind_51 rfl (fun h51 => ?_) (fun h51 => ?_)
          · exfalso; omega
          · refine v_iconst hC dX4_kind_54 ⟨by decide, by decide⟩ ?_
            exact v_iret hC hR dX4_kind_55 (⟨_, rfl, if_pos (fun q => by have := q.2.2.2.1; omega), (if_pos (fun q => by have := q.2.2.2.1; omega)).symm⟩)
        · refine v_iload hC dX4_kind_25 rfl ?_
          refine v_bipush hC dX4_kind_27 ⟨by decide, by decide⟩ ?_
          refine v_icmp_gt hC 39 dX4_kind_29 rfl (fun h29 => ?_) (fun h29 => ?_)
          · refine v_iconst hC dX4_kind_39 ⟨by decide, by decide⟩ ?_
            refine v_goto hC 44 dX4_kind_40 rfl ?_
            refine v_putI hC fwX4_59 dX4_kind_44 rfl rfl rfl (by decide) (by first | decide | (simp only [vdn]; omega)) ?_
            refine v_aload_n hC 0 dX4_kind_47 rfl rfl ?_
            refine v_getI hC foX4_59 dX4_kind_48 rfl rfl rfl (by first | decide | (simp only [vdn]; omega)) ?_
            try simp only [Int.toNat_natCast, upM_at, upM_nef, ne_eq, not_false_eq_true, Nat.reduceEqDiff, Nat.reduceAdd]
            refine v_if_le hC 56 dX4_kind_51 rfl (fun h51 => ?_) (fun h51 => ?_)
            · exfalso; omega
            · refine v_iconst hC dX4_kind_54 ⟨by decide, by decide⟩ ?_
              exact v_iret hC hR dX4_kind_55 (⟨_, rfl, if_pos (fun q => by have := q.2.2.2.2.1; omega), (if_pos (fun q => by have := q.2.2.2.2.1; omega)).symm⟩)
          · refine v_iload hC dX4_kind_32 rfl ?_
            refine v_bipush hC dX4_kind_34 ⟨by decide, by decide⟩ ?_
            refine v_icmp_le hC 43 dX4_kind_36 rfl (fun h36 => ?_) (fun h36 => ?_)
            · refine v_iconst hC dX4_kind_43 ⟨by decide, by decide⟩ ?_
              refine v_putI hC fwX4_59 dX4_kind_44 rfl rfl rfl (by decide) (by first | decide | (simp only [vdn]; omega)) ?_
              refine v_aload_n hC 0 dX4_kind_47 rfl rfl ?_
              refine v_getI hC foX4_59 dX4_kind_48 rfl rfl rfl (by first | decide | (simp only [vdn]; omega)) ?_
              try simp only [Int.toNat_natCast, upM_at, upM_nef, ne_eq, not_false_eq_true, Nat.reduceEqDiff, Nat.reduceAdd]
              refine v_if_le hC 56 dX4_kind_51 rfl (fun h51 => ?_) (fun h51 => ?_)
              · obtain ⟨p1, p2⟩ : mIS μ S := bI_n.1 h6
                have hc : ¬ ¬ mkdC μ S n b0 b1 b2 := fun h => h ⟨⟨p1, p2⟩, by omega, by omega, by omega, by omega, by omega⟩
                obtain ⟨s, rfl⟩ := Int.eq_ofNat_of_zero_le p1
                have hk1 := hkc s (by omega)
                obtain ⟨kc, hk9⟩ := Int.eq_ofNat_of_zero_le hk1.1
                refine v_aload_n hC 0 dX4_kind_56 rfl rfl ?_
                refine v_aload_n hC 0 dX4_kind_57 rfl rfl ?_
                refine v_getI hC foX4_69 dX4_kind_58 rfl rfl rfl (by first | decide | (simp only [vdn]; omega)) ?_
                try simp only [Int.toNat_natCast, upM_at, upM_nef, ne_eq, not_false_eq_true, Nat.reduceEqDiff, Nat.reduceAdd]
                refine v_if_ne hC 74 dX4_kind_61 rfl (fun h61 => ?_) (fun h61 => ?_)
                · refine v_iconst hC dX4_kind_74 ⟨by decide, by decide⟩ ?_
                  refine v_goto hC 79 dX4_kind_75 rfl ?_
                  refine v_putI hC fwX4_59 dX4_kind_79 rfl rfl rfl (by decide) (by first | decide | (simp only [vdn]; omega)) ?_
                  refine v_aload_n hC 0 dX4_kind_82 rfl rfl ?_
                  refine v_getI hC foX4_59 dX4_kind_83 rfl rfl rfl (by first | decide | (simp only [vdn]; omega)) ?_
                  try simp only [Int.toNat_natCast, upM_at, upM_nef, ne_eq, not_false_eq_true, Nat.reduceEqDiff, Nat.reduceAdd]
                  refine v_if_le hC 91 dX4_kind_86 rfl (fun h86 => ?_) (fun h86 => ?_)
                  · exfalso; omega
                  · refine v_iconst hC dX4_kind_89 ⟨by decide, by decide⟩ ?_
                    exact v_iret hC hR dX4_kind_90 (⟨_, rfl, by rw [mkdM, if_neg hc, if_pos (Or.inl h61)], by rw [mkdR, if_neg hc, if_pos (Or.inl h61)]⟩)
                · refine v_aload_n hC 0 dX4_kind_64 rfl rfl ?_
                  refine v_getR hC foX4_7 dX4_kind_65 rfl rfl rfl (by decide) (by first | decide | (simp only [vdn]; omega)) ?_
                  refine v_iload_n hC 1 dX4_kind_68 rfl rfl ?_
                  refine v_iald hC dX4_kind_69 rfl rfl rfl (by first | decide | (simp only [vdn]; omega)) ⟨by first | omega | (simp only [mlen]; omega), by first | omega | (simp only [mlen]; omega)⟩ ?_
                  try simp only [Int.toNat_natCast, upM_at, upM_nef, ne_eq, not_false_eq_true, Nat.reduceEqDiff, Nat.reduceAdd]
                  refine v_iconst hC dX4_kind_70 ⟨by decide, by decide⟩ ?_
                  refine v_icmp_ne hC 78 dX4_kind_71 rfl (fun h71 => ?_) (fun h71 => ?_)
                  · refine v_iconst hC dX4_kind_78 ⟨by decide, by decide⟩ ?_
                    refine v_putI hC fwX4_59 dX4_kind_79 rfl rfl rfl (by decide) (by first | decide | (simp only [vdn]; omega)) ?_
                    refine v_aload_n hC 0 dX4_kind_82 rfl rfl ?_
                    refine v_getI hC foX4_59 dX4_kind_83 rfl rfl rfl (by first | decide | (simp only [vdn]; omega)) ?_
                    try simp only [Int.toNat_natCast, upM_at, upM_nef, ne_eq, not_false_eq_true, Nat.reduceEqDiff, Nat.reduceAdd]
                    refine v_if_le hC 91 dX4_kind_86 rfl (fun h86 => ?_) (fun h86 => ?_)
                    · have hd : ¬ (¬ μ 21 0 = 0 ∨ μ 24 ((s : Int)).toNat = 3) := fun q => q.elim (fun q => q h61) h71
                      have hk3 : kc < 3 := by omega
                      have ei : (3 : Int) * (s : Int) + (kc : Int) = ((3 * s + kc : Nat) : Int) := by omega
                      have ej : (3 : Int) * ((3 * s + kc : Nat) : Int) = ((3 * (3 * s + kc) : Nat) : Int) := by omega
                      have ej1 : ((3 * (3 * s + kc) : Nat) : Int) + 1 = ((3 * (3 * s + kc) + 1 : Nat) : Int) := by omega
                      have ej2 : ((3 * (3 * s + kc) : Nat) : Int) + 2 = ((3 * (3 * s + kc) + 2 : Nat) : Int) := by omega
                      refine v_iconst hC dX4_kind_91 ⟨by decide, by decide⟩ ?_
                      refine v_iload_n hC 1 dX4_kind_92 rfl rfl ?_
                      refine v_imul hC dX4_kind_93 ⟨by omega, by omega⟩ ?_
                      refine v_aload_n hC 0 dX4_kind_94 rfl rfl ?_
                      refine v_getR hC foX4_7 dX4_kind_95 rfl rfl rfl (by decide) (by first | decide | (simp only [vdn]; omega)) ?_
                      refine v_iload_n hC 1 dX4_kind_98 rfl rfl ?_
                      refine v_iald hC dX4_kind_99 rfl rfl rfl (by first | decide | (simp only [vdn]; omega)) ⟨by first | omega | (simp only [mlen]; omega), by first | omega | (simp only [mlen]; omega)⟩ ?_
                      try simp only [Int.toNat_natCast, upM_at, upM_nef, ne_eq, not_false_eq_true, Nat.reduceEqDiff, Nat.reduceAdd]
                      rw [hk9]
                      refine v_iadd hC dX4_kind_100 ⟨by omega, by omega⟩ ?_
                      rw [ei]
                      refine v_istore hC dX4_kind_101 (Nat.le_of_ble_eq_true rfl) ?_
                      refine v_aload_n hC 0 dX4_kind_103 rfl rfl ?_
                      refine v_getR hC foX4_13 dX4_kind_104 rfl rfl rfl (by decide) (by first | decide | (simp only [vdn]; omega)) ?_
                      refine v_iload hC dX4_kind_107 rfl ?_
                      refine v_iload_n hC 2 dX4_kind_109 rfl rfl ?_
                      refine v_iast hC dX4_kind_110 rfl rfl rfl (by decide) (by first | decide | (simp only [vdn]; omega)) ⟨by first | omega | (simp only [mlen]; omega), by first | omega | (simp only [mlen]; omega)⟩ ?_
                      try simp only [Int.toNat_natCast, upM_at, upM_nef, ne_eq, not_false_eq_true, Nat.reduceEqDiff, Nat.reduceAdd]
                      refine v_aload_n hC 0 dX4_kind_111 rfl rfl ?_
                      refine v_getR hC foX4_16 dX4_kind_112 rfl rfl rfl (by decide) (by first | decide | (simp only [vdn]; omega)) ?_
                      refine v_iconst hC dX4_kind_115 ⟨by decide, by decide⟩ ?_
                      refine v_iload hC dX4_kind_116 rfl ?_
                      refine v_imul hC dX4_kind_118 ⟨by omega, by omega⟩ ?_
                      rw [ej]
                      refine v_iload_n hC 3 dX4_kind_119 rfl rfl ?_
                      refine v_if_ge hC 127 dX4_kind_120 rfl (fun h120 => ?_) (fun h120 => ?_)
                      · refine v_iload_n hC 3 dX4_kind_127 rfl rfl ?_
                        refine v_iast hC dX4_kind_128 rfl rfl rfl (by decide) (by first | decide | (simp only [vdn]; omega)) ⟨by first | omega | (simp only [mlen]; omega), by first | omega | (simp only [mlen]; omega)⟩ ?_
                        try simp only [Int.toNat_natCast, upM_at, upM_nef, ne_eq, not_false_eq_true, Nat.reduceEqDiff, Nat.reduceAdd]
                        refine v_aload_n hC 0 dX4_kind_129 rfl rfl ?_
                        refine v_getR hC foX4_16 dX4_kind_130 rfl rfl rfl (by decide) (by first | decide | (simp only [vdn]; omega)) ?_
                        refine v_iconst hC dX4_kind_133 ⟨by decide, by decide⟩ ?_
                        refine v_iload hC dX4_kind_134 rfl ?_
                        refine v_imul hC dX4_kind_136 ⟨by omega, by omega⟩ ?_
                        rw [ej]
                        refine v_iconst hC dX4_kind_137 ⟨by decide, by decide⟩ ?_
                        refine v_iadd hC dX4_kind_138 ⟨by omega, by omega⟩ ?_
                        rw [ej1]
                        refine v_iload_n hC 3 dX4_kind_139 rfl rfl ?_
                        refine v_if_lt hC 148 dX4_kind_140 rfl (fun h140 => ?_) (fun h140 => ?_)
                        · exfalso; omega
                        · refine v_iload hC dX4_kind_143 rfl ?_
                          refine v_if_ge hC 152 dX4_kind_145 rfl (fun h145 => ?_) (fun h145 => ?_)
                          · refine v_iload hC dX4_kind_152 rfl ?_
                            refine v_iast hC dX4_kind_154 rfl rfl rfl (by decide) (by first | decide | (simp only [vdn]; omega)) ⟨by first | omega | (simp only [mlen]; omega), by first | omega | (simp only [mlen]; omega)⟩ ?_
                            try simp only [Int.toNat_natCast, upM_at, upM_nef, ne_eq, not_false_eq_true, Nat.reduceEqDiff, Nat.reduceAdd]
                            refine v_aload_n hC 0 dX4_kind_155 rfl rfl ?_
                            refine v_getR hC foX4_16 dX4_kind_156 rfl rfl rfl (by decide) (by first | decide | (simp only [vdn]; omega)) ?_
                            refine v_iconst hC dX4_kind_159 ⟨by decide, by decide⟩ ?_
                            refine v_iload hC dX4_kind_160 rfl ?_
                            refine v_imul hC dX4_kind_162 ⟨by omega, by omega⟩ ?_
                            rw [ej]
                            refine v_iconst hC dX4_kind_163 ⟨by decide, by decide⟩ ?_
                            refine v_iadd hC dX4_kind_164 ⟨by omega, by omega⟩ ?_
                            rw [ej2]
                            refine v_iload_n hC 3 dX4_kind_165 rfl rfl ?_
                            refine v_if_lt hC 179 dX4_kind_166 rfl (fun h166 => ?_) (fun h166 => ?_)
                            · exfalso; omega
                            · refine v_iload hC dX4_kind_169 rfl ?_
                              refine v_if_lt hC 179 dX4_kind_171 rfl (fun h171 => ?_) (fun h171 => ?_)
                              · exfalso; omega
                              · refine v_iload hC dX4_kind_174 rfl ?_
                                refine v_if_ge hC 183 dX4_kind_176 rfl (fun h176 => ?_) (fun h176 => ?_)
                                · refine v_iload hC dX4_kind_183 rfl ?_
                                  refine v_iast hC dX4_kind_185 rfl rfl rfl (by decide) (by first | decide | (simp only [vdn]; omega)) ⟨by first | omega | (simp only [mlen]; omega), by first | omega | (simp only [mlen]; omega)⟩ ?_
                                  try simp only [Int.toNat_natCast, upM_at, upM_nef, ne_eq, not_false_eq_true, Nat.reduceEqDiff, Nat.reduceAdd]
                                  refine v_aload_n hC 0 dX4_kind_186 rfl rfl ?_
                                  refine v_getR hC foX4_7 dX4_kind_187 rfl rfl rfl (by decide) (by first | decide | (simp only [vdn]; omega)) ?_
                                  refine v_iload_n hC 1 dX4_kind_190 rfl rfl ?_
                                  refine v_dup2 hC dX4_kind_191 ?_
                                  refine v_iald hC dX4_kind_192 rfl rfl rfl (by first | decide | (simp only [vdn]; omega)) ⟨by first | omega | (simp only [mlen]; omega), by first | omega | (simp only [mlen]; omega)⟩ ?_
                                  try simp only [Int.toNat_natCast, upM_at, upM_nef, ne_eq, not_false_eq_true, Nat.reduceEqDiff, Nat.reduceAdd]
                                  rw [hk9]
                                  refine v_iconst hC dX4_kind_193 ⟨by decide, by decide⟩ ?_
                                  refine v_iadd hC dX4_kind_194 ⟨by omega, by omega⟩ ?_
                                  refine v_iast hC dX4_kind_195 rfl rfl rfl (by decide) (by first | decide | (simp only [vdn]; omega)) ⟨by first | omega | (simp only [mlen]; omega), by first | omega | (simp only [mlen]; omega)⟩ ?_
                                  try simp only [Int.toNat_natCast, upM_at, upM_nef, ne_eq, not_false_eq_true, Nat.reduceEqDiff, Nat.reduceAdd]
                                  refine v_aload_n hC 0 dX4_kind_196 rfl rfl ?_
                                  refine v_getR hC foX4_7 dX4_kind_197 rfl rfl rfl (by decide) (by first | decide | (simp only [vdn]; omega)) ?_
                                  refine v_iload_n hC 1 dX4_kind_200 rfl rfl ?_
                                  refine v_iald hC dX4_kind_201 rfl rfl rfl (by first | decide | (simp only [vdn]; omega)) ⟨by first | omega | (simp only [mlen]; omega), by first | omega | (simp only [mlen]; omega)⟩ ?_
                                  try simp only [Int.toNat_natCast, upM_at, upM_nef, ne_eq, not_false_eq_true, Nat.reduceEqDiff, Nat.reduceAdd]
                                  refine v_iconst hC dX4_kind_202 ⟨by decide, by decide⟩ ?_
                                  refine v_isub hC dX4_kind_203 ⟨by omega, by omega⟩ ?_
                                  exact v_iret hC hR dX4_kind_204 (⟨_, rfl, by
                                    rw [mkdM, if_neg hc, if_neg hd, Int.toNat_natCast, hk9, Int.toNat_natCast, if_neg (by omega), if_neg (by omega), if_neg (by omega)]
                                    rfl, by
                                    rw [mkdR, if_neg hc, if_neg hd, Int.toNat_natCast, hk9]
                                    omega⟩)
                                · refine v_iconst hC dX4_kind_179 ⟨by decide, by decide⟩ ?_
                                  refine v_goto hC 185 dX4_kind_180 rfl ?_
                                  refine v_iast hC dX4_kind_185 rfl rfl rfl (by decide) (by first | decide | (simp only [vdn]; omega)) ⟨by first | omega | (simp only [mlen]; omega), by first | omega | (simp only [mlen]; omega)⟩ ?_
                                  try simp only [Int.toNat_natCast, upM_at, upM_nef, ne_eq, not_false_eq_true, Nat.reduceEqDiff, Nat.reduceAdd]
                                  refine v_aload_n hC 0 dX4_kind_186 rfl rfl ?_
                                  refine v_getR hC foX4_7 dX4_kind_187 rfl rfl rfl (by decide) (by first | decide | (simp only [vdn]; omega)) ?_
                                  refine v_iload_n hC 1 dX4_kind_190 rfl rfl ?_
                                  refine v_dup2 hC dX4_kind_191 ?_
                                  refine v_iald hC dX4_kind_192 rfl rfl rfl (by first | decide | (simp only [vdn]; omega)) ⟨by first | omega | (simp only [mlen]; omega), by first | omega | (simp only [mlen]; omega)⟩ ?_
                                  try simp only [Int.toNat_natCast, upM_at, upM_nef, ne_eq, not_false_eq_true, Nat.reduceEqDiff, Nat.reduceAdd]
                                  rw [hk9]
                                  refine v_iconst hC dX4_kind_193 ⟨by decide, by decide⟩ ?_
                                  refine v_iadd hC dX4_kind_194 ⟨by omega, by omega⟩ ?_
                                  refine v_iast hC dX4_kind_195 rfl rfl rfl (by decide) (by first | decide | (simp only [vdn]; omega)) ⟨by first | omega | (simp only [mlen]; omega), by first | omega | (simp only [mlen]; omega)⟩ ?_
                                  try simp only [Int.toNat_natCast, upM_at, upM_nef, ne_eq, not_false_eq_true, Nat.reduceEqDiff, Nat.reduceAdd]
                                  refine v_aload_n hC 0 dX4_kind_196 rfl rfl ?_
                                  refine v_getR hC foX4_7 dX4_kind_197 rfl rfl rfl (by decide) (by first | decide | (simp only [vdn]; omega)) ?_
                                  refine v_iload_n hC 1 dX4_kind_200 rfl rfl ?_
                                  refine v_iald hC dX4_kind_201 rfl rfl rfl (by first | decide | (simp only [vdn]; omega)) ⟨by first | omega | (simp only [mlen]; omega), by first | omega | (simp only [mlen]; omega)⟩ ?_
                                  try simp only [Int.toNat_natCast, upM_at, upM_nef, ne_eq, not_false_eq_true, Nat.reduceEqDiff, Nat.reduceAdd]
                                  refine v_iconst hC dX4_kind_202 ⟨by decide, by decide⟩ ?_
                                  refine v_isub hC dX4_kind_203 ⟨by omega, by omega⟩ ?_
                                  exact v_iret hC hR dX4_kind_204 (⟨_, rfl, by
                                    rw [mkdM, if_neg hc, if_neg hd, Int.toNat_natCast, hk9, Int.toNat_natCast, if_neg (by omega), if_neg (by omega), if_pos (by omega)]
                                    rfl, by
                                    rw [mkdR, if_neg hc, if_neg hd, Int.toNat_natCast, hk9]
                                    omega⟩)
                          · refine v_iconst hC dX4_kind_148 ⟨by decide, by decide⟩ ?_
                            refine v_goto hC 154 dX4_kind_149 rfl ?_
                            refine v_iast hC dX4_kind_154 rfl rfl rfl (by decide) (by first | decide | (simp only [vdn]; omega)) ⟨by first | omega | (simp only [mlen]; omega), by first | omega | (simp only [mlen]; omega)⟩ ?_
                            try simp only [Int.toNat_natCast, upM_at, upM_nef, ne_eq, not_false_eq_true, Nat.reduceEqDiff, Nat.reduceAdd]
                            refine v_aload_n hC 0 dX4_kind_155 rfl rfl ?_
                            refine v_getR hC foX4_16 dX4_kind_156 rfl rfl rfl (by decide) (by first | decide | (simp only [vdn]; omega)) ?_
                            refine v_iconst hC dX4_kind_159 ⟨by decide, by decide⟩ ?_
                            refine v_iload hC dX4_kind_160 rfl ?_
                            refine v_imul hC dX4_kind_162 ⟨by omega, by omega⟩ ?_
                            rw [ej]
                            refine v_iconst hC dX4_kind_163 ⟨by decide, by decide⟩ ?_
                            refine v_iadd hC dX4_kind_164 ⟨by omega, by omega⟩ ?_
                            rw [ej2]
                            refine v_iload_n hC 3 dX4_kind_165 rfl rfl ?_
                            refine v_if_lt hC 179 dX4_kind_166 rfl (fun h166 => ?_) (fun h166 => ?_)
                            · exfalso; omega
                            · refine v_iload hC dX4_kind_169 rfl ?_
                              refine v_if_lt hC 179 dX4_kind_171 rfl (fun h171 => ?_) (fun h171 => ?_)
                              · refine v_iconst hC dX4_kind_179 ⟨by decide, by decide⟩ ?_
                                refine v_goto hC 185 dX4_kind_180 rfl ?_
                                refine v_iast hC dX4_kind_185 rfl rfl rfl (by decide) (by first | decide | (simp only [vdn]; omega)) ⟨by first | omega | (simp only [mlen]; omega), by first | omega | (simp only [mlen]; omega)⟩ ?_
                                try simp only [Int.toNat_natCast, upM_at, upM_nef, ne_eq, not_false_eq_true, Nat.reduceEqDiff, Nat.reduceAdd]
                                refine v_aload_n hC 0 dX4_kind_186 rfl rfl ?_
                                refine v_getR hC foX4_7 dX4_kind_187 rfl rfl rfl (by decide) (by first | decide | (simp only [vdn]; omega)) ?_
                                refine v_iload_n hC 1 dX4_kind_190 rfl rfl ?_
                                refine v_dup2 hC dX4_kind_191 ?_
                                refine v_iald hC dX4_kind_192 rfl rfl rfl (by first | decide | (simp only [vdn]; omega)) ⟨by first | omega | (simp only [mlen]; omega), by first | omega | (simp only [mlen]; omega)⟩ ?_
                                try simp only [Int.toNat_natCast, upM_at, upM_nef, ne_eq, not_false_eq_true, Nat.reduceEqDiff, Nat.reduceAdd]
                                rw [hk9]
                                refine v_iconst hC dX4_kind_193 ⟨by decide, by decide⟩ ?_
                                refine v_iadd hC dX4_kind_194 ⟨by omega, by omega⟩ ?_
                                refine v_iast hC dX4_kind_195 rfl rfl rfl (by decide) (by first | decide | (simp only [vdn]; omega)) ⟨by first | omega | (simp only [mlen]; omega), by first | omega | (simp only [mlen]; omega)⟩ ?_
                                try simp only [Int.toNat_natCast, upM_at, upM_nef, ne_eq, not_false_eq_true, Nat.reduceEqDiff, Nat.reduceAdd]
                                refine v_aload_n hC 0 dX4_kind_196 rfl rfl ?_
                                refine v_getR hC foX4_7 dX4_kind_197 rfl rfl rfl (by decide) (by first | decide | (simp only [vdn]; omega)) ?_
                                refine v_iload_n hC 1 dX4_kind_200 rfl rfl ?_
                                refine v_iald hC dX4_kind_201 rfl rfl rfl (by first | decide | (simp only [vdn]; omega)) ⟨by first | omega | (simp only [mlen]; omega), by first | omega | (simp only [mlen]; omega)⟩ ?_
                                try simp only [Int.toNat_natCast, upM_at, upM_nef, ne_eq, not_false_eq_true, Nat.reduceEqDiff, Nat.reduceAdd]
                                refine v_iconst hC dX4_kind_202 ⟨by decide, by decide⟩ ?_
                                refine v_isub hC dX4_kind_203 ⟨by omega, by omega⟩ ?_
                                exact v_iret hC hR dX4_kind_204 (⟨_, rfl, by
                                  rw [mkdM, if_neg hc, if_neg hd, Int.toNat_natCast, hk9, Int.toNat_natCast, if_neg (by omega), if_pos (by omega), if_pos (by omega)]
                                  rfl, by
                                  rw [mkdR, if_neg hc, if_neg hd, Int.toNat_natCast, hk9]
                                  omega⟩)
                              · exfalso; omega
                      · refine v_iconst hC dX4_kind_123 ⟨by decide, by decide⟩ ?_
                        refine v_goto hC 128 dX4_kind_124 rfl ?_
                        refine v_iast hC dX4_kind_128 rfl rfl rfl (by decide) (by first | decide | (simp only [vdn]; omega)) ⟨by first | omega | (simp only [mlen]; omega), by first | omega | (simp only [mlen]; omega)⟩ ?_
                        try simp only [Int.toNat_natCast, upM_at, upM_nef, ne_eq, not_false_eq_true, Nat.reduceEqDiff, Nat.reduceAdd]
                        refine v_aload_n hC 0 dX4_kind_129 rfl rfl ?_
                        refine v_getR hC foX4_16 dX4_kind_130 rfl rfl rfl (by decide) (by first | decide | (simp only [vdn]; omega)) ?_
                        refine v_iconst hC dX4_kind_133 ⟨by decide, by decide⟩ ?_
                        refine v_iload hC dX4_kind_134 rfl ?_
                        refine v_imul hC dX4_kind_136 ⟨by omega, by omega⟩ ?_
                        rw [ej]
                        refine v_iconst hC dX4_kind_137 ⟨by decide, by decide⟩ ?_
                        refine v_iadd hC dX4_kind_138 ⟨by omega, by omega⟩ ?_
                        rw [ej1]
                        refine v_iload_n hC 3 dX4_kind_139 rfl rfl ?_
                        refine v_if_lt hC 148 dX4_kind_140 rfl (fun h140 => ?_) (fun h140 => ?_)
                        · refine v_iconst hC dX4_kind_148 ⟨by decide, by decide⟩ ?_
                          refine v_goto hC 154 dX4_kind_149 rfl ?_
                          refine v_iast hC dX4_kind_154 rfl rfl rfl (by decide) (by first | decide | (simp only [vdn]; omega)) ⟨by first | omega | (simp only [mlen]; omega), by first | omega | (simp only [mlen]; omega)⟩ ?_
                          try simp only [Int.toNat_natCast, upM_at, upM_nef, ne_eq, not_false_eq_true, Nat.reduceEqDiff, Nat.reduceAdd]
                          refine v_aload_n hC 0 dX4_kind_155 rfl rfl ?_
                          refine v_getR hC foX4_16 dX4_kind_156 rfl rfl rfl (by decide) (by first | decide | (simp only [vdn]; omega)) ?_
                          refine v_iconst hC dX4_kind_159 ⟨by decide, by decide⟩ ?_
                          refine v_iload hC dX4_kind_160 rfl ?_
                          refine v_imul hC dX4_kind_162 ⟨by omega, by omega⟩ ?_
                          rw [ej]
                          refine v_iconst hC dX4_kind_163 ⟨by decide, by decide⟩ ?_
                          refine v_iadd hC dX4_kind_164 ⟨by omega, by omega⟩ ?_
                          rw [ej2]
                          refine v_iload_n hC 3 dX4_kind_165 rfl rfl ?_
                          refine v_if_lt hC 179 dX4_kind_166 rfl (fun h166 => ?_) (fun h166 => ?_)
                          · refine v_iconst hC dX4_kind_179 ⟨by decide, by decide⟩ ?_
                            refine v_goto hC 185 dX4_kind_180 rfl ?_
                            refine v_iast hC dX4_kind_185 rfl rfl rfl (by decide) (by first | decide | (simp only [vdn]; omega)) ⟨by first | omega | (simp only [mlen]; omega), by first | omega | (simp only [mlen]; omega)⟩ ?_
                            try simp only [Int.toNat_natCast, upM_at, upM_nef, ne_eq, not_false_eq_true, Nat.reduceEqDiff, Nat.reduceAdd]
                            refine v_aload_n hC 0 dX4_kind_186 rfl rfl ?_
                            refine v_getR hC foX4_7 dX4_kind_187 rfl rfl rfl (by decide) (by first | decide | (simp only [vdn]; omega)) ?_
                            refine v_iload_n hC 1 dX4_kind_190 rfl rfl ?_
                            refine v_dup2 hC dX4_kind_191 ?_
                            refine v_iald hC dX4_kind_192 rfl rfl rfl (by first | decide | (simp only [vdn]; omega)) ⟨by first | omega | (simp only [mlen]; omega), by first | omega | (simp only [mlen]; omega)⟩ ?_
                            try simp only [Int.toNat_natCast, upM_at, upM_nef, ne_eq, not_false_eq_true, Nat.reduceEqDiff, Nat.reduceAdd]
                            rw [hk9]
                            refine v_iconst hC dX4_kind_193 ⟨by decide, by decide⟩ ?_
                            refine v_iadd hC dX4_kind_194 ⟨by omega, by omega⟩ ?_
                            refine v_iast hC dX4_kind_195 rfl rfl rfl (by decide) (by first | decide | (simp only [vdn]; omega)) ⟨by first | omega | (simp only [mlen]; omega), by first | omega | (simp only [mlen]; omega)⟩ ?_
                            try simp only [Int.toNat_natCast, upM_at, upM_nef, ne_eq, not_false_eq_true, Nat.reduceEqDiff, Nat.reduceAdd]
                            refine v_aload_n hC 0 dX4_kind_196 rfl rfl ?_
                            refine v_getR hC foX4_7 dX4_kind_197 rfl rfl rfl (by decide) (by first | decide | (simp only [vdn]; omega)) ?_
                            refine v_iload_n hC 1 dX4_kind_200 rfl rfl ?_
                            refine v_iald hC dX4_kind_201 rfl rfl rfl (by first | decide | (simp only [vdn]; omega)) ⟨by first | omega | (simp only [mlen]; omega), by first | omega | (simp only [mlen]; omega)⟩ ?_
                            try simp only [Int.toNat_natCast, upM_at, upM_nef, ne_eq, not_false_eq_true, Nat.reduceEqDiff, Nat.reduceAdd]
                            refine v_iconst hC dX4_kind_202 ⟨by decide, by decide⟩ ?_
                            refine v_isub hC dX4_kind_203 ⟨by omega, by omega⟩ ?_
                            exact v_iret hC hR dX4_kind_204 (⟨_, rfl, by
                              rw [mkdM, if_neg hc, if_neg hd, Int.toNat_natCast, hk9, Int.toNat_natCast, if_pos (by omega), if_pos (by omega), if_pos (by omega)]
                              rfl, by
                              rw [mkdR, if_neg hc, if_neg hd, Int.toNat_natCast, hk9]
                              omega⟩)
                          · exfalso; omega
                        · exfalso; omega
                    · exfalso; omega
                  · refine v_iconst hC dX4_kind_74 ⟨by decide, by decide⟩ ?_
                    refine v_goto hC 79 dX4_kind_75 rfl ?_
                    refine v_putI hC fwX4_59 dX4_kind_79 rfl rfl rfl (by decide) (by first | decide | (simp only [vdn]; omega)) ?_
                    refine v_aload_n hC 0 dX4_kind_82 rfl rfl ?_
                    refine v_getI hC foX4_59 dX4_kind_83 rfl rfl rfl (by first | decide | (simp only [vdn]; omega)) ?_
                    try simp only [Int.toNat_natCast, upM_at, upM_nef, ne_eq, not_false_eq_true, Nat.reduceEqDiff, Nat.reduceAdd]
                    refine v_if_le hC 91 dX4_kind_86 rfl (fun h86 => ?_) (fun h86 => ?_)
                    · exfalso; omega
                    · refine v_iconst hC dX4_kind_89 ⟨by decide, by decide⟩ ?_
                      exact v_iret hC hR dX4_kind_90 (⟨_, rfl, by rw [mkdM, if_neg hc, if_pos (Or.inr (show μ 24 ((s : Int)).toNat = 3 from h71))], by rw [mkdR, if_neg hc, if_pos (Or.inr (show μ 24 ((s : Int)).toNat = 3 from h71))]⟩)
              · exfalso; omega
            · refine v_iconst hC dX4_kind_39 ⟨by decide, by decide⟩ ?_
              refine v_goto hC 44 dX4_kind_40 rfl ?_
              refine v_putI hC fwX4_59 dX4_kind_44 rfl rfl rfl (by decide) (by first | decide | (simp only [vdn]; omega)) ?_
              refine v_aload_n hC 0 dX4_kind_47 rfl rfl ?_
              refine v_getI hC foX4_59 dX4_kind_48 rfl rfl rfl (by first | decide | (simp only [vdn]; omega)) ?_
              try simp only [Int.toNat_natCast, upM_at, upM_nef, ne_eq, not_false_eq_true, Nat.reduceEqDiff, Nat.reduceAdd]
              refine v_if_le hC 56 dX4_kind_51 rfl (fun h51 => ?_) (fun h51 => ?_)
              · exfalso; omega
              · refine v_iconst hC dX4_kind_54 ⟨by decide, by decide⟩ ?_
                exact v_iret hC hR dX4_kind_55 (⟨_, rfl, if_pos (fun q => by have := q.2.2.2.2.2; omega), (if_pos (fun q => by have := q.2.2.2.2.2; omega)).symm⟩)
