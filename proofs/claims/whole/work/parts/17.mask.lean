/-! The reference asks, blocks, moves. -/
def mAO (μ : MU) (p s q : Nat) : Bool := decide (q = p ∨ μ 33 q = (s : Int))
def mBO (μ : MU) (p s q : Nat) : Bool := decide (q = p ∨ μ 33 q = (s : Int) ∧ 0 ≤ μ 34 q)
def mAskP (μ : MU) (p s : Nat) (μ' : MU) : Prop := Fr [32, 33, 34, 38, 39] μ μ' ∧ (∀ q, μ' 32 q = if q = p then μ 32 p + 1 else μ 32 q) ∧
  ∀ q, q < (μ 23 0).toNat → μ' 34 q = (if mAO μ p s q = true then mchO μ s (mAO μ p s) q else μ 34 q) ∧ μ' 33 q = (if mAO μ p s q = true then (if mchO μ s (mAO μ p s) q = -1 then -1 else (s : Int)) else μ 33 q)
theorem Sm.ask {μ : MU} {p : Nat} (h : Sm μ) (hp : p < 20) (ha : μ 32 p < 4) : Sm (upM μ 32 p (μ 32 p + 1)) := by
  obtain ⟨h1, h2, h3, h4, h5, h6, h7, h8⟩ := h
  refine ⟨h1, h2, h3, h4, h5, fun q hq => ?_, h7, h8⟩
  have e11 : upM μ 32 p (μ 32 p + 1) 29 q = μ 29 q := upM_nef (by decide)
  have hq6 := h6 q hq
  by_cases e : q = p
  · have e17 : upM μ 32 p (μ 32 p + 1) 32 q = μ 32 p + 1 := by rw [e, upM_at]
    rw [e11, e17]
    have := h6 p hp
    omega
  · have e17 : upM μ 32 p (μ 32 p + 1) 32 q = μ 32 q := upM_ne (fun h => e h.2)
    rw [e11, e17]
    exact hq6
/-- the choice when the offers are O -/
theorem offers_ch {a b : MU} {S : List Nat} {s : Nat} {O : Nat → Bool} (h : Fr S a b) (hs : ∀ f, f ∈ [23, 24, 25, 26, 27, 28, 31] → f ∉ S) (hO : ∀ q, q < (a 23 0).toNat → b 38 q = bI (O q = true)) : ∀ p, p < (a 23 0).toNat → mchO b s (mO b) p = mchO a s O p := by
  refine mchO_of (h 23 0 (hs 23 (by decide))) (h 24 s (hs 24 (by decide))) (fun j => h 25 j (hs 25 (by decide))) (fun k p => h.mg (fun f hf => hs f (List.mem_of_mem_drop (i := 3) hf)) s k p) (fun p hp => ?_)
  unfold mO
  rw [hO p hp]
  by_cases e : O p = true
  · rw [e]; simp [bI]
  · simp [bI, e]
abbrev rmX4_ask : Room := { frames := 3, cells := 0, slots := 0, locals := 75 }
set_option maxRecDepth 100000 in
set_option maxHeartbeats 4000000 in
theorem cX4_ask_ok (p s : Nat) (μ : MU) (hp : p < (μ 23 0).toNat) (hs : s < 6) (hSm : Sm μ) (ha : μ 32 p < μ 29 p) (hse : μ 30 (4 * p + (μ 32 p).toNat) = (s : Int)) : CTv yX4_ask cX4_ask 4 rmX4_ask [aR 12 0, aI p] μ (fun μ' => mAskP μ p s μ') := by
  intro l9 b9 D9 K9
  refine met_of (by decide) (Nat.le_of_ble_eq_true rfl) (fun x hC hR hM hA => ?_)
  have hC : Ctx x RX4 cX4_ask rmX4_ask := hC
  have hSm0 := hSm
  obtain ⟨⟨s1, s2⟩, ⟨n1, n2⟩, hr, hkc, hq, hpp, hli, hnu⟩ := hSm
  have hp1 := hpp p (by omega)
  have ei : ((4 : Int) * (p : Int) + μ 32 p).toNat = 4 * p + (μ 32 p).toNat := by omega
  have hSmA : Sm (upM μ 32 p (μ 32 p + 1)) := hSm0.ask (by omega) (by omega)
  refine v_aload_n hC 0 dX4_ask_0 rfl rfl ?_
  refine v_getR hC foX4_29 dX4_ask_1 rfl rfl rfl (by decide) (by first | decide | (simp only [vdn]; omega)) ?_
  refine v_iconst hC dX4_ask_4 ⟨by decide, by decide⟩ ?_
  refine v_iload_n hC 1 dX4_ask_5 rfl rfl ?_
  refine v_imul hC dX4_ask_6 ⟨by omega, by omega⟩ ?_
  refine v_aload_n hC 0 dX4_ask_7 rfl rfl ?_
  refine v_getR hC foX4_35 dX4_ask_8 rfl rfl rfl (by decide) (by first | decide | (simp only [vdn]; omega)) ?_
  refine v_iload_n hC 1 dX4_ask_11 rfl rfl ?_
  refine v_iald hC dX4_ask_12 rfl rfl rfl (by first | decide | (simp only [vdn]; omega)) ⟨by first | omega | (simp only [mlen]; omega), by first | omega | (simp only [mlen]; omega)⟩ ?_
  try simp only [Int.toNat_natCast, upM_at, upM_nef, ne_eq, not_false_eq_true, Nat.reduceEqDiff, Nat.reduceAdd]
  refine v_iadd hC dX4_ask_13 ⟨by omega, by omega⟩ ?_
  refine v_iald hC dX4_ask_14 rfl rfl rfl (by first | decide | (simp only [vdn]; omega)) ⟨by first | omega | (simp only [mlen]; omega), by first | omega | (simp only [mlen]; omega)⟩ ?_
  try simp only [Int.toNat_natCast, upM_at, upM_nef, ne_eq, not_false_eq_true, Nat.reduceEqDiff, Nat.reduceAdd]
  rw [ei, hse]
  refine v_istore_n hC 2 dX4_ask_15 rfl (Nat.le_of_ble_eq_true rfl) ?_
  refine v_aload_n hC 0 dX4_ask_16 rfl rfl ?_
  refine v_getR hC foX4_35 dX4_ask_17 rfl rfl rfl (by decide) (by first | decide | (simp only [vdn]; omega)) ?_
  refine v_iload_n hC 1 dX4_ask_20 rfl rfl ?_
  refine v_dup2 hC dX4_ask_21 ?_
  refine v_iald hC dX4_ask_22 rfl rfl rfl (by first | decide | (simp only [vdn]; omega)) ⟨by first | omega | (simp only [mlen]; omega), by first | omega | (simp only [mlen]; omega)⟩ ?_
  try simp only [Int.toNat_natCast, upM_at, upM_nef, ne_eq, not_false_eq_true, Nat.reduceEqDiff, Nat.reduceAdd]
  refine v_iconst hC dX4_ask_23 ⟨by decide, by decide⟩ ?_
  refine v_iadd hC dX4_ask_24 ⟨by omega, by omega⟩ ?_
  refine v_iast hC dX4_ask_25 rfl rfl rfl (by decide) (by first | decide | (simp only [vdn]; omega)) ⟨by first | omega | (simp only [mlen]; omega), by first | omega | (simp only [mlen]; omega)⟩ ?_
  try simp only [Int.toNat_natCast, upM_at, upM_nef, ne_eq, not_false_eq_true, Nat.reduceEqDiff, Nat.reduceAdd]
  refine v_iconst hC dX4_ask_26 ⟨by decide, by decide⟩ ?_
  refine v_istore_n hC 3 dX4_ask_27 rfl (Nat.le_of_ble_eq_true rfl) ?_
  refine v_loop (fun i : Nat => (μ 23 0).toNat - i) (fun _ => True) (fun i => ∀ (μ1 : MU), i ≤ (μ 23 0).toNat → Fr [38] (upM μ 32 p (μ 32 p + 1)) μ1 → (∀ q, q < i → μ1 38 q = bI (mAO μ p s q = true)) → V x 0 0 none 28 [some (aR 12 0), some (aI p), some (aI s), some (aI (i : Int))] [] μ1) (fun i _ ih μ1 a1 hF1 a2 => ?_) 0 trivial _ (Nat.zero_le _) Fr.rf (fun q h => by omega)
  have e1 : μ1 23 0 = μ 23 0 := (hF1 23 0 (by decide)).trans (upM_nef (by decide))
  have e33 : μ1 33 i = μ 33 i := (hF1 33 i (by decide)).trans (upM_nef (by decide))
  refine v_iload_n hC 3 dX4_ask_28 rfl rfl ?_
  refine v_aload_n hC 0 dX4_ask_29 rfl rfl ?_
  refine v_getI hC foX4_66 dX4_ask_30 rfl rfl rfl (by first | decide | (simp only [vdn]; omega)) ?_
  try simp only [Int.toNat_natCast, upM_at, upM_nef, ne_eq, not_false_eq_true, Nat.reduceEqDiff, Nat.reduceAdd]
  refine v_icmp_ge hC 68 dX4_ask_33 rfl (fun h33 => ?_) (fun h33 => ?_)
  · have hSm1 : Sm μ1 := hF1.Sm hSmA (by decide)
    have hFA : Fr [32, 38] μ μ1 := (Fr.up Fr.rf (by decide)).trans (hF1.mono (by decide))
    refine v_aload_n hC 0 dX4_ask_68 rfl rfl ?_
    refine v_iload_n hC 2 dX4_ask_69 rfl rfl ?_
    refine v_callV1 hC (cwX4_96 hC ⟨Nat.le_of_ble_eq_true rfl, Nat.le_of_ble_eq_true rfl⟩) dX4_ask_70 rfl rfl rfl (Nat.zero_le _) (Nat.zero_le _) (Nat.le_of_ble_eq_true rfl) (by first | decide | (simp only [vdn]; omega)) (cX4_choose_ok s μ1 hs hSm1) (fun μ1 hp => ?_)
    obtain ⟨hF2, hT2⟩ := hp
    rename_i μ0
    rw [e1] at hT2
    have hch := offers_ch (s := s) (O := mAO μ p s) hFA (by decide) (fun q hq9 => a2 q (by omega))
    have hT : ∀ q, q < (μ 23 0).toNat → μ1 39 q = mchO μ s (mAO μ p s) q ∧ -1 ≤ mchO μ s (mAO μ p s) q ∧ mchO μ s (mAO μ p s) q < 3 := fun q hq9 => by
      have h9 := hT2 q hq9
      rw [hch q hq9] at h9
      exact h9
    have h38 : ∀ q, q < (μ 23 0).toNat → μ1 38 q = bI (mAO μ p s q = true) := fun q hq9 => (hF2 38 q (by decide)).trans (a2 q (by omega))
    have hFB : Fr [32, 38, 39] μ μ1 := (hFA.mono (by decide)).trans (hF2.mono (by decide))
    refine v_iconst hC dX4_ask_73 ⟨by decide, by decide⟩ ?_
    refine v_istore_n hC 3 dX4_ask_74 rfl (Nat.le_of_ble_eq_true rfl) ?_
    refine v_loop (fun i : Nat => (μ 23 0).toNat - i) (fun _ => True) (fun i => ∀ (μ3 : MU), i ≤ (μ 23 0).toNat → Fr [33, 34] μ1 μ3 → (∀ q, q < (μ 23 0).toNat → q < i → μ3 34 q = (if mAO μ p s q = true then mchO μ s (mAO μ p s) q else μ 34 q) ∧ μ3 33 q = (if mAO μ p s q = true then (if mchO μ s (mAO μ p s) q = -1 then -1 else (s : Int)) else μ 33 q)) → (∀ q, q < (μ 23 0).toNat → i ≤ q → μ3 33 q = μ 33 q ∧ μ3 34 q = μ 34 q) → V x 0 0 none 75 [some (aR 12 0), some (aI p), some (aI s), some (aI (i : Int))] [] μ3) (fun i _ ih μ3 a1 hF3 a2 a3 => ?_) 0 trivial _ (Nat.zero_le _) Fr.rf (fun q _ h => by omega) (fun q _ _ => ⟨hFB 33 q (by decide), hFB 34 q (by decide)⟩)
    have g1 : μ3 23 0 = μ 23 0 := (hF3 23 0 (by decide)).trans (hFB 23 0 (by decide))
    have g38 : i < (μ 23 0).toNat → μ3 38 i = bI (mAO μ p s i = true) := fun h => (hF3 38 i (by decide)).trans (h38 i h)
    have g39 : i < (μ 23 0).toNat → μ3 39 i = mchO μ s (mAO μ p s) i ∧ -1 ≤ mchO μ s (mAO μ p s) i ∧ mchO μ s (mAO μ p s) i < 3 := fun h => ⟨(hF3 39 i (by decide)).trans (hT i h).1, (hT i h).2⟩
    refine v_iload_n hC 3 dX4_ask_75 rfl rfl ?_
    refine v_aload_n hC 0 dX4_ask_76 rfl rfl ?_
    refine v_getI hC foX4_66 dX4_ask_77 rfl rfl rfl (by first | decide | (simp only [vdn]; omega)) ?_
    try simp only [Int.toNat_natCast, upM_at, upM_nef, ne_eq, not_false_eq_true, Nat.reduceEqDiff, Nat.reduceAdd]
    refine v_icmp_ge hC 130 dX4_ask_80 rfl (fun h80 => ?_) (fun h80 => ?_)
    · exact v_vret hC hR (Nat.le_refl _) (Nat.le_refl _) dX4_ask_130 (⟨rfl, (hFB.mono (by decide)).trans (hF3.mono (by decide)), fun q => by
        rw [hF3 32 q (by decide), hF2 32 q (by decide), hF1 32 q (by decide)]
        by_cases e : q = p
        · rw [e, upM_at, if_pos rfl]
        · rw [upM_ne (fun h => e h.2), if_neg e], fun q hq9 => a2 q hq9 (by omega)⟩)
    · refine v_aload_n hC 0 dX4_ask_83 rfl rfl ?_
      refine v_getR hC foX4_53 dX4_ask_84 rfl rfl rfl (by decide) (by first | decide | (simp only [vdn]; omega)) ?_
      refine v_iload_n hC 3 dX4_ask_87 rfl rfl ?_
      refine v_zald hC dX4_ask_88 rfl rfl rfl (by first | decide | (simp only [vdn]; omega)) ⟨by first | omega | (simp only [mlen]; omega), by first | omega | (simp only [mlen]; omega)⟩ ?_
      try simp only [Int.toNat_natCast, upM_at, upM_nef, ne_eq, not_false_eq_true, Nat.reduceEqDiff, Nat.reduceAdd]
      refine v_if_eq hC 124 dX4_ask_89 rfl (fun h89 => ?_) (fun h89 => ?_)
      · refine v_iinc hC dX4_ask_124 rfl ⟨by omega, by omega⟩ ?_
        refine v_goto hC 75 dX4_ask_127 rfl ?_
        rw [g38 (by omega)] at h89
        refine ih (i + 1) trivial (by omega) μ3 (by omega) hF3 (fun q hq9 h => ?_) (fun q hq9 h => a3 q hq9 (by omega))
        by_cases e : q = i
        · have h9 := a3 q hq9 (by omega)
          rw [e] at h9 ⊢
          rw [if_neg (bI_z.1 h89), if_neg (bI_z.1 h89)]
          exact ⟨h9.2, h9.1⟩
        · exact a2 q hq9 (by omega)
      · refine v_aload_n hC 0 dX4_ask_92 rfl rfl ?_
        refine v_getR hC foX4_38 dX4_ask_93 rfl rfl rfl (by decide) (by first | decide | (simp only [vdn]; omega)) ?_
        refine v_iload_n hC 3 dX4_ask_96 rfl rfl ?_
        refine v_aload_n hC 0 dX4_ask_97 rfl rfl ?_
        refine v_getR hC foX4_56 dX4_ask_98 rfl rfl rfl (by decide) (by first | decide | (simp only [vdn]; omega)) ?_
        refine v_iload_n hC 3 dX4_ask_101 rfl rfl ?_
        refine v_iald hC dX4_ask_102 rfl rfl rfl (by first | decide | (simp only [vdn]; omega)) ⟨by first | omega | (simp only [mlen]; omega), by first | omega | (simp only [mlen]; omega)⟩ ?_
        try simp only [Int.toNat_natCast, upM_at, upM_nef, ne_eq, not_false_eq_true, Nat.reduceEqDiff, Nat.reduceAdd]
        refine v_if_ge hC 110 dX4_ask_103 rfl (fun h103 => ?_) (fun h103 => ?_)
        · refine v_iload_n hC 2 dX4_ask_110 rfl rfl ?_
          refine v_iast hC dX4_ask_111 rfl rfl rfl (by decide) (by first | decide | (simp only [vdn]; omega)) ⟨by first | omega | (simp only [mlen]; omega), by first | omega | (simp only [mlen]; omega)⟩ ?_
          try simp only [Int.toNat_natCast, upM_at, upM_nef, ne_eq, not_false_eq_true, Nat.reduceEqDiff, Nat.reduceAdd]
          refine v_aload_n hC 0 dX4_ask_112 rfl rfl ?_
          refine v_getR hC foX4_41 dX4_ask_113 rfl rfl rfl (by decide) (by first | decide | (simp only [vdn]; omega)) ?_
          refine v_iload_n hC 3 dX4_ask_116 rfl rfl ?_
          refine v_aload_n hC 0 dX4_ask_117 rfl rfl ?_
          refine v_getR hC foX4_56 dX4_ask_118 rfl rfl rfl (by decide) (by first | decide | (simp only [vdn]; omega)) ?_
          refine v_iload_n hC 3 dX4_ask_121 rfl rfl ?_
          refine v_iald hC dX4_ask_122 rfl rfl rfl (by first | decide | (simp only [vdn]; omega)) ⟨by first | omega | (simp only [mlen]; omega), by first | omega | (simp only [mlen]; omega)⟩ ?_
          try simp only [Int.toNat_natCast, upM_at, upM_nef, ne_eq, not_false_eq_true, Nat.reduceEqDiff, Nat.reduceAdd]
          refine v_iast hC dX4_ask_123 rfl rfl rfl (by decide) (by first | decide | (simp only [vdn]; omega)) ⟨by first | omega | (simp only [mlen]; omega), by first | omega | (simp only [mlen]; omega)⟩ ?_
          try simp only [Int.toNat_natCast, upM_at, upM_nef, ne_eq, not_false_eq_true, Nat.reduceEqDiff, Nat.reduceAdd]
          refine v_iinc hC dX4_ask_124 rfl ⟨by omega, by omega⟩ ?_
          refine v_goto hC 75 dX4_ask_127 rfl ?_
          rw [g38 (by omega)] at h89
          have h39 := g39 (by omega)
          rw [h39.1] at h103 ⊢
          refine ih (i + 1) trivial (by omega) _ (by omega) ((hF3.up (by decide)).up (by decide)) (fun q hq9 h => ?_) (fun q hq9 h => ?_)
          · by_cases e : q = i
            · rw [e, upM_at, upM_nef (by decide), upM_at, if_pos (bI_n.1 h89), if_pos (bI_n.1 h89), if_neg (by omega)]
              exact ⟨rfl, rfl⟩
            · rw [upM_ne (fun h => e h.2), upM_nef (by decide), upM_nef (by decide), upM_ne (fun h => e h.2)]
              exact a2 q hq9 (by omega)
          · have e : q ≠ i := by omega
            rw [upM_nef (by decide), upM_ne (fun h => e h.2), upM_ne (fun h => e h.2), upM_nef (by decide)]
            exact a3 q hq9 (by omega)
        · refine v_iconst hC dX4_ask_106 ⟨by decide, by decide⟩ ?_
          refine v_goto hC 111 dX4_ask_107 rfl ?_
          refine v_iast hC dX4_ask_111 rfl rfl rfl (by decide) (by first | decide | (simp only [vdn]; omega)) ⟨by first | omega | (simp only [mlen]; omega), by first | omega | (simp only [mlen]; omega)⟩ ?_
          try simp only [Int.toNat_natCast, upM_at, upM_nef, ne_eq, not_false_eq_true, Nat.reduceEqDiff, Nat.reduceAdd]
          refine v_aload_n hC 0 dX4_ask_112 rfl rfl ?_
          refine v_getR hC foX4_41 dX4_ask_113 rfl rfl rfl (by decide) (by first | decide | (simp only [vdn]; omega)) ?_
          refine v_iload_n hC 3 dX4_ask_116 rfl rfl ?_
          refine v_aload_n hC 0 dX4_ask_117 rfl rfl ?_
          refine v_getR hC foX4_56 dX4_ask_118 rfl rfl rfl (by decide) (by first | decide | (simp only [vdn]; omega)) ?_
          refine v_iload_n hC 3 dX4_ask_121 rfl rfl ?_
          refine v_iald hC dX4_ask_122 rfl rfl rfl (by first | decide | (simp only [vdn]; omega)) ⟨by first | omega | (simp only [mlen]; omega), by first | omega | (simp only [mlen]; omega)⟩ ?_
          try simp only [Int.toNat_natCast, upM_at, upM_nef, ne_eq, not_false_eq_true, Nat.reduceEqDiff, Nat.reduceAdd]
          refine v_iast hC dX4_ask_123 rfl rfl rfl (by decide) (by first | decide | (simp only [vdn]; omega)) ⟨by first | omega | (simp only [mlen]; omega), by first | omega | (simp only [mlen]; omega)⟩ ?_
          try simp only [Int.toNat_natCast, upM_at, upM_nef, ne_eq, not_false_eq_true, Nat.reduceEqDiff, Nat.reduceAdd]
          refine v_iinc hC dX4_ask_124 rfl ⟨by omega, by omega⟩ ?_
          refine v_goto hC 75 dX4_ask_127 rfl ?_
          rw [g38 (by omega)] at h89
          have h39 := g39 (by omega)
          rw [h39.1] at h103 ⊢
          refine ih (i + 1) trivial (by omega) _ (by omega) ((hF3.up (by decide)).up (by decide)) (fun q hq9 h => ?_) (fun q hq9 h => ?_)
          · by_cases e : q = i
            · rw [e, upM_at, upM_nef (by decide), upM_at, if_pos (bI_n.1 h89), if_pos (bI_n.1 h89), if_pos (by omega)]
              exact ⟨rfl, rfl⟩
            · rw [upM_ne (fun h => e h.2), upM_nef (by decide), upM_nef (by decide), upM_ne (fun h => e h.2)]
              exact a2 q hq9 (by omega)
          · have e : q ≠ i := by omega
            rw [upM_nef (by decide), upM_ne (fun h => e h.2), upM_ne (fun h => e h.2), upM_nef (by decide)]
            exact a3 q hq9 (by omega)
  · refine v_aload_n hC 0 dX4_ask_36 rfl rfl ?_
    refine v_getR hC foX4_53 dX4_ask_37 rfl rfl rfl (by decide) (by first | decide | (simp only [vdn]; omega)) ?_
    refine v_iload_n hC 3 dX4_ask_40 rfl rfl ?_
    refine v_iload_n hC 3 dX4_ask_41 rfl rfl ?_
    refine v_iload_n hC 1 dX4_ask_42 rfl rfl ?_
    refine v_icmp_eq hC 56 dX4_ask_43 rfl (fun h43 => ?_) (fun h43 => ?_)
    · refine v_iconst hC dX4_ask_56 ⟨by decide, by decide⟩ ?_
      refine v_goto hC 61 dX4_ask_57 rfl ?_
      refine v_zast hC dX4_ask_61 rfl rfl rfl (by decide) (by first | decide | (simp only [vdn]; omega)) ⟨by first | omega | (simp only [mlen]; omega), by first | omega | (simp only [mlen]; omega)⟩ (by omega) ?_
      try simp only [Int.toNat_natCast, upM_at, upM_nef, ne_eq, not_false_eq_true, Nat.reduceEqDiff, Nat.reduceAdd]
      refine v_iinc hC dX4_ask_62 rfl ⟨by omega, by omega⟩ ?_
      refine v_goto hC 28 dX4_ask_65 rfl ?_
      exact ih (i + 1) trivial (by omega) _ (by omega) (hF1.up (by decide)) (fun q h => by
        by_cases e : q = i
        · rw [e, upM_at]
          exact bI_t (decide_eq_true (Or.inl (by omega)))
        · rw [upM_ne (fun h => e h.2)]; exact a2 q (by omega))
    · refine v_aload_n hC 0 dX4_ask_46 rfl rfl ?_
      refine v_getR hC foX4_38 dX4_ask_47 rfl rfl rfl (by decide) (by first | decide | (simp only [vdn]; omega)) ?_
      refine v_iload_n hC 3 dX4_ask_50 rfl rfl ?_
      refine v_iald hC dX4_ask_51 rfl rfl rfl (by first | decide | (simp only [vdn]; omega)) ⟨by first | omega | (simp only [mlen]; omega), by first | omega | (simp only [mlen]; omega)⟩ ?_
      try simp only [Int.toNat_natCast, upM_at, upM_nef, ne_eq, not_false_eq_true, Nat.reduceEqDiff, Nat.reduceAdd]
      refine v_iload_n hC 2 dX4_ask_52 rfl rfl ?_
      refine v_icmp_ne hC 60 dX4_ask_53 rfl (fun h53 => ?_) (fun h53 => ?_)
      · refine v_iconst hC dX4_ask_60 ⟨by decide, by decide⟩ ?_
        refine v_zast hC dX4_ask_61 rfl rfl rfl (by decide) (by first | decide | (simp only [vdn]; omega)) ⟨by first | omega | (simp only [mlen]; omega), by first | omega | (simp only [mlen]; omega)⟩ (by omega) ?_
        try simp only [Int.toNat_natCast, upM_at, upM_nef, ne_eq, not_false_eq_true, Nat.reduceEqDiff, Nat.reduceAdd]
        refine v_iinc hC dX4_ask_62 rfl ⟨by omega, by omega⟩ ?_
        refine v_goto hC 28 dX4_ask_65 rfl ?_
        exact ih (i + 1) trivial (by omega) _ (by omega) (hF1.up (by decide)) (fun q h => by
          by_cases e : q = i
          · rw [e, upM_at]
            exact bI_f (fun h => (of_decide_eq_true h).elim (fun h => h43 (by omega)) (fun h => h53 (by omega)))
          · rw [upM_ne (fun h => e h.2)]; exact a2 q (by omega))
      · refine v_iconst hC dX4_ask_56 ⟨by decide, by decide⟩ ?_
        refine v_goto hC 61 dX4_ask_57 rfl ?_
        refine v_zast hC dX4_ask_61 rfl rfl rfl (by decide) (by first | decide | (simp only [vdn]; omega)) ⟨by first | omega | (simp only [mlen]; omega), by first | omega | (simp only [mlen]; omega)⟩ (by omega) ?_
        try simp only [Int.toNat_natCast, upM_at, upM_nef, ne_eq, not_false_eq_true, Nat.reduceEqDiff, Nat.reduceAdd]
        refine v_iinc hC dX4_ask_62 rfl ⟨by omega, by omega⟩ ?_
        refine v_goto hC 28 dX4_ask_65 rfl ?_
        exact ih (i + 1) trivial (by omega) _ (by omega) (hF1.up (by decide)) (fun q h => by
          by_cases e : q = i
          · rw [e, upM_at]
            exact bI_t (decide_eq_true (Or.inr (by omega)))
          · rw [upM_ne (fun h => e h.2)]; exact a2 q (by omega))
abbrev rmX4_blocks : Room := { frames := 3, cells := 0, slots := 0, locals := 75 }
set_option maxRecDepth 100000 in
set_option maxHeartbeats 4000000 in
theorem cX4_blocks_ok (p s : Nat) (μ : MU) (hp : p < (μ 23 0).toNat) (hs : s < 6) (hSm : Sm μ) : CTi yX4_blocks cX4_blocks 4 (some .boolean) rmX4_blocks [aR 12 0, aI p, aI s] μ (fun r μ' => Fr [38, 39] μ μ' ∧ r = bI (¬ mchO μ s (mBO μ p s) p = -1)) := by
  intro l9 b9 D9 K9
  refine met_of (by decide) (Nat.le_of_ble_eq_true rfl) (fun x hC hR hM hA => ?_)
  have hC : Ctx x RX4 cX4_blocks rmX4_blocks := hC
  have hSm0 := hSm
  have hp0 := hp
  obtain ⟨⟨s1, s2⟩, ⟨n1, n2⟩, hr, hkc, hq, hpp, hli, hnu⟩ := hSm
  refine v_iconst hC dX4_blocks_0 ⟨by decide, by decide⟩ ?_
  refine v_istore_n hC 3 dX4_blocks_1 rfl (Nat.le_of_ble_eq_true rfl) ?_
  refine v_loop (fun i : Nat => (μ 23 0).toNat - i) (fun _ => True) (fun i => ∀ (μ1 : MU), i ≤ (μ 23 0).toNat → Fr [38] μ μ1 → (∀ q, q < i → μ1 38 q = bI (mBO μ p s q = true)) → V x 0 0 none 2 [some (aR 12 0), some (aI p), some (aI s), some (aI (i : Int))] [] μ1) (fun i _ ih μ1 a1 hF1 a2 => ?_) 0 trivial _ (Nat.zero_le _) Fr.rf (fun q h => by omega)
  have e1 : μ1 23 0 = μ 23 0 := hF1 23 0 (by decide)
  have e33 : μ1 33 i = μ 33 i := hF1 33 i (by decide)
  have e34 : μ1 34 i = μ 34 i := hF1 34 i (by decide)
  refine v_iload_n hC 3 dX4_blocks_2 rfl rfl ?_
  refine v_aload_n hC 0 dX4_blocks_3 rfl rfl ?_
  refine v_getI hC foX4_66 dX4_blocks_4 rfl rfl rfl (by first | decide | (simp only [vdn]; omega)) ?_
  try simp only [Int.toNat_natCast, upM_at, upM_nef, ne_eq, not_false_eq_true, Nat.reduceEqDiff, Nat.reduceAdd]
  refine v_icmp_ge hC 51 dX4_blocks_7 rfl (fun h7 => ?_) (fun h7 => ?_)
  · have hSm1 : Sm μ1 := hF1.Sm hSm0 (by decide)
    refine v_aload_n hC 0 dX4_blocks_51 rfl rfl ?_
    refine v_iload_n hC 2 dX4_blocks_52 rfl rfl ?_
    refine v_callV1 hC (cwX4_96 hC ⟨Nat.le_of_ble_eq_true rfl, Nat.le_of_ble_eq_true rfl⟩) dX4_blocks_53 rfl rfl rfl (Nat.zero_le _) (Nat.zero_le _) (Nat.le_of_ble_eq_true rfl) (by first | decide | (simp only [vdn]; omega)) (cX4_choose_ok s μ1 hs hSm1) (fun μ1 hp => ?_)
    obtain ⟨hF2, hT2⟩ := hp
    rw [e1] at hT2
    have hch := offers_ch (s := s) (O := mBO μ p s) hF1 (by decide) (fun q hq9 => a2 q (by omega))
    have hT := hT2 p hp0
    rw [hch p hp0] at hT
    refine v_aload_n hC 0 dX4_blocks_56 rfl rfl ?_
    refine v_getR hC foX4_56 dX4_blocks_57 rfl rfl rfl (by decide) (by first | decide | (simp only [vdn]; omega)) ?_
    refine v_iload_n hC 1 dX4_blocks_60 rfl rfl ?_
    refine v_iald hC dX4_blocks_61 rfl rfl rfl (by first | decide | (simp only [vdn]; omega)) ⟨by first | omega | (simp only [mlen]; omega), by first | omega | (simp only [mlen]; omega)⟩ ?_
    try simp only [Int.toNat_natCast, upM_at, upM_nef, ne_eq, not_false_eq_true, Nat.reduceEqDiff, Nat.reduceAdd]
    refine v_if_lt hC 69 dX4_blocks_62 rfl (fun h62 => ?_) (fun h62 => ?_)
    · refine v_iconst hC dX4_blocks_69 ⟨by decide, by decide⟩ ?_
      exact v_bret hC hR dX4_blocks_70 (by omega) (⟨_, rfl, (hF1.mono (by decide)).trans (hF2.mono (by decide)), bI_f (fun h => h (by omega))⟩)
    · refine v_iconst hC dX4_blocks_65 ⟨by decide, by decide⟩ ?_
      refine v_goto hC 70 dX4_blocks_66 rfl ?_
      exact v_bret hC hR dX4_blocks_70 (by omega) (⟨_, rfl, (hF1.mono (by decide)).trans (hF2.mono (by decide)), bI_t (by omega)⟩)
  · refine v_aload_n hC 0 dX4_blocks_10 rfl rfl ?_
    refine v_getR hC foX4_53 dX4_blocks_11 rfl rfl rfl (by decide) (by first | decide | (simp only [vdn]; omega)) ?_
    refine v_iload_n hC 3 dX4_blocks_14 rfl rfl ?_
    refine v_iload_n hC 3 dX4_blocks_15 rfl rfl ?_
    refine v_iload_n hC 1 dX4_blocks_16 rfl rfl ?_
    refine v_icmp_eq hC 39 dX4_blocks_17 rfl (fun h17 => ?_) (fun h17 => ?_)
    · refine v_iconst hC dX4_blocks_39 ⟨by decide, by decide⟩ ?_
      refine v_goto hC 44 dX4_blocks_40 rfl ?_
      refine v_zast hC dX4_blocks_44 rfl rfl rfl (by decide) (by first | decide | (simp only [vdn]; omega)) ⟨by first | omega | (simp only [mlen]; omega), by first | omega | (simp only [mlen]; omega)⟩ (by omega) ?_
      try simp only [Int.toNat_natCast, upM_at, upM_nef, ne_eq, not_false_eq_true, Nat.reduceEqDiff, Nat.reduceAdd]
      refine v_iinc hC dX4_blocks_45 rfl ⟨by omega, by omega⟩ ?_
      refine v_goto hC 2 dX4_blocks_48 rfl ?_
      exact ih (i + 1) trivial (by omega) _ (by omega) (hF1.up (by decide)) (fun q h => by
        by_cases e : q = i
        · rw [e, upM_at]
          exact bI_t (decide_eq_true (Or.inl (by omega)))
        · rw [upM_ne (fun h => e h.2)]; exact a2 q (by omega))
    · refine v_aload_n hC 0 dX4_blocks_20 rfl rfl ?_
      refine v_getR hC foX4_38 dX4_blocks_21 rfl rfl rfl (by decide) (by first | decide | (simp only [vdn]; omega)) ?_
      refine v_iload_n hC 3 dX4_blocks_24 rfl rfl ?_
      refine v_iald hC dX4_blocks_25 rfl rfl rfl (by first | decide | (simp only [vdn]; omega)) ⟨by first | omega | (simp only [mlen]; omega), by first | omega | (simp only [mlen]; omega)⟩ ?_
      try simp only [Int.toNat_natCast, upM_at, upM_nef, ne_eq, not_false_eq_true, Nat.reduceEqDiff, Nat.reduceAdd]
      refine v_iload_n hC 2 dX4_blocks_26 rfl rfl ?_
      refine v_icmp_ne hC 43 dX4_blocks_27 rfl (fun h27 => ?_) (fun h27 => ?_)
      · refine v_iconst hC dX4_blocks_43 ⟨by decide, by decide⟩ ?_
        refine v_zast hC dX4_blocks_44 rfl rfl rfl (by decide) (by first | decide | (simp only [vdn]; omega)) ⟨by first | omega | (simp only [mlen]; omega), by first | omega | (simp only [mlen]; omega)⟩ (by omega) ?_
        try simp only [Int.toNat_natCast, upM_at, upM_nef, ne_eq, not_false_eq_true, Nat.reduceEqDiff, Nat.reduceAdd]
        refine v_iinc hC dX4_blocks_45 rfl ⟨by omega, by omega⟩ ?_
        refine v_goto hC 2 dX4_blocks_48 rfl ?_
        exact ih (i + 1) trivial (by omega) _ (by omega) (hF1.up (by decide)) (fun q h => by
          by_cases e : q = i
          · rw [e, upM_at]
            exact bI_f (fun h => (of_decide_eq_true h).elim (fun h => h17 (by omega)) (fun h => h27 (by have := h.1; omega)))
          · rw [upM_ne (fun h => e h.2)]; exact a2 q (by omega))
      · refine v_aload_n hC 0 dX4_blocks_30 rfl rfl ?_
        refine v_getR hC foX4_41 dX4_blocks_31 rfl rfl rfl (by decide) (by first | decide | (simp only [vdn]; omega)) ?_
        refine v_iload_n hC 3 dX4_blocks_34 rfl rfl ?_
        refine v_iald hC dX4_blocks_35 rfl rfl rfl (by first | decide | (simp only [vdn]; omega)) ⟨by first | omega | (simp only [mlen]; omega), by first | omega | (simp only [mlen]; omega)⟩ ?_
        try simp only [Int.toNat_natCast, upM_at, upM_nef, ne_eq, not_false_eq_true, Nat.reduceEqDiff, Nat.reduceAdd]
        refine v_if_lt hC 43 dX4_blocks_36 rfl (fun h36 => ?_) (fun h36 => ?_)
        · refine v_iconst hC dX4_blocks_43 ⟨by decide, by decide⟩ ?_
          refine v_zast hC dX4_blocks_44 rfl rfl rfl (by decide) (by first | decide | (simp only [vdn]; omega)) ⟨by first | omega | (simp only [mlen]; omega), by first | omega | (simp only [mlen]; omega)⟩ (by omega) ?_
          try simp only [Int.toNat_natCast, upM_at, upM_nef, ne_eq, not_false_eq_true, Nat.reduceEqDiff, Nat.reduceAdd]
          refine v_iinc hC dX4_blocks_45 rfl ⟨by omega, by omega⟩ ?_
          refine v_goto hC 2 dX4_blocks_48 rfl ?_
          exact ih (i + 1) trivial (by omega) _ (by omega) (hF1.up (by decide)) (fun q h => by
            by_cases e : q = i
            · rw [e, upM_at]
              exact bI_f (fun h => (of_decide_eq_true h).elim (fun h => h17 (by omega)) (fun h => by have := h.2; omega))
            · rw [upM_ne (fun h => e h.2)]; exact a2 q (by omega))
        · refine v_iconst hC dX4_blocks_39 ⟨by decide, by decide⟩ ?_
          refine v_goto hC 44 dX4_blocks_40 rfl ?_
          refine v_zast hC dX4_blocks_44 rfl rfl rfl (by decide) (by first | decide | (simp only [vdn]; omega)) ⟨by first | omega | (simp only [mlen]; omega), by first | omega | (simp only [mlen]; omega)⟩ (by omega) ?_
          try simp only [Int.toNat_natCast, upM_at, upM_nef, ne_eq, not_false_eq_true, Nat.reduceEqDiff, Nat.reduceAdd]
          refine v_iinc hC dX4_blocks_45 rfl ⟨by omega, by omega⟩ ?_
          refine v_goto hC 2 dX4_blocks_48 rfl ?_
          exact ih (i + 1) trivial (by omega) _ (by omega) (hF1.up (by decide)) (fun q h => by
            by_cases e : q = i
            · rw [e, upM_at]
              exact bI_t (decide_eq_true (Or.inr ⟨by omega, by omega⟩))
            · rw [upM_ne (fun h => e h.2)]; exact a2 q (by omega))
