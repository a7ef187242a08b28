/-! The office's chains: at most eighty moves, for each is a step up some pupil's list. -/
def cit : Nat → MU → MU
  | 0, μ => μ
  | n + 1, μ => mvM (cit n μ)
theorem mvM_c {μ : MU} (h : (mvS μ).isSome = true) : ∃ s k q : Nat, mvM μ = sitM μ q s k ∧ q < (μ 1 0).toNat ∧ waitP μ q s := by
  obtain ⟨s, hs⟩ := Option.isSome_iff_exists.1 h
  have hk := (fnd_some _ _ hs).2.2.1
  obtain ⟨k, hk'⟩ := Option.isSome_iff_exists.1 hk
  have h2 := of_decide_eq_true (fnd_some _ _ hk').2.2.1
  obtain ⟨q, e, hq, hw, -⟩ := fwF_r μ s k h2.2
  refine ⟨s, k, q, ?_, hq, hw⟩
  unfold mvM; rw [hs]; dsimp only; rw [hk']; dsimp only; rw [e, Int.toNat_natCast]
theorem mvM_fr (μ : MU) : Fr [15, 16] μ (mvM μ) := by
  cases h : mvS μ with
  | none => rw [mvM_none h]; exact Fr.rf
  | some s =>
    obtain ⟨s, k, q, e, -⟩ := mvM_c (μ := μ) (by rw [h]; rfl)
    rw [e]
    exact (Fr.rf.up (by decide)).up (by decide)
theorem cit_fr (μ : MU) : ∀ n, Fr [15, 16] μ (cit n μ)
  | 0 => Fr.rf
  | n + 1 => (cit_fr μ n).trans (mvM_fr _)
def cow (μ : MU) (p : Nat) : Nat := if μ 15 p = -1 ∨ oI (plF μ p (μ 15 p)) = -1 then 4 else (oI (plF μ p (μ 15 p))).toNat
def cpot (μ : MU) : Nat := smF (cow μ) (μ 1 0).toNat
theorem cpl_of {a b : MU} {p : Nat} {w : Int} (h10 : ∀ j, b 10 j = a 10 j) (h11 : b 11 p = a 11 p) : plF b p w = plF a p w := by
  unfold plF
  rw [h11]
  congr 1
  funext j
  rw [h10]
theorem mvM_pot {μ : MU} (hSf : Sf μ) (h : (mvS μ).isSome = true) : cpot (mvM μ) < cpot μ := by
  obtain ⟨s, k, q, e, hq, hw⟩ := mvM_c h
  have hF := mvM_fr μ
  have hpl : ∀ p w, plF (mvM μ) p w = plF μ p w := fun p w => cpl_of (fun j => hF 10 j (by decide)) (hF 11 p (by decide))
  unfold cpot
  rw [hF 1 0 (by decide)]
  have e15 : ∀ p, ¬ p = q → mvM μ 15 p = μ 15 p := fun p hp => by
    rw [e]
    show upM (upM μ 15 q s) 16 q k 15 p = μ 15 p
    rw [upM_nef (by decide), upM_ne (fun h => hp h.2)]
  have e15q : mvM μ 15 q = (s : Int) := by
    rw [e]
    show upM (upM μ 15 q s) 16 q k 15 q = (s : Int)
    rw [upM_nef (by decide), upM_at]
  have h9 := hSf.2.2.2.2.2.1 q (by have := hSf.2.1; omega)
  have hr := plF_r (μ := μ) (p := q) (s : Int) h9.2.1
  have hne : ¬ oI (plF μ q (s : Int)) = -1 := hw.1.1
  have hl : cow (mvM μ) q < cow μ q := by
    unfold cow
    rw [e15q, hpl, if_neg (fun h => h.elim (fun h => by omega) hne)]
    by_cases h8 : μ 15 q = -1 ∨ oI (plF μ q (μ 15 q)) = -1
    · rw [if_pos h8]; omega
    · rw [if_neg h8]
      rcases hw.1.2 with h7 | h7
      · exact absurd (Or.inl h7) h8
      · omega
  refine smF_lt (q := q) _ (fun p hp => ?_) hq hl
  by_cases e9 : p = q
  · rw [e9]; exact Nat.le_of_lt hl
  · unfold cow
    rw [e15 p e9, hpl]
    exact Nat.le_refl _
theorem cpot_b {μ : MU} (hSf : Sf μ) : cpot μ ≤ 80 := by
  have h1 := smF_b (f := cow μ) (m := 4) (μ 1 0).toNat (fun p hp => by
    have h9 := (hSf.2.2.2.2.2.1 p (by have := hSf.2.1; omega)).2.1
    have := plF_r (μ := μ) (p := p) (μ 15 p) h9
    unfold cow
    split <;> omega)
  unfold cpot
  have := hSf.2.1
  omega
def cchP (μ : MU) (n : Nat) (μ' : MU) : Prop := μ' = cit n μ ∧ (∀ i, i < n → (mvS (cit i μ)).isSome = true) ∧ (mvS (cit n μ)).isSome = false
abbrev rmX3_chain : Room := { frames := 6, cells := 1, slots := 6, locals := 114 }
set_option maxRecDepth 100000 in
set_option maxHeartbeats 4000000 in
theorem cX3_chain_ok (μ : MU) (hSf : Sf μ) : CTT yX3_chain cX3_chain 2 (some .int) rmX3_chain [aR 0 0] μ (fun r μ' => ¬ μ 2 0 = 0 ∧ ∃ n : Nat, n ≤ 80 ∧ r = (n : Int) ∧ cchP μ n μ') (fun w μ' => μ = μ' ∧ w = 1 ∧ μ 2 0 = 0) := by
  intro l9 hl9 b9 D9 K9
  refine met_ofT hl9 (by decide) (Nat.le_of_ble_eq_true rfl) (fun x hC hT hR hM hA => ?_)
  have hC : Ctx x RX3 cX3_chain rmX3_chain := hC
  have hSf0 := hSf
  obtain ⟨⟨s1, s2⟩, ⟨n1, n2⟩, hr, hkc, hq, hpp, hli, hnu⟩ := hSf
  refine v_aload_n hC 0 dX3_chain_0 rfl rfl ?_
  refine v_getI hC foX3_32 dX3_chain_1 rfl rfl rfl (by first | decide | (simp only [vdn]; omega)) ?_
  try simp only [Int.toNat_natCast, upM_at, upM_nef, ne_eq, not_false_eq_true, Nat.reduceEqDiff, Nat.reduceAdd]
  refine v_if_ne hC 15 dX3_chain_4 rfl (fun h4 => ?_) (fun h4 => ?_)
  · refine v_iconst hC dX3_chain_15 ⟨by decide, by decide⟩ ?_
    refine v_istore_n hC 1 dX3_chain_16 rfl (Nat.le_of_ble_eq_true rfl) ?_
    have hb := cpot_b hSf0
    refine v_loop (fun n : Nat => 80 - n) (fun n => cpot (cit n μ) + n ≤ 80 ∧ ∀ i, i < n → (mvS (cit i μ)).isSome = true) (fun n => V x 0 0 none 17 [some (aR 0 0), some (aI (n : Int))] [] (cit n μ)) (fun n hn ih => ?_) 0 ⟨hb, fun i hi => by omega⟩
    have hS1 : Sf (cit n μ) := (cit_fr μ n).Sf hSf0 (by decide)
    refine v_iload_n hC 1 dX3_chain_17 rfl rfl ?_
    refine v_bipush hC dX3_chain_18 ⟨by decide, by decide⟩ ?_
    refine v_icmp_ge hC 36 dX3_chain_20 rfl (fun h20 => ?_) (fun h20 => ?_)
    · refine v_iload_n hC 1 dX3_chain_36 rfl rfl ?_
      exact v_iretT hC hR dX3_chain_37 (⟨_, rfl, h4, n, by have := hn.1; omega, rfl, rfl, hn.2, Bool.eq_false_iff.2 (fun h => by have h1 := mvM_pot hS1 h; have := hn.1; omega)⟩)
    · refine v_aload_n hC 0 dX3_chain_23 rfl rfl ?_
      refine v_callI0 hC (cwX3_120 hC ⟨Nat.le_of_ble_eq_true rfl, Nat.le_of_ble_eq_true rfl⟩) dX3_chain_24 rfl rfl rfl (Nat.zero_le _) (Nat.zero_le _) (Nat.le_of_ble_eq_true rfl) (by first | decide | (simp only [vdn]; omega)) (cX3_moveOne_ok (cit n μ) hS1) (fun r1 μ1 hp => ?_)
      obtain ⟨rfl, rfl⟩ := hp
      refine v_if_eq hC 36 dX3_chain_27 rfl (fun h27 => ?_) (fun h27 => ?_)
      · refine v_iload_n hC 1 dX3_chain_36 rfl rfl ?_
        exact v_iretT hC hR dX3_chain_37 (⟨_, rfl, h4, n, by have := hn.1; omega, rfl, mvM_none (Option.not_isSome_iff_eq_none.1 (bI_z.1 h27)), hn.2, Bool.eq_false_iff.2 (bI_z.1 h27)⟩)
      · refine v_iinc hC dX3_chain_30 rfl ⟨by omega, by omega⟩ ?_
        refine v_goto hC 17 dX3_chain_33 rfl ?_
        have h8 : cpot (cit (n + 1) μ) < cpot (cit n μ) := mvM_pot hS1 (bI_n.1 h27)
        exact ih (n + 1) ⟨by have := hn.1; omega, fun i hi => by
          by_cases e : i = n
          · rw [e]; exact bI_n.1 h27
          · exact hn.2 i (by omega)⟩ (by omega)
  · exact v_throw hC hT hR 1 (by decide) dX3_chain_7 dX3_chain_10 dX3_chain_11 dX3_chain_14 clIS iniIS atIS (Nat.le_of_ble_eq_true rfl) (Nat.le_of_ble_eq_true rfl) (Nat.le_of_ble_eq_true rfl) (Nat.le_of_ble_eq_true rfl) (⟨rfl, rfl, h4⟩)
