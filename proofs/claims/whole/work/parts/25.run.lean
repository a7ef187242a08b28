/-! The office's round and chains. -/
abbrev ccnA (c : MU) (p : Nat) : Prop := c 15 p = -1 ∧ c 17 p < c 11 p
def cRe (a b : MU) : Prop := ∀ J : MU → Prop, J a → (∀ (c : MU) (p s : Nat) (c' : MU), J c → p < (c 1 0).toNat → ccnA c p → c 10 (4 * p + (c 17 p).toNat) = (s : Int) → AskP c p s c' → J c') → J b
theorem cRe.rf {a : MU} : cRe a a := fun _ h _ => h
theorem cRe.step {a c c' : MU} {p s : Nat} (h : cRe a c) (h1 : p < (c 1 0).toNat) (h2 : ccnA c p) (h3 : c 10 (4 * p + (c 17 p).toNat) = (s : Int)) (h4 : AskP c p s c') : cRe a c' := fun J ha hs => hs c p s c' (h J ha hs) h1 h2 h3 h4
def cclP (c : MU) : Prop := ∀ p, p < (c 1 0).toNat → ¬ ccnA c p
theorem AskP_Sf {c c' : MU} {p s : Nat} (h : AskP c p s c') (hS : Sf c) (hp : p < 20) (ha : c 17 p < 4) : Sf c' := by
  refine (hS.ask hp ha).of (fun f j hf => ?_)
  by_cases e : f = 17
  · subst e
    rw [h.2.1 j]
    by_cases e2 : j = p
    · rw [if_pos e2, e2, upM_at]
    · rw [if_neg e2, upM_ne (fun h => e2 h.2)]
  · rw [upM_nef e]
    refine h.1 f j (fun h9 => ?_)
    simp only [List.mem_cons, List.not_mem_nil, or_false] at hf h9
    omega
def cpt (c : MU) : Nat := smF (fun p => (c 11 p - c 17 p).toNat) (c 1 0).toNat
theorem smF_z {f : Nat → Nat} : ∀ (n : Nat), smF f n = 0 → ∀ p, p < n → f p = 0
  | 0, _, p, hp => by omega
  | n + 1, h, p, hp => by
    have h' : smF f n + f n = 0 := h
    by_cases e : p = n
    · rw [e]; omega
    · exact smF_z n (by omega) p (by omega)
theorem AskP_pt {c c' : MU} {p s : Nat} (h : AskP c p s c') (hp : p < (c 1 0).toNat) (ha : c 17 p < c 11 p) : cpt c' < cpt c := by
  unfold cpt
  rw [h.1 1 0 (by decide)]
  have hl : (c' 11 p - c' 17 p).toNat < (c 11 p - c 17 p).toNat := by
    rw [h.1 11 p (by decide), h.2.1 p, if_pos rfl]
    omega
  refine smF_lt (q := p) _ (fun q hq => ?_) hp hl
  by_cases e : q = p
  · rw [e]; exact Nat.le_of_lt hl
  · show (c' 11 q - c' 17 q).toNat ≤ (c 11 q - c 17 q).toNat
    rw [h.1 11 q (by decide), h.2.1 q, if_neg e]
    exact Nat.le_refl _
theorem cpt_b {c : MU} (hS : Sf c) : cpt c ≤ 80 := by
  have h1 := smF_b (f := fun p => (c 11 p - c 17 p).toNat) (m := 4) (c 1 0).toNat (fun p hp => by
    have h9 := hS.2.2.2.2.2.1 p (by have := hS.2.1; omega)
    show (c 11 p - c 17 p).toNat ≤ 4
    omega)
  unfold cpt
  have := hS.2.1
  omega
theorem cpt_z {c : MU} (h : cpt c = 0) : cclP c := fun p hp h9 => by
  have h1 := smF_z _ h p hp
  have h2 : (c 11 p - c 17 p).toNat = 0 := h1
  have := h9.2
  omega
theorem fnd_o {P : Nat → Bool} {n : Nat} (h : ¬ oI (fnd P 0 n) = -1) : ∃ p : Nat, oI (fnd P 0 n) = (p : Int) ∧ p < n ∧ P p = true := by
  cases e : fnd P 0 n with
  | none => rw [e] at h; exact absurd rfl h
  | some p =>
    have h1 := fnd_some n 0 e
    exact ⟨p, rfl, by omega, h1.2.2.1⟩
theorem fnd_m {P : Nat → Bool} {n : Nat} (h : oI (fnd P 0 n) = -1) (p : Nat) (hp : p < n) : P p = false := fnd_none n 0 (oI_m.1 h) p (Nat.zero_le _) (by omega)
abbrev rmX3_run : Room := { frames := 6, cells := 1, slots := 6, locals := 146 }
set_option maxRecDepth 100000 in
set_option maxHeartbeats 4000000 in
theorem cX3_run_ok (μ : MU) (hSf : Sf μ) (hI : ∀ s, s < 6 → Inj μ s) : CTT yX3_run cX3_run 3 (some .int) rmX3_run [aR 0 0] μ (fun r μ' => μ 2 0 = 0 ∧ ∃ μ1, cRe μ μ1 ∧ cclP μ1 ∧ upM μ1 2 0 1 = μ' ∧ r = cntF (fun p => decide (¬ μ1 15 p = -1)) (μ1 1 0).toNat) (fun w μ' => μ = μ' ∧ w = 1 ∧ ¬ μ 2 0 = 0) := by
  intro l9 hl9 b9 D9 K9
  refine met_ofT hl9 (by decide) (Nat.le_of_ble_eq_true rfl) (fun x hC hT hR hM hA => ?_)
  have hC : Ctx x RX3 cX3_run rmX3_run := hC
  have hSf0 := hSf
  obtain ⟨⟨s1, s2⟩, ⟨n1, n2⟩, hr, hkc, hq, hpp, hli, hnu⟩ := hSf
  refine v_aload_n hC 0 dX3_run_0 rfl rfl ?_
  refine v_getI hC foX3_32 dX3_run_1 rfl rfl rfl (by first | decide | (simp only [vdn]; omega)) ?_
  try simp only [Int.toNat_natCast, upM_at, upM_nef, ne_eq, not_false_eq_true, Nat.reduceEqDiff, Nat.reduceAdd]
  refine v_if_eq hC 15 dX3_run_4 rfl (fun h4 => ?_) (fun h4 => ?_)
  · refine v_iconst hC dX3_run_15 ⟨by decide, by decide⟩ ?_
    refine v_istore_n hC 1 dX3_run_16 rfl (Nat.le_of_ble_eq_true rfl) ?_
    have hb := cpt_b hSf0
    refine v_loop (fun i : Nat => 80 - i) (fun _ => True) (fun i => ∀ (μa : MU), i ≤ 80 → cpt μa + i ≤ 80 → Fr [3, 4, 5, 15, 16, 17] μ μa → Sf μa → cRe μ μa → V x 0 0 none 17 [some (aR 0 0), some (aI (i : Int)), none] [] μa) (fun i _ ih μa a1 a2 hF1 hS1 hR1 => ?_) 0 trivial μ (by decide) hb Fr.rf hSf0 cRe.rf
    have hn1 := hS1.2.1
    refine v_iload_n hC 1 dX3_run_17 rfl rfl ?_
    refine v_bipush hC dX3_run_18 ⟨by decide, by decide⟩ ?_
    refine v_icmp_ge hC 47 dX3_run_20 rfl (fun h20 => ?_) (fun h20 => ?_)
    · have hcl : cclP μa := cpt_z (by omega)
      refine v_aload_n hC 0 dX3_run_47 rfl rfl ?_
      refine v_iconst hC dX3_run_48 ⟨by decide, by decide⟩ ?_
      refine v_putZ hC fwX3_32 dX3_run_49 rfl rfl rfl (by decide) (by first | decide | (simp only [vdn]; omega)) (by omega) ?_
      have hS3 : Sf (upM μa 2 0 1) := ⟨hS1.1, hS1.2.1, Or.inr (upM_at _ _ _ _), hS1.2.2.2⟩
      refine v_aload_n hC 0 dX3_run_52 rfl rfl ?_
      refine v_callI0 hC (cwX3_101 hC ⟨Nat.le_of_ble_eq_true rfl, Nat.le_of_ble_eq_true rfl⟩) dX3_run_53 rfl rfl rfl (Nat.zero_le _) (Nat.zero_le _) (Nat.le_of_ble_eq_true rfl) (by first | decide | (simp only [vdn]; omega)) (cX3_countPlaced_ok (upM μa 2 0 1) hS3) (fun r1 μ1 hp => ?_)
      obtain ⟨rfl, rfl⟩ := hp
      exact v_iretT hC hR dX3_run_56 (⟨_, rfl, h4, μa, hR1, hcl, rfl, rfl⟩)
    · refine v_aload_n hC 0 dX3_run_23 rfl rfl ?_
      refine v_callI0 hC (cwX3_94 hC ⟨Nat.le_of_ble_eq_true rfl, Nat.le_of_ble_eq_true rfl⟩) dX3_run_24 rfl rfl rfl (Nat.zero_le _) (Nat.zero_le _) (Nat.le_of_ble_eq_true rfl) (by first | decide | (simp only [vdn]; omega)) (cX3_nextAsker_ok μa hS1) (fun r1 μ1 hp => ?_)
      obtain ⟨rfl, rfl⟩ := hp
      refine v_istore_n hC 2 dX3_run_27 rfl (Nat.le_of_ble_eq_true rfl) ?_
      refine v_iload_n hC 2 dX3_run_28 rfl rfl ?_
      refine v_iconst hC dX3_run_29 ⟨by decide, by decide⟩ ?_
      refine v_icmp_ne hC 36 dX3_run_30 rfl (fun h30 => ?_) (fun h30 => ?_)
      · obtain ⟨p, ep, hp8, hp9⟩ := fnd_o h30
        have hca : ccnA μa p := of_decide_eq_true hp9
        have hp2 := hS1.2.2.2.2.2.1 p (by omega)
        have hl2 := hS1.2.2.2.2.2.2.1 (4 * p + (μa 17 p).toNat) (by have := hca.2; omega)
        obtain ⟨s, hse⟩ := Int.eq_ofNat_of_zero_le hl2.1
        rw [ep]
        refine v_aload_n hC 0 dX3_run_36 rfl rfl ?_
        refine v_iload_n hC 2 dX3_run_37 rfl rfl ?_
        refine v_callV1 hC (cwX3_98 hC ⟨Nat.le_of_ble_eq_true rfl, Nat.le_of_ble_eq_true rfl⟩) dX3_run_38 rfl rfl rfl (Nat.zero_le _) (Nat.zero_le _) (Nat.le_of_ble_eq_true rfl) (by first | decide | (simp only [vdn]; omega)) (cX3_askNext_ok p s μa hp8 (by omega) hS1 (hF1.inj (hI s (by omega)) (by decide) (by decide)) hca.2 hse) (fun μ1 hp => ?_)
        have hA : AskP μa p s μ1 := hp
        refine v_iinc hC dX3_run_41 rfl ⟨by omega, by omega⟩ ?_
        refine v_goto hC 17 dX3_run_44 rfl ?_
        refine v_forget 2 ?_
        exact ih (i + 1) trivial (by omega) μ1 (by omega) (by have := AskP_pt hA (by omega) hca.2; omega) (hF1.trans hA.1) (AskP_Sf hA hS1 (by omega) (by omega)) (hR1.step (by omega) hca hse hA)
      · refine v_goto hC 47 dX3_run_33 rfl ?_
        have hcl : cclP μa := fun q hq9 h9 => absurd (decide_eq_true h9) (by have := fnd_m h30 q hq9; rw [this]; exact Bool.false_ne_true)
        refine v_aload_n hC 0 dX3_run_47 rfl rfl ?_
        refine v_iconst hC dX3_run_48 ⟨by decide, by decide⟩ ?_
        refine v_putZ hC fwX3_32 dX3_run_49 rfl rfl rfl (by decide) (by first | decide | (simp only [vdn]; omega)) (by omega) ?_
        have hS3 : Sf (upM μa 2 0 1) := ⟨hS1.1, hS1.2.1, Or.inr (upM_at _ _ _ _), hS1.2.2.2⟩
        refine v_aload_n hC 0 dX3_run_52 rfl rfl ?_
        refine v_callI0 hC (cwX3_101 hC ⟨Nat.le_of_ble_eq_true rfl, Nat.le_of_ble_eq_true rfl⟩) dX3_run_53 rfl rfl rfl (Nat.zero_le _) (Nat.zero_le _) (Nat.le_of_ble_eq_true rfl) (by first | decide | (simp only [vdn]; omega)) (cX3_countPlaced_ok (upM μa 2 0 1) hS3) (fun r1 μ1 hp => ?_)
        obtain ⟨rfl, rfl⟩ := hp
        exact v_iretT hC hR dX3_run_56 (⟨_, rfl, h4, μa, hR1, hcl, rfl, rfl⟩)
  · exact v_throw hC hT hR 1 (by decide) dX3_run_7 dX3_run_10 dX3_run_11 dX3_run_14 clIS iniIS atIS (Nat.le_of_ble_eq_true rfl) (Nat.le_of_ble_eq_true rfl) (Nat.le_of_ble_eq_true rfl) (Nat.le_of_ble_eq_true rfl) (⟨rfl, rfl, h4⟩)
