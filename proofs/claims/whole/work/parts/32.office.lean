abbrev rmX3_init : Room := { frames := 3, cells := 112, slots := 604, locals := 120 }
/-- nothing of the office is set -/
def Zo (μ : MU) : Prop := (∀ f j, f < 20 → μ f j = 0) ∧ (∀ s, s < 6 → μ 104 s = 0 ∧ μ 108 s = 0) ∧ (∀ q, q < 18 → μ 105 q = 0 ∧ μ 109 q = 0) ∧ ∀ p, p < 20 → μ 106 p = 0 ∧ μ 107 p = 0 ∧ μ 110 p = 0
def oini (μ : MU) : MU := upM (upM (pfil (upM (sfil (upM μ 100 0 1) 6) 101 0 1) 20) 102 0 1) 103 0 1
set_option maxRecDepth 100000 in
set_option maxHeartbeats 4000000 in
theorem cX3_init_ok (μ : MU) (h0 : Zo μ) : CTA yX3_init cX3_init 2 rmX3_init (some 1) (some 113) [aR 0 0] μ (fun μ' => oini μ = μ') 112 604 := by
  intro l9 b9 D9 K9
  refine met_ofA (by decide) rfl (Nat.le_of_ble_eq_true rfl) (fun x hC hI hA3 hR hM hA => ?_)
  have hC : Ctx x RX3 cX3_init rmX3_init := hC
  obtain ⟨g0, g1, g2, g3⟩ := h0
  refine v_aload_n hC 0 dX3_init_0 rfl rfl ?_
  refine v_objI hC dX3_init_1 (by decide +kernel) (by decide +kernel) (by decide +kernel) (Nat.le_of_ble_eq_true rfl) (Nat.le_of_ble_eq_true rfl) (Nat.le_of_ble_eq_true rfl) ?_
  refine v_aload_n hC 0 dX3_init_4 rfl rfl ?_
  refine v_bipush hC dX3_init_5 ⟨by decide, by decide⟩ ?_
  refine v_newQ (c := 1) (i := 0) (t := 3) (len := 6) (C := "SeatOffice$School") hC dX3_init_7 (by decide +kernel) hA3.school (fun K => rfl) rfl (by decide) rfl rfl (by decide) (fun j hj => ⟨(g1 j hj).2, rfl⟩) (Nat.le_of_ble_eq_true rfl) (Nat.le_of_ble_eq_true rfl) ?_
  refine v_putR (c := 0) (i := 0) (kf := 0) hC hI (by decide) (fun w9 h9 => by cases h9; decide) rfl rfl ffX3_11 (fun _ => rfl) (fun _ => rfl) dX3_init_10 ?_
  refine v_iconst hC dX3_init_13 ⟨by decide, by decide⟩ ?_
  refine v_istore_n hC 1 dX3_init_14 rfl (Nat.le_of_ble_eq_true rfl) ?_
  refine v_loop (fun j : Nat => 6 - j) (fun j => j ≤ 6) (fun j => V x (1 + 8 * j) (6 + 23 * j) (some (2 + 8 * j)) 15 [some (aR 0 0), some (aI (j : Int))] [] (sfil (upM μ 100 0 1) j)) (fun j hj ih => ?_) 0 (Nat.zero_le _)
  refine v_iload_n hC 1 dX3_init_15 rfl rfl ?_
  refine v_bipush hC dX3_init_16 ⟨by decide, by decide⟩ ?_
  refine v_icmp_ge hC 40 dX3_init_18 rfl (fun h18 => ?_) (fun h18 => ?_)
  · have hj6 : j = 6 := by omega
    subst hj6
    have z : ∀ f i, f ≠ 100 → f ≠ 101 → f ≠ 104 → f ≠ 105 → f ≠ 108 → f ≠ 109 → upM (sfil (upM μ 100 0 1) 6) 101 0 1 f i = μ f i := fun f i h1 h2 h3 h4 h5 h6 => (upM_nef h2).trans ((sfil_ne _ 6 (Or.inl ⟨h3, h4, h5, h6⟩)).trans (upM_nef h1))
    refine v_aload_n hC 0 dX3_init_40 rfl rfl ?_
    refine v_bipush hC dX3_init_41 ⟨by decide, by decide⟩ ?_
    refine v_newQ (c := 6) (i := 0) (t := 5) (len := 20) (C := "SeatOffice$Pupil") hC dX3_init_43 (by decide +kernel) hA3.pupil (fun K => rfl) rfl (by decide) rfl rfl (by decide) (fun j hj => ⟨((sfil_ne _ 6 (Or.inl ⟨by show (110 : Nat) ≠ 104; decide, by show (110 : Nat) ≠ 105; decide, by show (110 : Nat) ≠ 108; decide, by show (110 : Nat) ≠ 109; decide⟩)).trans (upM_nef (by show (110 : Nat) ≠ 100; decide))).trans (g3 j hj).2.2, rfl⟩) (Nat.le_of_ble_eq_true rfl) (Nat.le_of_ble_eq_true rfl) ?_
    refine v_putR (c := 0) (i := 0) (kf := 1) hC hI (by decide) (fun w9 h9 => by cases h9; decide) rfl rfl ffX3_18 (fun _ => rfl) (fun _ => rfl) dX3_init_46 ?_
    refine v_forget 1 ?_
    refine v_iconst hC dX3_init_49 ⟨by decide, by decide⟩ ?_
    refine v_istore_n hC 1 dX3_init_50 rfl (Nat.le_of_ble_eq_true rfl) ?_
    refine v_loop (fun p : Nat => 20 - p) (fun p => p ≤ 20) (fun p => V x (50 + 3 * p) (164 + 20 * p) (some (51 + 3 * p)) 51 [some (aR 0 0), some (aI (p : Int))] [] (pfil (upM (sfil (upM μ 100 0 1) 6) 101 0 1) p)) (fun p hp ih2 => ?_) 0 (Nat.zero_le _)
    refine v_iload_n hC 1 dX3_init_51 rfl rfl ?_
    refine v_bipush hC dX3_init_52 ⟨by decide, by decide⟩ ?_
    refine v_icmp_ge hC 77 dX3_init_54 rfl (fun h54 => ?_) (fun h54 => ?_)
    · have hp20 : p = 20 := by omega
      subst hp20
      refine v_aload_n hC 0 dX3_init_77 rfl rfl ?_
      refine v_bipush hC dX3_init_78 ⟨by decide, by decide⟩ ?_
      refine v_newA (c := 10) (i := 0) (t := 0) (len := 20) hC dX3_init_80 rfl (fun C h => by cases h) (fun K => rfl) (by decide +kernel) rfl (by decide) rfl rfl (by decide) (fun j hj => ⟨((pfil_ne _ 20 (Or.inl (by show (4 : Nat) ≠ 12 ∧ _; decide))).trans (z 4 j (by decide) (by decide) (by decide) (by decide) (by decide) (by decide))).trans (g0 4 j (by decide)), rfl⟩) (Nat.le_of_ble_eq_true rfl) (Nat.le_of_ble_eq_true rfl) ?_
      refine v_putR (c := 0) (i := 0) (kf := 5) hC hI (by decide) (fun w9 h9 => by cases h9; decide) rfl rfl ffX3_25 (fun _ => rfl) (fun _ => rfl) dX3_init_82 ?_
      refine v_aload_n hC 0 dX3_init_85 rfl rfl ?_
      refine v_bipush hC dX3_init_86 ⟨by decide, by decide⟩ ?_
      refine v_newA (c := 11) (i := 0) (t := 0) (len := 20) hC dX3_init_88 rfl (fun C h => by cases h) (fun K => rfl) (by decide +kernel) rfl (by decide) rfl rfl (by decide) (fun j hj => ⟨((upM_nef (by show (5 : Nat) ≠ 102; decide)).trans ((pfil_ne _ 20 (Or.inl (by show (5 : Nat) ≠ 12 ∧ _; decide))).trans (z 5 j (by decide) (by decide) (by decide) (by decide) (by decide) (by decide)))).trans (g0 5 j (by decide)), rfl⟩) (Nat.le_of_ble_eq_true rfl) (Nat.le_of_ble_eq_true rfl) ?_
      refine v_putR (c := 0) (i := 0) (kf := 7) hC hI (by decide) (fun w9 h9 => by cases h9; decide) rfl rfl ffX3_29 (fun _ => rfl) (fun _ => rfl) dX3_init_90 ?_
      exact v_vret hC hR (Nat.le_refl _) (Nat.le_refl _) dX3_init_93 ⟨rfl, rfl⟩
    · have hp20 : p < 20 := by omega
      have hq := g3 p hp20
      have zz : ∀ f i, f < 20 → f ≠ 12 → f ≠ 15 → f ≠ 16 → f ≠ 18 → pfil (upM (sfil (upM μ 100 0 1) 6) 101 0 1) p f i = 0 := fun f i h1 h2 h3 h4 h5 => ((pfil_ne _ p (Or.inl (by omega))).trans (z f i (by omega) (by omega) (by omega) (by omega) (by omega) (by omega))).trans (g0 f i h1)
      have zi : ∀ f, (f = 15 ∨ f = 16 ∨ f = 18 ∨ f = 106 ∨ f = 107) → pfil (upM (sfil (upM μ 100 0 1) 6) 101 0 1) p f p = μ f p := fun f h => (pfil_ne _ p (by omega)).trans (z f p (by omega) (by omega) (by omega) (by omega) (by omega) (by omega))
      refine v_aload_n hC 0 dX3_init_57 rfl rfl ?_
      refine v_getR' (c := 0) (i := 0) hC rfl (by decide) (fun w9 h9 => by cases h9; show 0 < 51 + 3 * p; omega) rfl rfl (fun q => by cases q) (fun _ => by rw [pfil_ne _ _ (Or.inl (by decide)), upM_at]; decide) foX3_18 dX3_init_58 ?_
      refine v_iload_n hC 1 dX3_init_61 rfl rfl ?_
      refine v_new (c := 7) (i := p) hC (fnP p) dX3_init_62 rfl hp20 rfl (fun d hd => by
        simp only [List.mem_cons, List.not_mem_nil, or_false] at hd
        rcases hd with rfl | rfl | rfl | rfl | rfl | rfl | rfl | rfl | rfl | rfl
        · exact (zi 106 (by decide)).trans hq.1
        · exact zz 11 _ (by decide) (by decide) (by decide) (by decide) (by decide)
        · exact (zi 107 (by decide)).trans hq.2.1
        · exact zz 13 _ (by decide) (by decide) (by decide) (by decide) (by decide)
        · exact zz 14 _ (by decide) (by decide) (by decide) (by decide) (by decide)
        · exact (zi 15 (by decide)).trans (g0 15 p (by decide))
        · exact (zi 16 (by decide)).trans (g0 16 p (by decide))
        · exact zz 17 _ (by decide) (by decide) (by decide) (by decide) (by decide)
        · exact (zi 18 (by decide)).trans (g0 18 p (by decide))
        · exact zz 19 _ (by decide) (by decide) (by decide) (by decide) (by decide)) (by show 50 + 3 * p + 1 ≤ 112; omega) (by show 164 + 20 * p + 10 ≤ 604; omega) ?_
      refine v_dupR hC dX3_init_65 ?_
      refine v_iload_n hC 1 dX3_init_66 rfl rfl ?_
      refine v_callA (as := [aI (p : Int)]) (na := 1) hC hA3 (cX1_init_ok p p _ (51 + 3 * p + 1) hp20 (by omega) (by omega) (fun i hi => zz 10 _ (by decide) (by decide) (by decide) (by decide) (by decide)) (fun i hi => ((pfil_ne _ p (by omega)).trans (z 12 _ (by decide) (by decide) (by decide) (by decide) (by decide) (by decide))).trans (g0 12 _ (by decide)))) (cw_I (rmc := rmX1_init) (na := 1) hC (by decide +kernel) (by decide +kernel) (by decide +kernel) (by decide +kernel) rfl (by decide) ⟨Nat.le_of_ble_eq_true rfl, Nat.le_of_ble_eq_true rfl⟩) rfl (nlI (as := [(p : Int)])) (by show 50 + 3 * p + 1 + 2 ≤ 112; omega) (by show 164 + 20 * p + 10 + 10 ≤ 604; omega) (Nat.le_of_ble_eq_true rfl) dX3_init_67 (fun μ1 hp9 => ?_)
      subst hp9
      refine v_aastR (c := 6) (i := 0) (t := 5) (len := 20) (c' := 7) (i' := p) (f := 110) (j := p) hC dX3_init_70 (fun K => rfl) rfl (by decide) (fun w9 h9 => by cases h9; show 50 < _; omega) rfl hp20 (fun w9 h9 => by cases h9; show 51 + 3 * p < _; omega) rfl ⟨by omega, by omega⟩ rfl ?_
      refine v_iinc hC dX3_init_71 rfl ⟨by omega, by omega⟩ ?_
      refine v_goto hC 51 dX3_init_74 rfl ?_
      have h9 := ih2 (p + 1) (by omega) (by omega)
      rw [show 50 + 3 * (p + 1) = 50 + 3 * p + 1 + 2 by omega, show 164 + 20 * (p + 1) = 164 + 20 * p + 10 + 10 by omega, show 51 + 3 * (p + 1) = 51 + 3 * p + 1 + 1 + 1 by omega] at h9
      exact h9
  · have hj6 : j < 6 := by omega
    refine v_aload_n hC 0 dX3_init_21 rfl rfl ?_
    refine v_getR' (c := 0) (i := 0) hC rfl (by decide) (fun w9 h9 => by cases h9; show 0 < 2 + 8 * j; omega) rfl rfl (fun q => by cases q) (fun _ => by rw [sfil_ne _ _ (Or.inl (by decide)), upM_at]; decide) foX3_11 dX3_init_22 ?_
    refine v_iload_n hC 1 dX3_init_25 rfl rfl ?_
    refine v_new (c := 2) (i := j) hC (fnS j) dX3_init_26 rfl hj6 rfl (fun d hd => by
      simp only [List.mem_cons, List.not_mem_nil, or_false] at hd
      rcases hd with rfl | rfl
      · exact ((sfil_ne _ j (by show _ ∨ _ ∨ ((104 = 104 ∨ 104 = 108) ∧ j ≤ j); omega)).trans (upM_nef (by show (104 : Nat) ≠ 100; decide))).trans (g1 j hj6).1
      · exact ((sfil_ne _ j (Or.inl (by show (6 : Nat) ≠ 104 ∧ (6 : Nat) ≠ 105 ∧ (6 : Nat) ≠ 108 ∧ (6 : Nat) ≠ 109; decide))).trans (upM_nef (by show (6 : Nat) ≠ 100; decide))).trans (g0 6 j (by decide))) (by show 1 + 8 * j + 1 ≤ 112; omega) (by show 6 + 23 * j + 2 ≤ 604; omega) ?_
    refine v_dupR hC dX3_init_29 ?_
    refine v_callA (as := []) (na := 0) hC hA3 (cX2_init_ok j _ (2 + 8 * j + 1) hj6 (by omega) (fun q h1 h2 => by
      have e : ∀ f i, f < 20 → sfil (upM μ 100 0 1) j f i = 0 := fun f i hf => ((sfil_ne _ j (by omega)).trans (upM_nef (by omega))).trans (g0 f i hf)
      exact ⟨((sfil_ne _ j (by omega)).trans (upM_nef (by decide))).trans (g2 q (by omega)).1, e 8 q (by decide), e 9 q (by decide), ((sfil_ne _ j (by omega)).trans (upM_nef (by decide))).trans (g2 q (by omega)).2, fun i _ => e 7 _ (by decide)⟩)) (cw_I (rmc := rmX2_init) (na := 0) hC (by decide +kernel) (by decide +kernel) (by decide +kernel) (by decide +kernel) rfl (by decide) ⟨Nat.le_of_ble_eq_true rfl, Nat.le_of_ble_eq_true rfl⟩) rfl nl0 (by show 1 + 8 * j + 1 + 7 ≤ 112; omega) (by show 6 + 23 * j + 2 + 21 ≤ 604; omega) (Nat.le_of_ble_eq_true rfl) dX3_init_30 (fun μ1 hp9 => ?_)
    subst hp9
    refine v_aastR (c := 1) (i := 0) (t := 3) (len := 6) (c' := 2) (i' := j) (f := 108) (j := j) hC dX3_init_33 (fun K => rfl) rfl (by decide) (fun w9 h9 => by cases h9; show 1 < _; omega) rfl hj6 (fun w9 h9 => by cases h9; show 2 + 8 * j < _; omega) rfl ⟨by omega, by omega⟩ rfl ?_
    refine v_iinc hC dX3_init_34 rfl ⟨by omega, by omega⟩ ?_
    refine v_goto hC 15 dX3_init_37 rfl ?_
    have h9 := ih (j + 1) (by omega) (by omega)
    rw [show 1 + 8 * (j + 1) = 1 + 8 * j + 1 + 7 by omega, show 6 + 23 * (j + 1) = 6 + 23 * j + 2 + 21 by omega, show 2 + 8 * (j + 1) = 2 + 8 * j + 1 + 7 by omega] at h9
    exact h9
