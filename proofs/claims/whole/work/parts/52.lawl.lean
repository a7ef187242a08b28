/-! The law's loop, and its start. -/
set_option maxRecDepth 100000 in
theorem lw_step {x : MC} {n k : Nat} {μ : MU} {a N : Nat} {xs : Nat → Int32} (hC : Ctx x RX5 code room_1) (hX : Lx x a N xs) {i : Int} (hi : 0 ≤ i ∧ i + 6 ≤ (N : Int)) (hR1 : n + 1 ≤ room_1.cells) (hR2 : k + 6 ≤ room_1.slots) (h : Rlt μ μ) (kk : ∀ (n' k' : Nat) (μ' : MU), n' ≤ n + 1 → k' ≤ k + 6 → Rlt μ' μ' → V x n' k' none 995 (Lq a i) [] μ') : V x n k none 33 (Lq a i) [] μ := by
  have hN := hX.nn
  refine v_aloadX_n hC 0 dX5_law_33 rfl rfl ?_
  refine v_iload hC dX5_law_34 rfl ?_
  refine v_sld hC hX dX5_law_36 ⟨by omega, by omega⟩ ?_
  refine v_bipush hC dX5_law_37 ⟨by decide, by decide⟩ ?_
  refine v_iand hC dX5_law_39 ?_
  refine v_tsw hC dX5_law_40 995 rfl (fun j => [124, 168, 272, 356, 424, 473, 517, 554, 591, 635, 672, 747, 784, 833, 858, 933, 970].getD j 995) (fun j hj => ?_) rfl (fun _ => kk n k μ (Nat.le_add_right _ _) (Nat.le_add_right _ _) h) (fun j hj _ => ?_)
  · have hj' : j < 17 := hj
    rcases (by omega : j = 0 ∨ j = 1 ∨ j = 2 ∨ j = 3 ∨ j = 4 ∨ j = 5 ∨ j = 6 ∨ j = 7 ∨ j = 8 ∨ j = 9 ∨ j = 10 ∨ j = 11 ∨ j = 12 ∨ j = 13 ∨ j = 14 ∨ j = 15 ∨ j = 16) with rfl | rfl | rfl | rfl | rfl | rfl | rfl | rfl | rfl | rfl | rfl | rfl | rfl | rfl | rfl | rfl | rfl <;> exact ⟨_, rfl, rfl⟩
  · have hj' : j < 17 := hj
    rcases (by omega : j = 0 ∨ j = 1 ∨ j = 2 ∨ j = 3 ∨ j = 4 ∨ j = 5 ∨ j = 6 ∨ j = 7 ∨ j = 8 ∨ j = 9 ∨ j = 10 ∨ j = 11 ∨ j = 12 ∨ j = 13 ∨ j = 14 ∨ j = 15 ∨ j = 16) with rfl | rfl | rfl | rfl | rfl | rfl | rfl | rfl | rfl | rfl | rfl | rfl | rfl | rfl | rfl | rfl | rfl
    · exact lw_c0 hC hX hi hR1 hR2 h kk
    · exact lw_c1 hC hX hi hR1 hR2 h kk
    · exact lw_c2 hC hX hi hR1 hR2 h kk
    · exact lw_c3 hC hX hi hR1 hR2 h kk
    · exact lw_c4 hC hX hi hR1 hR2 h kk
    · exact lw_c5 hC hX hi hR1 hR2 h kk
    · exact lw_c6 hC hX hi hR1 hR2 h kk
    · exact lw_c7 hC hX hi hR1 hR2 h kk
    · exact lw_c8 hC hX hi hR1 hR2 h kk
    · exact lw_c9 hC hX hi hR1 hR2 h kk
    · exact lw_c10 hC hX hi hR1 hR2 h kk
    · exact lw_c11 hC hX hi hR1 hR2 h kk
    · exact lw_c12 hC hX hi hR1 hR2 h kk
    · exact lw_c13 hC hX hi hR1 hR2 h kk
    · exact lw_c14 hC hX hi hR1 hR2 h kk
    · exact lw_c15 hC hX hi hR1 hR2 h kk
    · exact lw_c16 hC hX hi hR1 hR2 h kk
theorem lw_loop {x : MC} {a N : Nat} {xs : Nat → Int32} (hC : Ctx x RX5 code room_1) (hX : Lx x a N xs) (hN : N ≤ 3072) : ∀ (t n k : Nat) (μ : MU), 6 * t ≤ N → n ≤ 131 + t → k ≤ 1131 + 6 * t → Rlt μ μ → V x n k none 23 (Lq a ((6 * t : Nat) : Int)) [] μ := by
  intro t n k μ h1 h2 h3 h4
  refine v_loop (α := Nat × Nat × Nat × MU) (fun q => N - 6 * q.1) (fun q => 6 * q.1 ≤ N ∧ q.2.1 ≤ 131 + q.1 ∧ q.2.2.1 ≤ 1131 + 6 * q.1 ∧ Rlt q.2.2.2 q.2.2.2) (fun q => V x q.2.1 q.2.2.1 none 23 (Lq a ((6 * q.1 : Nat) : Int)) [] q.2.2.2) (fun q hq ih => ?_) (t, n, k, μ) ⟨h1, h2, h3, h4⟩
  obtain ⟨t, n, k, μ⟩ := q
  obtain ⟨h1, h2, h3, h4⟩ := hq
  dsimp only at h1 h2 h3 h4 ih ⊢
  refine v_iload hC dX5_law_23 rfl ?_
  refine v_aloadX_n hC 0 dX5_law_25 rfl rfl ?_
  refine v_slen hC hX dX5_law_26 ?_
  refine v_bipush hC dX5_law_27 ⟨by decide, by decide⟩ ?_
  refine v_isub hC dX5_law_29 ⟨by omega, by omega⟩ ?_
  refine v_icmp_gt hC 1001 dX5_law_30 rfl (fun _ => ?_) (fun hle => ?_)
  · refine v_iconst hC dX5_law_1001 ⟨by decide, by decide⟩ ?_
    exact v_lend hC hX dX5_law_1002 (by omega) (by omega)
  · refine lw_step hC hX ⟨by omega, by omega⟩ (by show n + 1 ≤ 651598; omega) (by show k + 6 ≤ 7141310; omega) h4 (fun n' k' μ' e1 e2 e3 => ?_)
    refine v_iinc hC dX5_law_995 rfl ⟨by omega, by omega⟩ ?_
    refine v_goto hC 23 dX5_law_998 rfl ?_
    have h9 := ih (t + 1, n', k', μ') ⟨by dsimp only; omega, by dsimp only; omega, by dsimp only; omega, e3⟩ (by dsimp only; omega)
    dsimp only at h9
    rw [show ((6 * (t + 1) : Nat) : Int) = ((6 * t : Nat) : Int) + 6 by omega] at h9
    exact h9
theorem fnO : FN RX5 8 3 8 [fR 1 0 100 0, fR 6 0 101 0, fI 0 0, fI 1 0, fI 2 0, fR 10 0 102 0, fI 3 0, fR 11 0 103 0] := ⟨RX3, TX3, tyX3, rfl, inX3, tyX3_ok, by decide +kernel, by decide +kernel, by decide +kernel, fun j hj => by
  rcases (by omega : j = 0 ∨ j = 1 ∨ j = 2 ∨ j = 3 ∨ j = 4 ∨ j = 5 ∨ j = 6 ∨ j = 7) with rfl | rfl | rfl | rfl | rfl | rfl | rfl | rfl <;> exact ⟨_, rfl, rfl⟩⟩
theorem fnM : FN RX5 43 4 20 [fI 20 0, fI 21 0, fI 22 0, fR 13 0 111 0, fR 14 0 112 0, fR 15 0 113 0, fI 23 0, fR 16 0 114 0, fR 17 0 115 0, fR 18 0 116 0, fR 19 0 117 0, fR 20 0 118 0, fR 21 0 119 0, fR 22 0 120 0, fR 23 0 121 0, fR 24 0 122 0, fR 25 0 123 0, fR 26 0 124 0, fR 27 0 125 0, fR 28 0 126 0] := ⟨RX4, TX4, tyX4, rfl, inX4, tyX4_ok, by decide +kernel, by decide +kernel, by decide +kernel, fun j hj => by
  rcases (by omega : j = 0 ∨ j = 1 ∨ j = 2 ∨ j = 3 ∨ j = 4 ∨ j = 5 ∨ j = 6 ∨ j = 7 ∨ j = 8 ∨ j = 9 ∨ j = 10 ∨ j = 11 ∨ j = 12 ∨ j = 13 ∨ j = 14 ∨ j = 15 ∨ j = 16 ∨ j = 17 ∨ j = 18 ∨ j = 19) with rfl | rfl | rfl | rfl | rfl | rfl | rfl | rfl | rfl | rfl | rfl | rfl | rfl | rfl | rfl | rfl | rfl | rfl | rfl | rfl <;> exact ⟨_, rfl, rfl⟩⟩
set_option maxRecDepth 100000 in
set_option maxHeartbeats 4000000 in
theorem lw_begin {x : MC} {a N : Nat} {xs : Nat → Int32} (hC : Ctx x RX5 code room_1) (hA3 : A3x x) (hX : Lx x a N xs) (hN : N ≤ 3072) : V x 0 0 (some 0) 0 [some (aX a), none, none, none, none, none, none] [] mu0 := by
  refine v_new (c := 0) (i := 0) hC fnO dX5_law_0 rfl (by decide) rfl (fun d hd => by
    simp only [List.mem_cons, List.not_mem_nil, or_false] at hd
    rcases hd with rfl | rfl | rfl | rfl | rfl | rfl | rfl | rfl <;> exact mu0_z (by decide)) (Nat.le_of_ble_eq_true rfl) (Nat.le_of_ble_eq_true rfl) ?_
  refine v_dupR hC dX5_law_3 ?_
  refine v_callA (as := []) (na := 0) hC hA3 (cX3_init_ok mu0 mu0_Zo) (cw_I (rmc := rmX3_init) (na := 0) hC (by decide +kernel) (by decide +kernel) (by decide +kernel) (by decide +kernel) rfl (by decide) ⟨Nat.le_of_ble_eq_true rfl, Nat.le_of_ble_eq_true rfl⟩) rfl nl0 (Nat.le_of_ble_eq_true rfl) (Nat.le_of_ble_eq_true rfl) (Nat.le_of_ble_eq_true rfl) dX5_law_4 (fun μ1 hp1 => ?_)
  subst hp1
  refine v_astore_n hC 1 dX5_law_7 rfl (Nat.le_of_ble_eq_true rfl) ?_
  refine v_new (c := 12) (i := 0) hC fnM dX5_law_8 rfl (by decide) rfl (fun d hd => by
    simp only [List.mem_cons, List.not_mem_nil, or_false] at hd
    rcases hd with rfl | rfl | rfl | rfl | rfl | rfl | rfl | rfl | rfl | rfl | rfl | rfl | rfl | rfl | rfl | rfl | rfl | rfl | rfl | rfl <;> exact (oini_ge (by decide) (by decide) mu0).trans (mu0_z (by decide))) (Nat.le_of_ble_eq_true rfl) (Nat.le_of_ble_eq_true rfl) ?_
  refine v_dupR hC dX5_law_11 ?_
  refine v_callA (as := []) (na := 0) hC hA3 (cX4_init_ok (oini mu0) (fun f j h1 h2 => (oini_ge (by omega) (by omega) mu0).trans (mu0_z (by omega)))) (cw_I (rmc := rmX4_init) (na := 0) hC (by decide +kernel) (by decide +kernel) (by decide +kernel) (by decide +kernel) rfl (by decide) ⟨Nat.le_of_ble_eq_true rfl, Nat.le_of_ble_eq_true rfl⟩) rfl nl0 (Nat.le_of_ble_eq_true rfl) (Nat.le_of_ble_eq_true rfl) (Nat.le_of_ble_eq_true rfl) dX5_law_12 (fun μ1 hp1 => ?_)
  subst hp1
  refine v_astore_n hC 2 dX5_law_15 rfl (Nat.le_of_ble_eq_true rfl) ?_
  refine v_iconst hC dX5_law_16 ⟨by decide, by decide⟩ ?_
  refine v_newA (c := 29) (i := 0) (t := 2) (len := 1) hC dX5_law_17 rfl (fun C h => by cases h) (fun K => rfl) (by decide +kernel) rfl (by decide) rfl rfl (by decide) (fun j hj => ⟨muS_0 (f := 40) (by decide) (by decide), rfl⟩) (Nat.le_of_ble_eq_true rfl) (Nat.le_of_ble_eq_true rfl) ?_
  refine v_astore_n hC 3 dX5_law_19 rfl (Nat.le_of_ble_eq_true rfl) ?_
  refine v_iconst hC dX5_law_20 ⟨by decide, by decide⟩ ?_
  refine v_istore hC dX5_law_21 (Nat.le_of_ble_eq_true rfl) ?_
  refine v_norm (fun f j hf => muS_Fl hf) ?_
  exact lw_loop hC hX hN 0 _ _ muS (Nat.zero_le _) (Nat.le_of_ble_eq_true rfl) (Nat.le_of_ble_eq_true rfl) muS_RL
