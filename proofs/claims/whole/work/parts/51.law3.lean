set_option maxRecDepth 100000 in
set_option maxHeartbeats 4000000 in
theorem lw_c2 {x : MC} {n k : Nat} {μ : MU} {a N : Nat} {xs : Nat → Int32} (hC : Ctx x RX5 code room_1) (hX : Lx x a N xs) {i : Int} (hi : 0 ≤ i ∧ i + 6 ≤ (N : Int)) (hR1 : n + 1 ≤ room_1.cells) (hR2 : k + 6 ≤ room_1.slots) (h : Rlt μ μ) (kk : ∀ (n' k' : Nat) (μ' : MU), n' ≤ n + 1 → k' ≤ k + 6 → Rlt μ' μ' → V x n' k' none 995 (Lq a i) [] μ') : V x n k none 272 (Lq a i) [] μ := by
  have hN := hX.nn
  have hR1' : n ≤ room_1.cells := Nat.le_of_succ_le hR1
  have hR2' : k ≤ room_1.slots := Nat.le_trans (Nat.le_add_right k 6) hR2
  obtain ⟨l9, hl9, hl01⟩ : ∃ l9 : Int, l9 = (if (xs (i + 2).toNat).toInt = 0 then 0 else 1) ∧ (l9 = 0 ∨ l9 = 1) := ⟨_, rfl, by split <;> simp⟩
  refine v_aload_n hC 1 dX5_law_272 rfl rfl ?_
  refine v_aloadX_n hC 0 dX5_law_273 rfl rfl ?_
  refine v_iload hC dX5_law_274 rfl ?_
  refine v_iconst hC dX5_law_276 ⟨by decide, by decide⟩ ?_
  refine v_iadd hC dX5_law_277 ⟨by omega, by omega⟩ ?_
  refine v_sld hC hX dX5_law_278 ⟨by omega, by omega⟩ ?_
  refine v_aloadX_n hC 0 dX5_law_279 rfl rfl ?_
  refine v_iload hC dX5_law_280 rfl ?_
  refine v_iconst hC dX5_law_282 ⟨by decide, by decide⟩ ?_
  refine v_iadd hC dX5_law_283 ⟨by omega, by omega⟩ ?_
  refine v_sld hC hX dX5_law_284 ⟨by omega, by omega⟩ ?_
  suffices hB : V x n k none 293 (Lq a i) [aI l9, aI (xs (i + 1).toNat).toInt, aR 0 0] μ from v_if_eq hC 292 dX5_law_285 rfl (fun hq => by
      have e9 : l9 = 0 := by rw [hl9, if_pos hq]
      subst e9
      exact v_iconst hC dX5_law_292 ⟨by decide, by decide⟩ hB) (fun hq => by
      have e9 : l9 = 1 := by rw [hl9, if_neg hq]
      subst e9
      exact v_iconst hC dX5_law_288 ⟨by decide, by decide⟩ (v_goto hC 293 dX5_law_289 rfl hB))
  refine v_aload_n hC 3 dX5_law_293 rfl rfl ?_
  refine v_callW (as := [aR 0 0, aI (xs (i + 1).toNat).toInt, aI l9, aR 29 0]) (na := 4) (rows := [(0, 10, 13, 19), (0, 10, 17, 13)]) (maxL := 5) (y := yX5_pupil) (bytes := cX5_pupil) (rmc := rmX5_pupil) hC hX (cX5_pupil_ok (xs (i + 1).toNat).toInt l9 (cX3_pupil_ok (xs (i + 1).toNat).toInt l9 μ h.sf hl01) (fun w μ9 hw => by rcases hw.2 with ⟨rfl, -⟩ | ⟨rfl, -⟩ <;> decide)) (by decide +kernel) (by decide +kernel) (by decide +kernel) (by decide +kernel) ⟨by decide, by decide, by decide +kernel⟩ ⟨rfl, rfl⟩ ⟨Nat.le_of_ble_eq_true rfl, Nat.le_of_ble_eq_true rfl⟩ rfl (nlW (as := [(xs (i + 1).toNat).toInt, l9])) hR1 hR2 (Nat.le_of_ble_eq_true rfl) dX5_law_294 (fun r μ1 hp1 => ?_)
  obtain ⟨hSm, hstep⟩ := st_pupil h (xs (i + 1).toNat).toInt l9 hp1
  refine v_istore hC dX5_law_297 (Nat.le_of_ble_eq_true rfl) ?_
  refine v_aload_n hC 2 dX5_law_299 rfl rfl ?_
  refine v_aloadX_n hC 0 dX5_law_300 rfl rfl ?_
  refine v_iload hC dX5_law_301 rfl ?_
  refine v_iconst hC dX5_law_303 ⟨by decide, by decide⟩ ?_
  refine v_iadd hC dX5_law_304 ⟨by omega, by omega⟩ ?_
  refine v_sld hC hX dX5_law_305 ⟨by omega, by omega⟩ ?_
  refine v_aloadX_n hC 0 dX5_law_306 rfl rfl ?_
  refine v_iload hC dX5_law_307 rfl ?_
  refine v_iconst hC dX5_law_309 ⟨by decide, by decide⟩ ?_
  refine v_iadd hC dX5_law_310 ⟨by omega, by omega⟩ ?_
  refine v_sld hC hX dX5_law_311 ⟨by omega, by omega⟩ ?_
  suffices hB : V x (n + 1) (k + 6) none 320 ((Lq a i).set 5 (some (aI r))) [aI l9, aI (xs (i + 1).toNat).toInt, aR 12 0] μ1 from v_if_eq hC 319 dX5_law_312 rfl (fun hq => by
      have e9 : l9 = 0 := by rw [hl9, if_pos hq]
      subst e9
      exact v_iconst hC dX5_law_319 ⟨by decide, by decide⟩ hB) (fun hq => by
      have e9 : l9 = 1 := by rw [hl9, if_neg hq]
      subst e9
      exact v_iconst hC dX5_law_315 ⟨by decide, by decide⟩ (v_goto hC 320 dX5_law_316 rfl hB))
  refine v_callI2 hC (cw_V (C := RX4) (y := yX4_pupil) (bytes := cX4_pupil) (maxL := 3) (ret := some .int) (rmc := rmX4_pupil) (na := 2) hC (by decide +kernel) (by decide +kernel) (by decide +kernel) (by decide +kernel) (by decide +kernel) ⟨rfl, by decide, by decide, by decide +kernel⟩ ⟨Nat.le_of_ble_eq_true rfl, Nat.le_of_ble_eq_true rfl⟩) dX5_law_320 rfl rfl rfl hR1 hR2 (Nat.le_of_ble_eq_true rfl) (by decide) (cX4_pupil_ok (xs (i + 1).toNat).toInt l9 μ1 hSm hl01) (fun r2 μ2 hp2 => ?_)
  obtain ⟨he, h40, hq⟩ := hstep r2 μ2 hp2
  refine v_istore hC dX5_law_323 (Nat.le_of_ble_eq_true rfl) ?_
  refine v_aload_n hC 2 dX5_law_325 rfl rfl ?_
  refine v_callI0 hC (cw_V (C := RX4) (y := yX4_thrown) (bytes := cX4_thrown) (maxL := 1) (ret := some .int) (rmc := rmX4_thrown) (na := 0) hC (by decide +kernel) (by decide +kernel) (by decide +kernel) (by decide +kernel) (by decide +kernel) ⟨rfl, by decide, by decide, by decide +kernel⟩ ⟨Nat.le_of_ble_eq_true rfl, Nat.le_of_ble_eq_true rfl⟩) dX5_law_326 rfl rfl rfl hR1 hR2 (Nat.le_of_ble_eq_true rfl) (by decide) (cX4_thrown_ok μ2) (fun r3 μ3 hp3 => ?_)
  obtain ⟨rfl, rfl⟩ := hp3
  refine v_iload hC dX5_law_329 rfl ?_
  refine v_icmp_eq hC 336 dX5_law_331 rfl (fun _ => ?_) (fun hne => absurd he hne)
  refine v_iload hC dX5_law_336 rfl ?_
  have hend : V x (n + 1) (k + 6) none 353 (((Lq a i).set 5 (some (aI r))).set 6 (some (aI r2))) [] μ2 := by
    refine v_forget 5 ?_
    refine v_forget 6 ?_
    refine v_goto hC 995 dX5_law_353 rfl ?_
    exact kk (n + 1) (k + 6) μ2 (Nat.le_refl _) (Nat.le_refl _) hq
  refine v_if_ne hC 353 dX5_law_338 rfl (fun _ => hend) (fun h0 => ?_)
  refine v_aload_n hC 3 dX5_law_341 rfl rfl ?_
  refine v_iconst hC dX5_law_342 ⟨by decide, by decide⟩ ?_
  refine v_lald hC dX5_law_343 rfl ?_
  refine v_iload hC dX5_law_344 rfl ?_
  refine v_i2l hC dX5_law_346 ?_
  refine v_lcmp hC dX5_law_347 (fun r9 hr9 => ?_)
  exact v_if_eq hC 353 dX5_law_348 rfl (fun _ => hend) (fun hne => absurd (hr9.2 (h40 h0)) hne)
set_option maxRecDepth 100000 in
set_option maxHeartbeats 4000000 in
theorem lw_c5 {x : MC} {n k : Nat} {μ : MU} {a N : Nat} {xs : Nat → Int32} (hC : Ctx x RX5 code room_1) (hX : Lx x a N xs) {i : Int} (hi : 0 ≤ i ∧ i + 6 ≤ (N : Int)) (hR1 : n + 1 ≤ room_1.cells) (hR2 : k + 6 ≤ room_1.slots) (h : Rlt μ μ) (kk : ∀ (n' k' : Nat) (μ' : MU), n' ≤ n + 1 → k' ≤ k + 6 → Rlt μ' μ' → V x n' k' none 995 (Lq a i) [] μ') : V x n k none 473 (Lq a i) [] μ := by
  have hN := hX.nn
  have hR1' : n ≤ room_1.cells := Nat.le_of_succ_le hR1
  have hR2' : k ≤ room_1.slots := Nat.le_trans (Nat.le_add_right k 6) hR2
  refine v_aload_n hC 1 dX5_law_473 rfl rfl ?_
  refine v_aload_n hC 3 dX5_law_474 rfl rfl ?_
  refine v_callW (as := [aR 0 0, aR 29 0]) (na := 2) (rows := [(0, 8, 11, 13)]) (maxL := 3) (y := yX5_run) (bytes := cX5_run) (rmc := rmX5_run) hC hX (cX5_run_ok (cX3_run_ok μ h.sf (fun s hs => h.inj hs)) (fun w μ9 hw => hw.2.1)) (by decide +kernel) (by decide +kernel) (by decide +kernel) (by decide +kernel) ⟨by decide, by decide, by decide +kernel⟩ ⟨rfl, rfl⟩ ⟨Nat.le_of_ble_eq_true rfl, Nat.le_of_ble_eq_true rfl⟩ rfl (nlW (as := [])) hR1 hR2 (Nat.le_of_ble_eq_true rfl) dX5_law_475 (fun r μ1 hp1 => ?_)
  obtain ⟨hSm, hstep⟩ := st_run h hp1
  refine v_istore hC dX5_law_478 (Nat.le_of_ble_eq_true rfl) ?_
  refine v_aload_n hC 2 dX5_law_480 rfl rfl ?_
  refine v_callI0 hC (cw_V (C := RX4) (y := yX4_run) (bytes := cX4_run) (maxL := 3) (ret := some .int) (rmc := rmX4_run) (na := 0) hC (by decide +kernel) (by decide +kernel) (by decide +kernel) (by decide +kernel) (by decide +kernel) ⟨rfl, by decide, by decide, by decide +kernel⟩ ⟨Nat.le_of_ble_eq_true rfl, Nat.le_of_ble_eq_true rfl⟩) dX5_law_481 rfl rfl rfl hR1 hR2 (Nat.le_of_ble_eq_true rfl) (by decide) (cX4_run_ok μ1 hSm) (fun r2 μ2 hp2 => ?_)
  obtain ⟨he, h40, hq⟩ := hstep r2 μ2 hp2
  refine v_istore hC dX5_law_484 (Nat.le_of_ble_eq_true rfl) ?_
  refine v_aload_n hC 2 dX5_law_486 rfl rfl ?_
  refine v_callI0 hC (cw_V (C := RX4) (y := yX4_thrown) (bytes := cX4_thrown) (maxL := 1) (ret := some .int) (rmc := rmX4_thrown) (na := 0) hC (by decide +kernel) (by decide +kernel) (by decide +kernel) (by decide +kernel) (by decide +kernel) ⟨rfl, by decide, by decide, by decide +kernel⟩ ⟨Nat.le_of_ble_eq_true rfl, Nat.le_of_ble_eq_true rfl⟩) dX5_law_487 rfl rfl rfl hR1 hR2 (Nat.le_of_ble_eq_true rfl) (by decide) (cX4_thrown_ok μ2) (fun r3 μ3 hp3 => ?_)
  obtain ⟨rfl, rfl⟩ := hp3
  refine v_iload hC dX5_law_490 rfl ?_
  refine v_icmp_eq hC 497 dX5_law_492 rfl (fun _ => ?_) (fun hne => absurd he hne)
  refine v_iload hC dX5_law_497 rfl ?_
  have hend : V x (n + 1) (k + 6) none 514 (((Lq a i).set 5 (some (aI r))).set 6 (some (aI r2))) [] μ2 := by
    refine v_forget 5 ?_
    refine v_forget 6 ?_
    refine v_goto hC 995 dX5_law_514 rfl ?_
    exact kk (n + 1) (k + 6) μ2 (Nat.le_refl _) (Nat.le_refl _) hq
  refine v_if_ne hC 514 dX5_law_499 rfl (fun _ => hend) (fun h0 => ?_)
  refine v_aload_n hC 3 dX5_law_502 rfl rfl ?_
  refine v_iconst hC dX5_law_503 ⟨by decide, by decide⟩ ?_
  refine v_lald hC dX5_law_504 rfl ?_
  refine v_iload hC dX5_law_505 rfl ?_
  refine v_i2l hC dX5_law_507 ?_
  refine v_lcmp hC dX5_law_508 (fun r9 hr9 => ?_)
  exact v_if_eq hC 514 dX5_law_509 rfl (fun _ => hend) (fun hne => absurd (hr9.2 (h40 h0)) hne)
set_option maxRecDepth 100000 in
set_option maxHeartbeats 4000000 in
theorem lw_c8 {x : MC} {n k : Nat} {μ : MU} {a N : Nat} {xs : Nat → Int32} (hC : Ctx x RX5 code room_1) (hX : Lx x a N xs) {i : Int} (hi : 0 ≤ i ∧ i + 6 ≤ (N : Int)) (hR1 : n + 1 ≤ room_1.cells) (hR2 : k + 6 ≤ room_1.slots) (h : Rlt μ μ) (kk : ∀ (n' k' : Nat) (μ' : MU), n' ≤ n + 1 → k' ≤ k + 6 → Rlt μ' μ' → V x n' k' none 995 (Lq a i) [] μ') : V x n k none 591 (Lq a i) [] μ := by
  have hN := hX.nn
  have hR1' : n ≤ room_1.cells := Nat.le_of_succ_le hR1
  have hR2' : k ≤ room_1.slots := Nat.le_trans (Nat.le_add_right k 6) hR2
  refine v_aload_n hC 1 dX5_law_591 rfl rfl ?_
  refine v_aload_n hC 3 dX5_law_592 rfl rfl ?_
  refine v_callW (as := [aR 0 0, aR 29 0]) (na := 2) (rows := [(0, 8, 11, 13)]) (maxL := 3) (y := yX5_chain) (bytes := cX5_chain) (rmc := rmX5_chain) hC hX (cX5_chain_ok (cX3_chain_ok μ h.sf) (fun w μ9 hw => hw.2.1)) (by decide +kernel) (by decide +kernel) (by decide +kernel) (by decide +kernel) ⟨by decide, by decide, by decide +kernel⟩ ⟨rfl, rfl⟩ ⟨Nat.le_of_ble_eq_true rfl, Nat.le_of_ble_eq_true rfl⟩ rfl (nlW (as := [])) hR1 hR2 (Nat.le_of_ble_eq_true rfl) dX5_law_593 (fun r μ1 hp1 => ?_)
  obtain ⟨hSm, hstep⟩ := st_chain h hp1
  refine v_istore hC dX5_law_596 (Nat.le_of_ble_eq_true rfl) ?_
  refine v_aload_n hC 2 dX5_law_598 rfl rfl ?_
  refine v_callI0 hC (cw_V (C := RX4) (y := yX4_chain) (bytes := cX4_chain) (maxL := 2) (ret := some .int) (rmc := rmX4_chain) (na := 0) hC (by decide +kernel) (by decide +kernel) (by decide +kernel) (by decide +kernel) (by decide +kernel) ⟨rfl, by decide, by decide, by decide +kernel⟩ ⟨Nat.le_of_ble_eq_true rfl, Nat.le_of_ble_eq_true rfl⟩) dX5_law_599 rfl rfl rfl hR1 hR2 (Nat.le_of_ble_eq_true rfl) (by decide) (cX4_chain_ok μ1 hSm) (fun r2 μ2 hp2 => ?_)
  obtain ⟨he, h40, hq⟩ := hstep r2 μ2 hp2
  refine v_istore hC dX5_law_602 (Nat.le_of_ble_eq_true rfl) ?_
  refine v_aload_n hC 2 dX5_law_604 rfl rfl ?_
  refine v_callI0 hC (cw_V (C := RX4) (y := yX4_thrown) (bytes := cX4_thrown) (maxL := 1) (ret := some .int) (rmc := rmX4_thrown) (na := 0) hC (by decide +kernel) (by decide +kernel) (by decide +kernel) (by decide +kernel) (by decide +kernel) ⟨rfl, by decide, by decide, by decide +kernel⟩ ⟨Nat.le_of_ble_eq_true rfl, Nat.le_of_ble_eq_true rfl⟩) dX5_law_605 rfl rfl rfl hR1 hR2 (Nat.le_of_ble_eq_true rfl) (by decide) (cX4_thrown_ok μ2) (fun r3 μ3 hp3 => ?_)
  obtain ⟨rfl, rfl⟩ := hp3
  refine v_iload hC dX5_law_608 rfl ?_
  refine v_icmp_eq hC 615 dX5_law_610 rfl (fun _ => ?_) (fun hne => absurd he hne)
  refine v_iload hC dX5_law_615 rfl ?_
  have hend : V x (n + 1) (k + 6) none 632 (((Lq a i).set 5 (some (aI r))).set 6 (some (aI r2))) [] μ2 := by
    refine v_forget 5 ?_
    refine v_forget 6 ?_
    refine v_goto hC 995 dX5_law_632 rfl ?_
    exact kk (n + 1) (k + 6) μ2 (Nat.le_refl _) (Nat.le_refl _) hq
  refine v_if_ne hC 632 dX5_law_617 rfl (fun _ => hend) (fun h0 => ?_)
  refine v_aload_n hC 3 dX5_law_620 rfl rfl ?_
  refine v_iconst hC dX5_law_621 ⟨by decide, by decide⟩ ?_
  refine v_lald hC dX5_law_622 rfl ?_
  refine v_iload hC dX5_law_623 rfl ?_
  refine v_i2l hC dX5_law_625 ?_
  refine v_lcmp hC dX5_law_626 (fun r9 hr9 => ?_)
  exact v_if_eq hC 632 dX5_law_627 rfl (fun _ => hend) (fun hne => absurd (hr9.2 (h40 h0)) hne)
set_option maxRecDepth 100000 in
set_option maxHeartbeats 4000000 in
theorem lw_c11 {x : MC} {n k : Nat} {μ : MU} {a N : Nat} {xs : Nat → Int32} (hC : Ctx x RX5 code room_1) (hX : Lx x a N xs) {i : Int} (hi : 0 ≤ i ∧ i + 6 ≤ (N : Int)) (hR1 : n + 1 ≤ room_1.cells) (hR2 : k + 6 ≤ room_1.slots) (h : Rlt μ μ) (kk : ∀ (n' k' : Nat) (μ' : MU), n' ≤ n + 1 → k' ≤ k + 6 → Rlt μ' μ' → V x n' k' none 995 (Lq a i) [] μ') : V x n k none 747 (Lq a i) [] μ := by
  have hN := hX.nn
  have hR1' : n ≤ room_1.cells := Nat.le_of_succ_le hR1
  have hR2' : k ≤ room_1.slots := Nat.le_trans (Nat.le_add_right k 6) hR2
  refine v_aload_n hC 1 dX5_law_747 rfl rfl ?_
  refine v_aloadX_n hC 0 dX5_law_748 rfl rfl ?_
  refine v_iload hC dX5_law_749 rfl ?_
  refine v_iconst hC dX5_law_751 ⟨by decide, by decide⟩ ?_
  refine v_iadd hC dX5_law_752 ⟨by omega, by omega⟩ ?_
  refine v_sld hC hX dX5_law_753 ⟨by omega, by omega⟩ ?_
  refine v_aloadX_n hC 0 dX5_law_754 rfl rfl ?_
  refine v_iload hC dX5_law_755 rfl ?_
  refine v_iconst hC dX5_law_757 ⟨by decide, by decide⟩ ?_
  refine v_iadd hC dX5_law_758 ⟨by omega, by omega⟩ ?_
  refine v_sld hC hX dX5_law_759 ⟨by omega, by omega⟩ ?_
  refine v_callI2 hC (cw_V (C := RX3) (y := yX3_seat) (bytes := cX3_seat) (maxL := 4) (ret := some .int) (rmc := rmX3_seat) (na := 2) hC (by decide +kernel) (by decide +kernel) (by decide +kernel) (by decide +kernel) (by decide +kernel) ⟨rfl, by decide, by decide, by decide +kernel⟩ ⟨Nat.le_of_ble_eq_true rfl, Nat.le_of_ble_eq_true rfl⟩) dX5_law_760 rfl rfl rfl hR1' hR2' (Nat.le_of_ble_eq_true rfl) (by decide) (cX3_seat_ok (xs (i + 1).toNat).toInt (xs (i + 2).toNat).toInt μ h.sf) (fun r1 μ1 hp1 => ?_)
  obtain ⟨hSm, hstep⟩ := st_seat h (xs (i + 1).toNat).toInt (xs (i + 2).toNat).toInt hp1
  refine v_aload_n hC 2 dX5_law_763 rfl rfl ?_
  refine v_aloadX_n hC 0 dX5_law_764 rfl rfl ?_
  refine v_iload hC dX5_law_765 rfl ?_
  refine v_iconst hC dX5_law_767 ⟨by decide, by decide⟩ ?_
  refine v_iadd hC dX5_law_768 ⟨by omega, by omega⟩ ?_
  refine v_sld hC hX dX5_law_769 ⟨by omega, by omega⟩ ?_
  refine v_aloadX_n hC 0 dX5_law_770 rfl rfl ?_
  refine v_iload hC dX5_law_771 rfl ?_
  refine v_iconst hC dX5_law_773 ⟨by decide, by decide⟩ ?_
  refine v_iadd hC dX5_law_774 ⟨by omega, by omega⟩ ?_
  refine v_sld hC hX dX5_law_775 ⟨by omega, by omega⟩ ?_
  refine v_callI2 hC (cw_V (C := RX4) (y := yX4_seat) (bytes := cX4_seat) (maxL := 3) (ret := some .int) (rmc := rmX4_seat) (na := 2) hC (by decide +kernel) (by decide +kernel) (by decide +kernel) (by decide +kernel) (by decide +kernel) ⟨rfl, by decide, by decide, by decide +kernel⟩ ⟨Nat.le_of_ble_eq_true rfl, Nat.le_of_ble_eq_true rfl⟩) dX5_law_776 rfl rfl rfl hR1' hR2' (Nat.le_of_ble_eq_true rfl) (by decide) (cX4_seat_ok (xs (i + 1).toNat).toInt (xs (i + 2).toNat).toInt μ1 hSm) (fun r2 μ2 hp2 => ?_)
  obtain ⟨he, hq⟩ := hstep r2 μ2 hp2
  refine v_icmp_eq hC 995 dX5_law_779 rfl (fun _ => ?_) (fun hne => absurd he hne)
  exact kk n k μ2 (Nat.le_add_right _ _) (Nat.le_add_right _ _) hq
set_option maxRecDepth 100000 in
set_option maxHeartbeats 4000000 in
theorem lw_c14 {x : MC} {n k : Nat} {μ : MU} {a N : Nat} {xs : Nat → Int32} (hC : Ctx x RX5 code room_1) (hX : Lx x a N xs) {i : Int} (hi : 0 ≤ i ∧ i + 6 ≤ (N : Int)) (hR1 : n + 1 ≤ room_1.cells) (hR2 : k + 6 ≤ room_1.slots) (h : Rlt μ μ) (kk : ∀ (n' k' : Nat) (μ' : MU), n' ≤ n + 1 → k' ≤ k + 6 → Rlt μ' μ' → V x n' k' none 995 (Lq a i) [] μ') : V x n k none 858 (Lq a i) [] μ := by
  have hN := hX.nn
  have hR1' : n ≤ room_1.cells := Nat.le_of_succ_le hR1
  have hR2' : k ≤ room_1.slots := Nat.le_trans (Nat.le_add_right k 6) hR2
  refine v_aload_n hC 1 dX5_law_858 rfl rfl ?_
  refine v_aloadX_n hC 0 dX5_law_859 rfl rfl ?_
  refine v_iload hC dX5_law_860 rfl ?_
  refine v_iconst hC dX5_law_862 ⟨by decide, by decide⟩ ?_
  refine v_iadd hC dX5_law_863 ⟨by omega, by omega⟩ ?_
  refine v_sld hC hX dX5_law_864 ⟨by omega, by omega⟩ ?_
  refine v_aloadX_n hC 0 dX5_law_865 rfl rfl ?_
  refine v_iload hC dX5_law_866 rfl ?_
  refine v_iconst hC dX5_law_868 ⟨by decide, by decide⟩ ?_
  refine v_iadd hC dX5_law_869 ⟨by omega, by omega⟩ ?_
  refine v_sld hC hX dX5_law_870 ⟨by omega, by omega⟩ ?_
  refine v_aload_n hC 3 dX5_law_871 rfl rfl ?_
  refine v_callW (as := [aR 0 0, aI (xs (i + 1).toNat).toInt, aI (xs (i + 2).toNat).toInt, aR 29 0]) (na := 4) (rows := [(0, 17, 20, 19)]) (maxL := 5) (y := yX5_envies) (bytes := cX5_envies) (rmc := rmX5_envies) hC hX (cX5_envies_ok (xs (i + 1).toNat).toInt (xs (i + 2).toNat).toInt (fun r μ9 hw => by rw [hw.2.2]; exact bI_01) (cX3_envies_ok (xs (i + 1).toNat).toInt (xs (i + 2).toNat).toInt μ h.sf h.hd) (fun w μ9 hw => hw.2.1)) (by decide +kernel) (by decide +kernel) (by decide +kernel) (by decide +kernel) ⟨by decide, by decide, by decide +kernel⟩ ⟨rfl, rfl⟩ ⟨Nat.le_of_ble_eq_true rfl, Nat.le_of_ble_eq_true rfl⟩ rfl (nlW (as := [(xs (i + 1).toNat).toInt, (xs (i + 2).toNat).toInt])) hR1 hR2 (Nat.le_of_ble_eq_true rfl) dX5_law_872 (fun r μ1 hp1 => ?_)
  obtain ⟨⟨hSm, hkd⟩, hstep⟩ := st_envies h (xs (i + 1).toNat).toInt (xs (i + 2).toNat).toInt hp1
  refine v_istore hC dX5_law_875 (Nat.le_of_ble_eq_true rfl) ?_
  refine v_aload_n hC 2 dX5_law_877 rfl rfl ?_
  refine v_aloadX_n hC 0 dX5_law_878 rfl rfl ?_
  refine v_iload hC dX5_law_879 rfl ?_
  refine v_iconst hC dX5_law_881 ⟨by decide, by decide⟩ ?_
  refine v_iadd hC dX5_law_882 ⟨by omega, by omega⟩ ?_
  refine v_sld hC hX dX5_law_883 ⟨by omega, by omega⟩ ?_
  refine v_aloadX_n hC 0 dX5_law_884 rfl rfl ?_
  refine v_iload hC dX5_law_885 rfl ?_
  refine v_iconst hC dX5_law_887 ⟨by decide, by decide⟩ ?_
  refine v_iadd hC dX5_law_888 ⟨by omega, by omega⟩ ?_
  refine v_sld hC hX dX5_law_889 ⟨by omega, by omega⟩ ?_
  refine v_callI2 hC (cw_V (C := RX4) (y := yX4_envies) (bytes := cX4_envies) (maxL := 5) (ret := some .boolean) (rmc := rmX4_envies) (na := 2) hC (by decide +kernel) (by decide +kernel) (by decide +kernel) (by decide +kernel) (by decide +kernel) ⟨rfl, by decide, by decide, by decide +kernel⟩ ⟨Nat.le_of_ble_eq_true rfl, Nat.le_of_ble_eq_true rfl⟩) dX5_law_890 rfl rfl rfl hR1 hR2 (Nat.le_of_ble_eq_true rfl) (by decide) (cX4_envies_ok (xs (i + 1).toNat).toInt (xs (i + 2).toNat).toInt μ1 hSm hkd) (fun r2 μ2 hp2 => ?_)
  obtain ⟨he, h40, h01, hq⟩ := hstep r2 μ2 hp2
  refine v_istore hC dX5_law_893 (Nat.le_of_ble_eq_true rfl) ?_
  refine v_aload_n hC 2 dX5_law_895 rfl rfl ?_
  refine v_callI0 hC (cw_V (C := RX4) (y := yX4_thrown) (bytes := cX4_thrown) (maxL := 1) (ret := some .int) (rmc := rmX4_thrown) (na := 0) hC (by decide +kernel) (by decide +kernel) (by decide +kernel) (by decide +kernel) (by decide +kernel) ⟨rfl, by decide, by decide, by decide +kernel⟩ ⟨Nat.le_of_ble_eq_true rfl, Nat.le_of_ble_eq_true rfl⟩) dX5_law_896 rfl rfl rfl hR1 hR2 (Nat.le_of_ble_eq_true rfl) (by decide) (cX4_thrown_ok μ2) (fun r3 μ3 hp3 => ?_)
  obtain ⟨rfl, rfl⟩ := hp3
  refine v_iload hC dX5_law_899 rfl ?_
  refine v_icmp_eq hC 906 dX5_law_901 rfl (fun _ => ?_) (fun hne => absurd he hne)
  refine v_iload hC dX5_law_906 rfl ?_
  have hend : V x (n + 1) (k + 6) none 930 (((Lq a i).set 5 (some (aI r))).set 6 (some (aI r2))) [] μ2 := by
    refine v_forget 5 ?_
    refine v_forget 6 ?_
    refine v_goto hC 995 dX5_law_930 rfl ?_
    exact kk (n + 1) (k + 6) μ2 (Nat.le_refl _) (Nat.le_refl _) hq
  refine v_if_ne hC 930 dX5_law_908 rfl (fun _ => hend) (fun h0 => ?_)
  refine v_aload_n hC 3 dX5_law_911 rfl rfl ?_
  refine v_iconst hC dX5_law_912 ⟨by decide, by decide⟩ ?_
  refine v_lald hC dX5_law_913 rfl ?_
  refine v_iload hC dX5_law_914 rfl ?_
  suffices hB : V x (n + 1) (k + 6) none 924 (((Lq a i).set 5 (some (aI r))).set 6 (some (aI r2))) [aL r2, aL (μ2 40 0)] μ2 from v_if_eq hC 923 dX5_law_916 rfl (fun hq => v_lconst hC dX5_law_923 (y := r2) (by rw [hq]; rfl) hB) (fun hq => v_lconst hC dX5_law_919 (y := r2) (by rw [h01.resolve_left hq]; rfl) (v_goto hC 924 dX5_law_920 rfl hB))
  refine v_lcmp hC dX5_law_924 (fun r9 hr9 => ?_)
  exact v_if_eq hC 930 dX5_law_925 rfl (fun _ => hend) (fun hne => absurd (hr9.2 (h40 h0)) hne)
