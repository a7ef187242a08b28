set_option maxRecDepth 100000 in
set_option maxHeartbeats 4000000 in
theorem lw_c0 {x : MC} {n k : Nat} {μ : MU} {a N : Nat} {xs : Nat → Int32} (hC : Ctx x RX5 code room_1) (hX : Lx x a N xs) {i : Int} (hi : 0 ≤ i ∧ i + 6 ≤ (N : Int)) (hR1 : n + 1 ≤ room_1.cells) (hR2 : k + 6 ≤ room_1.slots) (h : Rlt μ μ) (kk : ∀ (n' k' : Nat) (μ' : MU), n' ≤ n + 1 → k' ≤ k + 6 → Rlt μ' μ' → V x n' k' none 995 (Lq a i) [] μ') : V x n k none 124 (Lq a i) [] μ := by
  have hN := hX.nn
  have hR1' : n ≤ room_1.cells := Nat.le_of_succ_le hR1
  have hR2' : k ≤ room_1.slots := Nat.le_trans (Nat.le_add_right k 6) hR2
  refine v_aload_n hC 1 dX5_law_124 rfl rfl ?_
  refine v_aload_n hC 3 dX5_law_125 rfl rfl ?_
  refine v_callW (as := [aR 0 0, aR 29 0]) (na := 2) (rows := [(0, 8, 11, 13)]) (maxL := 3) (y := yX5_school) (bytes := cX5_school) (rmc := rmX5_school) hC hX (cX5_school_ok (cX3_school_ok μ h.sf) (fun w μ9 hw => hw.2.1)) (by decide +kernel) (by decide +kernel) (by decide +kernel) (by decide +kernel) ⟨by decide, by decide, by decide +kernel⟩ ⟨rfl, rfl⟩ ⟨Nat.le_of_ble_eq_true rfl, Nat.le_of_ble_eq_true rfl⟩ rfl (nlW (as := [])) hR1 hR2 (Nat.le_of_ble_eq_true rfl) dX5_law_126 (fun r μ1 hp1 => ?_)
  obtain ⟨hSm, hstep⟩ := st_school h hp1
  refine v_istore hC dX5_law_129 (Nat.le_of_ble_eq_true rfl) ?_
  refine v_aload_n hC 2 dX5_law_131 rfl rfl ?_
  refine v_callI0 hC (cw_V (C := RX4) (y := yX4_school) (bytes := cX4_school) (maxL := 1) (ret := some .int) (rmc := rmX4_school) (na := 0) hC (by decide +kernel) (by decide +kernel) (by decide +kernel) (by decide +kernel) (by decide +kernel) ⟨rfl, by decide, by decide, by decide +kernel⟩ ⟨Nat.le_of_ble_eq_true rfl, Nat.le_of_ble_eq_true rfl⟩) dX5_law_132 rfl rfl rfl hR1 hR2 (Nat.le_of_ble_eq_true rfl) (by decide) (cX4_school_ok μ1 hSm) (fun r2 μ2 hp2 => ?_)
  obtain ⟨he, h40, hq⟩ := hstep r2 μ2 hp2
  refine v_istore hC dX5_law_135 (Nat.le_of_ble_eq_true rfl) ?_
  refine v_aload_n hC 2 dX5_law_137 rfl rfl ?_
  refine v_callI0 hC (cw_V (C := RX4) (y := yX4_thrown) (bytes := cX4_thrown) (maxL := 1) (ret := some .int) (rmc := rmX4_thrown) (na := 0) hC (by decide +kernel) (by decide +kernel) (by decide +kernel) (by decide +kernel) (by decide +kernel) ⟨rfl, by decide, by decide, by decide +kernel⟩ ⟨Nat.le_of_ble_eq_true rfl, Nat.le_of_ble_eq_true rfl⟩) dX5_law_138 rfl rfl rfl hR1 hR2 (Nat.le_of_ble_eq_true rfl) (by decide) (cX4_thrown_ok μ2) (fun r3 μ3 hp3 => ?_)
  obtain ⟨rfl, rfl⟩ := hp3
  refine v_iload hC dX5_law_141 rfl ?_
  refine v_icmp_eq hC 148 dX5_law_143 rfl (fun _ => ?_) (fun hne => absurd he hne)
  refine v_iload hC dX5_law_148 rfl ?_
  have hend : V x (n + 1) (k + 6) none 165 (((Lq a i).set 5 (some (aI r))).set 6 (some (aI r2))) [] μ2 := by
    refine v_forget 5 ?_
    refine v_forget 6 ?_
    refine v_goto hC 995 dX5_law_165 rfl ?_
    exact kk (n + 1) (k + 6) μ2 (Nat.le_refl _) (Nat.le_refl _) hq
  refine v_if_ne hC 165 dX5_law_150 rfl (fun _ => hend) (fun h0 => ?_)
  refine v_aload_n hC 3 dX5_law_153 rfl rfl ?_
  refine v_iconst hC dX5_law_154 ⟨by decide, by decide⟩ ?_
  refine v_lald hC dX5_law_155 rfl ?_
  refine v_iload hC dX5_law_156 rfl ?_
  refine v_i2l hC dX5_law_158 ?_
  refine v_lcmp hC dX5_law_159 (fun r9 hr9 => ?_)
  exact v_if_eq hC 165 dX5_law_160 rfl (fun _ => hend) (fun hne => absurd (hr9.2 (h40 h0)) hne)
set_option maxRecDepth 100000 in
set_option maxHeartbeats 4000000 in
theorem lw_c3 {x : MC} {n k : Nat} {μ : MU} {a N : Nat} {xs : Nat → Int32} (hC : Ctx x RX5 code room_1) (hX : Lx x a N xs) {i : Int} (hi : 0 ≤ i ∧ i + 6 ≤ (N : Int)) (hR1 : n + 1 ≤ room_1.cells) (hR2 : k + 6 ≤ room_1.slots) (h : Rlt μ μ) (kk : ∀ (n' k' : Nat) (μ' : MU), n' ≤ n + 1 → k' ≤ k + 6 → Rlt μ' μ' → V x n' k' none 995 (Lq a i) [] μ') : V x n k none 356 (Lq a i) [] μ := by
  have hN := hX.nn
  have hR1' : n ≤ room_1.cells := Nat.le_of_succ_le hR1
  have hR2' : k ≤ room_1.slots := Nat.le_trans (Nat.le_add_right k 6) hR2
  refine v_aload_n hC 1 dX5_law_356 rfl rfl ?_
  refine v_aloadX_n hC 0 dX5_law_357 rfl rfl ?_
  refine v_iload hC dX5_law_358 rfl ?_
  refine v_iconst hC dX5_law_360 ⟨by decide, by decide⟩ ?_
  refine v_iadd hC dX5_law_361 ⟨by omega, by omega⟩ ?_
  refine v_sld hC hX dX5_law_362 ⟨by omega, by omega⟩ ?_
  refine v_aloadX_n hC 0 dX5_law_363 rfl rfl ?_
  refine v_iload hC dX5_law_364 rfl ?_
  refine v_iconst hC dX5_law_366 ⟨by decide, by decide⟩ ?_
  refine v_iadd hC dX5_law_367 ⟨by omega, by omega⟩ ?_
  refine v_sld hC hX dX5_law_368 ⟨by omega, by omega⟩ ?_
  refine v_aload_n hC 3 dX5_law_369 rfl rfl ?_
  refine v_callW (as := [aR 0 0, aI (xs (i + 1).toNat).toInt, aI (xs (i + 2).toNat).toInt, aR 29 0]) (na := 4) (rows := [(0, 10, 13, 19), (0, 10, 17, 13)]) (maxL := 5) (y := yX5_wish) (bytes := cX5_wish) (rmc := rmX5_wish) hC hX (cX5_wish_ok (xs (i + 1).toNat).toInt (xs (i + 2).toNat).toInt (cX3_wish_ok (xs (i + 1).toNat).toInt (xs (i + 2).toNat).toInt μ h.sf) (fun w μ9 hw => by rcases hw.2 with ⟨rfl, -⟩ | ⟨rfl, -⟩ <;> decide)) (by decide +kernel) (by decide +kernel) (by decide +kernel) (by decide +kernel) ⟨by decide, by decide, by decide +kernel⟩ ⟨rfl, rfl⟩ ⟨Nat.le_of_ble_eq_true rfl, Nat.le_of_ble_eq_true rfl⟩ rfl (nlW (as := [(xs (i + 1).toNat).toInt, (xs (i + 2).toNat).toInt])) hR1 hR2 (Nat.le_of_ble_eq_true rfl) dX5_law_370 (fun r μ1 hp1 => ?_)
  obtain ⟨hSm, hstep⟩ := st_wish h (xs (i + 1).toNat).toInt (xs (i + 2).toNat).toInt hp1
  refine v_istore hC dX5_law_373 (Nat.le_of_ble_eq_true rfl) ?_
  refine v_aload_n hC 2 dX5_law_375 rfl rfl ?_
  refine v_aloadX_n hC 0 dX5_law_376 rfl rfl ?_
  refine v_iload hC dX5_law_377 rfl ?_
  refine v_iconst hC dX5_law_379 ⟨by decide, by decide⟩ ?_
  refine v_iadd hC dX5_law_380 ⟨by omega, by omega⟩ ?_
  refine v_sld hC hX dX5_law_381 ⟨by omega, by omega⟩ ?_
  refine v_aloadX_n hC 0 dX5_law_382 rfl rfl ?_
  refine v_iload hC dX5_law_383 rfl ?_
  refine v_iconst hC dX5_law_385 ⟨by decide, by decide⟩ ?_
  refine v_iadd hC dX5_law_386 ⟨by omega, by omega⟩ ?_
  refine v_sld hC hX dX5_law_387 ⟨by omega, by omega⟩ ?_
  refine v_callI2 hC (cw_V (C := RX4) (y := yX4_wish) (bytes := cX4_wish) (maxL := 3) (ret := some .int) (rmc := rmX4_wish) (na := 2) hC (by decide +kernel) (by decide +kernel) (by decide +kernel) (by decide +kernel) (by decide +kernel) ⟨rfl, by decide, by decide, by decide +kernel⟩ ⟨Nat.le_of_ble_eq_true rfl, Nat.le_of_ble_eq_true rfl⟩) dX5_law_388 rfl rfl rfl hR1 hR2 (Nat.le_of_ble_eq_true rfl) (by decide) (cX4_wish_ok (xs (i + 1).toNat).toInt (xs (i + 2).toNat).toInt μ1 hSm) (fun r2 μ2 hp2 => ?_)
  obtain ⟨he, h40, hq⟩ := hstep r2 μ2 hp2
  refine v_istore hC dX5_law_391 (Nat.le_of_ble_eq_true rfl) ?_
  refine v_aload_n hC 2 dX5_law_393 rfl rfl ?_
  refine v_callI0 hC (cw_V (C := RX4) (y := yX4_thrown) (bytes := cX4_thrown) (maxL := 1) (ret := some .int) (rmc := rmX4_thrown) (na := 0) hC (by decide +kernel) (by decide +kernel) (by decide +kernel) (by decide +kernel) (by decide +kernel) ⟨rfl, by decide, by decide, by decide +kernel⟩ ⟨Nat.le_of_ble_eq_true rfl, Nat.le_of_ble_eq_true rfl⟩) dX5_law_394 rfl rfl rfl hR1 hR2 (Nat.le_of_ble_eq_true rfl) (by decide) (cX4_thrown_ok μ2) (fun r3 μ3 hp3 => ?_)
  obtain ⟨rfl, rfl⟩ := hp3
  refine v_iload hC dX5_law_397 rfl ?_
  refine v_icmp_eq hC 404 dX5_law_399 rfl (fun _ => ?_) (fun hne => absurd he hne)
  refine v_iload hC dX5_law_404 rfl ?_
  have hend : V x (n + 1) (k + 6) none 421 (((Lq a i).set 5 (some (aI r))).set 6 (some (aI r2))) [] μ2 := by
    refine v_forget 5 ?_
    refine v_forget 6 ?_
    refine v_goto hC 995 dX5_law_421 rfl ?_
    exact kk (n + 1) (k + 6) μ2 (Nat.le_refl _) (Nat.le_refl _) hq
  refine v_if_ne hC 421 dX5_law_406 rfl (fun _ => hend) (fun h0 => ?_)
  refine v_aload_n hC 3 dX5_law_409 rfl rfl ?_
  refine v_iconst hC dX5_law_410 ⟨by decide, by decide⟩ ?_
  refine v_lald hC dX5_law_411 rfl ?_
  refine v_iload hC dX5_law_412 rfl ?_
  refine v_i2l hC dX5_law_414 ?_
  refine v_lcmp hC dX5_law_415 (fun r9 hr9 => ?_)
  exact v_if_eq hC 421 dX5_law_416 rfl (fun _ => hend) (fun hne => absurd (hr9.2 (h40 h0)) hne)
set_option maxRecDepth 100000 in
set_option maxHeartbeats 4000000 in
theorem lw_c6 {x : MC} {n k : Nat} {μ : MU} {a N : Nat} {xs : Nat → Int32} (hC : Ctx x RX5 code room_1) (hX : Lx x a N xs) {i : Int} (hi : 0 ≤ i ∧ i + 6 ≤ (N : Int)) (hR1 : n + 1 ≤ room_1.cells) (hR2 : k + 6 ≤ room_1.slots) (h : Rlt μ μ) (kk : ∀ (n' k' : Nat) (μ' : MU), n' ≤ n + 1 → k' ≤ k + 6 → Rlt μ' μ' → V x n' k' none 995 (Lq a i) [] μ') : V x n k none 517 (Lq a i) [] μ := by
  have hN := hX.nn
  have hR1' : n ≤ room_1.cells := Nat.le_of_succ_le hR1
  have hR2' : k ≤ room_1.slots := Nat.le_trans (Nat.le_add_right k 6) hR2
  refine v_aload_n hC 1 dX5_law_517 rfl rfl ?_
  refine v_aloadX_n hC 0 dX5_law_518 rfl rfl ?_
  refine v_iload hC dX5_law_519 rfl ?_
  refine v_iconst hC dX5_law_521 ⟨by decide, by decide⟩ ?_
  refine v_iadd hC dX5_law_522 ⟨by omega, by omega⟩ ?_
  refine v_sld hC hX dX5_law_523 ⟨by omega, by omega⟩ ?_
  refine v_aloadX_n hC 0 dX5_law_524 rfl rfl ?_
  refine v_iload hC dX5_law_525 rfl ?_
  refine v_iconst hC dX5_law_527 ⟨by decide, by decide⟩ ?_
  refine v_iadd hC dX5_law_528 ⟨by omega, by omega⟩ ?_
  refine v_sld hC hX dX5_law_529 ⟨by omega, by omega⟩ ?_
  refine v_callI2 hC (cw_V (C := RX3) (y := yX3_answer) (bytes := cX3_answer) (maxL := 4) (ret := some .boolean) (rmc := rmX3_answer) (na := 2) hC (by decide +kernel) (by decide +kernel) (by decide +kernel) (by decide +kernel) (by decide +kernel) ⟨rfl, by decide, by decide, by decide +kernel⟩ ⟨Nat.le_of_ble_eq_true rfl, Nat.le_of_ble_eq_true rfl⟩) dX5_law_530 rfl rfl rfl hR1' hR2' (Nat.le_of_ble_eq_true rfl) (by decide) (cX3_answer_ok (xs (i + 1).toNat).toInt (xs (i + 2).toNat).toInt μ h.sf) (fun r1 μ1 hp1 => ?_)
  obtain ⟨hSm, hstep⟩ := st_answer h (xs (i + 1).toNat).toInt (xs (i + 2).toNat).toInt hp1
  refine v_aload_n hC 2 dX5_law_533 rfl rfl ?_
  refine v_aloadX_n hC 0 dX5_law_534 rfl rfl ?_
  refine v_iload hC dX5_law_535 rfl ?_
  refine v_iconst hC dX5_law_537 ⟨by decide, by decide⟩ ?_
  refine v_iadd hC dX5_law_538 ⟨by omega, by omega⟩ ?_
  refine v_sld hC hX dX5_law_539 ⟨by omega, by omega⟩ ?_
  refine v_aloadX_n hC 0 dX5_law_540 rfl rfl ?_
  refine v_iload hC dX5_law_541 rfl ?_
  refine v_iconst hC dX5_law_543 ⟨by decide, by decide⟩ ?_
  refine v_iadd hC dX5_law_544 ⟨by omega, by omega⟩ ?_
  refine v_sld hC hX dX5_law_545 ⟨by omega, by omega⟩ ?_
  refine v_callI2 hC (cw_V (C := RX4) (y := yX4_answer) (bytes := cX4_answer) (maxL := 3) (ret := some .boolean) (rmc := rmX4_answer) (na := 2) hC (by decide +kernel) (by decide +kernel) (by decide +kernel) (by decide +kernel) (by decide +kernel) ⟨rfl, by decide, by decide, by decide +kernel⟩ ⟨Nat.le_of_ble_eq_true rfl, Nat.le_of_ble_eq_true rfl⟩) dX5_law_546 rfl rfl rfl hR1' hR2' (Nat.le_of_ble_eq_true rfl) (by decide) (cX4_answer_ok (xs (i + 1).toNat).toInt (xs (i + 2).toNat).toInt μ1 hSm) (fun r2 μ2 hp2 => ?_)
  obtain ⟨he, hq⟩ := hstep r2 μ2 hp2
  refine v_icmp_eq hC 995 dX5_law_549 rfl (fun _ => ?_) (fun hne => absurd he hne)
  exact kk n k μ2 (Nat.le_add_right _ _) (Nat.le_add_right _ _) hq
set_option maxRecDepth 100000 in
set_option maxHeartbeats 4000000 in
theorem lw_c9 {x : MC} {n k : Nat} {μ : MU} {a N : Nat} {xs : Nat → Int32} (hC : Ctx x RX5 code room_1) (hX : Lx x a N xs) {i : Int} (hi : 0 ≤ i ∧ i + 6 ≤ (N : Int)) (hR1 : n + 1 ≤ room_1.cells) (hR2 : k + 6 ≤ room_1.slots) (h : Rlt μ μ) (kk : ∀ (n' k' : Nat) (μ' : MU), n' ≤ n + 1 → k' ≤ k + 6 → Rlt μ' μ' → V x n' k' none 995 (Lq a i) [] μ') : V x n k none 635 (Lq a i) [] μ := by
  have hN := hX.nn
  have hR1' : n ≤ room_1.cells := Nat.le_of_succ_le hR1
  have hR2' : k ≤ room_1.slots := Nat.le_trans (Nat.le_add_right k 6) hR2
  refine v_aload_n hC 1 dX5_law_635 rfl rfl ?_
  refine v_aloadX_n hC 0 dX5_law_636 rfl rfl ?_
  refine v_iload hC dX5_law_637 rfl ?_
  refine v_iconst hC dX5_law_639 ⟨by decide, by decide⟩ ?_
  refine v_iadd hC dX5_law_640 ⟨by omega, by omega⟩ ?_
  refine v_sld hC hX dX5_law_641 ⟨by omega, by omega⟩ ?_
  refine v_aloadX_n hC 0 dX5_law_642 rfl rfl ?_
  refine v_iload hC dX5_law_643 rfl ?_
  refine v_iconst hC dX5_law_645 ⟨by decide, by decide⟩ ?_
  refine v_iadd hC dX5_law_646 ⟨by omega, by omega⟩ ?_
  refine v_sld hC hX dX5_law_647 ⟨by omega, by omega⟩ ?_
  refine v_callI2 hC (cw_V (C := RX3) (y := yX3_appeal) (bytes := cX3_appeal) (maxL := 3) (ret := some .boolean) (rmc := rmX3_appeal) (na := 2) hC (by decide +kernel) (by decide +kernel) (by decide +kernel) (by decide +kernel) (by decide +kernel) ⟨rfl, by decide, by decide, by decide +kernel⟩ ⟨Nat.le_of_ble_eq_true rfl, Nat.le_of_ble_eq_true rfl⟩) dX5_law_648 rfl rfl rfl hR1' hR2' (Nat.le_of_ble_eq_true rfl) (by decide) (cX3_appeal_ok (xs (i + 1).toNat).toInt (xs (i + 2).toNat).toInt μ h.sf) (fun r1 μ1 hp1 => ?_)
  obtain ⟨hSm, hstep⟩ := st_appeal h (xs (i + 1).toNat).toInt (xs (i + 2).toNat).toInt hp1
  refine v_aload_n hC 2 dX5_law_651 rfl rfl ?_
  refine v_aloadX_n hC 0 dX5_law_652 rfl rfl ?_
  refine v_iload hC dX5_law_653 rfl ?_
  refine v_iconst hC dX5_law_655 ⟨by decide, by decide⟩ ?_
  refine v_iadd hC dX5_law_656 ⟨by omega, by omega⟩ ?_
  refine v_sld hC hX dX5_law_657 ⟨by omega, by omega⟩ ?_
  refine v_aloadX_n hC 0 dX5_law_658 rfl rfl ?_
  refine v_iload hC dX5_law_659 rfl ?_
  refine v_iconst hC dX5_law_661 ⟨by decide, by decide⟩ ?_
  refine v_iadd hC dX5_law_662 ⟨by omega, by omega⟩ ?_
  refine v_sld hC hX dX5_law_663 ⟨by omega, by omega⟩ ?_
  refine v_callI2 hC (cw_V (C := RX4) (y := yX4_appeal) (bytes := cX4_appeal) (maxL := 3) (ret := some .boolean) (rmc := rmX4_appeal) (na := 2) hC (by decide +kernel) (by decide +kernel) (by decide +kernel) (by decide +kernel) (by decide +kernel) ⟨rfl, by decide, by decide, by decide +kernel⟩ ⟨Nat.le_of_ble_eq_true rfl, Nat.le_of_ble_eq_true rfl⟩) dX5_law_664 rfl rfl rfl hR1' hR2' (Nat.le_of_ble_eq_true rfl) (by decide) (cX4_appeal_ok (xs (i + 1).toNat).toInt (xs (i + 2).toNat).toInt μ1 hSm) (fun r2 μ2 hp2 => ?_)
  obtain ⟨he, hq⟩ := hstep r2 μ2 hp2
  refine v_icmp_eq hC 995 dX5_law_667 rfl (fun _ => ?_) (fun hne => absurd he hne)
  exact kk n k μ2 (Nat.le_add_right _ _) (Nat.le_add_right _ _) hq
set_option maxRecDepth 100000 in
set_option maxHeartbeats 4000000 in
theorem lw_c12 {x : MC} {n k : Nat} {μ : MU} {a N : Nat} {xs : Nat → Int32} (hC : Ctx x RX5 code room_1) (hX : Lx x a N xs) {i : Int} (hi : 0 ≤ i ∧ i + 6 ≤ (N : Int)) (hR1 : n + 1 ≤ room_1.cells) (hR2 : k + 6 ≤ room_1.slots) (h : Rlt μ μ) (kk : ∀ (n' k' : Nat) (μ' : MU), n' ≤ n + 1 → k' ≤ k + 6 → Rlt μ' μ' → V x n' k' none 995 (Lq a i) [] μ') : V x n k none 784 (Lq a i) [] μ := by
  have hN := hX.nn
  have hR1' : n ≤ room_1.cells := Nat.le_of_succ_le hR1
  have hR2' : k ≤ room_1.slots := Nat.le_trans (Nat.le_add_right k 6) hR2
  refine v_aload_n hC 1 dX5_law_784 rfl rfl ?_
  refine v_aloadX_n hC 0 dX5_law_785 rfl rfl ?_
  refine v_iload hC dX5_law_786 rfl ?_
  refine v_iconst hC dX5_law_788 ⟨by decide, by decide⟩ ?_
  refine v_iadd hC dX5_law_789 ⟨by omega, by omega⟩ ?_
  refine v_sld hC hX dX5_law_790 ⟨by omega, by omega⟩ ?_
  refine v_aloadX_n hC 0 dX5_law_791 rfl rfl ?_
  refine v_iload hC dX5_law_792 rfl ?_
  refine v_iconst hC dX5_law_794 ⟨by decide, by decide⟩ ?_
  refine v_iadd hC dX5_law_795 ⟨by omega, by omega⟩ ?_
  refine v_sld hC hX dX5_law_796 ⟨by omega, by omega⟩ ?_
  refine v_aloadX_n hC 0 dX5_law_797 rfl rfl ?_
  refine v_iload hC dX5_law_798 rfl ?_
  refine v_iconst hC dX5_law_800 ⟨by decide, by decide⟩ ?_
  refine v_iadd hC dX5_law_801 ⟨by omega, by omega⟩ ?_
  refine v_sld hC hX dX5_law_802 ⟨by omega, by omega⟩ ?_
  refine v_callI3 hC (cw_V (C := RX3) (y := yX3_held) (bytes := cX3_held) (maxL := 4) (ret := some .int) (rmc := rmX3_held) (na := 3) hC (by decide +kernel) (by decide +kernel) (by decide +kernel) (by decide +kernel) (by decide +kernel) ⟨rfl, by decide, by decide, by decide +kernel⟩ ⟨Nat.le_of_ble_eq_true rfl, Nat.le_of_ble_eq_true rfl⟩) dX5_law_803 rfl rfl rfl hR1' hR2' (Nat.le_of_ble_eq_true rfl) (by decide) (cX3_held_ok (xs (i + 1).toNat).toInt (xs (i + 2).toNat).toInt (xs (i + 3).toNat).toInt μ h.sf) (fun r1 μ1 hp1 => ?_)
  obtain ⟨hSm, hstep⟩ := st_held h (xs (i + 1).toNat).toInt (xs (i + 2).toNat).toInt (xs (i + 3).toNat).toInt hp1
  refine v_aload_n hC 2 dX5_law_806 rfl rfl ?_
  refine v_aloadX_n hC 0 dX5_law_807 rfl rfl ?_
  refine v_iload hC dX5_law_808 rfl ?_
  refine v_iconst hC dX5_law_810 ⟨by decide, by decide⟩ ?_
  refine v_iadd hC dX5_law_811 ⟨by omega, by omega⟩ ?_
  refine v_sld hC hX dX5_law_812 ⟨by omega, by omega⟩ ?_
  refine v_aloadX_n hC 0 dX5_law_813 rfl rfl ?_
  refine v_iload hC dX5_law_814 rfl ?_
  refine v_iconst hC dX5_law_816 ⟨by decide, by decide⟩ ?_
  refine v_iadd hC dX5_law_817 ⟨by omega, by omega⟩ ?_
  refine v_sld hC hX dX5_law_818 ⟨by omega, by omega⟩ ?_
  refine v_aloadX_n hC 0 dX5_law_819 rfl rfl ?_
  refine v_iload hC dX5_law_820 rfl ?_
  refine v_iconst hC dX5_law_822 ⟨by decide, by decide⟩ ?_
  refine v_iadd hC dX5_law_823 ⟨by omega, by omega⟩ ?_
  refine v_sld hC hX dX5_law_824 ⟨by omega, by omega⟩ ?_
  refine v_callI3 hC (cw_V (C := RX4) (y := yX4_held) (bytes := cX4_held) (maxL := 9) (ret := some .int) (rmc := rmX4_held) (na := 3) hC (by decide +kernel) (by decide +kernel) (by decide +kernel) (by decide +kernel) (by decide +kernel) ⟨rfl, by decide, by decide, by decide +kernel⟩ ⟨Nat.le_of_ble_eq_true rfl, Nat.le_of_ble_eq_true rfl⟩) dX5_law_825 rfl rfl rfl hR1' hR2' (Nat.le_of_ble_eq_true rfl) (by decide) (cX4_held_ok (xs (i + 1).toNat).toInt (xs (i + 2).toNat).toInt (xs (i + 3).toNat).toInt μ1 hSm) (fun r2 μ2 hp2 => ?_)
  obtain ⟨he, hq⟩ := hstep r2 μ2 hp2
  refine v_icmp_eq hC 995 dX5_law_828 rfl (fun _ => ?_) (fun hne => absurd he hne)
  exact kk n k μ2 (Nat.le_add_right _ _) (Nat.le_add_right _ _) hq
set_option maxRecDepth 100000 in
set_option maxHeartbeats 4000000 in
theorem lw_c15 {x : MC} {n k : Nat} {μ : MU} {a N : Nat} {xs : Nat → Int32} (hC : Ctx x RX5 code room_1) (hX : Lx x a N xs) {i : Int} (hi : 0 ≤ i ∧ i + 6 ≤ (N : Int)) (hR1 : n + 1 ≤ room_1.cells) (hR2 : k + 6 ≤ room_1.slots) (h : Rlt μ μ) (kk : ∀ (n' k' : Nat) (μ' : MU), n' ≤ n + 1 → k' ≤ k + 6 → Rlt μ' μ' → V x n' k' none 995 (Lq a i) [] μ') : V x n k none 933 (Lq a i) [] μ := by
  have hN := hX.nn
  have hR1' : n ≤ room_1.cells := Nat.le_of_succ_le hR1
  have hR2' : k ≤ room_1.slots := Nat.le_trans (Nat.le_add_right k 6) hR2
  refine v_aload_n hC 1 dX5_law_933 rfl rfl ?_
  refine v_aloadX_n hC 0 dX5_law_934 rfl rfl ?_
  refine v_iload hC dX5_law_935 rfl ?_
  refine v_iconst hC dX5_law_937 ⟨by decide, by decide⟩ ?_
  refine v_iadd hC dX5_law_938 ⟨by omega, by omega⟩ ?_
  refine v_sld hC hX dX5_law_939 ⟨by omega, by omega⟩ ?_
  refine v_aloadX_n hC 0 dX5_law_940 rfl rfl ?_
  refine v_iload hC dX5_law_941 rfl ?_
  refine v_iconst hC dX5_law_943 ⟨by decide, by decide⟩ ?_
  refine v_iadd hC dX5_law_944 ⟨by omega, by omega⟩ ?_
  refine v_sld hC hX dX5_law_945 ⟨by omega, by omega⟩ ?_
  refine v_callI2 hC (cw_V (C := RX3) (y := yX3_why) (bytes := cX3_why) (maxL := 4) (ret := some .int) (rmc := rmX3_why) (na := 2) hC (by decide +kernel) (by decide +kernel) (by decide +kernel) (by decide +kernel) (by decide +kernel) ⟨rfl, by decide, by decide, by decide +kernel⟩ ⟨Nat.le_of_ble_eq_true rfl, Nat.le_of_ble_eq_true rfl⟩) dX5_law_946 rfl rfl rfl hR1' hR2' (Nat.le_of_ble_eq_true rfl) (by decide) (cX3_why_ok (xs (i + 1).toNat).toInt (xs (i + 2).toNat).toInt μ h.sf) (fun r1 μ1 hp1 => ?_)
  obtain ⟨hSm, hstep⟩ := st_why h (xs (i + 1).toNat).toInt (xs (i + 2).toNat).toInt hp1
  refine v_aload_n hC 2 dX5_law_949 rfl rfl ?_
  refine v_aloadX_n hC 0 dX5_law_950 rfl rfl ?_
  refine v_iload hC dX5_law_951 rfl ?_
  refine v_iconst hC dX5_law_953 ⟨by decide, by decide⟩ ?_
  refine v_iadd hC dX5_law_954 ⟨by omega, by omega⟩ ?_
  refine v_sld hC hX dX5_law_955 ⟨by omega, by omega⟩ ?_
  refine v_aloadX_n hC 0 dX5_law_956 rfl rfl ?_
  refine v_iload hC dX5_law_957 rfl ?_
  refine v_iconst hC dX5_law_959 ⟨by decide, by decide⟩ ?_
  refine v_iadd hC dX5_law_960 ⟨by omega, by omega⟩ ?_
  refine v_sld hC hX dX5_law_961 ⟨by omega, by omega⟩ ?_
  refine v_callI2 hC (cw_V (C := RX4) (y := yX4_why) (bytes := cX4_why) (maxL := 6) (ret := some .int) (rmc := rmX4_why) (na := 2) hC (by decide +kernel) (by decide +kernel) (by decide +kernel) (by decide +kernel) (by decide +kernel) ⟨rfl, by decide, by decide, by decide +kernel⟩ ⟨Nat.le_of_ble_eq_true rfl, Nat.le_of_ble_eq_true rfl⟩) dX5_law_962 rfl rfl rfl hR1' hR2' (Nat.le_of_ble_eq_true rfl) (by decide) (cX4_why_ok (xs (i + 1).toNat).toInt (xs (i + 2).toNat).toInt μ1 hSm) (fun r2 μ2 hp2 => ?_)
  obtain ⟨he, hq⟩ := hstep r2 μ2 hp2
  refine v_icmp_eq hC 995 dX5_law_965 rfl (fun _ => ?_) (fun hne => absurd he hne)
  exact kk n k μ2 (Nat.le_add_right _ _) (Nat.le_add_right _ _) hq
