set_option maxRecDepth 100000 in
set_option maxHeartbeats 4000000 in
theorem lw_c1 {x : MC} {n k : Nat} {μ : MU} {a N : Nat} {xs : Nat → Int32} (hC : Ctx x RX5 code room_1) (hX : Lx x a N xs) {i : Int} (hi : 0 ≤ i ∧ i + 6 ≤ (N : Int)) (hR1 : n + 1 ≤ room_1.cells) (hR2 : k + 6 ≤ room_1.slots) (h : Rlt μ μ) (kk : ∀ (n' k' : Nat) (μ' : MU), n' ≤ n + 1 → k' ≤ k + 6 → Rlt μ' μ' → V x n' k' none 995 (Lq a i) [] μ') : V x n k none 168 (Lq a i) [] μ := by
  have hN := hX.nn
  have hR1' : n ≤ room_1.cells := Nat.le_of_succ_le hR1
  have hR2' : k ≤ room_1.slots := Nat.le_trans (Nat.le_add_right k 6) hR2
  refine v_aload_n hC 1 dX5_law_168 rfl rfl ?_
  refine v_aloadX_n hC 0 dX5_law_169 rfl rfl ?_
  refine v_iload hC dX5_law_170 rfl ?_
  refine v_iconst hC dX5_law_172 ⟨by decide, by decide⟩ ?_
  refine v_iadd hC dX5_law_173 ⟨by omega, by omega⟩ ?_
  refine v_sld hC hX dX5_law_174 ⟨by omega, by omega⟩ ?_
  refine v_aloadX_n hC 0 dX5_law_175 rfl rfl ?_
  refine v_iload hC dX5_law_176 rfl ?_
  refine v_iconst hC dX5_law_178 ⟨by decide, by decide⟩ ?_
  refine v_iadd hC dX5_law_179 ⟨by omega, by omega⟩ ?_
  refine v_sld hC hX dX5_law_180 ⟨by omega, by omega⟩ ?_
  refine v_aloadX_n hC 0 dX5_law_181 rfl rfl ?_
  refine v_iload hC dX5_law_182 rfl ?_
  refine v_iconst hC dX5_law_184 ⟨by decide, by decide⟩ ?_
  refine v_iadd hC dX5_law_185 ⟨by omega, by omega⟩ ?_
  refine v_sld hC hX dX5_law_186 ⟨by omega, by omega⟩ ?_
  refine v_aloadX_n hC 0 dX5_law_187 rfl rfl ?_
  refine v_iload hC dX5_law_188 rfl ?_
  refine v_iconst hC dX5_law_190 ⟨by decide, by decide⟩ ?_
  refine v_iadd hC dX5_law_191 ⟨by omega, by omega⟩ ?_
  refine v_sld hC hX dX5_law_192 ⟨by omega, by omega⟩ ?_
  refine v_aloadX_n hC 0 dX5_law_193 rfl rfl ?_
  refine v_iload hC dX5_law_194 rfl ?_
  refine v_iconst hC dX5_law_196 ⟨by decide, by decide⟩ ?_
  refine v_iadd hC dX5_law_197 ⟨by omega, by omega⟩ ?_
  refine v_sld hC hX dX5_law_198 ⟨by omega, by omega⟩ ?_
  refine v_aload_n hC 3 dX5_law_199 rfl rfl ?_
  refine v_callW (as := [aR 0 0, aI (xs (i + 1).toNat).toInt, aI (xs (i + 2).toNat).toInt, aI (xs (i + 3).toNat).toInt, aI (xs (i + 4).toNat).toInt, aI (xs (i + 5).toNat).toInt, aR 29 0]) (na := 7) (rows := [(0, 16, 19, 19), (0, 16, 23, 13)]) (maxL := 8) (y := yX5_kind) (bytes := cX5_kind) (rmc := rmX5_kind) hC hX (cX5_kind_ok (xs (i + 1).toNat).toInt (xs (i + 2).toNat).toInt (xs (i + 3).toNat).toInt (xs (i + 4).toNat).toInt (xs (i + 5).toNat).toInt (cX3_kind_ok (xs (i + 1).toNat).toInt (xs (i + 2).toNat).toInt (xs (i + 3).toNat).toInt (xs (i + 4).toNat).toInt (xs (i + 5).toNat).toInt μ h.sf) (fun w μ9 hw => by rcases hw.2 with ⟨rfl, -⟩ | ⟨rfl, -⟩ <;> decide)) (by decide +kernel) (by decide +kernel) (by decide +kernel) (by decide +kernel) ⟨by decide, by decide, by decide +kernel⟩ ⟨rfl, rfl⟩ ⟨Nat.le_of_ble_eq_true rfl, Nat.le_of_ble_eq_true rfl⟩ rfl (nlW (as := [(xs (i + 1).toNat).toInt, (xs (i + 2).toNat).toInt, (xs (i + 3).toNat).toInt, (xs (i + 4).toNat).toInt, (xs (i + 5).toNat).toInt])) hR1 hR2 (Nat.le_of_ble_eq_true rfl) dX5_law_200 (fun r μ1 hp1 => ?_)
  obtain ⟨hSm, hstep⟩ := st_kind h (xs (i + 1).toNat).toInt (xs (i + 2).toNat).toInt (xs (i + 3).toNat).toInt (xs (i + 4).toNat).toInt (xs (i + 5).toNat).toInt hp1
  refine v_istore hC dX5_law_203 (Nat.le_of_ble_eq_true rfl) ?_
  refine v_aload_n hC 2 dX5_law_205 rfl rfl ?_
  refine v_aloadX_n hC 0 dX5_law_206 rfl rfl ?_
  refine v_iload hC dX5_law_207 rfl ?_
  refine v_iconst hC dX5_law_209 ⟨by decide, by decide⟩ ?_
  refine v_iadd hC dX5_law_210 ⟨by omega, by omega⟩ ?_
  refine v_sld hC hX dX5_law_211 ⟨by omega, by omega⟩ ?_
  refine v_aloadX_n hC 0 dX5_law_212 rfl rfl ?_
  refine v_iload hC dX5_law_213 rfl ?_
  refine v_iconst hC dX5_law_215 ⟨by decide, by decide⟩ ?_
  refine v_iadd hC dX5_law_216 ⟨by omega, by omega⟩ ?_
  refine v_sld hC hX dX5_law_217 ⟨by omega, by omega⟩ ?_
  refine v_aloadX_n hC 0 dX5_law_218 rfl rfl ?_
  refine v_iload hC dX5_law_219 rfl ?_
  refine v_iconst hC dX5_law_221 ⟨by decide, by decide⟩ ?_
  refine v_iadd hC dX5_law_222 ⟨by omega, by omega⟩ ?_
  refine v_sld hC hX dX5_law_223 ⟨by omega, by omega⟩ ?_
  refine v_aloadX_n hC 0 dX5_law_224 rfl rfl ?_
  refine v_iload hC dX5_law_225 rfl ?_
  refine v_iconst hC dX5_law_227 ⟨by decide, by decide⟩ ?_
  refine v_iadd hC dX5_law_228 ⟨by omega, by omega⟩ ?_
  refine v_sld hC hX dX5_law_229 ⟨by omega, by omega⟩ ?_
  refine v_aloadX_n hC 0 dX5_law_230 rfl rfl ?_
  refine v_iload hC dX5_law_231 rfl ?_
  refine v_iconst hC dX5_law_233 ⟨by decide, by decide⟩ ?_
  refine v_iadd hC dX5_law_234 ⟨by omega, by omega⟩ ?_
  refine v_sld hC hX dX5_law_235 ⟨by omega, by omega⟩ ?_
  refine v_callI5 hC (cw_V (C := RX4) (y := yX4_kind) (bytes := cX4_kind) (maxL := 7) (ret := some .int) (rmc := rmX4_kind) (na := 5) hC (by decide +kernel) (by decide +kernel) (by decide +kernel) (by decide +kernel) (by decide +kernel) ⟨rfl, by decide, by decide, by decide +kernel⟩ ⟨Nat.le_of_ble_eq_true rfl, Nat.le_of_ble_eq_true rfl⟩) dX5_law_236 rfl rfl rfl hR1 hR2 (Nat.le_of_ble_eq_true rfl) (by decide) (cX4_kind_ok (xs (i + 1).toNat).toInt (xs (i + 2).toNat).toInt (xs (i + 3).toNat).toInt (xs (i + 4).toNat).toInt (xs (i + 5).toNat).toInt μ1 hSm) (fun r2 μ2 hp2 => ?_)
  obtain ⟨he, h40, hq⟩ := hstep r2 μ2 hp2
  refine v_istore hC dX5_law_239 (Nat.le_of_ble_eq_true rfl) ?_
  refine v_aload_n hC 2 dX5_law_241 rfl rfl ?_
  refine v_callI0 hC (cw_V (C := RX4) (y := yX4_thrown) (bytes := cX4_thrown) (maxL := 1) (ret := some .int) (rmc := rmX4_thrown) (na := 0) hC (by decide +kernel) (by decide +kernel) (by decide +kernel) (by decide +kernel) (by decide +kernel) ⟨rfl, by decide, by decide, by decide +kernel⟩ ⟨Nat.le_of_ble_eq_true rfl, Nat.le_of_ble_eq_true rfl⟩) dX5_law_242 rfl rfl rfl hR1 hR2 (Nat.le_of_ble_eq_true rfl) (by decide) (cX4_thrown_ok μ2) (fun r3 μ3 hp3 => ?_)
  obtain ⟨rfl, rfl⟩ := hp3
  refine v_iload hC dX5_law_245 rfl ?_
  refine v_icmp_eq hC 252 dX5_law_247 rfl (fun _ => ?_) (fun hne => absurd he hne)
  refine v_iload hC dX5_law_252 rfl ?_
  have hend : V x (n + 1) (k + 6) none 269 (((Lq a i).set 5 (some (aI r))).set 6 (some (aI r2))) [] μ2 := by
    refine v_forget 5 ?_
    refine v_forget 6 ?_
    refine v_goto hC 995 dX5_law_269 rfl ?_
    exact kk (n + 1) (k + 6) μ2 (Nat.le_refl _) (Nat.le_refl _) hq
  refine v_if_ne hC 269 dX5_law_254 rfl (fun _ => hend) (fun h0 => ?_)
  refine v_aload_n hC 3 dX5_law_257 rfl rfl ?_
  refine v_iconst hC dX5_law_258 ⟨by decide, by decide⟩ ?_
  refine v_lald hC dX5_law_259 rfl ?_
  refine v_iload hC dX5_law_260 rfl ?_
  refine v_i2l hC dX5_law_262 ?_
  refine v_lcmp hC dX5_law_263 (fun r9 hr9 => ?_)
  exact v_if_eq hC 269 dX5_law_264 rfl (fun _ => hend) (fun hne => absurd (hr9.2 (h40 h0)) hne)
set_option maxRecDepth 100000 in
set_option maxHeartbeats 4000000 in
theorem lw_c4 {x : MC} {n k : Nat} {μ : MU} {a N : Nat} {xs : Nat → Int32} (hC : Ctx x RX5 code room_1) (hX : Lx x a N xs) {i : Int} (hi : 0 ≤ i ∧ i + 6 ≤ (N : Int)) (hR1 : n + 1 ≤ room_1.cells) (hR2 : k + 6 ≤ room_1.slots) (h : Rlt μ μ) (kk : ∀ (n' k' : Nat) (μ' : MU), n' ≤ n + 1 → k' ≤ k + 6 → Rlt μ' μ' → V x n' k' none 995 (Lq a i) [] μ') : V x n k none 424 (Lq a i) [] μ := by
  have hN := hX.nn
  have hR1' : n ≤ room_1.cells := Nat.le_of_succ_le hR1
  have hR2' : k ≤ room_1.slots := Nat.le_trans (Nat.le_add_right k 6) hR2
  refine v_aload_n hC 1 dX5_law_424 rfl rfl ?_
  refine v_aloadX_n hC 0 dX5_law_425 rfl rfl ?_
  refine v_iload hC dX5_law_426 rfl ?_
  refine v_iconst hC dX5_law_428 ⟨by decide, by decide⟩ ?_
  refine v_iadd hC dX5_law_429 ⟨by omega, by omega⟩ ?_
  refine v_sld hC hX dX5_law_430 ⟨by omega, by omega⟩ ?_
  refine v_aloadX_n hC 0 dX5_law_431 rfl rfl ?_
  refine v_iload hC dX5_law_432 rfl ?_
  refine v_iconst hC dX5_law_434 ⟨by decide, by decide⟩ ?_
  refine v_iadd hC dX5_law_435 ⟨by omega, by omega⟩ ?_
  refine v_sld hC hX dX5_law_436 ⟨by omega, by omega⟩ ?_
  refine v_aloadX_n hC 0 dX5_law_437 rfl rfl ?_
  refine v_iload hC dX5_law_438 rfl ?_
  refine v_iconst hC dX5_law_440 ⟨by decide, by decide⟩ ?_
  refine v_iadd hC dX5_law_441 ⟨by omega, by omega⟩ ?_
  refine v_sld hC hX dX5_law_442 ⟨by omega, by omega⟩ ?_
  refine v_callI3 hC (cw_V (C := RX3) (y := yX3_draw) (bytes := cX3_draw) (maxL := 5) (ret := some .boolean) (rmc := rmX3_draw) (na := 3) hC (by decide +kernel) (by decide +kernel) (by decide +kernel) (by decide +kernel) (by decide +kernel) ⟨rfl, by decide, by decide, by decide +kernel⟩ ⟨Nat.le_of_ble_eq_true rfl, Nat.le_of_ble_eq_true rfl⟩) dX5_law_443 rfl rfl rfl hR1' hR2' (Nat.le_of_ble_eq_true rfl) (by decide) (cX3_draw_ok (xs (i + 1).toNat).toInt (xs (i + 2).toNat).toInt (xs (i + 3).toNat).toInt μ h.sf) (fun r1 μ1 hp1 => ?_)
  obtain ⟨hSm, hstep⟩ := st_draw h (xs (i + 1).toNat).toInt (xs (i + 2).toNat).toInt (xs (i + 3).toNat).toInt hp1
  refine v_aload_n hC 2 dX5_law_446 rfl rfl ?_
  refine v_aloadX_n hC 0 dX5_law_447 rfl rfl ?_
  refine v_iload hC dX5_law_448 rfl ?_
  refine v_iconst hC dX5_law_450 ⟨by decide, by decide⟩ ?_
  refine v_iadd hC dX5_law_451 ⟨by omega, by omega⟩ ?_
  refine v_sld hC hX dX5_law_452 ⟨by omega, by omega⟩ ?_
  refine v_aloadX_n hC 0 dX5_law_453 rfl rfl ?_
  refine v_iload hC dX5_law_454 rfl ?_
  refine v_iconst hC dX5_law_456 ⟨by decide, by decide⟩ ?_
  refine v_iadd hC dX5_law_457 ⟨by omega, by omega⟩ ?_
  refine v_sld hC hX dX5_law_458 ⟨by omega, by omega⟩ ?_
  refine v_aloadX_n hC 0 dX5_law_459 rfl rfl ?_
  refine v_iload hC dX5_law_460 rfl ?_
  refine v_iconst hC dX5_law_462 ⟨by decide, by decide⟩ ?_
  refine v_iadd hC dX5_law_463 ⟨by omega, by omega⟩ ?_
  refine v_sld hC hX dX5_law_464 ⟨by omega, by omega⟩ ?_
  refine v_callI3 hC (cw_V (C := RX4) (y := yX4_draw) (bytes := cX4_draw) (maxL := 5) (ret := some .boolean) (rmc := rmX4_draw) (na := 3) hC (by decide +kernel) (by decide +kernel) (by decide +kernel) (by decide +kernel) (by decide +kernel) ⟨rfl, by decide, by decide, by decide +kernel⟩ ⟨Nat.le_of_ble_eq_true rfl, Nat.le_of_ble_eq_true rfl⟩) dX5_law_465 rfl rfl rfl hR1' hR2' (Nat.le_of_ble_eq_true rfl) (by decide) (cX4_draw_ok (xs (i + 1).toNat).toInt (xs (i + 2).toNat).toInt (xs (i + 3).toNat).toInt μ1 hSm) (fun r2 μ2 hp2 => ?_)
  obtain ⟨he, hq⟩ := hstep r2 μ2 hp2
  refine v_icmp_eq hC 995 dX5_law_468 rfl (fun _ => ?_) (fun hne => absurd he hne)
  exact kk n k μ2 (Nat.le_add_right _ _) (Nat.le_add_right _ _) hq
set_option maxRecDepth 100000 in
set_option maxHeartbeats 4000000 in
theorem lw_c7 {x : MC} {n k : Nat} {μ : MU} {a N : Nat} {xs : Nat → Int32} (hC : Ctx x RX5 code room_1) (hX : Lx x a N xs) {i : Int} (hi : 0 ≤ i ∧ i + 6 ≤ (N : Int)) (hR1 : n + 1 ≤ room_1.cells) (hR2 : k + 6 ≤ room_1.slots) (h : Rlt μ μ) (kk : ∀ (n' k' : Nat) (μ' : MU), n' ≤ n + 1 → k' ≤ k + 6 → Rlt μ' μ' → V x n' k' none 995 (Lq a i) [] μ') : V x n k none 554 (Lq a i) [] μ := by
  have hN := hX.nn
  have hR1' : n ≤ room_1.cells := Nat.le_of_succ_le hR1
  have hR2' : k ≤ room_1.slots := Nat.le_trans (Nat.le_add_right k 6) hR2
  refine v_aload_n hC 1 dX5_law_554 rfl rfl ?_
  refine v_aloadX_n hC 0 dX5_law_555 rfl rfl ?_
  refine v_iload hC dX5_law_556 rfl ?_
  refine v_iconst hC dX5_law_558 ⟨by decide, by decide⟩ ?_
  refine v_iadd hC dX5_law_559 ⟨by omega, by omega⟩ ?_
  refine v_sld hC hX dX5_law_560 ⟨by omega, by omega⟩ ?_
  refine v_aloadX_n hC 0 dX5_law_561 rfl rfl ?_
  refine v_iload hC dX5_law_562 rfl ?_
  refine v_iconst hC dX5_law_564 ⟨by decide, by decide⟩ ?_
  refine v_iadd hC dX5_law_565 ⟨by omega, by omega⟩ ?_
  refine v_sld hC hX dX5_law_566 ⟨by omega, by omega⟩ ?_
  refine v_callI2 hC (cw_V (C := RX3) (y := yX3_stay) (bytes := cX3_stay) (maxL := 3) (ret := some .boolean) (rmc := rmX3_stay) (na := 2) hC (by decide +kernel) (by decide +kernel) (by decide +kernel) (by decide +kernel) (by decide +kernel) ⟨rfl, by decide, by decide, by decide +kernel⟩ ⟨Nat.le_of_ble_eq_true rfl, Nat.le_of_ble_eq_true rfl⟩) dX5_law_567 rfl rfl rfl hR1' hR2' (Nat.le_of_ble_eq_true rfl) (by decide) (cX3_stay_ok (xs (i + 1).toNat).toInt (xs (i + 2).toNat).toInt μ h.sf) (fun r1 μ1 hp1 => ?_)
  obtain ⟨hSm, hstep⟩ := st_stay h (xs (i + 1).toNat).toInt (xs (i + 2).toNat).toInt hp1
  refine v_aload_n hC 2 dX5_law_570 rfl rfl ?_
  refine v_aloadX_n hC 0 dX5_law_571 rfl rfl ?_
  refine v_iload hC dX5_law_572 rfl ?_
  refine v_iconst hC dX5_law_574 ⟨by decide, by decide⟩ ?_
  refine v_iadd hC dX5_law_575 ⟨by omega, by omega⟩ ?_
  refine v_sld hC hX dX5_law_576 ⟨by omega, by omega⟩ ?_
  refine v_aloadX_n hC 0 dX5_law_577 rfl rfl ?_
  refine v_iload hC dX5_law_578 rfl ?_
  refine v_iconst hC dX5_law_580 ⟨by decide, by decide⟩ ?_
  refine v_iadd hC dX5_law_581 ⟨by omega, by omega⟩ ?_
  refine v_sld hC hX dX5_law_582 ⟨by omega, by omega⟩ ?_
  refine v_callI2 hC (cw_V (C := RX4) (y := yX4_stay) (bytes := cX4_stay) (maxL := 3) (ret := some .boolean) (rmc := rmX4_stay) (na := 2) hC (by decide +kernel) (by decide +kernel) (by decide +kernel) (by decide +kernel) (by decide +kernel) ⟨rfl, by decide, by decide, by decide +kernel⟩ ⟨Nat.le_of_ble_eq_true rfl, Nat.le_of_ble_eq_true rfl⟩) dX5_law_583 rfl rfl rfl hR1' hR2' (Nat.le_of_ble_eq_true rfl) (by decide) (cX4_stay_ok (xs (i + 1).toNat).toInt (xs (i + 2).toNat).toInt μ1 hSm) (fun r2 μ2 hp2 => ?_)
  obtain ⟨he, hq⟩ := hstep r2 μ2 hp2
  refine v_icmp_eq hC 995 dX5_law_586 rfl (fun _ => ?_) (fun hne => absurd he hne)
  exact kk n k μ2 (Nat.le_add_right _ _) (Nat.le_add_right _ _) hq
set_option maxRecDepth 100000 in
set_option maxHeartbeats 4000000 in
theorem lw_c10 {x : MC} {n k : Nat} {μ : MU} {a N : Nat} {xs : Nat → Int32} (hC : Ctx x RX5 code room_1) (hX : Lx x a N xs) {i : Int} (hi : 0 ≤ i ∧ i + 6 ≤ (N : Int)) (hR1 : n + 1 ≤ room_1.cells) (hR2 : k + 6 ≤ room_1.slots) (h : Rlt μ μ) (kk : ∀ (n' k' : Nat) (μ' : MU), n' ≤ n + 1 → k' ≤ k + 6 → Rlt μ' μ' → V x n' k' none 995 (Lq a i) [] μ') : V x n k none 672 (Lq a i) [] μ := by
  have hN := hX.nn
  have hR1' : n ≤ room_1.cells := Nat.le_of_succ_le hR1
  have hR2' : k ≤ room_1.slots := Nat.le_trans (Nat.le_add_right k 6) hR2
  refine v_aload_n hC 1 dX5_law_672 rfl rfl ?_
  refine v_aloadX_n hC 0 dX5_law_673 rfl rfl ?_
  refine v_iload hC dX5_law_674 rfl ?_
  refine v_iconst hC dX5_law_676 ⟨by decide, by decide⟩ ?_
  refine v_iadd hC dX5_law_677 ⟨by omega, by omega⟩ ?_
  refine v_sld hC hX dX5_law_678 ⟨by omega, by omega⟩ ?_
  refine v_aloadX_n hC 0 dX5_law_679 rfl rfl ?_
  refine v_iload hC dX5_law_680 rfl ?_
  refine v_iconst hC dX5_law_682 ⟨by decide, by decide⟩ ?_
  refine v_iadd hC dX5_law_683 ⟨by omega, by omega⟩ ?_
  refine v_sld hC hX dX5_law_684 ⟨by omega, by omega⟩ ?_
  refine v_aload_n hC 3 dX5_law_685 rfl rfl ?_
  refine v_callW (as := [aR 0 0, aI (xs (i + 1).toNat).toInt, aI (xs (i + 2).toNat).toInt, aR 29 0]) (na := 4) (rows := [(0, 17, 20, 19), (0, 17, 24, 13)]) (maxL := 5) (y := yX5_over) (bytes := cX5_over) (rmc := rmX5_over) hC hX (cX5_over_ok (xs (i + 1).toNat).toInt (xs (i + 2).toNat).toInt (fun r μ9 hw => Or.inr hw.2.2.2) (cX3_over_ok (xs (i + 1).toNat).toInt (xs (i + 2).toNat).toInt μ h.sf) (fun w μ9 hw => by rcases hw.2 with ⟨rfl, -⟩ | ⟨rfl, -⟩ <;> decide)) (by decide +kernel) (by decide +kernel) (by decide +kernel) (by decide +kernel) ⟨by decide, by decide, by decide +kernel⟩ ⟨rfl, rfl⟩ ⟨Nat.le_of_ble_eq_true rfl, Nat.le_of_ble_eq_true rfl⟩ rfl (nlW (as := [(xs (i + 1).toNat).toInt, (xs (i + 2).toNat).toInt])) hR1 hR2 (Nat.le_of_ble_eq_true rfl) dX5_law_686 (fun r μ1 hp1 => ?_)
  obtain ⟨hSm, hstep⟩ := st_over h (xs (i + 1).toNat).toInt (xs (i + 2).toNat).toInt hp1
  refine v_istore hC dX5_law_689 (Nat.le_of_ble_eq_true rfl) ?_
  refine v_aload_n hC 2 dX5_law_691 rfl rfl ?_
  refine v_aloadX_n hC 0 dX5_law_692 rfl rfl ?_
  refine v_iload hC dX5_law_693 rfl ?_
  refine v_iconst hC dX5_law_695 ⟨by decide, by decide⟩ ?_
  refine v_iadd hC dX5_law_696 ⟨by omega, by omega⟩ ?_
  refine v_sld hC hX dX5_law_697 ⟨by omega, by omega⟩ ?_
  refine v_aloadX_n hC 0 dX5_law_698 rfl rfl ?_
  refine v_iload hC dX5_law_699 rfl ?_
  refine v_iconst hC dX5_law_701 ⟨by decide, by decide⟩ ?_
  refine v_iadd hC dX5_law_702 ⟨by omega, by omega⟩ ?_
  refine v_sld hC hX dX5_law_703 ⟨by omega, by omega⟩ ?_
  refine v_callI2 hC (cw_V (C := RX4) (y := yX4_over) (bytes := cX4_over) (maxL := 3) (ret := some .boolean) (rmc := rmX4_over) (na := 2) hC (by decide +kernel) (by decide +kernel) (by decide +kernel) (by decide +kernel) (by decide +kernel) ⟨rfl, by decide, by decide, by decide +kernel⟩ ⟨Nat.le_of_ble_eq_true rfl, Nat.le_of_ble_eq_true rfl⟩) dX5_law_704 rfl rfl rfl hR1 hR2 (Nat.le_of_ble_eq_true rfl) (by decide) (cX4_over_ok (xs (i + 1).toNat).toInt (xs (i + 2).toNat).toInt μ1 hSm) (fun r2 μ2 hp2 => ?_)
  obtain ⟨he, h40, h01, hq⟩ := hstep r2 μ2 hp2
  refine v_istore hC dX5_law_707 (Nat.le_of_ble_eq_true rfl) ?_
  refine v_aload_n hC 2 dX5_law_709 rfl rfl ?_
  refine v_callI0 hC (cw_V (C := RX4) (y := yX4_thrown) (bytes := cX4_thrown) (maxL := 1) (ret := some .int) (rmc := rmX4_thrown) (na := 0) hC (by decide +kernel) (by decide +kernel) (by decide +kernel) (by decide +kernel) (by decide +kernel) ⟨rfl, by decide, by decide, by decide +kernel⟩ ⟨Nat.le_of_ble_eq_true rfl, Nat.le_of_ble_eq_true rfl⟩) dX5_law_710 rfl rfl rfl hR1 hR2 (Nat.le_of_ble_eq_true rfl) (by decide) (cX4_thrown_ok μ2) (fun r3 μ3 hp3 => ?_)
  obtain ⟨rfl, rfl⟩ := hp3
  refine v_iload hC dX5_law_713 rfl ?_
  refine v_icmp_eq hC 720 dX5_law_715 rfl (fun _ => ?_) (fun hne => absurd he hne)
  refine v_iload hC dX5_law_720 rfl ?_
  have hend : V x (n + 1) (k + 6) none 744 (((Lq a i).set 5 (some (aI r))).set 6 (some (aI r2))) [] μ2 := by
    refine v_forget 5 ?_
    refine v_forget 6 ?_
    refine v_goto hC 995 dX5_law_744 rfl ?_
    exact kk (n + 1) (k + 6) μ2 (Nat.le_refl _) (Nat.le_refl _) hq
  refine v_if_ne hC 744 dX5_law_722 rfl (fun _ => hend) (fun h0 => ?_)
  refine v_aload_n hC 3 dX5_law_725 rfl rfl ?_
  refine v_iconst hC dX5_law_726 ⟨by decide, by decide⟩ ?_
  refine v_lald hC dX5_law_727 rfl ?_
  refine v_iload hC dX5_law_728 rfl ?_
  suffices hB : V x (n + 1) (k + 6) none 738 (((Lq a i).set 5 (some (aI r))).set 6 (some (aI r2))) [aL r2, aL (μ2 40 0)] μ2 from v_if_eq hC 737 dX5_law_730 rfl (fun hq => v_lconst hC dX5_law_737 (y := r2) (by rw [hq]; rfl) hB) (fun hq => v_lconst hC dX5_law_733 (y := r2) (by rw [h01.resolve_left hq]; rfl) (v_goto hC 738 dX5_law_734 rfl hB))
  refine v_lcmp hC dX5_law_738 (fun r9 hr9 => ?_)
  exact v_if_eq hC 744 dX5_law_739 rfl (fun _ => hend) (fun hne => absurd (hr9.2 (h40 h0)) hne)
set_option maxRecDepth 100000 in
set_option maxHeartbeats 4000000 in
theorem lw_c13 {x : MC} {n k : Nat} {μ : MU} {a N : Nat} {xs : Nat → Int32} (hC : Ctx x RX5 code room_1) (hX : Lx x a N xs) {i : Int} (hi : 0 ≤ i ∧ i + 6 ≤ (N : Int)) (hR1 : n + 1 ≤ room_1.cells) (hR2 : k + 6 ≤ room_1.slots) (h : Rlt μ μ) (kk : ∀ (n' k' : Nat) (μ' : MU), n' ≤ n + 1 → k' ≤ k + 6 → Rlt μ' μ' → V x n' k' none 995 (Lq a i) [] μ') : V x n k none 833 (Lq a i) [] μ := by
  have hN := hX.nn
  have hR1' : n ≤ room_1.cells := Nat.le_of_succ_le hR1
  have hR2' : k ≤ room_1.slots := Nat.le_trans (Nat.le_add_right k 6) hR2
  refine v_aload_n hC 1 dX5_law_833 rfl rfl ?_
  refine v_aloadX_n hC 0 dX5_law_834 rfl rfl ?_
  refine v_iload hC dX5_law_835 rfl ?_
  refine v_iconst hC dX5_law_837 ⟨by decide, by decide⟩ ?_
  refine v_iadd hC dX5_law_838 ⟨by omega, by omega⟩ ?_
  refine v_sld hC hX dX5_law_839 ⟨by omega, by omega⟩ ?_
  refine v_callI1 hC (cw_V (C := RX3) (y := yX3_blocking) (bytes := cX3_blocking) (maxL := 7) (ret := some .int) (rmc := rmX3_blocking) (na := 1) hC (by decide +kernel) (by decide +kernel) (by decide +kernel) (by decide +kernel) (by decide +kernel) ⟨rfl, by decide, by decide, by decide +kernel⟩ ⟨Nat.le_of_ble_eq_true rfl, Nat.le_of_ble_eq_true rfl⟩) dX5_law_840 rfl rfl rfl hR1' hR2' (Nat.le_of_ble_eq_true rfl) (by decide) (cX3_blocking_ok (xs (i + 1).toNat).toInt μ h.sf (fun s hs => h.inj hs)) (fun r1 μ1 hp1 => ?_)
  obtain ⟨hSm, hstep⟩ := st_blocking h (xs (i + 1).toNat).toInt hp1
  refine v_aload_n hC 2 dX5_law_843 rfl rfl ?_
  refine v_aloadX_n hC 0 dX5_law_844 rfl rfl ?_
  refine v_iload hC dX5_law_845 rfl ?_
  refine v_iconst hC dX5_law_847 ⟨by decide, by decide⟩ ?_
  refine v_iadd hC dX5_law_848 ⟨by omega, by omega⟩ ?_
  refine v_sld hC hX dX5_law_849 ⟨by omega, by omega⟩ ?_
  refine v_callI1 hC (cw_V (C := RX4) (y := yX4_blocking) (bytes := cX4_blocking) (maxL := 5) (ret := some .int) (rmc := rmX4_blocking) (na := 1) hC (by decide +kernel) (by decide +kernel) (by decide +kernel) (by decide +kernel) (by decide +kernel) ⟨rfl, by decide, by decide, by decide +kernel⟩ ⟨Nat.le_of_ble_eq_true rfl, Nat.le_of_ble_eq_true rfl⟩) dX5_law_850 rfl rfl rfl hR1' hR2' (Nat.le_of_ble_eq_true rfl) (by decide) (cX4_blocking_ok (xs (i + 1).toNat).toInt μ1 hSm) (fun r2 μ2 hp2 => ?_)
  obtain ⟨he, hq⟩ := hstep r2 μ2 hp2
  refine v_icmp_eq hC 995 dX5_law_853 rfl (fun _ => ?_) (fun hne => absurd he hne)
  exact kk n k μ2 (Nat.le_add_right _ _) (Nat.le_add_right _ _) hq
set_option maxRecDepth 100000 in
set_option maxHeartbeats 4000000 in
theorem lw_c16 {x : MC} {n k : Nat} {μ : MU} {a N : Nat} {xs : Nat → Int32} (hC : Ctx x RX5 code room_1) (hX : Lx x a N xs) {i : Int} (hi : 0 ≤ i ∧ i + 6 ≤ (N : Int)) (hR1 : n + 1 ≤ room_1.cells) (hR2 : k + 6 ≤ room_1.slots) (h : Rlt μ μ) (kk : ∀ (n' k' : Nat) (μ' : MU), n' ≤ n + 1 → k' ≤ k + 6 → Rlt μ' μ' → V x n' k' none 995 (Lq a i) [] μ') : V x n k none 970 (Lq a i) [] μ := by
  have hN := hX.nn
  have hR1' : n ≤ room_1.cells := Nat.le_of_succ_le hR1
  have hR2' : k ≤ room_1.slots := Nat.le_trans (Nat.le_add_right k 6) hR2
  refine v_aload_n hC 1 dX5_law_970 rfl rfl ?_
  refine v_aloadX_n hC 0 dX5_law_971 rfl rfl ?_
  refine v_iload hC dX5_law_972 rfl ?_
  refine v_iconst hC dX5_law_974 ⟨by decide, by decide⟩ ?_
  refine v_iadd hC dX5_law_975 ⟨by omega, by omega⟩ ?_
  refine v_sld hC hX dX5_law_976 ⟨by omega, by omega⟩ ?_
  refine v_callI1 hC (cw_V (C := RX3) (y := yX3_look) (bytes := cX3_look) (maxL := 2) (ret := some .int) (rmc := rmX3_look) (na := 1) hC (by decide +kernel) (by decide +kernel) (by decide +kernel) (by decide +kernel) (by decide +kernel) ⟨rfl, by decide, by decide, by decide +kernel⟩ ⟨Nat.le_of_ble_eq_true rfl, Nat.le_of_ble_eq_true rfl⟩) dX5_law_977 rfl rfl rfl hR1' hR2' (Nat.le_of_ble_eq_true rfl) (by decide) (cX3_look_ok (xs (i + 1).toNat).toInt μ h.sf) (fun r1 μ1 hp1 => ?_)
  obtain ⟨hSm, hstep⟩ := st_look h (xs (i + 1).toNat).toInt hp1
  refine v_aload_n hC 2 dX5_law_980 rfl rfl ?_
  refine v_aloadX_n hC 0 dX5_law_981 rfl rfl ?_
  refine v_iload hC dX5_law_982 rfl ?_
  refine v_iconst hC dX5_law_984 ⟨by decide, by decide⟩ ?_
  refine v_iadd hC dX5_law_985 ⟨by omega, by omega⟩ ?_
  refine v_sld hC hX dX5_law_986 ⟨by omega, by omega⟩ ?_
  refine v_callI1 hC (cw_V (C := RX4) (y := yX4_look) (bytes := cX4_look) (maxL := 4) (ret := some .int) (rmc := rmX4_look) (na := 1) hC (by decide +kernel) (by decide +kernel) (by decide +kernel) (by decide +kernel) (by decide +kernel) ⟨rfl, by decide, by decide, by decide +kernel⟩ ⟨Nat.le_of_ble_eq_true rfl, Nat.le_of_ble_eq_true rfl⟩) dX5_law_987 rfl rfl rfl hR1' hR2' (Nat.le_of_ble_eq_true rfl) (by decide) (cX4_look_ok (xs (i + 1).toNat).toInt μ1 hSm) (fun r2 μ2 hp2 => ?_)
  obtain ⟨he, hq⟩ := hstep r2 μ2 hp2
  refine v_icmp_eq hC 995 dX5_law_990 rfl (fun _ => ?_) (fun hne => absurd he hne)
  exact kk n k μ2 (Nat.le_add_right _ _) (Nat.le_add_right _ _) hq
