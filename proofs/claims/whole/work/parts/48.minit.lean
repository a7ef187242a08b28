/-! The reference's constructor. -/
theorem ffX4_7 : FOf RX4 7 4 3 (.array .int) := ⟨RX4, TX4, 20, tyX4, rfl, inX4, tyX4_ok, nmX4, by decide, by decide +kernel, rfl, rfl, rfl⟩
theorem ffX4_13 : FOf RX4 13 4 4 (.array .int) := ⟨RX4, TX4, 20, tyX4, rfl, inX4, tyX4_ok, nmX4, by decide, by decide +kernel, rfl, rfl, rfl⟩
theorem ffX4_16 : FOf RX4 16 4 5 (.array .int) := ⟨RX4, TX4, 20, tyX4, rfl, inX4, tyX4_ok, nmX4, by decide, by decide +kernel, rfl, rfl, rfl⟩
theorem ffX4_19 : FOf RX4 19 4 7 (.array .int) := ⟨RX4, TX4, 20, tyX4, rfl, inX4, tyX4_ok, nmX4, by decide, by decide +kernel, rfl, rfl, rfl⟩
theorem ffX4_22 : FOf RX4 22 4 8 (.array .boolean) := ⟨RX4, TX4, 20, tyX4, rfl, inX4, tyX4_ok, nmX4, by decide, by decide +kernel, rfl, rfl, rfl⟩
theorem ffX4_26 : FOf RX4 26 4 9 (.array .int) := ⟨RX4, TX4, 20, tyX4, rfl, inX4, tyX4_ok, nmX4, by decide, by decide +kernel, rfl, rfl, rfl⟩
theorem ffX4_29 : FOf RX4 29 4 10 (.array .int) := ⟨RX4, TX4, 20, tyX4, rfl, inX4, tyX4_ok, nmX4, by decide, by decide +kernel, rfl, rfl, rfl⟩
theorem ffX4_32 : FOf RX4 32 4 11 (.array .int) := ⟨RX4, TX4, 20, tyX4, rfl, inX4, tyX4_ok, nmX4, by decide, by decide +kernel, rfl, rfl, rfl⟩
theorem ffX4_35 : FOf RX4 35 4 12 (.array .int) := ⟨RX4, TX4, 20, tyX4, rfl, inX4, tyX4_ok, nmX4, by decide, by decide +kernel, rfl, rfl, rfl⟩
theorem ffX4_38 : FOf RX4 38 4 13 (.array .int) := ⟨RX4, TX4, 20, tyX4, rfl, inX4, tyX4_ok, nmX4, by decide, by decide +kernel, rfl, rfl, rfl⟩
theorem ffX4_41 : FOf RX4 41 4 14 (.array .int) := ⟨RX4, TX4, 20, tyX4, rfl, inX4, tyX4_ok, nmX4, by decide, by decide +kernel, rfl, rfl, rfl⟩
theorem ffX4_44 : FOf RX4 44 4 15 (.array .int) := ⟨RX4, TX4, 20, tyX4, rfl, inX4, tyX4_ok, nmX4, by decide, by decide +kernel, rfl, rfl, rfl⟩
theorem ffX4_47 : FOf RX4 47 4 16 (.array .boolean) := ⟨RX4, TX4, 20, tyX4, rfl, inX4, tyX4_ok, nmX4, by decide, by decide +kernel, rfl, rfl, rfl⟩
theorem ffX4_50 : FOf RX4 50 4 17 (.array .int) := ⟨RX4, TX4, 20, tyX4, rfl, inX4, tyX4_ok, nmX4, by decide, by decide +kernel, rfl, rfl, rfl⟩
theorem ffX4_53 : FOf RX4 53 4 18 (.array .boolean) := ⟨RX4, TX4, 20, tyX4, rfl, inX4, tyX4_ok, nmX4, by decide, by decide +kernel, rfl, rfl, rfl⟩
theorem ffX4_56 : FOf RX4 56 4 19 (.array .int) := ⟨RX4, TX4, 20, tyX4, rfl, inX4, tyX4_ok, nmX4, by decide, by decide +kernel, rfl, rfl, rfl⟩
abbrev rmX4_init : Room := { frames := 1, cells := 16, slots := 498, locals := 20 }
set_option maxRecDepth 100000 in
set_option maxHeartbeats 4000000 in
theorem cX4_init_ok (μ : MU) (h0 : ∀ f j, 20 ≤ f → f < 40 → μ f j = 0) : CTA yX4_init cX4_init 2 rmX4_init (some 114) (some 130) [aR 12 0] μ (fun μ' => mini μ = μ') 16 498 := by
  intro l9 b9 D9 K9
  refine met_ofA (by decide) rfl (Nat.le_of_ble_eq_true rfl) (fun x hC hI hA3 hR hM hA => ?_)
  have hC : Ctx x RX4 cX4_init rmX4_init := hC
  have z : ∀ (n f j : Nat), 20 ≤ f → f < 40 → mfl μ n f j = 0 := fun n f j h1 h2 => (mfl_ne _ n (by omega)).trans (h0 f j h1 h2)
  refine v_aload_n hC 0 dX4_init_0 rfl rfl ?_
  refine v_objI hC dX4_init_1 (by decide +kernel) (by decide +kernel) (by decide +kernel) (Nat.le_of_ble_eq_true rfl) (Nat.le_of_ble_eq_true rfl) (Nat.le_of_ble_eq_true rfl) ?_
  show V x 0 0 (some 114) 4 [some (aR 12 0), none] [] (mfl μ 0)
  refine v_aload_n hC 0 dX4_init_4 rfl rfl ?_
  refine v_bipush hC dX4_init_5 ⟨by decide, by decide⟩ ?_
  refine v_newA (c := 13) (i := 0) (t := 0) (len := 6) hC dX4_init_7 rfl (fun C h => by cases h) (fun K => rfl) (by decide +kernel) rfl (by decide) rfl rfl (by decide) (fun j hj => ⟨z 0 24 j (by decide) (by decide), rfl⟩) (Nat.le_of_ble_eq_true rfl) (Nat.le_of_ble_eq_true rfl) ?_
  refine v_putR (c := 12) (i := 0) (kf := 3) hC hI (by decide) (fun w9 h9 => by cases h9; decide) rfl rfl ffX4_7 (fun _ => rfl) (fun _ => rfl) dX4_init_9 ?_
  show V x 1 6 (some 115) 12 [some (aR 12 0), none] [] (mfl μ 1)
  refine v_aload_n hC 0 dX4_init_12 rfl rfl ?_
  refine v_bipush hC dX4_init_13 ⟨by decide, by decide⟩ ?_
  refine v_newA (c := 14) (i := 0) (t := 0) (len := 18) hC dX4_init_15 rfl (fun C h => by cases h) (fun K => rfl) (by decide +kernel) rfl (by decide) rfl rfl (by decide) (fun j hj => ⟨z 1 25 j (by decide) (by decide), rfl⟩) (Nat.le_of_ble_eq_true rfl) (Nat.le_of_ble_eq_true rfl) ?_
  refine v_putR (c := 12) (i := 0) (kf := 4) hC hI (by decide) (fun w9 h9 => by cases h9; decide) rfl rfl ffX4_13 (fun _ => rfl) (fun _ => rfl) dX4_init_17 ?_
  show V x 2 24 (some 116) 20 [some (aR 12 0), none] [] (mfl μ 2)
  refine v_aload_n hC 0 dX4_init_20 rfl rfl ?_
  refine v_bipush hC dX4_init_21 ⟨by decide, by decide⟩ ?_
  refine v_newA (c := 15) (i := 0) (t := 0) (len := 54) hC dX4_init_23 rfl (fun C h => by cases h) (fun K => rfl) (by decide +kernel) rfl (by decide) rfl rfl (by decide) (fun j hj => ⟨z 2 26 j (by decide) (by decide), rfl⟩) (Nat.le_of_ble_eq_true rfl) (Nat.le_of_ble_eq_true rfl) ?_
  refine v_putR (c := 12) (i := 0) (kf := 5) hC hI (by decide) (fun w9 h9 => by cases h9; decide) rfl rfl ffX4_16 (fun _ => rfl) (fun _ => rfl) dX4_init_25 ?_
  show V x 3 78 (some 117) 28 [some (aR 12 0), none] [] (mfl μ 3)
  refine v_aload_n hC 0 dX4_init_28 rfl rfl ?_
  refine v_bipush hC dX4_init_29 ⟨by decide, by decide⟩ ?_
  refine v_newA (c := 16) (i := 0) (t := 0) (len := 20) hC dX4_init_31 rfl (fun C h => by cases h) (fun K => rfl) (by decide +kernel) rfl (by decide) rfl rfl (by decide) (fun j hj => ⟨z 3 27 j (by decide) (by decide), rfl⟩) (Nat.le_of_ble_eq_true rfl) (Nat.le_of_ble_eq_true rfl) ?_
  refine v_putR (c := 12) (i := 0) (kf := 7) hC hI (by decide) (fun w9 h9 => by cases h9; decide) rfl rfl ffX4_19 (fun _ => rfl) (fun _ => rfl) dX4_init_33 ?_
  show V x 4 98 (some 118) 36 [some (aR 12 0), none] [] (mfl μ 4)
  refine v_aload_n hC 0 dX4_init_36 rfl rfl ?_
  refine v_bipush hC dX4_init_37 ⟨by decide, by decide⟩ ?_
  refine v_newA (c := 17) (i := 0) (t := 1) (len := 20) hC dX4_init_39 rfl (fun C h => by cases h) (fun K => rfl) (by decide +kernel) rfl (by decide) rfl rfl (by decide) (fun j hj => ⟨z 4 28 j (by decide) (by decide), rfl⟩) (Nat.le_of_ble_eq_true rfl) (Nat.le_of_ble_eq_true rfl) ?_
  refine v_putR (c := 12) (i := 0) (kf := 8) hC hI (by decide) (fun w9 h9 => by cases h9; decide) rfl rfl ffX4_22 (fun _ => rfl) (fun _ => rfl) dX4_init_41 ?_
  show V x 5 118 (some 119) 44 [some (aR 12 0), none] [] (mfl μ 5)
  refine v_aload_n hC 0 dX4_init_44 rfl rfl ?_
  refine v_bipush hC dX4_init_45 ⟨by decide, by decide⟩ ?_
  refine v_newA (c := 18) (i := 0) (t := 0) (len := 20) hC dX4_init_47 rfl (fun C h => by cases h) (fun K => rfl) (by decide +kernel) rfl (by decide) rfl rfl (by decide) (fun j hj => ⟨z 5 29 j (by decide) (by decide), rfl⟩) (Nat.le_of_ble_eq_true rfl) (Nat.le_of_ble_eq_true rfl) ?_
  refine v_putR (c := 12) (i := 0) (kf := 9) hC hI (by decide) (fun w9 h9 => by cases h9; decide) rfl rfl ffX4_26 (fun _ => rfl) (fun _ => rfl) dX4_init_49 ?_
  show V x 6 138 (some 120) 52 [some (aR 12 0), none] [] (mfl μ 6)
  refine v_aload_n hC 0 dX4_init_52 rfl rfl ?_
  refine v_bipush hC dX4_init_53 ⟨by decide, by decide⟩ ?_
  refine v_newA (c := 19) (i := 0) (t := 0) (len := 80) hC dX4_init_55 rfl (fun C h => by cases h) (fun K => rfl) (by decide +kernel) rfl (by decide) rfl rfl (by decide) (fun j hj => ⟨z 6 30 j (by decide) (by decide), rfl⟩) (Nat.le_of_ble_eq_true rfl) (Nat.le_of_ble_eq_true rfl) ?_
  refine v_putR (c := 12) (i := 0) (kf := 10) hC hI (by decide) (fun w9 h9 => by cases h9; decide) rfl rfl ffX4_29 (fun _ => rfl) (fun _ => rfl) dX4_init_57 ?_
  show V x 7 218 (some 121) 60 [some (aR 12 0), none] [] (mfl μ 7)
  refine v_aload_n hC 0 dX4_init_60 rfl rfl ?_
  refine v_bipush hC dX4_init_61 ⟨by decide, by decide⟩ ?_
  refine v_newA (c := 20) (i := 0) (t := 0) (len := 120) hC dX4_init_63 rfl (fun C h => by cases h) (fun K => rfl) (by decide +kernel) rfl (by decide) rfl rfl (by decide) (fun j hj => ⟨z 7 31 j (by decide) (by decide), rfl⟩) (Nat.le_of_ble_eq_true rfl) (Nat.le_of_ble_eq_true rfl) ?_
  refine v_putR (c := 12) (i := 0) (kf := 11) hC hI (by decide) (fun w9 h9 => by cases h9; decide) rfl rfl ffX4_32 (fun _ => rfl) (fun _ => rfl) dX4_init_65 ?_
  show V x 8 338 (some 122) 68 [some (aR 12 0), none] [] (mfl μ 8)
  refine v_aload_n hC 0 dX4_init_68 rfl rfl ?_
  refine v_bipush hC dX4_init_69 ⟨by decide, by decide⟩ ?_
  refine v_newA (c := 21) (i := 0) (t := 0) (len := 20) hC dX4_init_71 rfl (fun C h => by cases h) (fun K => rfl) (by decide +kernel) rfl (by decide) rfl rfl (by decide) (fun j hj => ⟨z 8 32 j (by decide) (by decide), rfl⟩) (Nat.le_of_ble_eq_true rfl) (Nat.le_of_ble_eq_true rfl) ?_
  refine v_putR (c := 12) (i := 0) (kf := 12) hC hI (by decide) (fun w9 h9 => by cases h9; decide) rfl rfl ffX4_35 (fun _ => rfl) (fun _ => rfl) dX4_init_73 ?_
  show V x 9 358 (some 123) 76 [some (aR 12 0), none] [] (mfl μ 9)
  refine v_aload_n hC 0 dX4_init_76 rfl rfl ?_
  refine v_bipush hC dX4_init_77 ⟨by decide, by decide⟩ ?_
  refine v_newA (c := 22) (i := 0) (t := 0) (len := 20) hC dX4_init_79 rfl (fun C h => by cases h) (fun K => rfl) (by decide +kernel) rfl (by decide) rfl rfl (by decide) (fun j hj => ⟨z 9 33 j (by decide) (by decide), rfl⟩) (Nat.le_of_ble_eq_true rfl) (Nat.le_of_ble_eq_true rfl) ?_
  refine v_putR (c := 12) (i := 0) (kf := 13) hC hI (by decide) (fun w9 h9 => by cases h9; decide) rfl rfl ffX4_38 (fun _ => rfl) (fun _ => rfl) dX4_init_81 ?_
  show V x 10 378 (some 124) 84 [some (aR 12 0), none] [] (mfl μ 10)
  refine v_aload_n hC 0 dX4_init_84 rfl rfl ?_
  refine v_bipush hC dX4_init_85 ⟨by decide, by decide⟩ ?_
  refine v_newA (c := 23) (i := 0) (t := 0) (len := 20) hC dX4_init_87 rfl (fun C h => by cases h) (fun K => rfl) (by decide +kernel) rfl (by decide) rfl rfl (by decide) (fun j hj => ⟨z 10 34 j (by decide) (by decide), rfl⟩) (Nat.le_of_ble_eq_true rfl) (Nat.le_of_ble_eq_true rfl) ?_
  refine v_putR (c := 12) (i := 0) (kf := 14) hC hI (by decide) (fun w9 h9 => by cases h9; decide) rfl rfl ffX4_41 (fun _ => rfl) (fun _ => rfl) dX4_init_89 ?_
  show V x 11 398 (some 125) 92 [some (aR 12 0), none] [] (mfl μ 11)
  refine v_aload_n hC 0 dX4_init_92 rfl rfl ?_
  refine v_bipush hC dX4_init_93 ⟨by decide, by decide⟩ ?_
  refine v_newA (c := 24) (i := 0) (t := 0) (len := 20) hC dX4_init_95 rfl (fun C h => by cases h) (fun K => rfl) (by decide +kernel) rfl (by decide) rfl rfl (by decide) (fun j hj => ⟨z 11 35 j (by decide) (by decide), rfl⟩) (Nat.le_of_ble_eq_true rfl) (Nat.le_of_ble_eq_true rfl) ?_
  refine v_putR (c := 12) (i := 0) (kf := 15) hC hI (by decide) (fun w9 h9 => by cases h9; decide) rfl rfl ffX4_44 (fun _ => rfl) (fun _ => rfl) dX4_init_97 ?_
  show V x 12 418 (some 126) 100 [some (aR 12 0), none] [] (mfl μ 12)
  refine v_aload_n hC 0 dX4_init_100 rfl rfl ?_
  refine v_bipush hC dX4_init_101 ⟨by decide, by decide⟩ ?_
  refine v_newA (c := 25) (i := 0) (t := 1) (len := 20) hC dX4_init_103 rfl (fun C h => by cases h) (fun K => rfl) (by decide +kernel) rfl (by decide) rfl rfl (by decide) (fun j hj => ⟨z 12 36 j (by decide) (by decide), rfl⟩) (Nat.le_of_ble_eq_true rfl) (Nat.le_of_ble_eq_true rfl) ?_
  refine v_putR (c := 12) (i := 0) (kf := 16) hC hI (by decide) (fun w9 h9 => by cases h9; decide) rfl rfl ffX4_47 (fun _ => rfl) (fun _ => rfl) dX4_init_105 ?_
  show V x 13 438 (some 127) 108 [some (aR 12 0), none] [] (mfl μ 13)
  refine v_aload_n hC 0 dX4_init_108 rfl rfl ?_
  refine v_bipush hC dX4_init_109 ⟨by decide, by decide⟩ ?_
  refine v_newA (c := 26) (i := 0) (t := 0) (len := 20) hC dX4_init_111 rfl (fun C h => by cases h) (fun K => rfl) (by decide +kernel) rfl (by decide) rfl rfl (by decide) (fun j hj => ⟨z 13 37 j (by decide) (by decide), rfl⟩) (Nat.le_of_ble_eq_true rfl) (Nat.le_of_ble_eq_true rfl) ?_
  refine v_putR (c := 12) (i := 0) (kf := 17) hC hI (by decide) (fun w9 h9 => by cases h9; decide) rfl rfl ffX4_50 (fun _ => rfl) (fun _ => rfl) dX4_init_113 ?_
  show V x 14 458 (some 128) 116 [some (aR 12 0), none] [] (mfl μ 14)
  refine v_aload_n hC 0 dX4_init_116 rfl rfl ?_
  refine v_bipush hC dX4_init_117 ⟨by decide, by decide⟩ ?_
  refine v_newA (c := 27) (i := 0) (t := 1) (len := 20) hC dX4_init_119 rfl (fun C h => by cases h) (fun K => rfl) (by decide +kernel) rfl (by decide) rfl rfl (by decide) (fun j hj => ⟨z 14 38 j (by decide) (by decide), rfl⟩) (Nat.le_of_ble_eq_true rfl) (Nat.le_of_ble_eq_true rfl) ?_
  refine v_putR (c := 12) (i := 0) (kf := 18) hC hI (by decide) (fun w9 h9 => by cases h9; decide) rfl rfl ffX4_53 (fun _ => rfl) (fun _ => rfl) dX4_init_121 ?_
  show V x 15 478 (some 129) 124 [some (aR 12 0), none] [] (mfl μ 15)
  refine v_aload_n hC 0 dX4_init_124 rfl rfl ?_
  refine v_bipush hC dX4_init_125 ⟨by decide, by decide⟩ ?_
  refine v_newA (c := 28) (i := 0) (t := 0) (len := 20) hC dX4_init_127 rfl (fun C h => by cases h) (fun K => rfl) (by decide +kernel) rfl (by decide) rfl rfl (by decide) (fun j hj => ⟨z 15 39 j (by decide) (by decide), rfl⟩) (Nat.le_of_ble_eq_true rfl) (Nat.le_of_ble_eq_true rfl) ?_
  refine v_putR (c := 12) (i := 0) (kf := 19) hC hI (by decide) (fun w9 h9 => by cases h9; decide) rfl rfl ffX4_56 (fun _ => rfl) (fun _ => rfl) dX4_init_129 ?_
  show V x 16 498 (some 130) 132 [some (aR 12 0), none] [] (mfl μ 16)
  refine v_iconst hC dX4_init_132 ⟨by decide, by decide⟩ ?_
  refine v_istore_n hC 1 dX4_init_133 rfl (Nat.le_of_ble_eq_true rfl) ?_
  refine v_loop (fun j : Nat => 20 - j) (fun j => j ≤ 20) (fun j => V x 16 498 (some 130) 134 [some (aR 12 0), some (aI (j : Int))] [] (msf (mfl μ 16) j)) (fun j hj ih => ?_) 0 (Nat.zero_le _)
  refine v_iload_n hC 1 dX4_init_134 rfl rfl ?_
  refine v_bipush hC dX4_init_135 ⟨by decide, by decide⟩ ?_
  refine v_icmp_ge hC 160 dX4_init_137 rfl (fun h137 => ?_) (fun h137 => ?_)
  · have hj20 : j = 20 := by omega
    subst hj20
    refine v_forget 1 ?_
    refine v_iconst hC dX4_init_160 ⟨by decide, by decide⟩ ?_
    refine v_istore_n hC 1 dX4_init_161 rfl (Nat.le_of_ble_eq_true rfl) ?_
    refine v_loop (fun j : Nat => 120 - j) (fun j => j ≤ 120) (fun j => V x 16 498 (some 130) 162 [some (aR 12 0), some (aI (j : Int))] [] (mnf (msf (mfl μ 16) 20) j)) (fun j hj ih2 => ?_) 0 (Nat.zero_le _)
    refine v_iload_n hC 1 dX4_init_162 rfl rfl ?_
    refine v_bipush hC dX4_init_163 ⟨by decide, by decide⟩ ?_
    refine v_icmp_ge hC 181 dX4_init_165 rfl (fun h165 => ?_) (fun h165 => ?_)
    · have hj120 : j = 120 := by omega
      subst hj120
      exact v_vret hC hR (Nat.le_refl _) (Nat.le_refl _) dX4_init_181 ⟨rfl, rfl⟩
    · refine v_aload_n hC 0 dX4_init_168 rfl rfl ?_
      refine v_getR' (c := 12) (i := 0) hC rfl (by decide) (fun w9 h9 => by cases h9; decide) rfl rfl (fun q => by cases q) (fun _ => by rw [mnf_ne _ _ (Or.inl (by decide)), msf_ne _ _ (Or.inl (by decide)), mfl_at _ _ (by decide) (by decide)]; decide) foX4_32 dX4_init_169 ?_
      refine v_iload_n hC 1 dX4_init_172 rfl rfl ?_
      refine v_iconst hC dX4_init_173 ⟨by decide, by decide⟩ ?_
      refine v_iast' (c := 20) (i := 0) (len := 120) (f := 31) (j := j) hC rfl (by decide) (fun w9 h9 => by cases h9; decide) rfl rfl (fun q => by cases q) ⟨by omega, by omega⟩ dX4_init_174 ?_
      refine v_iinc hC dX4_init_175 rfl ⟨by omega, by omega⟩ ?_
      refine v_goto hC 162 dX4_init_178 rfl ?_
      exact ih2 (j + 1) (by omega) (by omega)
  · refine v_aload_n hC 0 dX4_init_140 rfl rfl ?_
    refine v_getR' (c := 12) (i := 0) hC rfl (by decide) (fun w9 h9 => by cases h9; decide) rfl rfl (fun q => by cases q) (fun _ => by rw [msf_ne _ _ (Or.inl (by decide)), mfl_at _ _ (by decide) (by decide)]; decide) foX4_38 dX4_init_141 ?_
    refine v_iload_n hC 1 dX4_init_144 rfl rfl ?_
    refine v_iconst hC dX4_init_145 ⟨by decide, by decide⟩ ?_
    refine v_iast' (c := 22) (i := 0) (len := 20) (f := 33) (j := j) hC rfl (by decide) (fun w9 h9 => by cases h9; decide) rfl rfl (fun q => by cases q) ⟨by omega, by omega⟩ dX4_init_146 ?_
    refine v_aload_n hC 0 dX4_init_147 rfl rfl ?_
    refine v_getR' (c := 12) (i := 0) hC rfl (by decide) (fun w9 h9 => by cases h9; decide) rfl rfl (fun q => by cases q) (fun _ => by rw [upM_nef (by decide), msf_ne _ _ (Or.inl (by decide)), mfl_at _ _ (by decide) (by decide)]; decide) foX4_41 dX4_init_148 ?_
    refine v_iload_n hC 1 dX4_init_151 rfl rfl ?_
    refine v_iconst hC dX4_init_152 ⟨by decide, by decide⟩ ?_
    refine v_iast' (c := 23) (i := 0) (len := 20) (f := 34) (j := j) hC rfl (by decide) (fun w9 h9 => by cases h9; decide) rfl rfl (fun q => by cases q) ⟨by omega, by omega⟩ dX4_init_153 ?_
    refine v_iinc hC dX4_init_154 rfl ⟨by omega, by omega⟩ ?_
    refine v_goto hC 134 dX4_init_157 rfl ?_
    exact ih (j + 1) (by omega) (by omega)
