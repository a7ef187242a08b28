/-! The constructors. -/
theorem ffX0_9 : FOf RX0 9 0 0 (.array .int) := ⟨RX0, TX0, 3, tyX0, rfl, inX0, tyX0_ok, nmX0, by decide, by decide +kernel, rfl, rfl, rfl⟩
abbrev rmX0_init : Room := { frames := 1, cells := 1, slots := 3, locals := 20 }
set_option maxRecDepth 100000 in
theorem cX0_init_ok (q : Nat) (μ : MU) (w : Nat) (hq : q < 18) (hw : off 5 q = w) (h4 : off 4 q < w) (h0 : ∀ j, j < 3 → μ 7 (3 * q + j) = 0) : CTA yX0_init cX0_init 1 rmX0_init (some w) (some (w + 1)) [aR 4 q] μ (fun μ' => upM μ 105 q 1 = μ') 1 3 := by
  intro l9 b9 D9 K9
  refine met_ofA (by decide) rfl (Nat.le_of_ble_eq_true rfl) (fun x hC hI hA3 hR hM hA => ?_)
  have hC : Ctx x RX0 cX0_init rmX0_init := hC
  refine v_aload_n hC 0 dX0_init_0 rfl rfl ?_
  refine v_objI hC dX0_init_1 (by decide +kernel) (by decide +kernel) (by decide +kernel) (Nat.le_of_ble_eq_true rfl) (Nat.le_of_ble_eq_true rfl) (Nat.le_of_ble_eq_true rfl) ?_
  refine v_aload_n hC 0 dX0_init_4 rfl rfl ?_
  refine v_iconst hC dX0_init_5 ⟨by decide, by decide⟩ ?_
  refine v_newA (c := 5) (i := q) (t := 0) (len := 3) hC dX0_init_6 rfl (fun C h => by cases h) (fun K => rfl) (by decide +kernel) rfl hq hw rfl (by decide) (fun j hj => ⟨h0 j hj, rfl⟩) (Nat.le_of_ble_eq_true rfl) (Nat.le_of_ble_eq_true rfl) ?_
  refine v_putR (c := 4) (i := q) (kf := 0) hC hI hq (fun w9 h9 => by cases h9; omega) rfl rfl ffX0_9 (fun _ => rfl) (fun _ => rfl) dX0_init_8 ?_
  exact v_vret hC hR (Nat.le_refl _) (Nat.le_refl _) dX0_init_11 ⟨rfl, rfl⟩
