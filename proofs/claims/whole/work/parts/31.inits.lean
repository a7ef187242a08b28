/-! The constructors. -/
theorem ffX0_9 : FOf RX0 9 0 0 (.array .int) := ⟨RX0, TX0, 3, tyX0, rfl, inX0, tyX0_ok, nmX0, by decide, by decide +kernel, rfl, rfl, rfl⟩
abbrev rmX0_init : Room := { frames := 1, cells := 1, slots := 3, locals := 20 }
set_option maxRecDepth 100000 in
theorem cX0_init_ok (q : Nat) (μ : MU) (w : Nat) (hq : q < 18) (hw : off 5 q = w) (h4 : off 4 q < w) (h0 : ∀ j, j < 3 → μ 7 (3 * q + j) = 0) : CTA yX0_init cX0_init 1 rmX0_init (some w) (some (w + 1)) [aR 4 q] μ (fun μ' => upM μ 105 q 1 = μ') 1 3 := by
  intro l9 b9 D9 K9
  refine met_ofA (by decide) rfl (Nat.le_of_ble_eq_true rfl) (fun x hC hI hA3 hR hM hA => ?_)
  have hC : Ctx x RX0 cX0_init rmX0_init := hC
  refine v_aload_n hC 0 dX0_init_0 rfl rfl ?_
  refine v_objI hC dX0_init_1 (by decide +kernel) (by decide +kernel) (by decide +kernel) (Nat.le_of_ble_eq_true rfl) (Nat.le_of_ble_eq_true rfl) (Nat.le_of_ble_eq_true rfl) ?_
  refine v_aload_n hC 0 dX0_init_4 rfl rfl ?_
  refine v_iconst hC dX0_init_5 ⟨by decide, by decide⟩ ?_
  refine v_newA (c := 5) (i := q) (t := 0) (len := 3) hC dX0_init_6 rfl (fun C h => by cases h) (fun K => rfl) (by decide +kernel) rfl hq hw rfl (by decide) (fun j hj => ⟨h0 j hj, rfl⟩) (Nat.le_of_ble_eq_true rfl) (Nat.le_of_ble_eq_true rfl) ?_
  refine v_putR (c := 4) (i := q) (kf := 0) hC hI hq (fun w9 h9 => by cases h9; omega) rfl rfl ffX0_9 (fun _ => rfl) (fun _ => rfl) dX0_init_8 ?_
  exact v_vret hC hR (Nat.le_refl _) (Nat.le_refl _) dX0_init_11 ⟨rfl, rfl⟩
theorem ffX1_9 : FOf RX1 9 1 0 (.array .int) := ⟨RX1, TX1, 10, tyX1, rfl, inX1, tyX1_ok, nmX1, by decide, by decide +kernel, rfl, rfl, rfl⟩
theorem ffX1_15 : FOf RX1 15 1 2 (.array .int) := ⟨RX1, TX1, 10, tyX1, rfl, inX1, tyX1_ok, nmX1, by decide, by decide +kernel, rfl, rfl, rfl⟩
theorem fgX1_15 : FO RX1 15 1 2 := ⟨RX1, TX1, 10, rfl, inX1, by decide, by decide +kernel⟩
def nfil (μ : MU) (p : Nat) (v : Int) : Nat → MU
  | 0 => μ
  | n + 1 => upM (nfil μ p v n) 12 (6 * p + n) (1000 + v)
theorem nfil_ne (μ : MU) (p : Nat) (v : Int) {f : Nat} (h : f ≠ 12) (j : Nat) : ∀ n, nfil μ p v n f j = μ f j
  | 0 => rfl
  | n + 1 => (upM_nef h).trans (nfil_ne μ p v h j n)
abbrev rmX1_init : Room := { frames := 1, cells := 2, slots := 10, locals := 20 }
set_option maxRecDepth 100000 in
theorem cX1_init_ok (p : Nat) (v : Int) (μ : MU) (w : Nat) (hp : p < 20) (hv : 0 ≤ v ∧ v < 20) (hw : 52 + 3 * p = w) (h10 : ∀ j, j < 4 → μ 10 (4 * p + j) = 0) (h12 : ∀ j, j < 6 → μ 12 (6 * p + j) = 0) : CTA yX1_init cX1_init 3 rmX1_init (some w) (some (w + 1 + 1)) [aR 7 p, aI v] μ (fun μ' => upM (upM (upM (nfil (upM (upM μ 106 p 1) 107 p 1) p v 6) 15 p (-1)) 16 p (-1)) 18 p 0 = μ') 2 10 := by
  intro l9 b9 D9 K9
  refine met_ofA (by decide) rfl (Nat.le_of_ble_eq_true rfl) (fun x hC hI hA3 hR hM hA => ?_)
  have hC : Ctx x RX1 cX1_init rmX1_init := hC
  have ho : off 7 p < w := by show 51 + 3 * p < w; omega
  refine v_aload_n hC 0 dX1_init_0 rfl rfl ?_
  refine v_objI hC dX1_init_1 (by decide +kernel) (by decide +kernel) (by decide +kernel) (Nat.le_of_ble_eq_true rfl) (Nat.le_of_ble_eq_true rfl) (Nat.le_of_ble_eq_true rfl) ?_
  refine v_aload_n hC 0 dX1_init_4 rfl rfl ?_
  refine v_iconst hC dX1_init_5 ⟨by decide, by decide⟩ ?_
  refine v_newA (c := 8) (i := p) (t := 0) (len := 4) hC dX1_init_6 rfl (fun C h => by cases h) (fun K => rfl) (by decide +kernel) rfl hp hw rfl (by decide) (fun j hj => ⟨h10 j hj, rfl⟩) (Nat.le_of_ble_eq_true rfl) (Nat.le_of_ble_eq_true rfl) ?_
  refine v_putR (c := 7) (i := p) (kf := 0) hC hI hp (fun w9 h9 => by cases h9; omega) rfl rfl ffX1_9 (fun _ => rfl) (fun _ => rfl) dX1_init_8 ?_
  refine v_aload_n hC 0 dX1_init_11 rfl rfl ?_
  refine v_bipush hC dX1_init_12 ⟨by decide, by decide⟩ ?_
  refine v_newA (c := 9) (i := p) (t := 0) (len := 6) hC dX1_init_14 rfl (fun C h => by cases h) (fun K => rfl) (by decide +kernel) rfl hp (by show 53 + 3 * p = w + 1; omega) rfl (by decide) (fun j hj => ⟨(upM_nef (by show (12 : Nat) ≠ 106; decide)).trans (h12 j hj), rfl⟩) (Nat.le_of_ble_eq_true rfl) (Nat.le_of_ble_eq_true rfl) ?_
  refine v_putR (c := 7) (i := p) (kf := 2) hC hI hp (fun w9 h9 => by cases h9; omega) rfl rfl ffX1_15 (fun _ => rfl) (fun _ => rfl) dX1_init_16 ?_
  refine v_iconst hC dX1_init_19 ⟨by decide, by decide⟩ ?_
  refine v_istore_n hC 2 dX1_init_20 rfl (Nat.le_of_ble_eq_true rfl) ?_
  refine v_loop (fun j : Nat => 6 - j) (fun j => j ≤ 6) (fun j => V x (0 + 1 + 1) (0 + 4 + 6) (some (w + 1 + 1)) 21 [some (aR 7 p), some (aI v), some (aI (j : Int))] [] (nfil (upM (upM μ 106 p 1) 107 p 1) p v j)) (fun j hj ih => ?_) 0 (Nat.zero_le _)
  refine v_iload_n hC 2 dX1_init_21 rfl rfl ?_
  refine v_bipush hC dX1_init_22 ⟨by decide, by decide⟩ ?_
  refine v_icmp_ge hC 44 dX1_init_24 rfl (fun h24 => ?_) (fun h24 => ?_)
  · have hj6 : j = 6 := by omega
    subst hj6
    refine v_aload_n hC 0 dX1_init_44 rfl rfl ?_
    refine v_iconst hC dX1_init_45 ⟨by decide, by decide⟩ ?_
    refine v_put' hC rfl hp (fun w9 h9 => by cases h9; omega) rfl rfl (fun q => by cases q) fwX1_18 rfl rfl dX1_init_46 ?_
    refine v_aload_n hC 0 dX1_init_49 rfl rfl ?_
    refine v_iconst hC dX1_init_50 ⟨by decide, by decide⟩ ?_
    refine v_put' hC rfl hp (fun w9 h9 => by cases h9; omega) rfl rfl (fun q => by cases q) fwX1_22 rfl rfl dX1_init_51 ?_
    refine v_aload_n hC 0 dX1_init_54 rfl rfl ?_
    refine v_iconst hC dX1_init_55 ⟨by decide, by decide⟩ ?_
    refine v_put' hC rfl hp (fun w9 h9 => by cases h9; omega) rfl rfl (fun q => by cases q) fwX1_25 rfl rfl dX1_init_56 ?_
    exact v_vret hC hR (Nat.le_refl _) (Nat.le_refl _) dX1_init_59 ⟨rfl, rfl⟩
  · refine v_aload_n hC 0 dX1_init_27 rfl rfl ?_
    refine v_getR' hC rfl hp (fun w9 h9 => by cases h9; omega) rfl rfl (fun q => by cases q) (fun _ => by rw [nfil_ne _ _ _ (by decide), upM_at]; decide) fgX1_15 dX1_init_28 ?_
    refine v_iload_n hC 2 dX1_init_31 rfl rfl ?_
    refine v_sipush hC dX1_init_32 ⟨by decide, by decide⟩ ?_
    refine v_iload_n hC 1 dX1_init_35 rfl rfl ?_
    refine v_iadd hC dX1_init_36 ⟨by omega, by omega⟩ ?_
    refine v_iast' (c := 9) (i := p) (len := 6) (f := 12) (j := 6 * p + j) hC rfl hp (fun w9 h9 => by cases h9; show 53 + 3 * p < w + 1 + 1; omega) rfl rfl (fun q => by cases q) ⟨by omega, by omega⟩ dX1_init_37 ?_
    refine v_iinc hC dX1_init_38 rfl ⟨by omega, by omega⟩ ?_
    refine v_goto hC 21 dX1_init_41 rfl ?_
    exact ih (j + 1) (by omega) (by omega)
theorem fnK (q : Nat) : FN RX2 9 0 3 [fR 5 q 105 q, fI 8 q, fI 9 q] := ⟨RX0, TX0, tyX0, rfl, inX0, tyX0_ok, by decide +kernel, by decide +kernel, by decide +kernel, fun j hj => by
  rcases (by omega : j = 0 ∨ j = 1 ∨ j = 2) with rfl | rfl | rfl <;> exact ⟨_, rfl, rfl⟩⟩
theorem ffX2_11 : FOf RX2 11 2 0 (.array (.object "SeatOffice$Kind")) := ⟨RX2, TX2, 2, tyX2, rfl, inX2, tyX2_ok, nmX2, by decide, by decide +kernel, rfl, rfl, rfl⟩
def kfil (μ : MU) (s : Nat) : Nat → MU
  | 0 => μ
  | n + 1 => upM (upM (kfil μ s n) 105 (3 * s + n) 1) 109 (3 * s + n) 1
theorem kfil_ne (μ : MU) (s : Nat) {f i : Nat} : ∀ n, (f ≠ 105 ∧ f ≠ 109) ∨ 3 * s + n ≤ i → kfil μ s n f i = μ f i
  | 0, _ => rfl
  | n + 1, h => by
    show upM (upM (kfil μ s n) 105 (3 * s + n) 1) 109 (3 * s + n) 1 f i = μ f i
    rw [upM_ne (fun q => by omega), upM_ne (fun q => by omega)]
    exact kfil_ne μ s n (h.imp id (fun h => by omega))
abbrev rmX2_init : Room := { frames := 2, cells := 7, slots := 21, locals := 60 }
set_option maxRecDepth 100000 in
theorem cX2_init_ok (s : Nat) (μ : MU) (w : Nat) (hs : s < 6) (hw : 3 + 8 * s = w) (h0 : ∀ q, 3 * s ≤ q → q < 3 * s + 3 → μ 105 q = 0 ∧ μ 8 q = 0 ∧ μ 9 q = 0 ∧ μ 109 q = 0 ∧ ∀ j, j < 3 → μ 7 (3 * q + j) = 0) : CTA yX2_init cX2_init 2 rmX2_init (some w) (some (w + 7)) [aR 2 s] μ (fun μ' => kfil (upM μ 104 s 1) s 3 = μ') 7 21 := by
  intro l9 b9 D9 K9
  refine met_ofA (by decide) rfl (Nat.le_of_ble_eq_true rfl) (fun x hC hI hA3 hR hM hA => ?_)
  have hC : Ctx x RX2 cX2_init rmX2_init := hC
  refine v_aload_n hC 0 dX2_init_0 rfl rfl ?_
  refine v_objI hC dX2_init_1 (by decide +kernel) (by decide +kernel) (by decide +kernel) (Nat.le_of_ble_eq_true rfl) (Nat.le_of_ble_eq_true rfl) (Nat.le_of_ble_eq_true rfl) ?_
  refine v_aload_n hC 0 dX2_init_4 rfl rfl ?_
  refine v_iconst hC dX2_init_5 ⟨by decide, by decide⟩ ?_
  refine v_newQ (c := 3) (i := s) (t := 4) (len := 3) (C := "SeatOffice$Kind") hC dX2_init_6 (by decide +kernel) hA3.kind (fun K => rfl) rfl hs hw rfl (by decide) (fun j hj => ⟨(h0 (3 * s + j) (by omega) (by omega)).2.2.2.1, rfl⟩) (Nat.le_of_ble_eq_true rfl) (Nat.le_of_ble_eq_true rfl) ?_
  refine v_putR (c := 2) (i := s) (kf := 0) hC hI hs (fun w9 h9 => by cases h9; show 2 + 8 * s < w + 1; omega) rfl rfl ffX2_11 (fun _ => rfl) (fun _ => rfl) dX2_init_9 ?_
  refine v_iconst hC dX2_init_12 ⟨by decide, by decide⟩ ?_
  refine v_istore_n hC 1 dX2_init_13 rfl (Nat.le_of_ble_eq_true rfl) ?_
  refine v_loop (fun j : Nat => 3 - j) (fun j => j ≤ 3) (fun j => V x (1 + 2 * j) (3 + 6 * j) (some (w + 1 + 2 * j)) 14 [some (aR 2 s), some (aI (j : Int))] [] (kfil (upM μ 104 s 1) s j)) (fun j hj ih => ?_) 0 (Nat.zero_le _)
  refine v_iload_n hC 1 dX2_init_14 rfl rfl ?_
  refine v_iconst hC dX2_init_15 ⟨by decide, by decide⟩ ?_
  refine v_icmp_ge hC 38 dX2_init_16 rfl (fun h16 => ?_) (fun h16 => ?_)
  · have hj3 : j = 3 := by omega
    subst hj3
    exact v_vret hC hR (Nat.le_refl _) (Nat.le_refl _) dX2_init_38 ⟨rfl, rfl⟩
  · have hj3 : j < 3 := by omega
    have hq := h0 (3 * s + j) (by omega) (by omega)
    have o4 : off 4 (3 * s + j) = w + 1 + 2 * j := by show 4 + 8 * ((3 * s + j) / 3) + 2 * ((3 * s + j) % 3) = _; omega
    have o5 : off 5 (3 * s + j) = w + 1 + 2 * j + 1 := by show 5 + 8 * ((3 * s + j) / 3) + 2 * ((3 * s + j) % 3) = _; omega
    have z : ∀ f i, f ≠ 104 → (f ≠ 105 ∧ f ≠ 109) ∨ 3 * s + j ≤ i → kfil (upM μ 104 s 1) s j f i = μ f i := fun f i h1 h2 => (kfil_ne _ s j h2).trans (upM_nef h1)
    refine v_aload_n hC 0 dX2_init_19 rfl rfl ?_
    refine v_getR' (c := 2) (i := s) hC rfl hs (fun w9 h9 => by cases h9; show 2 + 8 * s < _; omega) rfl rfl (fun q => by cases q) (fun _ => by rw [kfil_ne _ _ _ (Or.inl ⟨by decide, by decide⟩), upM_at]; decide) foX2_11 dX2_init_20 ?_
    refine v_iload_n hC 1 dX2_init_23 rfl rfl ?_
    refine v_new (c := 4) (i := 3 * s + j) hC (fnK (3 * s + j)) dX2_init_24 rfl (show 3 * s + j < 18 by omega) o4 (fun d hd => by
      simp only [List.mem_cons, List.not_mem_nil, or_false] at hd
      rcases hd with rfl | rfl | rfl
      · exact (z 105 _ (by decide) (Or.inr (Nat.le_refl _))).trans hq.1
      · exact (z 8 _ (by decide) (Or.inl ⟨by decide, by decide⟩)).trans hq.2.1
      · exact (z 9 _ (by decide) (Or.inl ⟨by decide, by decide⟩)).trans hq.2.2.1) (by show 1 + 2 * j + 1 ≤ 7; omega) (by show 3 + 6 * j + 3 ≤ 21; omega) ?_
    refine v_dupR hC dX2_init_27 ?_
    refine v_callA (as := []) (na := 0) hC hA3 (cX0_init_ok (3 * s + j) _ (w + 1 + 2 * j + 1) (by omega) o5 (by omega) (fun i hi => (z 7 _ (by decide) (Or.inl ⟨by decide, by decide⟩)).trans (hq.2.2.2.2 i hi))) (cw_I (rmc := rmX0_init) hC (by decide +kernel) (by decide +kernel) (by decide +kernel) (by decide +kernel) rfl (by decide) ⟨Nat.le_of_ble_eq_true rfl, Nat.le_of_ble_eq_true rfl⟩) rfl nl0 (by show 1 + 2 * j + 1 + 1 ≤ 7; omega) (by show 3 + 6 * j + 3 + 3 ≤ 21; omega) (Nat.le_of_ble_eq_true rfl) dX2_init_28 (fun μ1 hp => ?_)
    subst hp
    refine v_aastR (c := 3) (i := s) (t := 4) (len := 3) (c' := 4) (i' := 3 * s + j) (f := 109) (j := 3 * s + j) hC dX2_init_31 (fun K => rfl) rfl hs (fun w9 h9 => by cases h9; show 3 + 8 * s < _; omega) rfl (show 3 * s + j < 18 by omega) (fun w9 h9 => by cases h9; omega) rfl ⟨by omega, by omega⟩ rfl ?_
    refine v_iinc hC dX2_init_32 rfl ⟨by omega, by omega⟩ ?_
    refine v_goto hC 14 dX2_init_35 rfl ?_
    have h9 := ih (j + 1) (by omega) (by omega)
    rw [show 1 + 2 * (j + 1) = 1 + 2 * j + 1 + 1 by omega, show 3 + 6 * (j + 1) = 3 + 6 * j + 3 + 3 by omega, show w + 1 + 2 * (j + 1) = w + 1 + 2 * j + 1 + 1 by omega] at h9
    exact h9
/-! The office's constructor. -/
theorem fnS (s : Nat) : FN RX3 9 2 2 [fR 3 s 104 s, fI 6 s] := ⟨RX2, TX2, tyX2, rfl, inX2, tyX2_ok, by decide +kernel, by decide +kernel, by decide +kernel, fun j hj => by
  rcases (by omega : j = 0 ∨ j = 1) with rfl | rfl <;> exact ⟨_, rfl, rfl⟩⟩
theorem ffX3_11 : FOf RX3 11 3 0 (.array (.object "SeatOffice$School")) := ⟨RX3, TX3, 8, tyX3, rfl, inX3, tyX3_ok, nmX3, by decide, by decide +kernel, rfl, rfl, rfl⟩
def sfil (μ : MU) : Nat → MU
  | 0 => μ
  | n + 1 => upM (kfil (upM (sfil μ n) 104 n 1) n 3) 108 n 1
theorem sfil_ne (μ : MU) {f i : Nat} : ∀ n, (f ≠ 104 ∧ f ≠ 105 ∧ f ≠ 108 ∧ f ≠ 109) ∨ ((f = 105 ∨ f = 109) ∧ 3 * n ≤ i) ∨ ((f = 104 ∨ f = 108) ∧ n ≤ i) → sfil μ n f i = μ f i
  | 0, _ => rfl
  | n + 1, h => by
    show upM (kfil (upM (sfil μ n) 104 n 1) n 3) 108 n 1 f i = μ f i
    rw [upM_ne (fun q => by omega), kfil_ne _ _ _ (by omega), upM_ne (fun q => by omega)]
    exact sfil_ne μ n (by omega)
theorem fnP (p : Nat) : FN RX3 16 1 10 [fR 8 p 106 p, fI 11 p, fR 9 p 107 p, fI 13 p, fI 14 p, fI 15 p, fI 16 p, fI 17 p, fI 18 p, fI 19 p] := ⟨RX1, TX1, tyX1, rfl, inX1, tyX1_ok, by decide +kernel, by decide +kernel, by decide +kernel, fun j hj => by
  rcases (by omega : j = 0 ∨ j = 1 ∨ j = 2 ∨ j = 3 ∨ j = 4 ∨ j = 5 ∨ j = 6 ∨ j = 7 ∨ j = 8 ∨ j = 9) with rfl | rfl | rfl | rfl | rfl | rfl | rfl | rfl | rfl | rfl <;> exact ⟨_, rfl, rfl⟩⟩
theorem ffX3_18 : FOf RX3 18 3 1 (.array (.object "SeatOffice$Pupil")) := ⟨RX3, TX3, 8, tyX3, rfl, inX3, tyX3_ok, nmX3, by decide, by decide +kernel, rfl, rfl, rfl⟩
theorem ffX3_25 : FOf RX3 25 3 5 (.array .int) := ⟨RX3, TX3, 8, tyX3, rfl, inX3, tyX3_ok, nmX3, by decide, by decide +kernel, rfl, rfl, rfl⟩
theorem ffX3_29 : FOf RX3 29 3 7 (.array .int) := ⟨RX3, TX3, 8, tyX3, rfl, inX3, tyX3_ok, nmX3, by decide, by decide +kernel, rfl, rfl, rfl⟩
theorem nfil_ge (μ : MU) (p : Nat) (v : Int) {f i : Nat} : ∀ n, f ≠ 12 ∨ 6 * p + n ≤ i → nfil μ p v n f i = μ f i
  | 0, _ => rfl
  | n + 1, h => by
    show upM (nfil μ p v n) 12 (6 * p + n) (1000 + v) f i = μ f i
    rw [upM_ne (fun q => by omega)]
    exact nfil_ge μ p v n (by omega)
def pin (μ : MU) (p : Nat) : MU := upM (upM (upM (nfil (upM (upM μ 106 p 1) 107 p 1) p p 6) 15 p (-1)) 16 p (-1)) 18 p 0
def pfil (μ : MU) : Nat → MU
  | 0 => μ
  | n + 1 => upM (pin (pfil μ n) n) 110 n 1
theorem pfil_ne (μ : MU) {f i : Nat} : ∀ n, (f ≠ 12 ∧ f ≠ 15 ∧ f ≠ 16 ∧ f ≠ 18 ∧ f ≠ 106 ∧ f ≠ 107 ∧ f ≠ 110) ∨ (f = 12 ∧ 6 * n ≤ i) ∨ ((f = 15 ∨ f = 16 ∨ f = 18 ∨ f = 106 ∨ f = 107 ∨ f = 110) ∧ n ≤ i) → pfil μ n f i = μ f i
  | 0, _ => rfl
  | n + 1, h => by
    show upM (pin (pfil μ n) n) 110 n 1 f i = μ f i
    unfold pin
    rw [upM_ne (fun q => by omega), upM_ne (fun q => by omega), upM_ne (fun q => by omega), upM_ne (fun q => by omega), nfil_ge _ _ _ _ (by omega), upM_ne (fun q => by omega), upM_ne (fun q => by omega)]
    exact pfil_ne μ n (by omega)
