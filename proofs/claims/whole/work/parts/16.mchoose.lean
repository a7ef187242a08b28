/-! The reference chooses, asks, moves. -/
def mg (μ : MU) (s k q : Nat) : Int := if (mbnF μ q s k).isSome = true then rkF μ q s k else 1000000
def mchO (μ : MU) (s : Nat) (O : Nat → Bool) : Nat → Int := chv (μ 23 0).toNat (fun k p => mg μ s k p) 1000000 O (μ 24 s).toNat (fun k => (μ 25 (3 * s + k)).toNat)
def mO (μ : MU) (q : Nat) : Bool := decide (¬ μ 38 q = 0)
theorem mbnF_of {a b : MU} {p s k : Nat} (h26 : ∀ j, b 26 j = a 26 j) (h27 : b 27 p = a 27 p) : mbnF b p s k = mbnF a p s k := by
  unfold mbnF
  rw [h27]
  congr 1
  funext j
  rw [h26]
theorem rkF_of {a b : MU} {p s k : Nat} (h26 : ∀ j, b 26 j = a 26 j) (h27 : b 27 p = a 27 p) (h28 : b 28 p = a 28 p) (h31 : ∀ j, b 31 j = a 31 j) : rkF b p s k = rkF a p s k := by
  unfold rkF
  rw [mbnF_of h26 h27, h28, h31]
theorem Fr.mbn {S : List Nat} {a b : MU} (h : Fr S a b) (hs : ∀ f, f ∈ [26, 27, 28, 31] → f ∉ S) (p s k : Nat) : mbnF b p s k = mbnF a p s k := mbnF_of (fun j => h 26 j (hs 26 (by decide))) (h 27 p (hs 27 (by decide)))
theorem Fr.rk {S : List Nat} {a b : MU} (h : Fr S a b) (hs : ∀ f, f ∈ [26, 27, 28, 31] → f ∉ S) (p s k : Nat) : rkF b p s k = rkF a p s k := rkF_of (fun j => h 26 j (hs 26 (by decide))) (h 27 p (hs 27 (by decide))) (h 28 p (hs 28 (by decide))) (fun j => h 31 j (hs 31 (by decide)))
theorem Fr.mg {S : List Nat} {a b : MU} (h : Fr S a b) (hs : ∀ f, f ∈ [26, 27, 28, 31] → f ∉ S) (s k p : Nat) : mg b s k p = mg a s k p := by
  show (if _ then _ else _) = (if _ then _ else _)
  rw [h.mbn hs, h.rk hs]
theorem Fr.Sm {S : List Nat} {a b : MU} (h : Fr S a b) (ha : Sm a) (hs : ∀ f, f ∈ [21, 22, 23, 24, 25, 29, 30, 31, 32] → f ∉ S) : Sm b := ha.of fun f j hf => h f j (hs f hf)
/-- the takers are T, below n -/
def TI (n : Nat) (μ : MU) (T : Nat → Int) : Prop := ∀ p, p < n → μ 39 p = T p ∧ -1 ≤ T p ∧ T p < 3
/-- the best so far, of those below i -/
def bsI (E : Nat → Bool) (g : Nat → Int) (B : Int) (i : Nat) (c d : Int) : Prop := (c = -1 ∧ d = B) ∨ ∃ q : Nat, c = (q : Int) ∧ q < i ∧ d = g q ∧ E q = true ∧ g q < B
theorem mchO_of {a b : MU} {s : Nat} {O O' : Nat → Bool} (h1 : b 23 0 = a 23 0) (h6 : b 24 s = a 24 s) (h9 : ∀ j, b 25 j = a 25 j) (hs : ∀ k p, mg b s k p = mg a s k p) (hO : ∀ p, p < (a 23 0).toNat → O' p = O p) : ∀ p, p < (a 23 0).toNat → mchO b s O' p = mchO a s O p := by
  unfold mchO
  rw [h1, h6]
  refine itr_rel (R := fun (x y : Nat → Int) => ∀ p, p < (a 23 0).toNat → x p = y p) (fun k x y hxy => ?_) _ _ _ _ (fun _ _ => rfl)
  dsimp only
  rw [h9]
  exact tkK_congr (fun p _ => hs k p) hO hxy
abbrev rmX4_choose : Room := { frames := 2, cells := 0, slots := 0, locals := 49 }
set_option maxRecDepth 100000 in
set_option maxHeartbeats 4000000 in
theorem cX4_choose_ok (s : Nat) (μ : MU) (hs : s < 6) (hSm : Sm μ) : CTv yX4_choose cX4_choose 7 rmX4_choose [aR 12 0, aI s] μ (fun μ' => Fr [39] μ μ' ∧ TI (μ 23 0).toNat μ' (mchO μ s (mO μ))) := by
  intro l9 b9 D9 K9
  refine met_of (by decide) (Nat.le_of_ble_eq_true rfl) (fun x hC hR hM hA => ?_)
  have hC : Ctx x RX4 cX4_choose rmX4_choose := hC
  have hSm0 := hSm
  obtain ⟨⟨s1, s2⟩, ⟨n1, n2⟩, hr, hkc, hq, hpp, hli, hnu⟩ := hSm
  have hk0 := hkc s hs
  refine v_iconst hC dX4_choose_0 ⟨by decide, by decide⟩ ?_
  refine v_istore_n hC 2 dX4_choose_1 rfl (Nat.le_of_ble_eq_true rfl) ?_
  refine v_loop (fun i : Nat => (μ 23 0).toNat - i) (fun _ => True) (fun i => ∀ (μ1 : MU), i ≤ (μ 23 0).toNat → Fr [39] μ μ1 → (∀ p, p < i → μ1 39 p = -1) → V x 0 0 none 2 [some (aR 12 0), some (aI s), some (aI (i : Int)), none, none, none, none] [] μ1) (fun i _ ih μ1 a1 hF1 a2 => ?_) 0 trivial μ (Nat.zero_le _) Fr.rf (fun p h => by omega)
  have e1 : μ1 23 0 = μ 23 0 := hF1 23 0 (by decide)
  refine v_iload_n hC 2 dX4_choose_2 rfl rfl ?_
  refine v_aload_n hC 0 dX4_choose_3 rfl rfl ?_
  refine v_getI hC foX4_66 dX4_choose_4 rfl rfl rfl (by first | decide | (simp only [vdn]; omega)) ?_
  try simp only [Int.toNat_natCast, upM_at, upM_nef, ne_eq, not_false_eq_true, Nat.reduceEqDiff, Nat.reduceAdd]
  refine v_icmp_ge hC 23 dX4_choose_7 rfl (fun h7 => ?_) (fun h7 => ?_)
  · refine v_iconst hC dX4_choose_23 ⟨by decide, by decide⟩ ?_
    refine v_istore_n hC 2 dX4_choose_24 rfl (Nat.le_of_ble_eq_true rfl) ?_
    refine v_loop (fun k : Nat => (μ 24 s).toNat - k) (fun _ => True) (fun k => ∀ (μ1 : MU) (T1 : Nat → Int), k ≤ 3 → Fr [39] μ μ1 → TI (μ 23 0).toNat μ1 T1 → itr (fun k T => tkK (μ 23 0).toNat (fun q => mg μ s k q) 1000000 (mO μ) (k : Int) (μ 25 (3 * s + k)).toNat T) k ((μ 24 s).toNat - k) T1 = mchO μ s (mO μ) → V x 0 0 none 25 [some (aR 12 0), some (aI s), some (aI (k : Int)), none, none, none, none] [] μ1) (fun k _ ih μ1 T1 a1 hF1 hT1 a4 => ?_) 0 trivial μ1 (fun _ => -1) (by decide) hF1 (fun p hp => ⟨a2 p (by omega), Int.le_refl _, (by show (-1 : Int) < 3; decide)⟩) rfl
    have e24 : μ1 24 s = μ 24 s := hF1 24 s (by decide)
    refine v_iload_n hC 2 dX4_choose_25 rfl rfl ?_
    refine v_aload_n hC 0 dX4_choose_26 rfl rfl ?_
    refine v_getR hC foX4_7 dX4_choose_27 rfl rfl rfl (by decide) (by first | decide | (simp only [vdn]; omega)) ?_
    refine v_iload_n hC 1 dX4_choose_30 rfl rfl ?_
    refine v_iald hC dX4_choose_31 rfl rfl rfl (by first | decide | (simp only [vdn]; omega)) ⟨by first | omega | (simp only [mlen]; omega), by first | omega | (simp only [mlen]; omega)⟩ ?_
    try simp only [Int.toNat_natCast, upM_at, upM_nef, ne_eq, not_false_eq_true, Nat.reduceEqDiff, Nat.reduceAdd]
    refine v_icmp_ge hC 182 dX4_choose_32 rfl (fun h32 => ?_) (fun h32 => ?_)
    · exact v_vret hC hR (Nat.le_refl _) (Nat.le_refl _) dX4_choose_182 (⟨rfl, hF1, by rw [← a4, itr_done (by omega)]; exact hT1⟩)
    · refine v_iconst hC dX4_choose_35 ⟨by decide, by decide⟩ ?_
      refine v_istore_n hC 3 dX4_choose_36 rfl (Nat.le_of_ble_eq_true rfl) ?_
      have hk1 := hkc s hs
      have hq1 := hq (3 * s + k) (by omega)
      have ei : ((3 : Int) * (s : Int) + (k : Int)).toNat = 3 * s + k := by omega
      rw [itr_step (by omega)] at a4
      refine v_loop (fun n : Nat => (μ 25 (3 * s + k)).toNat - n) (fun _ => True) (fun n => ∀ (μ2 : MU) (T2 : Nat → Int), n ≤ 6 → Fr [39] μ μ2 → TI (μ 23 0).toNat μ2 T2 → itr (fun k T => tkK (μ 23 0).toNat (fun q => mg μ s k q) 1000000 (mO μ) (k : Int) (μ 25 (3 * s + k)).toNat T) (k + 1) ((μ 24 s).toNat - (k + 1)) (itr (fun _ T => tk1 (μ 23 0).toNat (fun q => mg μ s k q) 1000000 (mO μ) (k : Int) T) n ((μ 25 (3 * s + k)).toNat - n) T2) = mchO μ s (mO μ) → V x 0 0 none 37 [some (aR 12 0), some (aI s), some (aI (k : Int)), some (aI (n : Int)), none, none, none] [] μ2) (fun n _ ih2 μ2 T2 b1 hF2 hT2 b4 => ?_) 0 trivial μ1 T1 (by decide) hF1 hT1 a4
      have e25 : μ2 25 (3 * s + k) = μ 25 (3 * s + k) := hF2 25 _ (by decide)
      have f1 : μ2 23 0 = μ 23 0 := hF2 23 0 (by decide)
      have hSm2 : Sm μ2 := hF2.Sm hSm0 (by decide)
      refine v_iload_n hC 3 dX4_choose_37 rfl rfl ?_
      refine v_aload_n hC 0 dX4_choose_38 rfl rfl ?_
      refine v_getR hC foX4_13 dX4_choose_39 rfl rfl rfl (by decide) (by first | decide | (simp only [vdn]; omega)) ?_
      refine v_iconst hC dX4_choose_42 ⟨by decide, by decide⟩ ?_
      refine v_iload_n hC 1 dX4_choose_43 rfl rfl ?_
      refine v_imul hC dX4_choose_44 ⟨by omega, by omega⟩ ?_
      refine v_iload_n hC 2 dX4_choose_45 rfl rfl ?_
      refine v_iadd hC dX4_choose_46 ⟨by omega, by omega⟩ ?_
      refine v_iald hC dX4_choose_47 rfl rfl rfl (by first | decide | (simp only [vdn]; omega)) ⟨by first | omega | (simp only [mlen]; omega), by first | omega | (simp only [mlen]; omega)⟩ ?_
      try simp only [Int.toNat_natCast, upM_at, upM_nef, ne_eq, not_false_eq_true, Nat.reduceEqDiff, Nat.reduceAdd]
      rw [ei, e25]
      refine v_icmp_ge hC 176 dX4_choose_48 rfl (fun h48 => ?_) (fun h48 => ?_)
      · refine v_iinc hC dX4_choose_176 rfl ⟨by omega, by omega⟩ ?_
        refine v_goto hC 25 dX4_choose_179 rfl ?_
        refine v_forget 3 (v_forget 4 (v_forget 5 ?_))
        exact ih (k + 1) trivial (by omega) μ2 T2 (by omega) hF2 hT2 (by rw [← b4, itr_done (f := (fun _ T => tk1 (μ 23 0).toNat (fun q => mg μ s k q) 1000000 (mO μ) (k : Int) T)) (i := n) (n := (μ 25 (3 * s + k)).toNat) (by omega)])
      · refine v_iconst hC dX4_choose_51 ⟨by decide, by decide⟩ ?_
        refine v_istore hC dX4_choose_52 (Nat.le_of_ble_eq_true rfl) ?_
        refine v_iconst hC dX4_choose_54 ⟨by decide, by decide⟩ ?_
        refine v_istore hC dX4_choose_55 (Nat.le_of_ble_eq_true rfl) ?_
        refine v_loop (fun p : Nat => (μ 23 0).toNat - p) (fun _ => True) (fun p => ∀ (c d : Int), p ≤ (μ 23 0).toNat → bsI (fun q => mO μ q && decide (T2 q = -1)) (fun q => mg μ s k q) 1000000 p c d → itr (minS (fun q => mO μ q && decide (T2 q = -1)) (fun q => mg μ s k q)) p ((μ 23 0).toNat - p) (c, d) = itr (minS (fun q => mO μ q && decide (T2 q = -1)) (fun q => mg μ s k q)) 0 (μ 23 0).toNat (-1, 1000000) → V x 0 0 none 57 [some (aR 12 0), some (aI s), some (aI (k : Int)), some (aI (n : Int)), some (aI c), some (aI (p : Int)), none] [] μ2) (fun p _ ih3 c d c1 c3 c4 => ?_) 0 trivial (-1) 1000000 (Nat.zero_le _) (Or.inl ⟨rfl, rfl⟩) rfl
        have g38 : μ2 38 p = μ 38 p := hF2 38 p (by decide)
        have c3' : bsI (fun q => mO μ q && decide (T2 q = -1)) (fun q => mg μ s k q) 1000000 (p + 1) c d := c3.imp id (fun ⟨q, h1, h2, h3⟩ => ⟨q, h1, by omega, h3⟩)
        have hnof : ¬ ((fun q => mO μ q && decide (T2 q = -1)) p = true ∧ (mbnF μ p s k).isSome = true) → minS (fun q => mO μ q && decide (T2 q = -1)) (fun q => mg μ s k q) p (c, d) = (c, d) := fun h => if_neg (fun h9 => h ⟨h9.1, by
          have h8 := h9.2
          unfold mg at h8
          dsimp only at h8
          rcases c3 with ⟨-, hd⟩ | ⟨q, -, -, hd, -, hd2⟩
          · by_cases h7 : (mbnF μ p s k).isSome = true
            · exact h7
            · rw [if_neg h7] at h8; omega
          · by_cases h7 : (mbnF μ p s k).isSome = true
            · exact h7
            · rw [if_neg h7] at h8
              have hd : d = mg μ s k q := hd
              have hd2 : mg μ s k q < 1000000 := hd2
              omega⟩)
        refine v_iload hC dX4_choose_57 rfl ?_
        refine v_aload_n hC 0 dX4_choose_59 rfl rfl ?_
        refine v_getI hC foX4_66 dX4_choose_60 rfl rfl rfl (by first | decide | (simp only [vdn]; omega)) ?_
        try simp only [Int.toNat_natCast, upM_at, upM_nef, ne_eq, not_false_eq_true, Nat.reduceEqDiff, Nat.reduceAdd]
        refine v_icmp_ge hC 157 dX4_choose_63 rfl (fun h63 => ?_) (fun h63 => ?_)
        · refine v_iload hC dX4_choose_157 rfl ?_
          refine v_if_lt hC 170 dX4_choose_159 rfl (fun h159 => ?_) (fun h159 => ?_)
          · refine v_iinc hC dX4_choose_170 rfl ⟨by omega, by omega⟩ ?_
            refine v_goto hC 37 dX4_choose_173 rfl ?_
            refine v_forget 4 (v_forget 5 ?_)
            have hc : c = -1 := by rcases c3 with h | ⟨q, h, -⟩ <;> omega
            have hb : bst (μ 23 0).toNat (fun q => mg μ s k q) 1000000 (fun q => mO μ q && decide (T2 q = -1)) = -1 := by rw [bst, ← c4, itr_done (by omega)]; exact hc
            exact ih2 (n + 1) trivial (by omega) μ2 T2 (by omega) hF2 hT2 (by rw [← b4, itr_step (f := (fun _ T => tk1 (μ 23 0).toNat (fun q => mg μ s k q) 1000000 (mO μ) (k : Int) T)) (i := n) (n := (μ 25 (3 * s + k)).toNat) (by omega), tk1_idle hb])
          · obtain ⟨q, rfl, hqp⟩ : ∃ q : Nat, c = (q : Int) ∧ q < p := by
              rcases c3 with ⟨h, -⟩ | ⟨q, h, h2, -⟩
              · omega
              · exact ⟨q, h, h2⟩
            refine v_aload_n hC 0 dX4_choose_162 rfl rfl ?_
            refine v_getR hC foX4_56 dX4_choose_163 rfl rfl rfl (by decide) (by first | decide | (simp only [vdn]; omega)) ?_
            refine v_iload hC dX4_choose_166 rfl ?_
            refine v_iload_n hC 2 dX4_choose_168 rfl rfl ?_
            refine v_iast hC dX4_choose_169 rfl rfl rfl (by decide) (by first | decide | (simp only [vdn]; omega)) ⟨by first | omega | (simp only [mlen]; omega), by first | omega | (simp only [mlen]; omega)⟩ ?_
            try simp only [Int.toNat_natCast, upM_at, upM_nef, ne_eq, not_false_eq_true, Nat.reduceEqDiff, Nat.reduceAdd]
            refine v_iinc hC dX4_choose_170 rfl ⟨by omega, by omega⟩ ?_
            refine v_goto hC 37 dX4_choose_173 rfl ?_
            refine v_forget 4 (v_forget 5 ?_)
            have hb : bst (μ 23 0).toNat (fun q => mg μ s k q) 1000000 (fun q => mO μ q && decide (T2 q = -1)) = (q : Int) := by rw [bst, ← c4, itr_done (by omega)]
            refine ih2 (n + 1) trivial (by omega) _ (tk1 (μ 23 0).toNat (fun q => mg μ s k q) 1000000 (mO μ) (k : Int) T2) (by omega) (hF2.up (by decide)) (fun r hr9 => ?_) (by rw [← b4, itr_step (f := (fun _ T => tk1 (μ 23 0).toNat (fun q => mg μ s k q) 1000000 (mO μ) (k : Int) T)) (i := n) (n := (μ 25 (3 * s + k)).toNat) (by omega)])
            have hr1 := hT2 r hr9
            unfold tk1
            rw [hb]
            by_cases e : r = q
            · rw [e, upM_at, if_pos rfl]; omega
            · rw [upM_ne (fun h => e h.2), if_neg (fun h => e (by omega))]; exact hr1
        · refine v_aload_n hC 0 dX4_choose_66 rfl rfl ?_
          refine v_getR hC foX4_53 dX4_choose_67 rfl rfl rfl (by decide) (by first | decide | (simp only [vdn]; omega)) ?_
          refine v_iload hC dX4_choose_70 rfl ?_
          refine v_zald hC dX4_choose_72 rfl rfl rfl (by first | decide | (simp only [vdn]; omega)) ⟨by first | omega | (simp only [mlen]; omega), by first | omega | (simp only [mlen]; omega)⟩ ?_
          try simp only [Int.toNat_natCast, upM_at, upM_nef, ne_eq, not_false_eq_true, Nat.reduceEqDiff, Nat.reduceAdd]
          refine v_if_eq hC 101 dX4_choose_73 rfl (fun h73 => ?_) (fun h73 => ?_)
          · refine v_iconst hC dX4_choose_101 ⟨by decide, by decide⟩ ?_
            refine v_istore hC dX4_choose_102 (Nat.le_of_ble_eq_true rfl) ?_
            refine v_iload hC dX4_choose_104 rfl ?_
            refine v_if_eq hC 147 dX4_choose_106 rfl (fun h106 => ?_) (fun h106 => ?_)
            · refine v_iload hC dX4_choose_147 rfl ?_
              refine v_istore hC dX4_choose_149 (Nat.le_of_ble_eq_true rfl) ?_
              refine v_iinc hC dX4_choose_151 rfl ⟨by omega, by omega⟩ ?_
              refine v_goto hC 57 dX4_choose_154 rfl ?_
              refine v_forget 6 ?_
              exact ih3 (p + 1) trivial (by omega) c (d) (by omega) (c3') (itr_next (by omega) (hnof (fun h => by have h1 := h.1; simp [mO] at h1; exact h1.1 (by rw [← g38]; exact h73))) c4)
            · exfalso; omega
          · refine v_aload_n hC 0 dX4_choose_76 rfl rfl ?_
            refine v_getR hC foX4_56 dX4_choose_77 rfl rfl rfl (by decide) (by first | decide | (simp only [vdn]; omega)) ?_
            refine v_iload hC dX4_choose_80 rfl ?_
            refine v_iald hC dX4_choose_82 rfl rfl rfl (by first | decide | (simp only [vdn]; omega)) ⟨by first | omega | (simp only [mlen]; omega), by first | omega | (simp only [mlen]; omega)⟩ ?_
            try simp only [Int.toNat_natCast, upM_at, upM_nef, ne_eq, not_false_eq_true, Nat.reduceEqDiff, Nat.reduceAdd]
            refine v_if_ge hC 101 dX4_choose_83 rfl (fun h83 => ?_) (fun h83 => ?_)
            · refine v_iconst hC dX4_choose_101 ⟨by decide, by decide⟩ ?_
              refine v_istore hC dX4_choose_102 (Nat.le_of_ble_eq_true rfl) ?_
              refine v_iload hC dX4_choose_104 rfl ?_
              refine v_if_eq hC 147 dX4_choose_106 rfl (fun h106 => ?_) (fun h106 => ?_)
              · refine v_iload hC dX4_choose_147 rfl ?_
                refine v_istore hC dX4_choose_149 (Nat.le_of_ble_eq_true rfl) ?_
                refine v_iinc hC dX4_choose_151 rfl ⟨by omega, by omega⟩ ?_
                refine v_goto hC 57 dX4_choose_154 rfl ?_
                refine v_forget 6 ?_
                exact ih3 (p + 1) trivial (by omega) c (d) (by omega) (c3') (itr_next (by omega) (hnof (fun h => by have h1 := h.1; simp [mO] at h1; have := (hT2 p (by omega)).1; omega)) c4)
              · exfalso; omega
            · refine v_aload_n hC 0 dX4_choose_86 rfl rfl ?_
              refine v_iload hC dX4_choose_87 rfl ?_
              refine v_iload_n hC 1 dX4_choose_89 rfl rfl ?_
              refine v_iload_n hC 2 dX4_choose_90 rfl rfl ?_
              refine v_callI3 hC (cwX4_89 hC ⟨Nat.le_of_ble_eq_true rfl, Nat.le_of_ble_eq_true rfl⟩) dX4_choose_91 rfl rfl rfl (Nat.zero_le _) (Nat.zero_le _) (Nat.le_of_ble_eq_true rfl) (by first | decide | (simp only [vdn]; omega)) (cX4_eligible_ok p s k μ2 (by omega) hs (by omega)) (fun r1 μ1 hp => ?_)
              obtain ⟨rfl, rfl⟩ := hp
              refine v_if_eq hC 101 dX4_choose_94 rfl (fun h94 => ?_) (fun h94 => ?_)
              · refine v_iconst hC dX4_choose_101 ⟨by decide, by decide⟩ ?_
                refine v_istore hC dX4_choose_102 (Nat.le_of_ble_eq_true rfl) ?_
                refine v_iload hC dX4_choose_104 rfl ?_
                refine v_if_eq hC 147 dX4_choose_106 rfl (fun h106 => ?_) (fun h106 => ?_)
                · refine v_iload hC dX4_choose_147 rfl ?_
                  refine v_istore hC dX4_choose_149 (Nat.le_of_ble_eq_true rfl) ?_
                  refine v_iinc hC dX4_choose_151 rfl ⟨by omega, by omega⟩ ?_
                  refine v_goto hC 57 dX4_choose_154 rfl ?_
                  refine v_forget 6 ?_
                  exact ih3 (p + 1) trivial (by omega) c (d) (by omega) (c3') (itr_next (by omega) (hnof (fun h => bI_z.1 h94 (by rw [hF2.mbn (by decide)]; exact h.2))) c4)
                · exfalso; omega
              · refine v_iconst hC dX4_choose_97 ⟨by decide, by decide⟩ ?_
                refine v_goto hC 102 dX4_choose_98 rfl ?_
                refine v_istore hC dX4_choose_102 (Nat.le_of_ble_eq_true rfl) ?_
                refine v_iload hC dX4_choose_104 rfl ?_
                refine v_if_eq hC 147 dX4_choose_106 rfl (fun h106 => ?_) (fun h106 => ?_)
                · exfalso; omega
                · refine v_iload hC dX4_choose_109 rfl ?_
                  refine v_if_lt hC 142 dX4_choose_111 rfl (fun h111 => ?_) (fun h111 => ?_)
                  · refine v_iload hC dX4_choose_142 rfl ?_
                    refine v_goto hC 149 dX4_choose_144 rfl ?_
                    refine v_istore hC dX4_choose_149 (Nat.le_of_ble_eq_true rfl) ?_
                    refine v_iinc hC dX4_choose_151 rfl ⟨by omega, by omega⟩ ?_
                    refine v_goto hC 57 dX4_choose_154 rfl ?_
                    refine v_forget 6 ?_
                    have hE : (fun q => mO μ q && decide (T2 q = -1)) p = true := by
                      have h1 := hT2 p (by omega)
                      simp [mO]
                      exact ⟨fun h => h73 (by rw [g38]; exact h), by omega⟩
                    have hel : (mbnF μ p s k).isSome = true := by rw [← hF2.mbn (by decide)]; exact bI_n.1 h94
                    have hgp : mg μ s k p = rkF μ p s k := if_pos hel
                    have hrr := rkF_r (k := k) hSm0 (p := p) (by omega) hs
                    have hd : d = 1000000 := by rcases c3 with ⟨-, h⟩ | ⟨q, h, -⟩ <;> omega
                    exact ih3 (p + 1) trivial (by omega) p (mg μ s k p) (by omega) (Or.inr ⟨p, rfl, by omega, rfl, hE, (by show mg μ s k p < 1000000; omega)⟩) (itr_next (by omega) (by rw [minS, if_pos ⟨hE, by dsimp only; omega⟩]) c4)
                  · obtain ⟨q, rfl, hqp, hqd, hqE, hqB⟩ : ∃ q : Nat, c = (q : Int) ∧ q < p ∧ d = mg μ s k q ∧ (fun q => mO μ q && decide (T2 q = -1)) q = true ∧ mg μ s k q < 1000000 := by
                      rcases c3 with ⟨h, -⟩ | h
                      · omega
                      · exact h
                    have hE : (fun q => mO μ q && decide (T2 q = -1)) p = true := by
                      have h1 := hT2 p (by omega)
                      simp [mO]
                      exact ⟨fun h => h73 (by rw [g38]; exact h), by omega⟩
                    have hel : (mbnF μ p s k).isSome = true := by rw [← hF2.mbn (by decide)]; exact bI_n.1 h94
                    have hgp : mg μ s k p = rkF μ p s k := if_pos hel
                    have hrr := rkF_r (k := k) hSm0 (p := p) (by omega) hs
                    have hgq : mg μ s k q = rkF μ q s k := by
                      unfold mg at hqB ⊢
                      by_cases h7 : (mbnF μ q s k).isSome = true
                      · rw [if_pos h7]
                      · rw [if_neg h7] at hqB; omega
                    refine v_aload_n hC 0 dX4_choose_114 rfl rfl ?_
                    refine v_iload hC dX4_choose_115 rfl ?_
                    refine v_iload_n hC 1 dX4_choose_117 rfl rfl ?_
                    refine v_iload_n hC 2 dX4_choose_118 rfl rfl ?_
                    refine v_callI3 hC (cwX4_93 hC ⟨Nat.le_of_ble_eq_true rfl, Nat.le_of_ble_eq_true rfl⟩) dX4_choose_119 rfl rfl rfl (Nat.zero_le _) (Nat.zero_le _) (Nat.le_of_ble_eq_true rfl) (by first | decide | (simp only [vdn]; omega)) (cX4_rank_ok p s k μ2 (by omega) hs (by omega) hSm2) (fun r1 μ1 hp => ?_)
                    obtain ⟨rfl, rfl⟩ := hp
                    refine v_aload_n hC 0 dX4_choose_122 rfl rfl ?_
                    refine v_iload hC dX4_choose_123 rfl ?_
                    refine v_if_ge hC 132 dX4_choose_125 rfl (fun h125 => ?_) (fun h125 => ?_)
                    · refine v_iload hC dX4_choose_132 rfl ?_
                      refine v_iload_n hC 1 dX4_choose_134 rfl rfl ?_
                      refine v_iload_n hC 2 dX4_choose_135 rfl rfl ?_
                      refine v_callI3 hC (cwX4_93 hC ⟨Nat.le_of_ble_eq_true rfl, Nat.le_of_ble_eq_true rfl⟩) dX4_choose_136 rfl rfl rfl (Nat.zero_le _) (Nat.zero_le _) (Nat.le_of_ble_eq_true rfl) (by first | decide | (simp only [vdn]; omega)) (cX4_rank_ok q s k μ2 (by omega) hs (by omega) hSm2) (fun r1 μ1 hp => ?_)
                      obtain ⟨rfl, rfl⟩ := hp
                      refine v_icmp_ge hC 147 dX4_choose_139 rfl (fun h139 => ?_) (fun h139 => ?_)
                      · refine v_iload hC dX4_choose_147 rfl ?_
                        refine v_istore hC dX4_choose_149 (Nat.le_of_ble_eq_true rfl) ?_
                        refine v_iinc hC dX4_choose_151 rfl ⟨by omega, by omega⟩ ?_
                        refine v_goto hC 57 dX4_choose_154 rfl ?_
                        refine v_forget 6 ?_
                        rw [hF2.rk (by decide), hF2.rk (by decide)] at h139
                        exact ih3 (p + 1) trivial (by omega) (q : Int) d (by omega) c3' (itr_next (by omega) (by rw [minS, if_neg (fun h9 => by have h8 := h9.2; dsimp only at h8; omega)]) c4)
                      · refine v_iload hC dX4_choose_142 rfl ?_
                        refine v_goto hC 149 dX4_choose_144 rfl ?_
                        refine v_istore hC dX4_choose_149 (Nat.le_of_ble_eq_true rfl) ?_
                        refine v_iinc hC dX4_choose_151 rfl ⟨by omega, by omega⟩ ?_
                        refine v_goto hC 57 dX4_choose_154 rfl ?_
                        refine v_forget 6 ?_
                        rw [hF2.rk (by decide), hF2.rk (by decide)] at h139
                        exact ih3 (p + 1) trivial (by omega) p (mg μ s k p) (by omega) (Or.inr ⟨p, rfl, by omega, rfl, hE, (by show mg μ s k p < 1000000; omega)⟩) (itr_next (by omega) (by rw [minS, if_pos ⟨hE, by dsimp only; omega⟩]) c4)
                    · exfalso; omega
  · refine v_aload_n hC 0 dX4_choose_10 rfl rfl ?_
    refine v_getR hC foX4_56 dX4_choose_11 rfl rfl rfl (by decide) (by first | decide | (simp only [vdn]; omega)) ?_
    refine v_iload_n hC 2 dX4_choose_14 rfl rfl ?_
    refine v_iconst hC dX4_choose_15 ⟨by decide, by decide⟩ ?_
    refine v_iast hC dX4_choose_16 rfl rfl rfl (by decide) (by first | decide | (simp only [vdn]; omega)) ⟨by first | omega | (simp only [mlen]; omega), by first | omega | (simp only [mlen]; omega)⟩ ?_
    try simp only [Int.toNat_natCast, upM_at, upM_nef, ne_eq, not_false_eq_true, Nat.reduceEqDiff, Nat.reduceAdd]
    refine v_iinc hC dX4_choose_17 rfl ⟨by omega, by omega⟩ ?_
    refine v_goto hC 2 dX4_choose_20 rfl ?_
    exact ih (i + 1) trivial (by omega) _ (by omega) (hF1.up (by decide)) (fun p h => by
      by_cases e : p = i
      · rw [e, upM_at]
      · rw [upM_ne (fun h => e h.2)]; exact a2 p (by omega))
