/-! Asking, moving, blocking. -/
theorem sit15 (μ : MU) (p : Nat) (a k : Int) : sitM μ p a k 15 p = a := by
  show upM (upM μ 15 p a) 16 p k 15 p = a
  rw [upM_nef (by decide), upM_at]
theorem sit16 (μ : MU) (p : Nat) (a k : Int) : sitM μ p a k 16 p = k := upM_at _ _ _ _
theorem sit_ne {μ : MU} {p q : Nat} {a k : Int} (f : Nat) (h : q ≠ p) : sitM μ p a k f q = μ f q := by
  show upM (upM μ 15 p a) 16 p k f q = μ f q
  rw [upM_ne (fun z => h z.2), upM_ne (fun z => h z.2)]
theorem sit_nef {μ : MU} {p q : Nat} {a k : Int} {f : Nat} (h : f ≠ 15) (h' : f ≠ 16) : sitM μ p a k f q = μ f q := by
  show upM (upM μ 15 p a) 16 p k f q = μ f q
  rw [upM_nef h', upM_nef h]
theorem chV_of {a b : MU} {s : Nat} {O O' : Nat → Bool} (h1 : b 1 0 = a 1 0) (h6 : b 6 s = a 6 s) (h9 : ∀ j, b 9 j = a 9 j) (hs : ∀ p k, stdF b p s k = stdF a p s k) (hO : ∀ p, p < (a 1 0).toNat → O' p = O p) : ∀ p, p < (a 1 0).toNat → chV b s O' p = chV a s O p := by
  unfold chV
  rw [h1, h6]
  refine itr_rel (R := fun (x y : Nat → Int) => ∀ p, p < (a 1 0).toNat → x p = y p) (fun k x y hxy => ?_) _ _ _ _ (fun _ _ => rfl)
  dsimp only
  rw [h9]
  exact tkK_congr (fun p _ => hs p k) hO hxy
theorem chV_in {μ : MU} {s : Nat} {O : Nat → Bool} {p : Nat} (h : chV μ s O p ≠ -1) : O p = true ∧ p < (μ 1 0).toNat := chv_in h
theorem chV_ge {μ : MU} {s : Nat} {O : Nat → Bool} (p : Nat) : -1 ≤ chV μ s O p ∧ chV μ s O p < 3 ∨ 3 < (μ 6 s).toNat := by
  by_cases h3 : 3 < (μ 6 s).toNat
  · exact Or.inr h3
  · refine Or.inl ?_
    have := itr_inv (f := fun k T => tkK (μ 1 0).toNat (fun p => stdF μ p s k) 100000 O (k : Int) (μ 9 (3 * s + k)).toNat T) (P := fun k (T : Nat → Int) => ∀ p, -1 ≤ T p ∧ T p < (k : Int)) (n := (μ 6 s).toNat) (μ 6 s).toNat 0 (fun _ => -1) (by omega) (fun p => by omega) (fun j T hj hT => ?_) p
    · have h : -1 ≤ chV μ s O p ∧ chV μ s O p < (((μ 6 s).toNat : Nat) : Int) := this
      omega
    · have := itr_inv (f := fun _ T => tk1 (μ 1 0).toNat (fun p => stdF μ p s j) 100000 O (j : Int) T) (P := fun _ (T : Nat → Int) => ∀ p, -1 ≤ T p ∧ T p < ((j + 1 : Nat) : Int)) (n := (μ 9 (3 * s + j)).toNat) (μ 9 (3 * s + j)).toNat 0 T (by omega) (fun p => by have := hT p; omega) (fun i T' _ hT' p => ?_)
      · exact this
      · unfold tk1
        split
        · omega
        · exact hT' p
theorem Sf.ask {μ : MU} {p : Nat} (h : Sf μ) (hp : p < 20) (ha : μ 17 p < 4) : Sf (upM μ 17 p (μ 17 p + 1)) := by
  obtain ⟨h1, h2, h3, h4, h5, h6, h7, h8⟩ := h
  refine ⟨h1, h2, h3, h4, h5, fun q hq => ?_, h7, h8⟩
  have e11 : upM μ 17 p (μ 17 p + 1) 11 q = μ 11 q := upM_nef (by decide)
  have hq6 := h6 q hq
  by_cases e : q = p
  · have e17 : upM μ 17 p (μ 17 p + 1) 17 q = μ 17 p + 1 := by rw [e, upM_at]
    rw [e11, e17]
    have := h6 p hp
    omega
  · have e17 : upM μ 17 p (μ 17 p + 1) 17 q = μ 17 q := upM_ne (fun h => e h.2)
    rw [e11, e17]
    exact hq6
/-- an ask, as a step of the state -/
def AskP (μ : MU) (p s : Nat) (μ' : MU) : Prop := Fr [3, 4, 5, 15, 16, 17] μ μ' ∧ (∀ q, μ' 17 q = if q = p then μ 17 p + 1 else μ 17 q) ∧
  ∀ q, q < (μ 1 0).toNat → μ' 16 q = (if chO μ s p q = true then chV μ s (chO μ s p) q else μ 16 q) ∧ μ' 15 q = (if chO μ s p q = true then (if chV μ s (chO μ s p) q = -1 then -1 else (s : Int)) else μ 15 q)
abbrev rmX3_askNext : Room := { frames := 5, cells := 0, slots := 0, locals := 122 }
set_option maxRecDepth 100000 in
set_option maxHeartbeats 4000000 in
theorem cX3_askNext_ok (p s : Nat) (μ : MU) (hp : p < (μ 1 0).toNat) (hs : s < 6) (hSf : Sf μ) (hI : Inj μ s) (ha : μ 17 p < μ 11 p) (hse : μ 10 (4 * p + (μ 17 p).toNat) = (s : Int)) : CTv yX3_askNext cX3_askNext 5 rmX3_askNext [aR 0 0, aI p] μ (fun μ' => AskP μ p s μ') := by
  intro l9 b9 D9 K9
  refine met_of (by decide) (Nat.le_of_ble_eq_true rfl) (fun x hC hR hM hA => ?_)
  have hC : Ctx x RX3 cX3_askNext rmX3_askNext := hC
  have hSf0 := hSf
  obtain ⟨⟨s1, s2⟩, ⟨n1, n2⟩, hr, hkc, hq, hpp, hli, hnu⟩ := hSf
  have hp1 := hpp p (by omega)
  have hSf1 : Sf (upM μ 17 p (μ 17 p + 1)) := hSf0.ask (by omega) (by omega)
  have hI1 : Inj (upM μ 17 p (μ 17 p + 1)) s := (Fr.up (S := [17]) Fr.rf (by decide)).inj hI (by decide) (by decide)
  refine v_aload_n hC 0 dX3_askNext_0 rfl rfl ?_
  refine v_getR hC foX3_18 dX3_askNext_1 rfl rfl rfl (by decide) (by first | decide | (simp only [vdn]; omega)) ?_
  refine v_iload_n hC 1 dX3_askNext_4 rfl rfl ?_
  refine v_aald hC dX3_askNext_5 rfl rfl (fun _ => rfl) rfl (by decide) (by first | decide | (simp only [vdn]; omega)) ⟨by first | omega | (simp only [mlen]; omega), by first | omega | (simp only [mlen]; omega)⟩ ?_
  try simp only [Int.toNat_natCast, upM_at, upM_nef, ne_eq, not_false_eq_true, Nat.reduceEqDiff, Nat.reduceAdd]
  refine v_astore_n hC 2 dX3_askNext_6 rfl (Nat.le_of_ble_eq_true rfl) ?_
  refine v_aload_n hC 2 dX3_askNext_7 rfl rfl ?_
  refine v_getR hC foX3_88 dX3_askNext_8 rfl rfl rfl (by decide) (by first | decide | (simp only [vdn]; omega)) ?_
  refine v_aload_n hC 2 dX3_askNext_11 rfl rfl ?_
  refine v_getI hC foX3_133 dX3_askNext_12 rfl rfl rfl (by first | decide | (simp only [vdn]; omega)) ?_
  try simp only [Int.toNat_natCast, upM_at, upM_nef, ne_eq, not_false_eq_true, Nat.reduceEqDiff, Nat.reduceAdd]
  refine v_iald hC dX3_askNext_15 rfl rfl rfl (by first | decide | (simp only [vdn]; omega)) ⟨by first | omega | (simp only [mlen]; omega), by first | omega | (simp only [mlen]; omega)⟩ ?_
  try simp only [Int.toNat_natCast, upM_at, upM_nef, ne_eq, not_false_eq_true, Nat.reduceEqDiff, Nat.reduceAdd]
  rw [hse]
  refine v_istore_n hC 3 dX3_askNext_16 rfl (Nat.le_of_ble_eq_true rfl) ?_
  refine v_aload_n hC 2 dX3_askNext_17 rfl rfl ?_
  refine v_dupR hC dX3_askNext_18 ?_
  refine v_getI hC foX3_133 dX3_askNext_19 rfl rfl rfl (by first | decide | (simp only [vdn]; omega)) ?_
  try simp only [Int.toNat_natCast, upM_at, upM_nef, ne_eq, not_false_eq_true, Nat.reduceEqDiff, Nat.reduceAdd]
  refine v_iconst hC dX3_askNext_22 ⟨by decide, by decide⟩ ?_
  refine v_iadd hC dX3_askNext_23 ⟨by omega, by omega⟩ ?_
  refine v_putI hC fwX3_133 dX3_askNext_24 rfl rfl rfl (by decide) (by first | decide | (simp only [vdn]; omega)) ?_
  refine v_aload_n hC 0 dX3_askNext_27 rfl rfl ?_
  refine v_iload_n hC 3 dX3_askNext_28 rfl rfl ?_
  refine v_iload_n hC 1 dX3_askNext_29 rfl rfl ?_
  refine v_callV2 hC (cwX3_173 hC ⟨Nat.le_of_ble_eq_true rfl, Nat.le_of_ble_eq_true rfl⟩) dX3_askNext_30 rfl rfl rfl (Nat.zero_le _) (Nat.zero_le _) (Nat.le_of_ble_eq_true rfl) (by first | decide | (simp only [vdn]; omega)) (cX3_choose_ok s p (upM μ 17 p (μ 17 p + 1)) hs (by omega) hSf1 hI1) (fun μ1 hp => ?_)
  obtain ⟨hF2, hP2⟩ := hp
  have hF2' : Fr [3, 4, 5, 17] μ μ1 := (Fr.up Fr.rf (by decide)).trans (hF2.mono (by decide))
  have e1 : μ1 1 0 = μ 1 0 := hF2' 1 0 (by decide)
  have eO : ∀ q, chO (upM μ 17 p (μ 17 p + 1)) s p q = chO μ s p q := fun q => by unfold chO anyP; rw [upM_nef (by decide), upM_nef (by decide)]
  have eC : ∀ q, q < (μ 1 0).toNat → chV (upM μ 17 p (μ 17 p + 1)) s (chO (upM μ 17 p (μ 17 p + 1)) s p) q = chV μ s (chO μ s p) q := chV_of (upM_nef (by decide)) (upM_nef (by decide)) (fun j => upM_nef (by decide)) (fun q k => (Fr.up Fr.rf (S := [17]) (by decide)).std (by decide) q s k) (fun q _ => eO q)
  obtain ⟨⟨z1, z2⟩, p2, p3, p4, p5⟩ := hP2
  have hq0 : ∀ q, q < (μ 1 0).toNat → μ1 5 q = chV μ s (chO μ s p) q := fun q hq => by rw [p2 q (by rw [e1]; exact hq), eC q hq]
  have hpool : ∀ q, q < (μ 1 0).toNat → ((∃ j : Nat, (j : Int) < μ1 3 0 ∧ μ1 4 j = (q : Int)) ↔ (chO μ s p q = true ∧ chV μ s (chO μ s p) q = -1)) := fun q hq => by
    refine ⟨fun ⟨j, h3, h4⟩ => ?_, fun ⟨h3, h4⟩ => p4 q (by rw [e1]; exact hq) (by rw [eO]; exact h3) (by rw [eC q hq]; exact h4)⟩
    obtain ⟨q', h5, h6, h7, h8⟩ := p3 j h3
    have : q' = q := by omega
    subst this
    rw [eO] at h7
    rw [eC q' hq] at h8
    exact ⟨h7, h8⟩
  refine v_iconst hC dX3_askNext_33 ⟨by decide, by decide⟩ ?_
  refine v_istore hC dX3_askNext_34 (Nat.le_of_ble_eq_true rfl) ?_
  refine v_loop (fun i : Nat => (μ1 3 0).toNat - i) (fun _ => True) (fun i => ∀ (μ3 : MU), i ≤ (μ1 3 0).toNat → Fr [15, 16] μ1 μ3 → (∀ q, q < (μ 1 0).toNat → (∃ j : Nat, j < i ∧ μ1 4 j = (q : Int)) → μ3 15 q = -1 ∧ μ3 16 q = -1) → (∀ q, q < (μ 1 0).toNat → ¬ (∃ j : Nat, j < i ∧ μ1 4 j = (q : Int)) → μ3 15 q = μ 15 q ∧ μ3 16 q = μ 16 q) → V x 0 0 none 36 [some (aR 0 0), some (aI p), some (aR 7 p), some (aI s), some (aI (i : Int))] [] μ3) (fun i _ ih μ3 a1 hF3 a2 a3 => ?_) 0 trivial μ1 (Nat.zero_le _) Fr.rf (fun q _ ⟨j, h, _⟩ => by omega) (fun q _ _ => ⟨hF2' 15 q (by decide), hF2' 16 q (by decide)⟩)
  have f3 : μ3 3 0 = μ1 3 0 := hF3 3 0 (by decide)
  have f4 : μ3 4 i = μ1 4 i := hF3 4 i (by decide)
  refine v_iload hC dX3_askNext_36 rfl ?_
  refine v_aload_n hC 0 dX3_askNext_38 rfl rfl ?_
  refine v_getI hC foX3_176 dX3_askNext_39 rfl rfl rfl (by first | decide | (simp only [vdn]; omega)) ?_
  try simp only [Int.toNat_natCast, upM_at, upM_nef, ne_eq, not_false_eq_true, Nat.reduceEqDiff, Nat.reduceAdd]
  refine v_icmp_ge hC 66 dX3_askNext_42 rfl (fun h42 => ?_) (fun h42 => ?_)
  · refine v_iconst hC dX3_askNext_66 ⟨by decide, by decide⟩ ?_
    refine v_istore hC dX3_askNext_67 (Nat.le_of_ble_eq_true rfl) ?_
    have hall : ∀ q, q < (μ 1 0).toNat → μ3 15 q = (if chO μ s p q = true ∧ chV μ s (chO μ s p) q = -1 then (-1 : Int) else μ 15 q) ∧ μ3 16 q = (if chO μ s p q = true ∧ chV μ s (chO μ s p) q = -1 then (-1 : Int) else μ 16 q) := fun q hq => by
      by_cases h : ∃ j : Nat, j < i ∧ μ1 4 j = (q : Int)
      · obtain ⟨j, h3, h4⟩ := h
        rw [if_pos ((hpool q hq).1 ⟨j, by omega, h4⟩), if_pos ((hpool q hq).1 ⟨j, by omega, h4⟩)]
        exact a2 q hq ⟨j, h3, h4⟩
      · have hn : ¬ (chO μ s p q = true ∧ chV μ s (chO μ s p) q = -1) := fun h5 => by
          obtain ⟨j, h3, h4⟩ := (hpool q hq).2 h5
          exact h ⟨j, by omega, h4⟩
        rw [if_neg hn, if_neg hn]
        exact a3 q hq h
    refine v_loop (fun i : Nat => (μ 1 0).toNat - i) (fun _ => True) (fun i => ∀ (μ4 : MU), i ≤ (μ 1 0).toNat → Fr [15, 16] μ1 μ4 → (∀ q, q < (μ 1 0).toNat → q < i → μ4 16 q = (if chO μ s p q = true then chV μ s (chO μ s p) q else μ 16 q) ∧ μ4 15 q = (if chO μ s p q = true then (if chV μ s (chO μ s p) q = -1 then -1 else (s : Int)) else μ 15 q)) → (∀ q, q < (μ 1 0).toNat → i ≤ q → μ4 15 q = (if chO μ s p q = true ∧ chV μ s (chO μ s p) q = -1 then (-1 : Int) else μ 15 q) ∧ μ4 16 q = (if chO μ s p q = true ∧ chV μ s (chO μ s p) q = -1 then (-1 : Int) else μ 16 q)) → V x 0 0 none 69 [some (aR 0 0), some (aI p), some (aR 7 p), some (aI s), some (aI (i : Int))] [] μ4) (fun i _ ih μ4 a1 hF4 a2 a3 => ?_) 0 trivial μ3 (Nat.zero_le _) hF3 (fun q _ h => by omega) (fun q hq _ => hall q hq)
    have g1 : μ4 1 0 = μ 1 0 := (hF4 1 0 (by decide)).trans e1
    have g5 : ∀ q, μ4 5 q = μ1 5 q := fun q => hF4 5 q (by decide)
    refine v_iload hC dX3_askNext_69 rfl ?_
    refine v_aload_n hC 0 dX3_askNext_71 rfl rfl ?_
    refine v_getI hC foX3_69 dX3_askNext_72 rfl rfl rfl (by first | decide | (simp only [vdn]; omega)) ?_
    try simp only [Int.toNat_natCast, upM_at, upM_nef, ne_eq, not_false_eq_true, Nat.reduceEqDiff, Nat.reduceAdd]
    refine v_icmp_ge hC 113 dX3_askNext_75 rfl (fun h75 => ?_) (fun h75 => ?_)
    · exact v_vret hC hR (Nat.le_refl _) (Nat.le_refl _) dX3_askNext_113 (⟨rfl, (hF2'.mono (by decide)).trans (hF4.mono (by decide)), fun q => by
        rw [hF4 17 q (by decide), hF2 17 q (by decide)]
        by_cases e : q = p
        · rw [e, upM_at, if_pos rfl]
        · rw [upM_ne (fun h => e h.2), if_neg e], fun q hq => a2 q hq (by omega)⟩)
    · refine v_aload_n hC 0 dX3_askNext_78 rfl rfl ?_
      refine v_getR hC foX3_29 dX3_askNext_79 rfl rfl rfl (by decide) (by first | decide | (simp only [vdn]; omega)) ?_
      refine v_iload hC dX3_askNext_82 rfl ?_
      refine v_iald hC dX3_askNext_84 rfl rfl rfl (by first | decide | (simp only [vdn]; omega)) ⟨by first | omega | (simp only [mlen]; omega), by first | omega | (simp only [mlen]; omega)⟩ ?_
      try simp only [Int.toNat_natCast, upM_at, upM_nef, ne_eq, not_false_eq_true, Nat.reduceEqDiff, Nat.reduceAdd]
      refine v_iconst hC dX3_askNext_85 ⟨by decide, by decide⟩ ?_
      refine v_icmp_eq hC 107 dX3_askNext_86 rfl (fun h86 => ?_) (fun h86 => ?_)
      · refine v_iinc hC dX3_askNext_107 rfl ⟨by omega, by omega⟩ ?_
        refine v_goto hC 69 dX3_askNext_110 rfl ?_
        rw [g5, hq0 i (by omega)] at h86
        refine ih (i + 1) trivial (by omega) μ4 (by omega) hF4 (fun q hq h => ?_) (fun q hq h => a3 q hq (by omega))
        by_cases e : q = i
        · have h9 := a3 q hq (by omega)
          rw [e] at h9 ⊢
          by_cases hO : chO μ s p i = true
          · simp [hO, h86] at h9 ⊢
            exact ⟨h9.2, h9.1⟩
          · simp [hO] at h9 ⊢
            exact ⟨h9.2, h9.1⟩
        · exact a2 q hq (by omega)
      · refine v_aload_n hC 0 dX3_askNext_89 rfl rfl ?_
        refine v_getR hC foX3_18 dX3_askNext_90 rfl rfl rfl (by decide) (by first | decide | (simp only [vdn]; omega)) ?_
        refine v_iload hC dX3_askNext_93 rfl ?_
        refine v_aald hC dX3_askNext_95 rfl rfl (fun _ => rfl) rfl (by decide) (by first | decide | (simp only [vdn]; omega)) ⟨by first | omega | (simp only [mlen]; omega), by first | omega | (simp only [mlen]; omega)⟩ ?_
        try simp only [Int.toNat_natCast, upM_at, upM_nef, ne_eq, not_false_eq_true, Nat.reduceEqDiff, Nat.reduceAdd]
        refine v_iload_n hC 3 dX3_askNext_96 rfl rfl ?_
        refine v_aload_n hC 0 dX3_askNext_97 rfl rfl ?_
        refine v_getR hC foX3_29 dX3_askNext_98 rfl rfl rfl (by decide) (by first | decide | (simp only [vdn]; omega)) ?_
        refine v_iload hC dX3_askNext_101 rfl ?_
        refine v_iald hC dX3_askNext_103 rfl rfl rfl (by first | decide | (simp only [vdn]; omega)) ⟨by first | omega | (simp only [mlen]; omega), by first | omega | (simp only [mlen]; omega)⟩ ?_
        try simp only [Int.toNat_natCast, upM_at, upM_nef, ne_eq, not_false_eq_true, Nat.reduceEqDiff, Nat.reduceAdd]
        refine v_callV2 hC (cwX3_126 hC ⟨Nat.le_of_ble_eq_true rfl, Nat.le_of_ble_eq_true rfl⟩) dX3_askNext_104 rfl rfl rfl (Nat.zero_le _) (Nat.zero_le _) (Nat.le_of_ble_eq_true rfl) (by first | decide | (simp only [vdn]; omega)) (cX1_sitAt_ok i s (μ4 5 i) μ4 (by omega)) (fun μ1 hp => ?_)
        subst hp
        refine v_iinc hC dX3_askNext_107 rfl ⟨by omega, by omega⟩ ?_
        refine v_goto hC 69 dX3_askNext_110 rfl ?_
        rw [g5, hq0 i (by omega)] at h86
        rw [g5, hq0 i (by omega)]
        refine ih (i + 1) trivial (by omega) _ (by omega) ((hF4.up (by decide)).up (by decide)) (fun q hq h => ?_) (fun q hq h => ?_)
        · by_cases e : q = i
          · have hO := (chV_in h86).1
            rw [e, sit16, sit15, if_pos hO, if_pos hO, if_neg h86]
            exact ⟨rfl, rfl⟩
          · rw [sit_ne 16 e, sit_ne 15 e]
            exact a2 q hq (by omega)
        · have e : q ≠ i := by omega
          rw [sit_ne 15 e, sit_ne 16 e]
          exact a3 q hq (by omega)
  · refine v_aload_n hC 0 dX3_askNext_45 rfl rfl ?_
    refine v_getR hC foX3_18 dX3_askNext_46 rfl rfl rfl (by decide) (by first | decide | (simp only [vdn]; omega)) ?_
    refine v_aload_n hC 0 dX3_askNext_49 rfl rfl ?_
    refine v_getR hC foX3_25 dX3_askNext_50 rfl rfl rfl (by decide) (by first | decide | (simp only [vdn]; omega)) ?_
    refine v_iload hC dX3_askNext_53 rfl ?_
    refine v_iald hC dX3_askNext_55 rfl rfl rfl (by first | decide | (simp only [vdn]; omega)) ⟨by first | omega | (simp only [mlen]; omega), by first | omega | (simp only [mlen]; omega)⟩ ?_
    try simp only [Int.toNat_natCast, upM_at, upM_nef, ne_eq, not_false_eq_true, Nat.reduceEqDiff, Nat.reduceAdd]
    rw [f4]
    obtain ⟨pj, hpj, hpj2, -, -⟩ := p3 i (by omega)
    rw [e1] at hpj2
    rw [hpj]
    refine v_aald hC dX3_askNext_56 rfl rfl (fun _ => rfl) rfl (by decide) (by first | decide | (simp only [vdn]; omega)) ⟨by first | omega | (simp only [mlen]; omega), by first | omega | (simp only [mlen]; omega)⟩ ?_
    try simp only [Int.toNat_natCast, upM_at, upM_nef, ne_eq, not_false_eq_true, Nat.reduceEqDiff, Nat.reduceAdd]
    refine v_callV0 hC (cwX3_179 hC ⟨Nat.le_of_ble_eq_true rfl, Nat.le_of_ble_eq_true rfl⟩) dX3_askNext_57 rfl rfl rfl (Nat.zero_le _) (Nat.zero_le _) (Nat.le_of_ble_eq_true rfl) (by first | decide | (simp only [vdn]; omega)) (cX1_giveUpSeat_ok pj μ3 (by omega)) (fun μ1 hp => ?_)
    subst hp
    refine v_iinc hC dX3_askNext_60 rfl ⟨by omega, by omega⟩ ?_
    refine v_goto hC 36 dX3_askNext_63 rfl ?_
    refine ih (i + 1) trivial (by omega) _ (by omega) ((hF3.up (by decide)).up (by decide)) (fun q hq ⟨j, h3, h4⟩ => ?_) (fun q hq hn => ?_)
    · by_cases e : q = pj
      · rw [e]
        exact ⟨sit15 _ _ _ _, sit16 _ _ _ _⟩
      · have hji : j ≠ i := fun h => e (by rw [h, hpj] at h4; omega)
        have h9 := a2 q hq ⟨j, by omega, h4⟩
        exact ⟨(sit_ne 15 e).trans h9.1, (sit_ne 16 e).trans h9.2⟩
    · have e : q ≠ pj := fun h => hn ⟨i, by omega, by rw [hpj, h]⟩
      have h9 := a3 q hq (fun ⟨j, h3, h4⟩ => hn ⟨j, by omega, h4⟩)
      exact ⟨(sit_ne 15 e).trans h9.1, (sit_ne 16 e).trans h9.2⟩
abbrev rmX3_blocks : Room := { frames := 5, cells := 0, slots := 0, locals := 122 }
set_option maxRecDepth 100000 in
set_option maxHeartbeats 4000000 in
theorem cX3_blocks_ok (p s : Nat) (μ : MU) (hp : p < (μ 1 0).toNat) (hs : s < 6) (hSf : Sf μ) (hI : Inj μ s) : CTi yX3_blocks cX3_blocks 4 (some .boolean) rmX3_blocks [aR 0 0, aI p, aI s] μ (fun r μ' => Fr [3, 4, 5] μ μ' ∧ r = bI (¬ μ 18 p = 3 ∧ prefP μ p s ∧ ¬ chV μ s (chO μ s p) p = -1)) := by
  intro l9 b9 D9 K9
  refine met_of (by decide) (Nat.le_of_ble_eq_true rfl) (fun x hC hR hM hA => ?_)
  have hC : Ctx x RX3 cX3_blocks rmX3_blocks := hC
  have hSf0 := hSf
  have hp0 := hp
  obtain ⟨⟨s1, s2⟩, ⟨n1, n2⟩, hr, hkc, hq, hpp, hli, hnu⟩ := hSf
  have hp1 := hpp p (by omega)
  refine v_aload_n hC 0 dX3_blocks_0 rfl rfl ?_
  refine v_getR hC foX3_18 dX3_blocks_1 rfl rfl rfl (by decide) (by first | decide | (simp only [vdn]; omega)) ?_
  refine v_iload_n hC 1 dX3_blocks_4 rfl rfl ?_
  refine v_aald hC dX3_blocks_5 rfl rfl (fun _ => rfl) rfl (by decide) (by first | decide | (simp only [vdn]; omega)) ⟨by first | omega | (simp only [mlen]; omega), by first | omega | (simp only [mlen]; omega)⟩ ?_
  try simp only [Int.toNat_natCast, upM_at, upM_nef, ne_eq, not_false_eq_true, Nat.reduceEqDiff, Nat.reduceAdd]
  refine v_astore_n hC 3 dX3_blocks_6 rfl (Nat.le_of_ble_eq_true rfl) ?_
  refine v_aload_n hC 3 dX3_blocks_7 rfl rfl ?_
  refine v_callI0 hC (cwX3_104 hC ⟨Nat.le_of_ble_eq_true rfl, Nat.le_of_ble_eq_true rfl⟩) dX3_blocks_8 rfl rfl rfl (Nat.zero_le _) (Nat.zero_le _) (Nat.le_of_ble_eq_true rfl) (by first | decide | (simp only [vdn]; omega)) (cX1_hasLeft_ok p μ (by omega)) (fun r1 μ1 hp => ?_)
  obtain ⟨rfl, rfl⟩ := hp
  refine v_if_ne hC 22 dX3_blocks_11 rfl (fun h11 => ?_) (fun h11 => ?_)
  · refine v_iconst hC dX3_blocks_22 ⟨by decide, by decide⟩ ?_
    exact v_bret hC hR dX3_blocks_23 (by omega) (⟨_, rfl, Fr.rf, bI_f (fun q => q.1 (bI_n.1 h11))⟩)
  · refine v_aload_n hC 3 dX3_blocks_14 rfl rfl ?_
    refine v_iload_n hC 2 dX3_blocks_15 rfl rfl ?_
    refine v_callI1 hC (cwX3_150 hC ⟨Nat.le_of_ble_eq_true rfl, Nat.le_of_ble_eq_true rfl⟩) dX3_blocks_16 rfl rfl rfl (Nat.zero_le _) (Nat.zero_le _) (Nat.le_of_ble_eq_true rfl) (by first | decide | (simp only [vdn]; omega)) (cX1_prefers_ok p s μ (by omega) hp1.1 hp1.2.1) (fun r1 μ1 hp => ?_)
    obtain ⟨rfl, rfl⟩ := hp
    refine v_if_ne hC 24 dX3_blocks_19 rfl (fun h19 => ?_) (fun h19 => ?_)
    · refine v_aload_n hC 0 dX3_blocks_24 rfl rfl ?_
      refine v_iload_n hC 2 dX3_blocks_25 rfl rfl ?_
      refine v_iload_n hC 1 dX3_blocks_26 rfl rfl ?_
      refine v_callV2 hC (cwX3_173 hC ⟨Nat.le_of_ble_eq_true rfl, Nat.le_of_ble_eq_true rfl⟩) dX3_blocks_27 rfl rfl rfl (Nat.zero_le _) (Nat.zero_le _) (Nat.le_of_ble_eq_true rfl) (by first | decide | (simp only [vdn]; omega)) (cX3_choose_ok s p μ hs (by omega) hSf0 hI) (fun μ1 hp => ?_)
      obtain ⟨hF1, hP1⟩ := hp
      have e5 : μ1 5 p = chV μ s (chO μ s p) p := hP1.2.1 p (by rw [hF1 1 0 (by decide)]; exact hp0)
      refine v_aload_n hC 0 dX3_blocks_30 rfl rfl ?_
      refine v_getR hC foX3_29 dX3_blocks_31 rfl rfl rfl (by decide) (by first | decide | (simp only [vdn]; omega)) ?_
      refine v_iload_n hC 1 dX3_blocks_34 rfl rfl ?_
      refine v_iald hC dX3_blocks_35 rfl rfl rfl (by first | decide | (simp only [vdn]; omega)) ⟨by first | omega | (simp only [mlen]; omega), by first | omega | (simp only [mlen]; omega)⟩ ?_
      try simp only [Int.toNat_natCast, upM_at, upM_nef, ne_eq, not_false_eq_true, Nat.reduceEqDiff, Nat.reduceAdd]
      refine v_iconst hC dX3_blocks_36 ⟨by decide, by decide⟩ ?_
      refine v_icmp_eq hC 44 dX3_blocks_37 rfl (fun h37 => ?_) (fun h37 => ?_)
      · refine v_iconst hC dX3_blocks_44 ⟨by decide, by decide⟩ ?_
        exact v_bret hC hR dX3_blocks_45 (by omega) (⟨_, rfl, hF1, bI_f (fun q => q.2.2 (by rw [← e5]; exact h37))⟩)
      · refine v_iconst hC dX3_blocks_40 ⟨by decide, by decide⟩ ?_
        refine v_goto hC 45 dX3_blocks_41 rfl ?_
        exact v_bret hC hR dX3_blocks_45 (by omega) (⟨_, rfl, hF1, bI_t ⟨bI_z.1 h11, bI_n.1 h19, fun q => h37 (by rw [e5]; exact q)⟩⟩)
    · refine v_iconst hC dX3_blocks_22 ⟨by decide, by decide⟩ ?_
      exact v_bret hC hR dX3_blocks_23 (by omega) (⟨_, rfl, Fr.rf, bI_f (fun q => bI_z.1 h19 q.2.1)⟩)
/-- the move that a chain makes next -/
def frP (μ : MU) (s k : Nat) : Prop := cntF (fun p => decide (holdP μ p s k)) (μ 1 0).toNat < μ 9 (3 * s + k)
def fwF (μ : MU) (s k : Nat) : Int := bst (μ 1 0).toNat (fun p => stdF μ p s k) 100000 (fun p => decide (waitP μ p s))
def mvK (μ : MU) (s : Nat) : Option Nat := fnd (fun k => decide (cntF (fun p => decide (holdP μ p s k)) (μ 1 0).toNat < μ 9 (3 * s + k) ∧ ¬ fwF μ s k = -1)) 0 (μ 6 s).toNat
def mvS (μ : MU) : Option Nat := fnd (fun s => (mvK μ s).isSome) 0 (μ 0 0).toNat
def mvM (μ : MU) : MU := match mvS μ with
  | none => μ
  | some s => match mvK μ s with
    | none => μ
    | some k => sitM μ (fwF μ s k).toNat s k
theorem mvM_none {μ : MU} (h : mvS μ = none) : mvM μ = μ := by
  unfold mvM; rw [h]
theorem fwF_r (μ : MU) (s k : Nat) (h : ¬ fwF μ s k = -1) : ∃ p : Nat, fwF μ s k = (p : Int) ∧ p < (μ 1 0).toNat ∧ waitP μ p s ∧ stdF μ p s k < 100000 := by
  rcases bst_spec (μ 1 0).toNat (fun p => stdF μ p s k) 100000 (fun p => decide (waitP μ p s)) with ⟨e, -⟩ | ⟨p, hp, e, hE, hlt, -⟩
  · exact absurd e h
  · exact ⟨p, e, hp, of_decide_eq_true hE, hlt⟩
abbrev rmX3_moveOne : Room := { frames := 4, cells := 0, slots := 0, locals := 91 }
set_option maxRecDepth 100000 in
set_option maxHeartbeats 4000000 in
theorem cX3_moveOne_ok (μ : MU) (hSf : Sf μ) : CTi yX3_moveOne cX3_moveOne 4 (some .boolean) rmX3_moveOne [aR 0 0] μ (fun r μ' => mvM μ = μ' ∧ r = bI ((mvS μ).isSome = true)) := by
  intro l9 b9 D9 K9
  refine met_of (by decide) (Nat.le_of_ble_eq_true rfl) (fun x hC hR hM hA => ?_)
  have hC : Ctx x RX3 cX3_moveOne rmX3_moveOne := hC
  have hSf0 := hSf
  obtain ⟨⟨s1, s2⟩, ⟨n1, n2⟩, hr, hkc, hq, hpp, hli, hnu⟩ := hSf
  refine v_iconst hC dX3_moveOne_0 ⟨by decide, by decide⟩ ?_
  refine v_istore_n hC 1 dX3_moveOne_1 rfl (Nat.le_of_ble_eq_true rfl) ?_
  refine v_loop (fun s : Nat => (μ 0 0).toNat - s) (fun s => s ≤ 6 ∧ fnd (fun s => (mvK μ s).isSome) s ((μ 0 0).toNat - s) = mvS μ) (fun s => V x 0 0 none 2 [some (aR 0 0), some (aI (s : Int)), none, none] [] μ) (fun s hs ih => ?_) 0 ⟨by decide, rfl⟩
  refine v_iload_n hC 1 dX3_moveOne_2 rfl rfl ?_
  refine v_aload_n hC 0 dX3_moveOne_3 rfl rfl ?_
  refine v_getI hC foX3_36 dX3_moveOne_4 rfl rfl rfl (by first | decide | (simp only [vdn]; omega)) ?_
  try simp only [Int.toNat_natCast, upM_at, upM_nef, ne_eq, not_false_eq_true, Nat.reduceEqDiff, Nat.reduceAdd]
  refine v_icmp_ge hC 85 dX3_moveOne_7 rfl (fun h7 => ?_) (fun h7 => ?_)
  · refine v_iconst hC dX3_moveOne_85 ⟨by decide, by decide⟩ ?_
    exact v_bret hC hR dX3_moveOne_86 (by omega) (⟨_, rfl, mvM_none (by rw [← hs.2, fnd_done (by omega)]), bI_f (by rw [← hs.2, fnd_done (by omega)]; exact Bool.false_ne_true)⟩)
  · refine v_iconst hC dX3_moveOne_10 ⟨by decide, by decide⟩ ?_
    refine v_istore_n hC 2 dX3_moveOne_11 rfl (Nat.le_of_ble_eq_true rfl) ?_
    have hk1 := hkc s (by omega)
    refine v_loop (fun k : Nat => (μ 6 s).toNat - k) (fun k => k ≤ 3 ∧ fnd (fun k => decide (cntF (fun p => decide (holdP μ p s k)) (μ 1 0).toNat < μ 9 (3 * s + k) ∧ ¬ fwF μ s k = -1)) k ((μ 6 s).toNat - k) = mvK μ s) (fun k => V x 0 0 none 12 [some (aR 0 0), some (aI (s : Int)), some (aI (k : Int)), none] [] μ) (fun k hk ih2 => ?_) 0 ⟨by decide, rfl⟩
    refine v_iload_n hC 2 dX3_moveOne_12 rfl rfl ?_
    refine v_aload_n hC 0 dX3_moveOne_13 rfl rfl ?_
    refine v_getR hC foX3_11 dX3_moveOne_14 rfl rfl rfl (by decide) (by first | decide | (simp only [vdn]; omega)) ?_
    refine v_iload_n hC 1 dX3_moveOne_17 rfl rfl ?_
    refine v_aald hC dX3_moveOne_18 rfl rfl (fun _ => rfl) rfl (by decide) (by first | decide | (simp only [vdn]; omega)) ⟨by first | omega | (simp only [mlen]; omega), by first | omega | (simp only [mlen]; omega)⟩ ?_
    try simp only [Int.toNat_natCast, upM_at, upM_nef, ne_eq, not_false_eq_true, Nat.reduceEqDiff, Nat.reduceAdd]
    refine v_getI hC foX3_50 dX3_moveOne_19 rfl rfl rfl (by first | decide | (simp only [vdn]; omega)) ?_
    try simp only [Int.toNat_natCast, upM_at, upM_nef, ne_eq, not_false_eq_true, Nat.reduceEqDiff, Nat.reduceAdd]
    refine v_icmp_ge hC 79 dX3_moveOne_22 rfl (fun h22 => ?_) (fun h22 => ?_)
    · refine v_iinc hC dX3_moveOne_79 rfl ⟨by omega, by omega⟩ ?_
      refine v_goto hC 2 dX3_moveOne_82 rfl ?_
      refine v_forget 2 (v_forget 3 ?_)
      exact ih (s + 1) ⟨by omega, fnd_next (by omega) (by rw [← hk.2, fnd_done (by omega)]; exact Bool.false_ne_true) hs.2⟩ (by omega)
    · refine v_aload_n hC 0 dX3_moveOne_25 rfl rfl ?_
      refine v_iload_n hC 1 dX3_moveOne_26 rfl rfl ?_
      refine v_iload_n hC 2 dX3_moveOne_27 rfl rfl ?_
      refine v_callI2 hC (cwX3_139 hC ⟨Nat.le_of_ble_eq_true rfl, Nat.le_of_ble_eq_true rfl⟩) dX3_moveOne_28 rfl rfl rfl (Nat.zero_le _) (Nat.zero_le _) (Nat.le_of_ble_eq_true rfl) (by first | decide | (simp only [vdn]; omega)) (cX3_countHolders_ok s k μ hSf0) (fun r1 μ1 hp => ?_)
      obtain ⟨rfl, rfl⟩ := hp
      refine v_aload_n hC 0 dX3_moveOne_31 rfl rfl ?_
      refine v_getR hC foX3_11 dX3_moveOne_32 rfl rfl rfl (by decide) (by first | decide | (simp only [vdn]; omega)) ?_
      refine v_iload_n hC 1 dX3_moveOne_35 rfl rfl ?_
      refine v_aald hC dX3_moveOne_36 rfl rfl (fun _ => rfl) rfl (by decide) (by first | decide | (simp only [vdn]; omega)) ⟨by first | omega | (simp only [mlen]; omega), by first | omega | (simp only [mlen]; omega)⟩ ?_
      try simp only [Int.toNat_natCast, upM_at, upM_nef, ne_eq, not_false_eq_true, Nat.reduceEqDiff, Nat.reduceAdd]
      refine v_getR hC foX3_53 dX3_moveOne_37 rfl rfl rfl (by decide) (by first | decide | (simp only [vdn]; omega)) ?_
      refine v_iload_n hC 2 dX3_moveOne_40 rfl rfl ?_
      refine v_aald hC dX3_moveOne_41 rfl rfl (fun _ => rfl) rfl (by decide) (by first | decide | (simp only [vdn]; omega)) ⟨by first | omega | (simp only [mlen]; omega), by first | omega | (simp only [mlen]; omega)⟩ ?_
      try simp only [Int.toNat_natCast, upM_at, upM_nef, ne_eq, not_false_eq_true, Nat.reduceEqDiff, Nat.reduceAdd]
      refine v_getI hC foX3_57 dX3_moveOne_42 rfl rfl rfl (by first | decide | (simp only [vdn]; omega)) ?_
      try simp only [Int.toNat_natCast, upM_at, upM_nef, ne_eq, not_false_eq_true, Nat.reduceEqDiff, Nat.reduceAdd]
      refine v_icmp_ge hC 73 dX3_moveOne_45 rfl (fun h45 => ?_) (fun h45 => ?_)
      · refine v_iinc hC dX3_moveOne_73 rfl ⟨by omega, by omega⟩ ?_
        refine v_goto hC 12 dX3_moveOne_76 rfl ?_
        exact ih2 (k + 1) ⟨by omega, fnd_next (by omega) (fun h => by have := (of_decide_eq_true h).1; omega) hk.2⟩ (by omega)
      · refine v_aload_n hC 0 dX3_moveOne_48 rfl rfl ?_
        refine v_iload_n hC 1 dX3_moveOne_49 rfl rfl ?_
        refine v_iload_n hC 2 dX3_moveOne_50 rfl rfl ?_
        refine v_callI2 hC (cwX3_191 hC ⟨Nat.le_of_ble_eq_true rfl, Nat.le_of_ble_eq_true rfl⟩) dX3_moveOne_51 rfl rfl rfl (Nat.zero_le _) (Nat.zero_le _) (Nat.le_of_ble_eq_true rfl) (by first | decide | (simp only [vdn]; omega)) (cX3_firstWaiting_ok s k μ (by omega) (by omega) hSf0) (fun r1 μ1 hp => ?_)
        obtain ⟨rfl, hr9⟩ := hp
        have hr9 : r1 = fwF μ s k := hr9
        subst hr9
        refine v_istore_n hC 3 dX3_moveOne_54 rfl (Nat.le_of_ble_eq_true rfl) ?_
        refine v_iload_n hC 3 dX3_moveOne_55 rfl rfl ?_
        refine v_iconst hC dX3_moveOne_56 ⟨by decide, by decide⟩ ?_
        refine v_icmp_eq hC 73 dX3_moveOne_57 rfl (fun h57 => ?_) (fun h57 => ?_)
        · refine v_iinc hC dX3_moveOne_73 rfl ⟨by omega, by omega⟩ ?_
          refine v_goto hC 12 dX3_moveOne_76 rfl ?_
          refine v_forget 3 ?_
          exact ih2 (k + 1) ⟨by omega, fnd_next (by omega) (fun h => (of_decide_eq_true h).2 h57) hk.2⟩ (by omega)
        · obtain ⟨pw, e9, hpw, -, -⟩ := fwF_r μ s k h57
          have hmk : mvK μ s = some k := by rw [← hk.2, fnd_yes (by omega) (decide_eq_true ⟨by omega, h57⟩)]
          have hms : mvS μ = some s := by rw [← hs.2, fnd_yes (by omega) (by rw [hmk]; rfl)]
          have hmm : mvM μ = sitM μ pw s k := by unfold mvM; rw [hms]; dsimp only; rw [hmk]; dsimp only; rw [e9, Int.toNat_natCast]
          rw [e9]
          refine v_aload_n hC 0 dX3_moveOne_60 rfl rfl ?_
          refine v_getR hC foX3_18 dX3_moveOne_61 rfl rfl rfl (by decide) (by first | decide | (simp only [vdn]; omega)) ?_
          refine v_iload_n hC 3 dX3_moveOne_64 rfl rfl ?_
          refine v_aald hC dX3_moveOne_65 rfl rfl (fun _ => rfl) rfl (by decide) (by first | decide | (simp only [vdn]; omega)) ⟨by first | omega | (simp only [mlen]; omega), by first | omega | (simp only [mlen]; omega)⟩ ?_
          try simp only [Int.toNat_natCast, upM_at, upM_nef, ne_eq, not_false_eq_true, Nat.reduceEqDiff, Nat.reduceAdd]
          refine v_iload_n hC 1 dX3_moveOne_66 rfl rfl ?_
          refine v_iload_n hC 2 dX3_moveOne_67 rfl rfl ?_
          refine v_callV2 hC (cwX3_126 hC ⟨Nat.le_of_ble_eq_true rfl, Nat.le_of_ble_eq_true rfl⟩) dX3_moveOne_68 rfl rfl rfl (Nat.zero_le _) (Nat.zero_le _) (Nat.le_of_ble_eq_true rfl) (by first | decide | (simp only [vdn]; omega)) (cX1_sitAt_ok pw s k μ (by omega)) (fun μ1 hp => ?_)
          subst hp
          refine v_iconst hC dX3_moveOne_71 ⟨by decide, by decide⟩ ?_
          exact v_bret hC hR dX3_moveOne_72 (by omega) (⟨_, rfl, hmm, bI_t (by rw [hms]; rfl)⟩)
