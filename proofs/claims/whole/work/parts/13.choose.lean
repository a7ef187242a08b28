/-! The office chooses, asks, moves. -/
theorem Fr.inj {S : List Nat} {a b : MU} (h : Fr S a b) {s : Nat} (hI : Inj a s) (h1 : 1 ∉ S) (h12 : 12 ∉ S) : Inj b s := fun p p' hp hp' e => hI p p' (by rw [← h 1 0 h1]; exact hp) (by rw [← h 1 0 h1]; exact hp') (by rw [← h 12 _ h12, ← h 12 _ h12]; exact e)
def chO (μ : MU) (s one p : Nat) : Bool := decide (p = one ∨ anyP μ p s)
/-- the pool while it is filled: those below i -/
def PB (μ : MU) (O : Nat → Bool) (i : Nat) : Prop :=
  (0 ≤ μ 3 0 ∧ μ 3 0 ≤ i) ∧ (∀ p, p < i → μ 5 p = -1) ∧ (∀ j : Nat, (j : Int) < μ 3 0 → ∃ p : Nat, μ 4 j = (p : Int) ∧ p < i ∧ O p = true) ∧
  (∀ p : Nat, p < i → O p = true → ∃ j : Nat, (j : Int) < μ 3 0 ∧ μ 4 j = (p : Int)) ∧ (∀ i j : Nat, (i : Int) < μ 3 0 → (j : Int) < μ 3 0 → μ 4 i = μ 4 j → i = j)
theorem PB.out {μ : MU} {O : Nat → Bool} {i : Nat} (h : PB μ O i) (hO : ¬ O i = true) : PB (upM μ 5 i (-1)) O (i + 1) := by
  obtain ⟨h1, h2, h3, h4, h5⟩ := h
  have e3 : upM μ 5 i (-1) 3 0 = μ 3 0 := upM_nef (by decide)
  have e4 : ∀ j, upM μ 5 i (-1) 4 j = μ 4 j := fun j => upM_nef (by decide)
  refine ⟨by rw [e3]; omega, fun p hp => ?_, fun j hj => ?_, fun p hp hq => ?_, fun a b ha hb e => ?_⟩
  · by_cases q : p = i
    · rw [q, upM_at]
    · rw [upM_ne (fun h => q h.2)]; exact h2 p (by omega)
  · rw [e3] at hj
    obtain ⟨p, a1, a2, a3⟩ := h3 j hj
    exact ⟨p, by rw [e4]; exact a1, by omega, a3⟩
  · have : p ≠ i := fun q => hO (q ▸ hq)
    obtain ⟨j, a1, a2⟩ := h4 p (by omega) hq
    exact ⟨j, by rw [e3]; exact a1, by rw [e4]; exact a2⟩
  · rw [e3] at ha hb
    rw [e4, e4] at e
    exact h5 a b ha hb e
theorem PB.inn {μ : MU} {O : Nat → Bool} {i : Nat} (h : PB μ O i) (hO : O i = true) : PB (upM (upM (upM μ 5 i (-1)) 4 (μ 3 0).toNat (i : Int)) 3 0 (μ 3 0 + 1)) O (i + 1) := by
  obtain ⟨h1, h2, h3, h4, h5⟩ := h
  have e3 : (upM (upM (upM μ 5 i (-1)) 4 (μ 3 0).toNat (i : Int)) 3 0 (μ 3 0 + 1)) 3 0 = μ 3 0 + 1 := upM_at _ _ _ _
  have e4 : ∀ j, (upM (upM (upM μ 5 i (-1)) 4 (μ 3 0).toNat (i : Int)) 3 0 (μ 3 0 + 1)) 4 j = if j = (μ 3 0).toNat then (i : Int) else μ 4 j := fun j => by
    rw [upM_nef (by decide)]
    by_cases q : j = (μ 3 0).toNat
    · rw [q, upM_at, if_pos rfl]
    · rw [upM_ne (fun h => q h.2), upM_nef (by decide), if_neg q]
  have e5 : ∀ j, (upM (upM (upM μ 5 i (-1)) 4 (μ 3 0).toNat (i : Int)) 3 0 (μ 3 0 + 1)) 5 j = if j = i then -1 else μ 5 j := fun j => by
    rw [upM_nef (by decide), upM_nef (by decide)]
    by_cases q : j = i
    · rw [q, upM_at, if_pos rfl]
    · rw [upM_ne (fun h => q h.2), if_neg q]
  refine ⟨by rw [e3]; omega, fun p hp => ?_, fun j hj => ?_, fun p hp hq => ?_, fun a b ha hb e => ?_⟩
  · rw [e5]
    split
    · rfl
    · exact h2 p (by omega)
  · rw [e3] at hj
    rw [e4]
    by_cases q : j = (μ 3 0).toNat
    · rw [if_pos q]; exact ⟨i, rfl, by omega, hO⟩
    · rw [if_neg q]
      obtain ⟨p, a1, a2, a3⟩ := h3 j (by omega)
      exact ⟨p, a1, by omega, a3⟩
  · by_cases q : p = i
    · exact ⟨(μ 3 0).toNat, by rw [e3]; omega, by rw [e4, if_pos rfl, q]⟩
    · obtain ⟨j, a1, a2⟩ := h4 p (by omega) hq
      exact ⟨j, by rw [e3]; omega, by rw [e4, if_neg (by omega)]; exact a2⟩
  · rw [e3] at ha hb
    rw [e4, e4] at e
    by_cases q1 : a = (μ 3 0).toNat
    · by_cases q2 : b = (μ 3 0).toNat
      · omega
      · rw [if_pos q1, if_neg q2] at e
        obtain ⟨p, a1, a2, a3⟩ := h3 b (by omega)
        omega
    · by_cases q2 : b = (μ 3 0).toNat
      · rw [if_neg q1, if_pos q2] at e
        obtain ⟨p, a1, a2, a3⟩ := h3 a (by omega)
        omega
      · rw [if_neg q1, if_neg q2] at e
        exact h5 a b (by omega) (by omega) e
theorem PB.done {μ : MU} {O : Nat → Bool} {i : Nat} (h : PB μ O i) (hi : i = (μ 1 0).toNat) (h1 : 0 ≤ μ 1 0) : PI μ O (fun _ => -1) := by
  obtain ⟨a1, a2, a3, a4, a5⟩ := h
  subst hi
  refine ⟨by omega, a2, fun j hj => ?_, fun p hp hO _ => a4 p hp hO, a5⟩
  obtain ⟨p, b1, b2, b3⟩ := a3 j hj
  exact ⟨p, b1, b2, b3, rfl⟩
abbrev rmX3_takeFromPool : Room := { frames := 3, cells := 0, slots := 0, locals := 74 }
set_option maxRecDepth 100000 in
set_option maxHeartbeats 4000000 in
theorem cX3_takeFromPool_ok (s k : Nat) (OO : Nat → Bool) (T : Nat → Int) (μ : MU) (hs : s < 6) (hk : k < 3) (hSf : Sf μ) (hI : Inj μ s) (hP : PI μ OO T) : CTv yX3_takeFromPool cX3_takeFromPool 6 rmX3_takeFromPool [aR 0 0, aI s, aI k] μ (fun μ' => Fr [3, 4, 5] μ μ' ∧ PI μ' OO (tkK (μ 1 0).toNat (fun p => stdF μ p s k) 100000 OO k (μ 9 (3 * s + k)).toNat T)) := by
  intro l9 b9 D9 K9
  refine met_of (by decide) (Nat.le_of_ble_eq_true rfl) (fun x hC hR hM hA => ?_)
  have hC : Ctx x RX3 cX3_takeFromPool rmX3_takeFromPool := hC
  have hSf0 := hSf
  obtain ⟨⟨s1, s2⟩, ⟨n1, n2⟩, hr, hkc, hq, hpp, hli, hnu⟩ := hSf
  have hq1 := hq (3 * s + k) (by omega)
  refine v_aload_n hC 0 dX3_takeFromPool_0 rfl rfl ?_
  refine v_getR hC foX3_11 dX3_takeFromPool_1 rfl rfl rfl (by decide) (by first | decide | (simp only [vdn]; omega)) ?_
  refine v_iload_n hC 1 dX3_takeFromPool_4 rfl rfl ?_
  refine v_aald hC dX3_takeFromPool_5 rfl rfl (fun _ => rfl) rfl (by decide) (by first | decide | (simp only [vdn]; omega)) ⟨by first | omega | (simp only [mlen]; omega), by first | omega | (simp only [mlen]; omega)⟩ ?_
  try simp only [Int.toNat_natCast, upM_at, upM_nef, ne_eq, not_false_eq_true, Nat.reduceEqDiff, Nat.reduceAdd]
  refine v_getR hC foX3_53 dX3_takeFromPool_6 rfl rfl rfl (by decide) (by first | decide | (simp only [vdn]; omega)) ?_
  refine v_iload_n hC 2 dX3_takeFromPool_9 rfl rfl ?_
  refine v_aald hC dX3_takeFromPool_10 rfl rfl (fun _ => rfl) rfl (by decide) (by first | decide | (simp only [vdn]; omega)) ⟨by first | omega | (simp only [mlen]; omega), by first | omega | (simp only [mlen]; omega)⟩ ?_
  try simp only [Int.toNat_natCast, upM_at, upM_nef, ne_eq, not_false_eq_true, Nat.reduceEqDiff, Nat.reduceAdd]
  refine v_getI hC foX3_57 dX3_takeFromPool_11 rfl rfl rfl (by first | decide | (simp only [vdn]; omega)) ?_
  try simp only [Int.toNat_natCast, upM_at, upM_nef, ne_eq, not_false_eq_true, Nat.reduceEqDiff, Nat.reduceAdd]
  refine v_istore_n hC 3 dX3_takeFromPool_14 rfl (Nat.le_of_ble_eq_true rfl) ?_
  refine v_iconst hC dX3_takeFromPool_15 ⟨by decide, by decide⟩ ?_
  refine v_istore hC dX3_takeFromPool_16 (Nat.le_of_ble_eq_true rfl) ?_
  refine v_loop (fun i : Nat => (μ 9 (3 * s + k)).toNat - i) (fun _ => True) (fun i => ∀ (μ1 : MU) (T1 : Nat → Int), i ≤ 6 → Fr [3, 4, 5] μ μ1 → PI μ1 OO T1 → itr (fun _ T => tk1 (μ 1 0).toNat (fun p => stdF μ p s k) 100000 OO (k : Int) T) i ((μ 9 (3 * s + k)).toNat - i) T1 = tkK (μ 1 0).toNat (fun p => stdF μ p s k) 100000 OO k (μ 9 (3 * s + k)).toNat T → V x 0 0 none 18 [some (aR 0 0), some (aI s), some (aI k), some (aI (μ 9 (3 * s + k))), some (aI (i : Int)), none] [] μ1) (fun i _ ih μ1 T1 a1 hF1 hP1 a4 => ?_) 0 trivial μ T (by decide) Fr.rf hP rfl
  have e1 : μ1 1 0 = μ 1 0 := hF1 1 0 (by decide)
  have hSf1 : Sf μ1 := hF1.Sf hSf0 (by decide)
  have hfun : (fun p => stdF μ1 p s k) = (fun p => stdF μ p s k) := funext fun p => hF1.std (by decide) p s k
  have hfst := pool_first hs hk hSf1 (hF1.inj hI (by decide) (by decide)) hP1
  rw [hfun, e1] at hfst
  have hz := hP1.1
  refine v_iload hC dX3_takeFromPool_18 rfl ?_
  refine v_iload_n hC 3 dX3_takeFromPool_20 rfl rfl ?_
  refine v_icmp_ge hC 84 dX3_takeFromPool_21 rfl (fun h21 => ?_) (fun h21 => ?_)
  · exact v_vret hC hR (Nat.le_refl _) (Nat.le_refl _) dX3_takeFromPool_84 (⟨rfl, hF1, by rw [← a4, itr_done (by omega)]; exact hP1⟩)
  · refine v_aload_n hC 0 dX3_takeFromPool_24 rfl rfl ?_
    refine v_iload_n hC 1 dX3_takeFromPool_25 rfl rfl ?_
    refine v_iload_n hC 2 dX3_takeFromPool_26 rfl rfl ?_
    refine v_callI2 hC (cwX3_188 hC ⟨Nat.le_of_ble_eq_true rfl, Nat.le_of_ble_eq_true rfl⟩) dX3_takeFromPool_27 rfl rfl rfl (Nat.zero_le _) (Nat.zero_le _) (Nat.le_of_ble_eq_true rfl) (by first | decide | (simp only [vdn]; omega)) (cX3_firstInPool_ok s k μ1 hs hk hSf1 ⟨hz.1, by omega⟩ (fun j hj => by obtain ⟨p, c1, c2, -⟩ := hP1.2.2.1 j hj; omega)) (fun r1 μ1 hp => ?_)
    obtain ⟨rfl, rfl⟩ := hp
    rcases hfst with ⟨b1, b2⟩ | ⟨j, p, b1, b2, b3, b4, b5, b6, b7⟩
    · rw [b1]
      refine v_istore hC dX3_takeFromPool_30 (Nat.le_of_ble_eq_true rfl) ?_
      refine v_iload hC dX3_takeFromPool_32 rfl ?_
      refine v_iconst hC dX3_takeFromPool_34 ⟨by decide, by decide⟩ ?_
      refine v_icmp_ne hC 39 dX3_takeFromPool_35 rfl (fun h35 => ?_) (fun h35 => ?_)
      · exact absurd rfl h35
      · exact v_vret hC hR (Nat.le_refl _) (Nat.le_refl _) dX3_takeFromPool_38 (⟨rfl, hF1, by rw [← a4, itr_idle (tk1_idle b2)]; exact hP1⟩)
    · rw [b2]
      refine v_istore hC dX3_takeFromPool_30 (Nat.le_of_ble_eq_true rfl) ?_
      refine v_iload hC dX3_takeFromPool_32 rfl ?_
      refine v_iconst hC dX3_takeFromPool_34 ⟨by decide, by decide⟩ ?_
      refine v_icmp_ne hC 39 dX3_takeFromPool_35 rfl (fun h35 => ?_) (fun h35 => ?_)
      · refine v_aload_n hC 0 dX3_takeFromPool_39 rfl rfl ?_
        refine v_getR hC foX3_29 dX3_takeFromPool_40 rfl rfl rfl (by decide) (by first | decide | (simp only [vdn]; omega)) ?_
        refine v_aload_n hC 0 dX3_takeFromPool_43 rfl rfl ?_
        refine v_getR hC foX3_25 dX3_takeFromPool_44 rfl rfl rfl (by decide) (by first | decide | (simp only [vdn]; omega)) ?_
        refine v_iload hC dX3_takeFromPool_47 rfl ?_
        refine v_iald hC dX3_takeFromPool_49 rfl rfl rfl (by first | decide | (simp only [vdn]; omega)) ⟨by first | omega | (simp only [mlen]; omega), by first | omega | (simp only [mlen]; omega)⟩ ?_
        try simp only [Int.toNat_natCast, upM_at, upM_nef, ne_eq, not_false_eq_true, Nat.reduceEqDiff, Nat.reduceAdd]
        rw [b3]
        refine v_iload_n hC 2 dX3_takeFromPool_50 rfl rfl ?_
        refine v_iast hC dX3_takeFromPool_51 rfl rfl rfl (by decide) (by first | decide | (simp only [vdn]; omega)) ⟨by first | omega | (simp only [mlen]; omega), by first | omega | (simp only [mlen]; omega)⟩ ?_
        try simp only [Int.toNat_natCast, upM_at, upM_nef, ne_eq, not_false_eq_true, Nat.reduceEqDiff, Nat.reduceAdd]
        refine v_aload_n hC 0 dX3_takeFromPool_52 rfl rfl ?_
        refine v_dupR hC dX3_takeFromPool_53 ?_
        refine v_getI hC foX3_176 dX3_takeFromPool_54 rfl rfl rfl (by first | decide | (simp only [vdn]; omega)) ?_
        try simp only [Int.toNat_natCast, upM_at, upM_nef, ne_eq, not_false_eq_true, Nat.reduceEqDiff, Nat.reduceAdd]
        refine v_iconst hC dX3_takeFromPool_57 ⟨by decide, by decide⟩ ?_
        refine v_isub hC dX3_takeFromPool_58 ⟨by omega, by omega⟩ ?_
        refine v_putI hC fwX3_176 dX3_takeFromPool_59 rfl rfl rfl (by decide) (by first | decide | (simp only [vdn]; omega)) ?_
        refine v_aload_n hC 0 dX3_takeFromPool_62 rfl rfl ?_
        refine v_getR hC foX3_25 dX3_takeFromPool_63 rfl rfl rfl (by decide) (by first | decide | (simp only [vdn]; omega)) ?_
        refine v_iload hC dX3_takeFromPool_66 rfl ?_
        refine v_aload_n hC 0 dX3_takeFromPool_68 rfl rfl ?_
        refine v_getR hC foX3_25 dX3_takeFromPool_69 rfl rfl rfl (by decide) (by first | decide | (simp only [vdn]; omega)) ?_
        refine v_aload_n hC 0 dX3_takeFromPool_72 rfl rfl ?_
        refine v_getI hC foX3_176 dX3_takeFromPool_73 rfl rfl rfl (by first | decide | (simp only [vdn]; omega)) ?_
        try simp only [Int.toNat_natCast, upM_at, upM_nef, ne_eq, not_false_eq_true, Nat.reduceEqDiff, Nat.reduceAdd]
        refine v_iald hC dX3_takeFromPool_76 rfl rfl rfl (by first | decide | (simp only [vdn]; omega)) ⟨by first | omega | (simp only [mlen]; omega), by first | omega | (simp only [mlen]; omega)⟩ ?_
        try simp only [Int.toNat_natCast, upM_at, upM_nef, ne_eq, not_false_eq_true, Nat.reduceEqDiff, Nat.reduceAdd]
        refine v_iast hC dX3_takeFromPool_77 rfl rfl rfl (by decide) (by first | decide | (simp only [vdn]; omega)) ⟨by first | omega | (simp only [mlen]; omega), by first | omega | (simp only [mlen]; omega)⟩ ?_
        try simp only [Int.toNat_natCast, upM_at, upM_nef, ne_eq, not_false_eq_true, Nat.reduceEqDiff, Nat.reduceAdd]
        refine v_iinc hC dX3_takeFromPool_78 rfl ⟨by omega, by omega⟩ ?_
        refine v_goto hC 18 dX3_takeFromPool_81 rfl ?_
        refine v_forget 5 ?_
        have hT := hP1.take (g := fun p => stdF μ p s k) (B := 100000) (k := (k : Int)) (by omega) b1 b3 (by rw [e1]; exact b4) (by rw [e1]; exact b7)
        rw [e1] at hT
        exact ih (i + 1) trivial (by omega) _ _ (by omega) (((hF1.up (by decide)).up (by decide)).up (by decide)) hT (itr_next (by omega) rfl a4)
      · exact absurd h35 (by omega)
abbrev rmX3_choose : Room := { frames := 4, cells := 0, slots := 0, locals := 99 }
set_option maxRecDepth 100000 in
set_option maxHeartbeats 4000000 in
theorem cX3_choose_ok (s one : Nat) (μ : MU) (hs : s < 6) (ho : one < 20) (hSf : Sf μ) (hI : Inj μ s) : CTv yX3_choose cX3_choose 4 rmX3_choose [aR 0 0, aI s, aI one] μ (fun μ' => Fr [3, 4, 5] μ μ' ∧ PI μ' (chO μ s one) (chV μ s (chO μ s one))) := by
  intro l9 b9 D9 K9
  refine met_of (by decide) (Nat.le_of_ble_eq_true rfl) (fun x hC hR hM hA => ?_)
  have hC : Ctx x RX3 cX3_choose rmX3_choose := hC
  have hSf0 := hSf
  obtain ⟨⟨s1, s2⟩, ⟨n1, n2⟩, hr, hkc, hq, hpp, hli, hnu⟩ := hSf
  have hk1 := hkc s hs
  refine v_aload_n hC 0 dX3_choose_0 rfl rfl ?_
  refine v_iconst hC dX3_choose_1 ⟨by decide, by decide⟩ ?_
  refine v_putI hC fwX3_176 dX3_choose_2 rfl rfl rfl (by decide) (by first | decide | (simp only [vdn]; omega)) ?_
  refine v_iconst hC dX3_choose_5 ⟨by decide, by decide⟩ ?_
  refine v_istore_n hC 3 dX3_choose_6 rfl (Nat.le_of_ble_eq_true rfl) ?_
  refine v_loop (fun i : Nat => (μ 1 0).toNat - i) (fun _ => True) (fun i => ∀ (μ1 : MU), i ≤ (μ 1 0).toNat → Fr [3, 4, 5] μ μ1 → PB μ1 (chO μ s one) i → V x 0 0 none 7 [some (aR 0 0), some (aI s), some (aI one), some (aI (i : Int))] [] μ1) (fun i _ ih μ1 a1 hF1 hP1 => ?_) 0 trivial _ (Nat.zero_le _) (Fr.rf.up (by decide)) ⟨by rw [upM_at]; omega, fun p hp => by omega, fun j hj => by rw [upM_at] at hj; omega, fun p hp => by omega, fun a b ha => by rw [upM_at] at ha; omega⟩
  have e1 : μ1 1 0 = μ 1 0 := hF1 1 0 (by decide)
  have e15 : μ1 15 i = μ 15 i := hF1 15 i (by decide)
  have e16 : μ1 16 i = μ 16 i := hF1 16 i (by decide)
  have hz := hP1.1
  refine v_iload_n hC 3 dX3_choose_7 rfl rfl ?_
  refine v_aload_n hC 0 dX3_choose_8 rfl rfl ?_
  refine v_getI hC foX3_69 dX3_choose_9 rfl rfl rfl (by first | decide | (simp only [vdn]; omega)) ?_
  try simp only [Int.toNat_natCast, upM_at, upM_nef, ne_eq, not_false_eq_true, Nat.reduceEqDiff, Nat.reduceAdd]
  refine v_icmp_ge hC 66 dX3_choose_12 rfl (fun h12 => ?_) (fun h12 => ?_)
  · refine v_iconst hC dX3_choose_66 ⟨by decide, by decide⟩ ?_
    refine v_istore_n hC 3 dX3_choose_67 rfl (Nat.le_of_ble_eq_true rfl) ?_
    have hi : i = (μ1 1 0).toNat := by omega
    refine v_loop (fun k : Nat => (μ 6 s).toNat - k) (fun _ => True) (fun k => ∀ (μ1 : MU) (T1 : Nat → Int), k ≤ 3 → Fr [3, 4, 5] μ μ1 → PI μ1 (chO μ s one) T1 → itr (fun k T => tkK (μ 1 0).toNat (fun p => stdF μ p s k) 100000 (chO μ s one) (k : Int) (μ 9 (3 * s + k)).toNat T) k ((μ 6 s).toNat - k) T1 = chV μ s (chO μ s one) → V x 0 0 none 68 [some (aR 0 0), some (aI s), some (aI one), some (aI (k : Int))] [] μ1) (fun k _ ih μ1 T1 a1 hF1 hP1 a4 => ?_) 0 trivial μ1 (fun _ => -1) (by decide) hF1 (hP1.done hi (by omega)) rfl
    have e1 : μ1 1 0 = μ 1 0 := hF1 1 0 (by decide)
    have e6 : μ1 6 s = μ 6 s := hF1 6 s (by decide)
    have e9 : μ1 9 (3 * s + k) = μ 9 (3 * s + k) := hF1 9 _ (by decide)
    have hSf1 : Sf μ1 := hF1.Sf hSf0 (by decide)
    have hfun : (fun p => stdF μ1 p s k) = (fun p => stdF μ p s k) := funext fun p => hF1.std (by decide) p s k
    refine v_iload_n hC 3 dX3_choose_68 rfl rfl ?_
    refine v_aload_n hC 0 dX3_choose_69 rfl rfl ?_
    refine v_getR hC foX3_11 dX3_choose_70 rfl rfl rfl (by decide) (by first | decide | (simp only [vdn]; omega)) ?_
    refine v_iload_n hC 1 dX3_choose_73 rfl rfl ?_
    refine v_aald hC dX3_choose_74 rfl rfl (fun _ => rfl) rfl (by decide) (by first | decide | (simp only [vdn]; omega)) ⟨by first | omega | (simp only [mlen]; omega), by first | omega | (simp only [mlen]; omega)⟩ ?_
    try simp only [Int.toNat_natCast, upM_at, upM_nef, ne_eq, not_false_eq_true, Nat.reduceEqDiff, Nat.reduceAdd]
    refine v_getI hC foX3_50 dX3_choose_75 rfl rfl rfl (by first | decide | (simp only [vdn]; omega)) ?_
    try simp only [Int.toNat_natCast, upM_at, upM_nef, ne_eq, not_false_eq_true, Nat.reduceEqDiff, Nat.reduceAdd]
    refine v_icmp_ge hC 93 dX3_choose_78 rfl (fun h78 => ?_) (fun h78 => ?_)
    · exact v_vret hC hR (Nat.le_refl _) (Nat.le_refl _) dX3_choose_93 (⟨rfl, hF1, by rw [← a4, itr_done (by omega)]; exact hP1⟩)
    · refine v_aload_n hC 0 dX3_choose_81 rfl rfl ?_
      refine v_iload_n hC 1 dX3_choose_82 rfl rfl ?_
      refine v_iload_n hC 3 dX3_choose_83 rfl rfl ?_
      refine v_callV2 hC (cwX3_185 hC ⟨Nat.le_of_ble_eq_true rfl, Nat.le_of_ble_eq_true rfl⟩) dX3_choose_84 rfl rfl rfl (Nat.zero_le _) (Nat.zero_le _) (Nat.le_of_ble_eq_true rfl) (by first | decide | (simp only [vdn]; omega)) (cX3_takeFromPool_ok s k (chO μ s one) T1 μ1 hs (by omega) hSf1 (hF1.inj hI (by decide) (by decide)) hP1) (fun μ1 hp => ?_)
      rw [hfun, e1, e9] at hp
      refine v_iinc hC dX3_choose_87 rfl ⟨by omega, by omega⟩ ?_
      refine v_goto hC 68 dX3_choose_90 rfl ?_
      exact ih (k + 1) trivial (by omega) _ _ (by omega) (hF1.trans hp.1) hp.2 (itr_next (by omega) rfl a4)
  · refine v_aload_n hC 0 dX3_choose_15 rfl rfl ?_
    refine v_getR hC foX3_29 dX3_choose_16 rfl rfl rfl (by decide) (by first | decide | (simp only [vdn]; omega)) ?_
    refine v_iload_n hC 3 dX3_choose_19 rfl rfl ?_
    refine v_iconst hC dX3_choose_20 ⟨by decide, by decide⟩ ?_
    refine v_iast hC dX3_choose_21 rfl rfl rfl (by decide) (by first | decide | (simp only [vdn]; omega)) ⟨by first | omega | (simp only [mlen]; omega), by first | omega | (simp only [mlen]; omega)⟩ ?_
    try simp only [Int.toNat_natCast, upM_at, upM_nef, ne_eq, not_false_eq_true, Nat.reduceEqDiff, Nat.reduceAdd]
    refine v_iload_n hC 3 dX3_choose_22 rfl rfl ?_
    refine v_iload_n hC 2 dX3_choose_23 rfl rfl ?_
    refine v_icmp_eq hC 40 dX3_choose_24 rfl (fun h24 => ?_) (fun h24 => ?_)
    · refine v_aload_n hC 0 dX3_choose_40 rfl rfl ?_
      refine v_getR hC foX3_25 dX3_choose_41 rfl rfl rfl (by decide) (by first | decide | (simp only [vdn]; omega)) ?_
      refine v_aload_n hC 0 dX3_choose_44 rfl rfl ?_
      refine v_getI hC foX3_176 dX3_choose_45 rfl rfl rfl (by first | decide | (simp only [vdn]; omega)) ?_
      try simp only [Int.toNat_natCast, upM_at, upM_nef, ne_eq, not_false_eq_true, Nat.reduceEqDiff, Nat.reduceAdd]
      refine v_iload_n hC 3 dX3_choose_48 rfl rfl ?_
      refine v_iast hC dX3_choose_49 rfl rfl rfl (by decide) (by first | decide | (simp only [vdn]; omega)) ⟨by first | omega | (simp only [mlen]; omega), by first | omega | (simp only [mlen]; omega)⟩ ?_
      try simp only [Int.toNat_natCast, upM_at, upM_nef, ne_eq, not_false_eq_true, Nat.reduceEqDiff, Nat.reduceAdd]
      refine v_aload_n hC 0 dX3_choose_50 rfl rfl ?_
      refine v_dupR hC dX3_choose_51 ?_
      refine v_getI hC foX3_176 dX3_choose_52 rfl rfl rfl (by first | decide | (simp only [vdn]; omega)) ?_
      try simp only [Int.toNat_natCast, upM_at, upM_nef, ne_eq, not_false_eq_true, Nat.reduceEqDiff, Nat.reduceAdd]
      refine v_iconst hC dX3_choose_55 ⟨by decide, by decide⟩ ?_
      refine v_iadd hC dX3_choose_56 ⟨by omega, by omega⟩ ?_
      refine v_putI hC fwX3_176 dX3_choose_57 rfl rfl rfl (by decide) (by first | decide | (simp only [vdn]; omega)) ?_
      refine v_iinc hC dX3_choose_60 rfl ⟨by omega, by omega⟩ ?_
      refine v_goto hC 7 dX3_choose_63 rfl ?_
      exact ih (i + 1) trivial (by omega) _ (by omega) (((hF1.up (by decide)).up (by decide)).up (by decide)) (hP1.inn (decide_eq_true (Or.inl (by omega))))
    · refine v_aload_n hC 0 dX3_choose_27 rfl rfl ?_
      refine v_getR hC foX3_18 dX3_choose_28 rfl rfl rfl (by decide) (by first | decide | (simp only [vdn]; omega)) ?_
      refine v_iload_n hC 3 dX3_choose_31 rfl rfl ?_
      refine v_aald hC dX3_choose_32 rfl rfl (fun _ => rfl) rfl (by decide) (by first | decide | (simp only [vdn]; omega)) ⟨by first | omega | (simp only [mlen]; omega), by first | omega | (simp only [mlen]; omega)⟩ ?_
      try simp only [Int.toNat_natCast, upM_at, upM_nef, ne_eq, not_false_eq_true, Nat.reduceEqDiff, Nat.reduceAdd]
      refine v_iload_n hC 1 dX3_choose_33 rfl rfl ?_
      refine v_callI1 hC (cwX3_182 hC ⟨Nat.le_of_ble_eq_true rfl, Nat.le_of_ble_eq_true rfl⟩) dX3_choose_34 rfl rfl rfl (Nat.zero_le _) (Nat.zero_le _) (Nat.le_of_ble_eq_true rfl) (by first | decide | (simp only [vdn]; omega)) (cX1_holdsAnyKind_ok i s (upM μ1 5 i (-1)) (by omega)) (fun r1 μ1 hp => ?_)
      obtain ⟨rfl, rfl⟩ := hp
      refine v_if_eq hC 60 dX3_choose_37 rfl (fun h37 => ?_) (fun h37 => ?_)
      · refine v_iinc hC dX3_choose_60 rfl ⟨by omega, by omega⟩ ?_
        refine v_goto hC 7 dX3_choose_63 rfl ?_
        have h37' := bI_z.1 h37
        exact ih (i + 1) trivial (by omega) _ (by omega) (hF1.up (by decide)) (hP1.out (fun h => (of_decide_eq_true h).elim (fun h => h24 (by omega)) (fun h => h37' (by simpa only [anyP, upM_nef, ne_eq, Nat.reduceEqDiff, not_false_eq_true, e15, e16] using h))))
      · refine v_aload_n hC 0 dX3_choose_40 rfl rfl ?_
        refine v_getR hC foX3_25 dX3_choose_41 rfl rfl rfl (by decide) (by first | decide | (simp only [vdn]; omega)) ?_
        refine v_aload_n hC 0 dX3_choose_44 rfl rfl ?_
        refine v_getI hC foX3_176 dX3_choose_45 rfl rfl rfl (by first | decide | (simp only [vdn]; omega)) ?_
        try simp only [Int.toNat_natCast, upM_at, upM_nef, ne_eq, not_false_eq_true, Nat.reduceEqDiff, Nat.reduceAdd]
        refine v_iload_n hC 3 dX3_choose_48 rfl rfl ?_
        refine v_iast hC dX3_choose_49 rfl rfl rfl (by decide) (by first | decide | (simp only [vdn]; omega)) ⟨by first | omega | (simp only [mlen]; omega), by first | omega | (simp only [mlen]; omega)⟩ ?_
        try simp only [Int.toNat_natCast, upM_at, upM_nef, ne_eq, not_false_eq_true, Nat.reduceEqDiff, Nat.reduceAdd]
        refine v_aload_n hC 0 dX3_choose_50 rfl rfl ?_
        refine v_dupR hC dX3_choose_51 ?_
        refine v_getI hC foX3_176 dX3_choose_52 rfl rfl rfl (by first | decide | (simp only [vdn]; omega)) ?_
        try simp only [Int.toNat_natCast, upM_at, upM_nef, ne_eq, not_false_eq_true, Nat.reduceEqDiff, Nat.reduceAdd]
        refine v_iconst hC dX3_choose_55 ⟨by decide, by decide⟩ ?_
        refine v_iadd hC dX3_choose_56 ⟨by omega, by omega⟩ ?_
        refine v_putI hC fwX3_176 dX3_choose_57 rfl rfl rfl (by decide) (by first | decide | (simp only [vdn]; omega)) ?_
        refine v_iinc hC dX3_choose_60 rfl ⟨by omega, by omega⟩ ?_
        refine v_goto hC 7 dX3_choose_63 rfl ?_
        have h37' := bI_n.1 h37
        exact ih (i + 1) trivial (by omega) _ (by omega) (((hF1.up (by decide)).up (by decide)).up (by decide)) (hP1.inn (decide_eq_true (Or.inr (by simpa only [anyP, upM_nef, ne_eq, Nat.reduceEqDiff, not_false_eq_true, e15, e16] using h37'))))
