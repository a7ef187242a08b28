/-! The reference's held, blocking, move. -/
theorem up20_mbn (μ : MU) (v : Int) (p s k : Nat) : mbnF (upM μ 20 0 v) p s k = mbnF μ p s k := mbnF_of (fun j => upM_nef (by decide)) (upM_nef (by decide))
theorem up20_rk (μ : MU) (v : Int) (p s k : Nat) : rkF (upM μ 20 0 v) p s k = rkF μ p s k := rkF_of (fun j => upM_nef (by decide)) (upM_nef (by decide)) (upM_nef (by decide)) (fun j => upM_nef (by decide))
abbrev rmX4_held : Room := { frames := 2, cells := 0, slots := 0, locals := 49 }
set_option maxRecDepth 100000 in
set_option maxHeartbeats 4000000 in
theorem cX4_held_ok (S K w : Int) (μ : MU) (hSm : Sm μ) : CTi yX4_held cX4_held 9 (some .int) rmX4_held [aR 12 0, aI S, aI K, aI w] μ (fun r μ' => upM μ 20 0 0 = μ' ∧ r = mheF μ S K w) := by
  intro l9 b9 D9 K9
  refine met_of (by decide) (Nat.le_of_ble_eq_true rfl) (fun x hC hR hM hA => ?_)
  have hC : Ctx x RX4 cX4_held rmX4_held := hC
  have hSm0 := hSm
  obtain ⟨⟨s1, s2⟩, ⟨n1, n2⟩, hr, hkc, hq, hpp, hli, hnu⟩ := hSm
  refine v_aload_n hC 0 dX4_held_0 rfl rfl ?_
  refine v_iconst hC dX4_held_1 ⟨by decide, by decide⟩ ?_
  refine v_putI hC fwX4_59 dX4_held_2 rfl rfl rfl (by decide) (by first | decide | (simp only [vdn]; omega)) ?_
  refine v_aload_n hC 0 dX4_held_5 rfl rfl ?_
  refine v_iload_n hC 1 dX4_held_6 rfl rfl ?_
  refine v_callI1 hC (cwX4_73 hC ⟨Nat.le_of_ble_eq_true rfl, Nat.le_of_ble_eq_true rfl⟩) dX4_held_7 rfl rfl rfl (Nat.zero_le _) (Nat.zero_le _) (Nat.le_of_ble_eq_true rfl) (by first | decide | (simp only [vdn]; omega)) (cX4_isSchool_ok S (upM μ 20 0 0)) (fun r1 μ1 hp => ?_)
  obtain ⟨rfl, rfl⟩ := hp
  refine v_if_eq hC 26 dX4_held_10 rfl (fun h10 => ?_) (fun h10 => ?_)
  · refine v_iconst hC dX4_held_26 ⟨by decide, by decide⟩ ?_
    exact v_iret hC hR dX4_held_27 (⟨_, rfl, rfl, by rw [mheF, if_neg (fun q => bI_z.1 h10 q.1.1)]⟩)
  · refine v_iload_n hC 2 dX4_held_13 rfl rfl ?_
    refine v_if_lt hC 26 dX4_held_14 rfl (fun h14 => ?_) (fun h14 => ?_)
    · refine v_iconst hC dX4_held_26 ⟨by decide, by decide⟩ ?_
      exact v_iret hC hR dX4_held_27 (⟨_, rfl, rfl, by rw [mheF, if_neg (fun q => by have := q.1.2.1; omega)]⟩)
    · refine v_iload_n hC 3 dX4_held_17 rfl rfl ?_
      refine v_if_lt hC 26 dX4_held_18 rfl (fun h18 => ?_) (fun h18 => ?_)
      · refine v_iconst hC dX4_held_26 ⟨by decide, by decide⟩ ?_
        exact v_iret hC hR dX4_held_27 (⟨_, rfl, rfl, by rw [mheF, if_neg (fun q => by have := q.1.2.2.1; omega)]⟩)
      · refine v_iload_n hC 3 dX4_held_21 rfl rfl ?_
        refine v_iconst hC dX4_held_22 ⟨by decide, by decide⟩ ?_
        refine v_icmp_le hC 28 dX4_held_23 rfl (fun h23 => ?_) (fun h23 => ?_)
        · obtain ⟨p1, p2⟩ : mIS μ S := bI_n.1 h10
          have hk1 := hkc S.toNat (by omega)
          refine v_iload_n hC 2 dX4_held_28 rfl rfl ?_
          refine v_aload_n hC 0 dX4_held_29 rfl rfl ?_
          refine v_getR hC foX4_7 dX4_held_30 rfl rfl rfl (by decide) (by first | decide | (simp only [vdn]; omega)) ?_
          refine v_iload_n hC 1 dX4_held_33 rfl rfl ?_
          refine v_iald hC dX4_held_34 rfl rfl rfl (by first | decide | (simp only [vdn]; omega)) ⟨by first | omega | (simp only [mlen]; omega), by first | omega | (simp only [mlen]; omega)⟩ ?_
          try simp only [Int.toNat_natCast, upM_at, upM_nef, ne_eq, not_false_eq_true, Nat.reduceEqDiff, Nat.reduceAdd]
          refine v_icmp_lt hC 40 dX4_held_35 rfl (fun h35 => ?_) (fun h35 => ?_)
          · have hc : (mIS μ S ∧ 0 ≤ K ∧ 0 ≤ w ∧ w ≤ 2) ∧ K < μ 24 S.toNat := ⟨⟨⟨p1, p2⟩, by omega, by omega, by omega⟩, by omega⟩
            obtain ⟨s, rfl⟩ := Int.eq_ofNat_of_zero_le p1
            obtain ⟨k, rfl⟩ := Int.eq_ofNat_of_zero_le (show 0 ≤ K by omega)
            simp only [Int.toNat_natCast] at hk1 h35
            have ei : ((3 : Int) * (s : Int) + (k : Int)).toNat = 3 * s + k := by omega
            have hSm1 : Sm (upM μ 20 0 0) := hSm0.up (by decide)
            refine v_iload_n hC 3 dX4_held_40 rfl rfl ?_
            refine v_iconst hC dX4_held_41 ⟨by decide, by decide⟩ ?_
            refine v_icmp_ge hC 69 dX4_held_42 rfl (fun h42 => ?_) (fun h42 => ?_)
            · refine v_iconst hC dX4_held_69 ⟨by decide, by decide⟩ ?_
              refine v_istore hC dX4_held_70 (Nat.le_of_ble_eq_true rfl) ?_
              refine v_iconst hC dX4_held_72 ⟨by decide, by decide⟩ ?_
              refine v_istore hC dX4_held_73 (Nat.le_of_ble_eq_true rfl) ?_
              refine v_loop (fun p : Nat => (μ 23 0).toNat - p) (fun _ => True) (fun p => ∀ l : Int, p ≤ 20 → -1 ≤ l ∧ l < p → itr (mlaS μ s k) p ((μ 23 0).toNat - p) l = mlaF μ s k → V x 0 0 none 75 [some (aR 12 0), some (aI s), some (aI k), some (aI w), some (aI l), some (aI (p : Int)), none, none, none] [] (upM μ 20 0 0)) (fun p _ ih l a1 a2 a4 => ?_) 0 trivial (-1) (by decide) (by decide) rfl
              refine v_iload hC dX4_held_75 rfl ?_
              refine v_aload_n hC 0 dX4_held_77 rfl rfl ?_
              refine v_getI hC foX4_66 dX4_held_78 rfl rfl rfl (by first | decide | (simp only [vdn]; omega)) ?_
              try simp only [Int.toNat_natCast, upM_at, upM_nef, ne_eq, not_false_eq_true, Nat.reduceEqDiff, Nat.reduceAdd]
              refine v_icmp_ge hC 226 dX4_held_81 rfl (fun h81 => ?_) (fun h81 => ?_)
              · refine v_iload hC dX4_held_226 rfl ?_
                exact v_iret hC hR dX4_held_228 (⟨_, rfl, rfl, by rw [mheF, if_pos hc, if_neg (by omega), if_neg (by omega)]; simp only [Int.toNat_natCast]; rw [← a4, itr_done (by omega)]⟩)
              · refine v_aload_n hC 0 dX4_held_84 rfl rfl ?_
                refine v_getR hC foX4_38 dX4_held_85 rfl rfl rfl (by decide) (by first | decide | (simp only [vdn]; omega)) ?_
                refine v_iload hC dX4_held_88 rfl ?_
                refine v_iald hC dX4_held_90 rfl rfl rfl (by first | decide | (simp only [vdn]; omega)) ⟨by first | omega | (simp only [mlen]; omega), by first | omega | (simp only [mlen]; omega)⟩ ?_
                try simp only [Int.toNat_natCast, upM_at, upM_nef, ne_eq, not_false_eq_true, Nat.reduceEqDiff, Nat.reduceAdd]
                refine v_iload_n hC 1 dX4_held_91 rfl rfl ?_
                refine v_icmp_ne hC 220 dX4_held_92 rfl (fun h92 => ?_) (fun h92 => ?_)
                · refine v_iinc hC dX4_held_220 rfl ⟨by omega, by omega⟩ ?_
                  refine v_goto hC 75 dX4_held_223 rfl ?_
                  exact ih (p + 1) trivial (by omega) l (by omega) (by omega) (itr_next (by omega) (by rw [mlaS, if_neg (fun h => h92 h.1)]) a4)
                · refine v_aload_n hC 0 dX4_held_95 rfl rfl ?_
                  refine v_getR hC foX4_41 dX4_held_96 rfl rfl rfl (by decide) (by first | decide | (simp only [vdn]; omega)) ?_
                  refine v_iload hC dX4_held_99 rfl ?_
                  refine v_iald hC dX4_held_101 rfl rfl rfl (by first | decide | (simp only [vdn]; omega)) ⟨by first | omega | (simp only [mlen]; omega), by first | omega | (simp only [mlen]; omega)⟩ ?_
                  try simp only [Int.toNat_natCast, upM_at, upM_nef, ne_eq, not_false_eq_true, Nat.reduceEqDiff, Nat.reduceAdd]
                  refine v_iload_n hC 2 dX4_held_102 rfl rfl ?_
                  refine v_icmp_ne hC 220 dX4_held_103 rfl (fun h103 => ?_) (fun h103 => ?_)
                  · refine v_iinc hC dX4_held_220 rfl ⟨by omega, by omega⟩ ?_
                    refine v_goto hC 75 dX4_held_223 rfl ?_
                    exact ih (p + 1) trivial (by omega) l (by omega) (by omega) (itr_next (by omega) (by rw [mlaS, if_neg (fun h => h103 h.2)]) a4)
                  · refine v_aload_n hC 0 dX4_held_106 rfl rfl ?_
                    refine v_iload hC dX4_held_107 rfl ?_
                    refine v_iload_n hC 1 dX4_held_109 rfl rfl ?_
                    refine v_iload_n hC 2 dX4_held_110 rfl rfl ?_
                    refine v_callI3 hC (cwX4_89 hC ⟨Nat.le_of_ble_eq_true rfl, Nat.le_of_ble_eq_true rfl⟩) dX4_held_111 rfl rfl rfl (Nat.zero_le _) (Nat.zero_le _) (Nat.le_of_ble_eq_true rfl) (by first | decide | (simp only [vdn]; omega)) (cX4_eligible_ok p s k (upM μ 20 0 0) (by omega) (by omega) (by omega)) (fun r1 μ1 hp => ?_)
                    obtain ⟨rfl, rfl⟩ := hp
                    refine v_if_ne hC 121 dX4_held_114 rfl (fun h114 => ?_) (fun h114 => ?_)
                    · refine v_iconst hC dX4_held_121 ⟨by decide, by decide⟩ ?_
                      refine v_istore hC dX4_held_122 (Nat.le_of_ble_eq_true rfl) ?_
                      refine v_iload hC dX4_held_124 rfl ?_
                      refine v_if_lt hC 153 dX4_held_126 rfl (fun h126 => ?_) (fun h126 => ?_)
                      · refine v_iconst hC dX4_held_153 ⟨by decide, by decide⟩ ?_
                        refine v_istore hC dX4_held_154 (Nat.le_of_ble_eq_true rfl) ?_
                        refine v_iload hC dX4_held_156 rfl ?_
                        refine v_if_lt hC 199 dX4_held_158 rfl (fun h158 => ?_) (fun h158 => ?_)
                        · refine v_iconst hC dX4_held_199 ⟨by decide, by decide⟩ ?_
                          refine v_goto hC 204 dX4_held_200 rfl ?_
                          refine v_istore hC dX4_held_204 (Nat.le_of_ble_eq_true rfl) ?_
                          refine v_iload hC dX4_held_206 rfl ?_
                          refine v_if_eq hC 216 dX4_held_208 rfl (fun h208 => ?_) (fun h208 => ?_)
                          · exfalso; omega
                          · refine v_iload hC dX4_held_211 rfl ?_
                            refine v_goto hC 218 dX4_held_213 rfl ?_
                            refine v_istore hC dX4_held_218 (Nat.le_of_ble_eq_true rfl) ?_
                            refine v_iinc hC dX4_held_220 rfl ⟨by omega, by omega⟩ ?_
                            refine v_goto hC 75 dX4_held_223 rfl ?_
                            refine v_forget 6 (v_forget 7 (v_forget 8 ?_))
                            exact ih (p + 1) trivial (by omega) p (by omega) (by omega) (itr_next (by omega) (by rw [mlaS, if_pos ⟨h92, h103⟩, if_pos (Or.inl h126)]) a4)
                        · exfalso; omega
                      · obtain ⟨q, rfl⟩ := Int.eq_ofNat_of_zero_le (show 0 ≤ l by omega)
                        refine v_aload_n hC 0 dX4_held_129 rfl rfl ?_
                        refine v_iload hC dX4_held_130 rfl ?_
                        refine v_if_ge hC 139 dX4_held_132 rfl (fun h132 => ?_) (fun h132 => ?_)
                        · refine v_iload hC dX4_held_139 rfl ?_
                          refine v_iload_n hC 1 dX4_held_141 rfl rfl ?_
                          refine v_iload_n hC 2 dX4_held_142 rfl rfl ?_
                          refine v_callI3 hC (cwX4_89 hC ⟨Nat.le_of_ble_eq_true rfl, Nat.le_of_ble_eq_true rfl⟩) dX4_held_143 rfl rfl rfl (Nat.zero_le _) (Nat.zero_le _) (Nat.le_of_ble_eq_true rfl) (by first | decide | (simp only [vdn]; omega)) (cX4_eligible_ok q s k (upM μ 20 0 0) (by omega) (by omega) (by omega)) (fun r1 μ1 hp => ?_)
                          obtain ⟨rfl, rfl⟩ := hp
                          refine v_if_ne hC 153 dX4_held_146 rfl (fun h146 => ?_) (fun h146 => ?_)
                          · refine v_iconst hC dX4_held_153 ⟨by decide, by decide⟩ ?_
                            refine v_istore hC dX4_held_154 (Nat.le_of_ble_eq_true rfl) ?_
                            refine v_iload hC dX4_held_156 rfl ?_
                            refine v_if_lt hC 199 dX4_held_158 rfl (fun h158 => ?_) (fun h158 => ?_)
                            · exfalso; omega
                            · refine v_iload hC dX4_held_161 rfl ?_
                              refine v_if_ne hC 199 dX4_held_163 rfl (fun h163 => ?_) (fun h163 => ?_)
                              · exfalso; omega
                              · refine v_iload hC dX4_held_166 rfl ?_
                                refine v_if_ne hC 203 dX4_held_168 rfl (fun h168 => ?_) (fun h168 => ?_)
                                · exfalso; omega
                                · refine v_aload_n hC 0 dX4_held_171 rfl rfl ?_
                                  refine v_iload hC dX4_held_172 rfl ?_
                                  refine v_iload_n hC 1 dX4_held_174 rfl rfl ?_
                                  refine v_iload_n hC 2 dX4_held_175 rfl rfl ?_
                                  refine v_callI3 hC (cwX4_93 hC ⟨Nat.le_of_ble_eq_true rfl, Nat.le_of_ble_eq_true rfl⟩) dX4_held_176 rfl rfl rfl (Nat.zero_le _) (Nat.zero_le _) (Nat.le_of_ble_eq_true rfl) (by first | decide | (simp only [vdn]; omega)) (cX4_rank_ok p s k (upM μ 20 0 0) (by omega) (by omega) (by omega) hSm1) (fun r1 μ1 hp => ?_)
                                  obtain ⟨rfl, rfl⟩ := hp
                                  refine v_aload_n hC 0 dX4_held_179 rfl rfl ?_
                                  refine v_iload hC dX4_held_180 rfl ?_
                                  refine v_if_ge hC 189 dX4_held_182 rfl (fun h182 => ?_) (fun h182 => ?_)
                                  · refine v_iload hC dX4_held_189 rfl ?_
                                    refine v_iload_n hC 1 dX4_held_191 rfl rfl ?_
                                    refine v_iload_n hC 2 dX4_held_192 rfl rfl ?_
                                    refine v_callI3 hC (cwX4_93 hC ⟨Nat.le_of_ble_eq_true rfl, Nat.le_of_ble_eq_true rfl⟩) dX4_held_193 rfl rfl rfl (Nat.zero_le _) (Nat.zero_le _) (Nat.le_of_ble_eq_true rfl) (by first | decide | (simp only [vdn]; omega)) (cX4_rank_ok q s k (upM μ 20 0 0) (by omega) (by omega) (by omega) hSm1) (fun r1 μ1 hp => ?_)
                                    obtain ⟨rfl, rfl⟩ := hp
                                    refine v_icmp_le hC 203 dX4_held_196 rfl (fun h196 => ?_) (fun h196 => ?_)
                                    · refine v_iconst hC dX4_held_203 ⟨by decide, by decide⟩ ?_
                                      refine v_istore hC dX4_held_204 (Nat.le_of_ble_eq_true rfl) ?_
                                      refine v_iload hC dX4_held_206 rfl ?_
                                      refine v_if_eq hC 216 dX4_held_208 rfl (fun h208 => ?_) (fun h208 => ?_)
                                      · refine v_iload hC dX4_held_216 rfl ?_
                                        refine v_istore hC dX4_held_218 (Nat.le_of_ble_eq_true rfl) ?_
                                        refine v_iinc hC dX4_held_220 rfl ⟨by omega, by omega⟩ ?_
                                        refine v_goto hC 75 dX4_held_223 rfl ?_
                                        refine v_forget 6 (v_forget 7 (v_forget 8 ?_))
                                        exact ih (p + 1) trivial (by omega) (q : Int) (by omega) (by omega) (itr_next (by omega) (by rw [mlaS, if_pos ⟨h92, h103⟩, if_neg (fun h => h.elim (fun h => by omega) (fun h => h.elim (fun h => h (by rw [← up20_mbn μ 0]; exact bI_n.1 h114)) (fun h => by have := h.2; rw [up20_rk, up20_rk] at h196; simp only [Int.toNat_natCast] at this; omega)))]) a4)
                                      · exfalso; omega
                                    · refine v_iconst hC dX4_held_199 ⟨by decide, by decide⟩ ?_
                                      refine v_goto hC 204 dX4_held_200 rfl ?_
                                      refine v_istore hC dX4_held_204 (Nat.le_of_ble_eq_true rfl) ?_
                                      refine v_iload hC dX4_held_206 rfl ?_
                                      refine v_if_eq hC 216 dX4_held_208 rfl (fun h208 => ?_) (fun h208 => ?_)
                                      · exfalso; omega
                                      · refine v_iload hC dX4_held_211 rfl ?_
                                        refine v_goto hC 218 dX4_held_213 rfl ?_
                                        refine v_istore hC dX4_held_218 (Nat.le_of_ble_eq_true rfl) ?_
                                        refine v_iinc hC dX4_held_220 rfl ⟨by omega, by omega⟩ ?_
                                        refine v_goto hC 75 dX4_held_223 rfl ?_
                                        refine v_forget 6 (v_forget 7 (v_forget 8 ?_))
                                        exact ih (p + 1) trivial (by omega) p (by omega) (by omega) (itr_next (by omega) (by rw [mlaS, if_pos ⟨h92, h103⟩, if_pos (Or.inr (Or.inr ⟨by rw [← up20_mbn μ 0]; exact bI_n.1 h146, by rw [up20_rk, up20_rk] at h196; simp only [Int.toNat_natCast]; omega⟩))]) a4)
                                  · exfalso; omega
                          · refine v_iconst hC dX4_held_149 ⟨by decide, by decide⟩ ?_
                            refine v_goto hC 154 dX4_held_150 rfl ?_
                            refine v_istore hC dX4_held_154 (Nat.le_of_ble_eq_true rfl) ?_
                            refine v_iload hC dX4_held_156 rfl ?_
                            refine v_if_lt hC 199 dX4_held_158 rfl (fun h158 => ?_) (fun h158 => ?_)
                            · exfalso; omega
                            · refine v_iload hC dX4_held_161 rfl ?_
                              refine v_if_ne hC 199 dX4_held_163 rfl (fun h163 => ?_) (fun h163 => ?_)
                              · exfalso; omega
                              · refine v_iload hC dX4_held_166 rfl ?_
                                refine v_if_ne hC 203 dX4_held_168 rfl (fun h168 => ?_) (fun h168 => ?_)
                                · refine v_iconst hC dX4_held_203 ⟨by decide, by decide⟩ ?_
                                  refine v_istore hC dX4_held_204 (Nat.le_of_ble_eq_true rfl) ?_
                                  refine v_iload hC dX4_held_206 rfl ?_
                                  refine v_if_eq hC 216 dX4_held_208 rfl (fun h208 => ?_) (fun h208 => ?_)
                                  · refine v_iload hC dX4_held_216 rfl ?_
                                    refine v_istore hC dX4_held_218 (Nat.le_of_ble_eq_true rfl) ?_
                                    refine v_iinc hC dX4_held_220 rfl ⟨by omega, by omega⟩ ?_
                                    refine v_goto hC 75 dX4_held_223 rfl ?_
                                    refine v_forget 6 (v_forget 7 (v_forget 8 ?_))
                                    exact ih (p + 1) trivial (by omega) (q : Int) (by omega) (by omega) (itr_next (by omega) (by rw [mlaS, if_pos ⟨h92, h103⟩, if_neg (fun h => h.elim (fun h => by omega) (fun h => h.elim (fun h => h (by rw [← up20_mbn μ 0]; exact bI_n.1 h114)) (fun h => bI_z.1 h146 (by rw [up20_mbn]; exact h.1))))]) a4)
                                  · exfalso; omega
                                · exfalso; omega
                        · exfalso; omega
                    · refine v_iconst hC dX4_held_117 ⟨by decide, by decide⟩ ?_
                      refine v_goto hC 122 dX4_held_118 rfl ?_
                      refine v_istore hC dX4_held_122 (Nat.le_of_ble_eq_true rfl) ?_
                      refine v_iload hC dX4_held_124 rfl ?_
                      refine v_if_lt hC 153 dX4_held_126 rfl (fun h126 => ?_) (fun h126 => ?_)
                      · refine v_iconst hC dX4_held_153 ⟨by decide, by decide⟩ ?_
                        refine v_istore hC dX4_held_154 (Nat.le_of_ble_eq_true rfl) ?_
                        refine v_iload hC dX4_held_156 rfl ?_
                        refine v_if_lt hC 199 dX4_held_158 rfl (fun h158 => ?_) (fun h158 => ?_)
                        · refine v_iconst hC dX4_held_199 ⟨by decide, by decide⟩ ?_
                          refine v_goto hC 204 dX4_held_200 rfl ?_
                          refine v_istore hC dX4_held_204 (Nat.le_of_ble_eq_true rfl) ?_
                          refine v_iload hC dX4_held_206 rfl ?_
                          refine v_if_eq hC 216 dX4_held_208 rfl (fun h208 => ?_) (fun h208 => ?_)
                          · exfalso; omega
                          · refine v_iload hC dX4_held_211 rfl ?_
                            refine v_goto hC 218 dX4_held_213 rfl ?_
                            refine v_istore hC dX4_held_218 (Nat.le_of_ble_eq_true rfl) ?_
                            refine v_iinc hC dX4_held_220 rfl ⟨by omega, by omega⟩ ?_
                            refine v_goto hC 75 dX4_held_223 rfl ?_
                            refine v_forget 6 (v_forget 7 (v_forget 8 ?_))
                            exact ih (p + 1) trivial (by omega) p (by omega) (by omega) (itr_next (by omega) (by rw [mlaS, if_pos ⟨h92, h103⟩, if_pos (Or.inl h126)]) a4)
                        · exfalso; omega
                      · obtain ⟨q, rfl⟩ := Int.eq_ofNat_of_zero_le (show 0 ≤ l by omega)
                        refine v_aload_n hC 0 dX4_held_129 rfl rfl ?_
                        refine v_iload hC dX4_held_130 rfl ?_
                        refine v_if_ge hC 139 dX4_held_132 rfl (fun h132 => ?_) (fun h132 => ?_)
                        · refine v_iload hC dX4_held_139 rfl ?_
                          refine v_iload_n hC 1 dX4_held_141 rfl rfl ?_
                          refine v_iload_n hC 2 dX4_held_142 rfl rfl ?_
                          refine v_callI3 hC (cwX4_89 hC ⟨Nat.le_of_ble_eq_true rfl, Nat.le_of_ble_eq_true rfl⟩) dX4_held_143 rfl rfl rfl (Nat.zero_le _) (Nat.zero_le _) (Nat.le_of_ble_eq_true rfl) (by first | decide | (simp only [vdn]; omega)) (cX4_eligible_ok q s k (upM μ 20 0 0) (by omega) (by omega) (by omega)) (fun r1 μ1 hp => ?_)
                          obtain ⟨rfl, rfl⟩ := hp
                          refine v_if_ne hC 153 dX4_held_146 rfl (fun h146 => ?_) (fun h146 => ?_)
                          · refine v_iconst hC dX4_held_153 ⟨by decide, by decide⟩ ?_
                            refine v_istore hC dX4_held_154 (Nat.le_of_ble_eq_true rfl) ?_
                            refine v_iload hC dX4_held_156 rfl ?_
                            refine v_if_lt hC 199 dX4_held_158 rfl (fun h158 => ?_) (fun h158 => ?_)
                            · exfalso; omega
                            · refine v_iload hC dX4_held_161 rfl ?_
                              refine v_if_ne hC 199 dX4_held_163 rfl (fun h163 => ?_) (fun h163 => ?_)
                              · refine v_iconst hC dX4_held_199 ⟨by decide, by decide⟩ ?_
                                refine v_goto hC 204 dX4_held_200 rfl ?_
                                refine v_istore hC dX4_held_204 (Nat.le_of_ble_eq_true rfl) ?_
                                refine v_iload hC dX4_held_206 rfl ?_
                                refine v_if_eq hC 216 dX4_held_208 rfl (fun h208 => ?_) (fun h208 => ?_)
                                · exfalso; omega
                                · refine v_iload hC dX4_held_211 rfl ?_
                                  refine v_goto hC 218 dX4_held_213 rfl ?_
                                  refine v_istore hC dX4_held_218 (Nat.le_of_ble_eq_true rfl) ?_
                                  refine v_iinc hC dX4_held_220 rfl ⟨by omega, by omega⟩ ?_
                                  refine v_goto hC 75 dX4_held_223 rfl ?_
                                  refine v_forget 6 (v_forget 7 (v_forget 8 ?_))
                                  exact ih (p + 1) trivial (by omega) p (by omega) (by omega) (itr_next (by omega) (by rw [mlaS, if_pos ⟨h92, h103⟩, if_pos (Or.inr (Or.inl (by rw [← up20_mbn μ 0]; exact bI_z.1 h114)))]) a4)
                              · exfalso; omega
                          · refine v_iconst hC dX4_held_149 ⟨by decide, by decide⟩ ?_
                            refine v_goto hC 154 dX4_held_150 rfl ?_
                            refine v_istore hC dX4_held_154 (Nat.le_of_ble_eq_true rfl) ?_
                            refine v_iload hC dX4_held_156 rfl ?_
                            refine v_if_lt hC 199 dX4_held_158 rfl (fun h158 => ?_) (fun h158 => ?_)
                            · exfalso; omega
                            · refine v_iload hC dX4_held_161 rfl ?_
                              refine v_if_ne hC 199 dX4_held_163 rfl (fun h163 => ?_) (fun h163 => ?_)
                              · refine v_iconst hC dX4_held_199 ⟨by decide, by decide⟩ ?_
                                refine v_goto hC 204 dX4_held_200 rfl ?_
                                refine v_istore hC dX4_held_204 (Nat.le_of_ble_eq_true rfl) ?_
                                refine v_iload hC dX4_held_206 rfl ?_
                                refine v_if_eq hC 216 dX4_held_208 rfl (fun h208 => ?_) (fun h208 => ?_)
                                · exfalso; omega
                                · refine v_iload hC dX4_held_211 rfl ?_
                                  refine v_goto hC 218 dX4_held_213 rfl ?_
                                  refine v_istore hC dX4_held_218 (Nat.le_of_ble_eq_true rfl) ?_
                                  refine v_iinc hC dX4_held_220 rfl ⟨by omega, by omega⟩ ?_
                                  refine v_goto hC 75 dX4_held_223 rfl ?_
                                  refine v_forget 6 (v_forget 7 (v_forget 8 ?_))
                                  exact ih (p + 1) trivial (by omega) p (by omega) (by omega) (itr_next (by omega) (by rw [mlaS, if_pos ⟨h92, h103⟩, if_pos (Or.inr (Or.inl (by rw [← up20_mbn μ 0]; exact bI_z.1 h114)))]) a4)
                              · exfalso; omega
                        · exfalso; omega
            · refine v_iload_n hC 3 dX4_held_45 rfl rfl ?_
              refine v_if_ne hC 62 dX4_held_46 rfl (fun h46 => ?_) (fun h46 => ?_)
              · refine v_aload_n hC 0 dX4_held_62 rfl rfl ?_
                refine v_iload_n hC 1 dX4_held_63 rfl rfl ?_
                refine v_iload_n hC 2 dX4_held_64 rfl rfl ?_
                refine v_callI2 hC (cwX4_114 hC ⟨Nat.le_of_ble_eq_true rfl, Nat.le_of_ble_eq_true rfl⟩) dX4_held_65 rfl rfl rfl (Nat.zero_le _) (Nat.zero_le _) (Nat.le_of_ble_eq_true rfl) (by first | decide | (simp only [vdn]; omega)) (cX4_holders_ok s k (upM μ 20 0 0) hSm1) (fun r1 μ1 hp => ?_)
                obtain ⟨rfl, rfl⟩ := hp
                exact v_iret hC hR dX4_held_68 (⟨_, rfl, rfl, by rw [mheF, if_pos hc, if_neg (by omega), if_pos (by omega)] <;> rfl⟩)
              · refine v_aload_n hC 0 dX4_held_49 rfl rfl ?_
                refine v_getR hC foX4_13 dX4_held_50 rfl rfl rfl (by decide) (by first | decide | (simp only [vdn]; omega)) ?_
                refine v_iconst hC dX4_held_53 ⟨by decide, by decide⟩ ?_
                refine v_iload_n hC 1 dX4_held_54 rfl rfl ?_
                refine v_imul hC dX4_held_55 ⟨by omega, by omega⟩ ?_
                refine v_iload_n hC 2 dX4_held_56 rfl rfl ?_
                refine v_iadd hC dX4_held_57 ⟨by omega, by omega⟩ ?_
                refine v_iald hC dX4_held_58 rfl rfl rfl (by first | decide | (simp only [vdn]; omega)) ⟨by first | omega | (simp only [mlen]; omega), by first | omega | (simp only [mlen]; omega)⟩ ?_
                try simp only [Int.toNat_natCast, upM_at, upM_nef, ne_eq, not_false_eq_true, Nat.reduceEqDiff, Nat.reduceAdd]
                rw [ei]
                refine v_goto hC 68 dX4_held_59 rfl ?_
                exact v_iret hC hR dX4_held_68 (⟨_, rfl, rfl, by rw [mheF, if_pos hc, if_pos (by omega)] <;> rfl⟩)
          · refine v_iconst hC dX4_held_38 ⟨by decide, by decide⟩ ?_
            exact v_iret hC hR dX4_held_39 (⟨_, rfl, rfl, by rw [mheF, if_neg (fun q => by have := q.2; omega)]⟩)
        · refine v_iconst hC dX4_held_26 ⟨by decide, by decide⟩ ?_
          exact v_iret hC hR dX4_held_27 (⟨_, rfl, rfl, by rw [mheF, if_neg (fun q => by have := q.1.2.2.2; omega)]⟩)
/-- blocking pairs of the reference -/
abbrev mblP (μ : MU) (p j : Nat) : Prop := ¬ μ 35 p = 3 ∧ (j : Int) < ownF μ p ∧ ¬ mchO μ (μ 30 (4 * p + j)).toNat (mBO μ p (μ 30 (4 * p + j)).toNat) p = -1
def mblS (μ : MU) (i : Int) (p j : Nat) (acc : Int ⊕ Int) : Int ⊕ Int := match acc with
  | .inr r => .inr r
  | .inl c => if mblP μ p j then (if c = i then .inr (8 * (p : Int) + μ 30 (4 * p + j)) else .inl (c + 1)) else .inl c
def mblO (μ : MU) (i : Int) (p : Nat) (acc : Int ⊕ Int) : Int ⊕ Int := itr (mblS μ i p) 0 (μ 29 p).toNat acc
def mblF (μ : MU) (i : Int) : Int ⊕ Int := itr (mblO μ i) 0 (μ 23 0).toNat (.inl 0)
theorem mblS_r {μ : MU} {i r : Int} {p : Nat} : ∀ (m j : Nat), itr (mblS μ i p) j m (.inr r) = .inr r
  | 0, _ => rfl
  | m + 1, j => mblS_r m (j + 1)
theorem mblO_r {μ : MU} {i r : Int} : ∀ (m p : Nat), itr (mblO μ i) p m (.inr r) = .inr r
  | 0, _ => rfl
  | m + 1, p => by
    show itr (mblO μ i) (p + 1) m (mblO μ i p (.inr r)) = _
    rw [mblO, mblS_r]
    exact mblO_r m (p + 1)
theorem mblS_idle {μ : MU} {i c : Int} {p : Nat} : ∀ (m j : Nat), (∀ t, j ≤ t → ¬ mblP μ p t) → itr (mblS μ i p) j m (.inl c) = .inl c
  | 0, _, _ => rfl
  | m + 1, j, h => by
    show itr (mblS μ i p) (j + 1) m (mblS μ i p j (.inl c)) = _
    have e : mblS μ i p j (.inl c) = .inl c := if_neg (h j (Nat.le_refl _))
    rw [e]
    exact mblS_idle m (j + 1) (fun t ht => h t (by omega))
theorem mblP_of {a b : MU} (h : Fr [20, 38, 39] a b) {p j : Nat} (hp : p < (a 23 0).toNat) : mblP b p j ↔ mblP a p j := by
  have e30 : ∀ j, b 30 j = a 30 j := fun j => h 30 j (by decide)
  have eO : ∀ s q, mBO b p s q = mBO a p s q := fun s q => by unfold mBO; rw [h 33 q (by decide), h 34 q (by decide)]
  unfold mblP
  rw [h 35 p (by decide), e30, ownF_of e30 (h 29 p (by decide)) (h 33 p (by decide)), mchO_of (h 23 0 (by decide)) (h 24 _ (by decide)) (fun j => h 25 j (by decide)) (fun k q => h.mg (by decide) _ k q) (fun q _ => eO _ q) p hp]
theorem own_r {μ : MU} {p : Nat} (h : μ 29 p ≤ 4) : 0 ≤ ownF μ p ∧ ownF μ p ≤ 9 := by
  unfold ownF
  split
  · omega
  · exact o9_r (by omega)
abbrev rmX4_blocking : Room := { frames := 4, cells := 0, slots := 0, locals := 98 }
set_option maxRecDepth 100000 in
set_option maxHeartbeats 4000000 in
theorem cX4_blocking_ok (i : Int) (μ : MU) (hSm : Sm μ) : CTi yX4_blocking cX4_blocking 5 (some .int) rmX4_blocking [aR 12 0, aI i] μ (fun r μ' => Fr [20, 38, 39] μ μ' ∧ μ' 20 0 = 0 ∧ r = if μ 21 0 = 0 ∨ i < -1 then -1 else blR i (mblF μ i)) := by
  intro l9 b9 D9 K9
  refine met_of (by decide) (Nat.le_of_ble_eq_true rfl) (fun x hC hR hM hA => ?_)
  have hC : Ctx x RX4 cX4_blocking rmX4_blocking := hC
  have hSm0 := hSm
  obtain ⟨⟨s1, s2⟩, ⟨n1, n2⟩, hr, hkc, hq, hpp, hli, hnu⟩ := hSm
  refine v_aload_n hC 0 dX4_blocking_0 rfl rfl ?_
  refine v_iconst hC dX4_blocking_1 ⟨by decide, by decide⟩ ?_
  refine v_putI hC fwX4_59 dX4_blocking_2 rfl rfl rfl (by decide) (by first | decide | (simp only [vdn]; omega)) ?_
  refine v_aload_n hC 0 dX4_blocking_5 rfl rfl ?_
  refine v_getI hC foX4_69 dX4_blocking_6 rfl rfl rfl (by first | decide | (simp only [vdn]; omega)) ?_
  try simp only [Int.toNat_natCast, upM_at, upM_nef, ne_eq, not_false_eq_true, Nat.reduceEqDiff, Nat.reduceAdd]
  refine v_if_eq hC 17 dX4_blocking_9 rfl (fun h9 => ?_) (fun h9 => ?_)
  · refine v_iconst hC dX4_blocking_17 ⟨by decide, by decide⟩ ?_
    exact v_iret hC hR dX4_blocking_18 (⟨_, rfl, Fr.rf.up (by decide), upM_at _ _ _ _, by rw [if_pos (Or.inl h9)]⟩)
  · refine v_iload_n hC 1 dX4_blocking_12 rfl rfl ?_
    refine v_iconst hC dX4_blocking_13 ⟨by decide, by decide⟩ ?_
    refine v_icmp_ge hC 19 dX4_blocking_14 rfl (fun h14 => ?_) (fun h14 => ?_)
    · refine v_iconst hC dX4_blocking_19 ⟨by decide, by decide⟩ ?_
      refine v_istore_n hC 2 dX4_blocking_20 rfl (Nat.le_of_ble_eq_true rfl) ?_
      refine v_iconst hC dX4_blocking_21 ⟨by decide, by decide⟩ ?_
      refine v_istore_n hC 3 dX4_blocking_22 rfl (Nat.le_of_ble_eq_true rfl) ?_
      have hnot : ¬ (μ 21 0 = 0 ∨ i < -1) := fun h => h.elim h9 (fun h => by omega)
      refine v_loop (fun p : Nat => (μ 23 0).toNat - p) (fun _ => True) (fun p => ∀ (μ1 : MU) (c : Int), p ≤ 20 → 0 ≤ c → c ≤ 4 * p → Fr [20, 38, 39] μ μ1 → μ1 20 0 = 0 → itr (mblO μ i) p ((μ 23 0).toNat - p) (.inl c) = mblF μ i → V x 0 0 none 23 [some (aR 12 0), some (aI i), some (aI c), some (aI (p : Int)), none] [] μ1) (fun p _ ih μ1 c a1 a2 a3 hF1 z1 a4 => ?_) 0 trivial _ 0 (by decide) (by decide) (by decide) (Fr.rf.up (by decide)) (upM_at _ _ _ _) rfl
      have e1 : μ1 23 0 = μ 23 0 := hF1 23 0 (by decide)
      refine v_iload_n hC 3 dX4_blocking_23 rfl rfl ?_
      refine v_aload_n hC 0 dX4_blocking_24 rfl rfl ?_
      refine v_getI hC foX4_66 dX4_blocking_25 rfl rfl rfl (by first | decide | (simp only [vdn]; omega)) ?_
      try simp only [Int.toNat_natCast, upM_at, upM_nef, ne_eq, not_false_eq_true, Nat.reduceEqDiff, Nat.reduceAdd]
      refine v_icmp_ge hC 121 dX4_blocking_28 rfl (fun h28 => ?_) (fun h28 => ?_)
      · refine v_iload_n hC 1 dX4_blocking_121 rfl rfl ?_
        refine v_iconst hC dX4_blocking_122 ⟨by decide, by decide⟩ ?_
        refine v_icmp_ne hC 130 dX4_blocking_123 rfl (fun h123 => ?_) (fun h123 => ?_)
        · refine v_iconst hC dX4_blocking_130 ⟨by decide, by decide⟩ ?_
          exact v_iret hC hR dX4_blocking_131 (⟨_, rfl, hF1, z1, by rw [if_neg hnot, ← a4, itr_done (by omega), blR, if_neg h123]⟩)
        · refine v_iload_n hC 2 dX4_blocking_126 rfl rfl ?_
          refine v_goto hC 131 dX4_blocking_127 rfl ?_
          exact v_iret hC hR dX4_blocking_131 (⟨_, rfl, hF1, z1, by rw [if_neg hnot, ← a4, itr_done (by omega), blR, if_pos h123]⟩)
      · refine v_iconst hC dX4_blocking_31 ⟨by decide, by decide⟩ ?_
        refine v_istore hC dX4_blocking_32 (Nat.le_of_ble_eq_true rfl) ?_
        have hp1 := hpp p (by omega)
        have how := own_r (μ := μ) (p := p) hp1.2.1
        rw [itr_step (by omega)] at a4
        refine v_loop (fun j : Nat => (μ 29 p).toNat - j) (fun _ => True) (fun j => ∀ (μ2 : MU) (c2 : Int), j ≤ 4 → 0 ≤ c2 → c2 ≤ 4 * p + j → Fr [20, 38, 39] μ μ2 → μ2 20 0 = 0 → itr (mblO μ i) (p + 1) ((μ 23 0).toNat - (p + 1)) (itr (mblS μ i p) j ((μ 29 p).toNat - j) (.inl c2)) = mblF μ i → V x 0 0 none 34 [some (aR 12 0), some (aI i), some (aI c2), some (aI (p : Int)), some (aI (j : Int))] [] μ2) (fun j _ ih2 μ2 c2 b1 b2 b3 hF2 z2 b4 => ?_) 0 trivial μ1 c (by decide) a2 (by omega) hF1 z1 a4
        have f1 : μ2 23 0 = μ 23 0 := hF2 23 0 (by decide)
        have f29 : μ2 29 p = μ 29 p := hF2 29 p (by decide)
        have f35 : μ2 35 p = μ 35 p := hF2 35 p (by decide)
        have f30 : μ2 30 (4 * p + j) = μ 30 (4 * p + j) := hF2 30 _ (by decide)
        have hSm2 : Sm μ2 := hF2.Sm hSm0 (by decide)
        have eow : ownF μ2 p = ownF μ p := ownF_of (fun j => hF2 30 j (by decide)) f29 (hF2 33 p (by decide))
        have ei : ((4 : Int) * (p : Int) + (j : Int)).toNat = 4 * p + j := by omega
        refine v_iload hC dX4_blocking_34 rfl ?_
        refine v_aload_n hC 0 dX4_blocking_36 rfl rfl ?_
        refine v_getR hC foX4_26 dX4_blocking_37 rfl rfl rfl (by decide) (by first | decide | (simp only [vdn]; omega)) ?_
        refine v_iload_n hC 3 dX4_blocking_40 rfl rfl ?_
        refine v_iald hC dX4_blocking_41 rfl rfl rfl (by first | decide | (simp only [vdn]; omega)) ⟨by first | omega | (simp only [mlen]; omega), by first | omega | (simp only [mlen]; omega)⟩ ?_
        try simp only [Int.toNat_natCast, upM_at, upM_nef, ne_eq, not_false_eq_true, Nat.reduceEqDiff, Nat.reduceAdd]
        refine v_icmp_ge hC 115 dX4_blocking_42 rfl (fun h42 => ?_) (fun h42 => ?_)
        · refine v_iinc hC dX4_blocking_115 rfl ⟨by omega, by omega⟩ ?_
          refine v_goto hC 23 dX4_blocking_118 rfl ?_
          refine v_forget 4 ?_
          exact ih (p + 1) trivial (by omega) μ2 c2 (by omega) (by omega) (by omega) hF2 z2 (by rw [← b4, itr_done (f := mblS μ i p) (i := j) (n := (μ 29 p).toNat) (by omega)])
        · refine v_iload hC dX4_blocking_45 rfl ?_
          refine v_aload_n hC 0 dX4_blocking_47 rfl rfl ?_
          refine v_iload_n hC 3 dX4_blocking_48 rfl rfl ?_
          refine v_callI1 hC (cwX4_110 hC ⟨Nat.le_of_ble_eq_true rfl, Nat.le_of_ble_eq_true rfl⟩) dX4_blocking_49 rfl rfl rfl (Nat.zero_le _) (Nat.zero_le _) (Nat.le_of_ble_eq_true rfl) (by first | decide | (simp only [vdn]; omega)) (cX4_own_ok p μ2 (by omega) hSm2) (fun r1 μ1 hp => ?_)
          obtain ⟨rfl, hr9⟩ := hp
          have hr9 : r1 = ownF μ2 p := hr9
          rw [eow] at hr9
          subst hr9
          refine v_icmp_ge hC 115 dX4_blocking_52 rfl (fun h52 => ?_) (fun h52 => ?_)
          · refine v_iinc hC dX4_blocking_115 rfl ⟨by omega, by omega⟩ ?_
            refine v_goto hC 23 dX4_blocking_118 rfl ?_
            refine v_forget 4 ?_
            exact ih (p + 1) trivial (by omega) μ2 c2 (by omega) (by omega) (by omega) hF2 z2 (by rw [← b4, mblS_idle _ j (fun t ht h => by have := h.2.1; omega)])
          · refine v_aload_n hC 0 dX4_blocking_55 rfl rfl ?_
            refine v_getR hC foX4_44 dX4_blocking_56 rfl rfl rfl (by decide) (by first | decide | (simp only [vdn]; omega)) ?_
            refine v_iload_n hC 3 dX4_blocking_59 rfl rfl ?_
            refine v_iald hC dX4_blocking_60 rfl rfl rfl (by first | decide | (simp only [vdn]; omega)) ⟨by first | omega | (simp only [mlen]; omega), by first | omega | (simp only [mlen]; omega)⟩ ?_
            try simp only [Int.toNat_natCast, upM_at, upM_nef, ne_eq, not_false_eq_true, Nat.reduceEqDiff, Nat.reduceAdd]
            refine v_iconst hC dX4_blocking_61 ⟨by decide, by decide⟩ ?_
            refine v_icmp_eq hC 115 dX4_blocking_62 rfl (fun h62 => ?_) (fun h62 => ?_)
            · refine v_iinc hC dX4_blocking_115 rfl ⟨by omega, by omega⟩ ?_
              refine v_goto hC 23 dX4_blocking_118 rfl ?_
              refine v_forget 4 ?_
              exact ih (p + 1) trivial (by omega) μ2 c2 (by omega) (by omega) (by omega) hF2 z2 (by rw [← b4, mblS_idle _ j (fun t ht h => h.1 (by rw [← f35]; exact h62))])
            · refine v_aload_n hC 0 dX4_blocking_65 rfl rfl ?_
              refine v_iload_n hC 3 dX4_blocking_66 rfl rfl ?_
              refine v_aload_n hC 0 dX4_blocking_67 rfl rfl ?_
              refine v_getR hC foX4_29 dX4_blocking_68 rfl rfl rfl (by decide) (by first | decide | (simp only [vdn]; omega)) ?_
              refine v_iconst hC dX4_blocking_71 ⟨by decide, by decide⟩ ?_
              refine v_iload_n hC 3 dX4_blocking_72 rfl rfl ?_
              refine v_imul hC dX4_blocking_73 ⟨by omega, by omega⟩ ?_
              refine v_iload hC dX4_blocking_74 rfl ?_
              refine v_iadd hC dX4_blocking_76 ⟨by omega, by omega⟩ ?_
              refine v_iald hC dX4_blocking_77 rfl rfl rfl (by first | decide | (simp only [vdn]; omega)) ⟨by first | omega | (simp only [mlen]; omega), by first | omega | (simp only [mlen]; omega)⟩ ?_
              try simp only [Int.toNat_natCast, upM_at, upM_nef, ne_eq, not_false_eq_true, Nat.reduceEqDiff, Nat.reduceAdd]
              have hl30 := hli (4 * p + j) (by omega)
              obtain ⟨sj, hsj⟩ := Int.eq_ofNat_of_zero_le hl30.1
              rw [ei, f30, hsj]
              refine v_callI2 hC (cwX4_125 hC ⟨Nat.le_of_ble_eq_true rfl, Nat.le_of_ble_eq_true rfl⟩) dX4_blocking_78 rfl rfl rfl (Nat.zero_le _) (Nat.zero_le _) (Nat.le_of_ble_eq_true rfl) (by first | decide | (simp only [vdn]; omega)) (cX4_blocks_ok p sj μ2 (by omega) (by omega) hSm2) (fun r1 μ1 hp => ?_)
              obtain ⟨hF3, rfl⟩ := hp
              have z3 : μ1 20 0 = 0 := (hF3 20 0 (by decide)).trans z2
              have hbe := mblP_of hF2 (p := p) (j := j) (by omega)
              have hbx : mblP μ2 p j ↔ ¬ mchO μ2 sj (mBO μ2 p sj) p = -1 := by
                unfold mblP
                rw [f30, hsj, Int.toNat_natCast, eow, f35]
                exact ⟨fun h => h.2.2, fun h => ⟨by rw [← f35]; exact h62, by omega, h⟩⟩
              have g30 : μ1 30 (4 * p + j) = (sj : Int) := by rw [hF3 30 _ (by decide), f30, hsj]
              refine v_if_eq hC 109 dX4_blocking_81 rfl (fun h81 => ?_) (fun h81 => ?_)
              · have hb : ¬ mblP μ p j := fun h => bI_z.1 h81 (hbx.1 (hbe.2 h))
                refine v_iinc hC dX4_blocking_109 rfl ⟨by omega, by omega⟩ ?_
                refine v_goto hC 34 dX4_blocking_112 rfl ?_
                exact ih2 (j + 1) trivial (by omega) μ1 c2 (by omega) b2 (by omega) (hF2.trans (hF3.mono (by decide))) z3 (by rw [← b4, itr_step (f := mblS μ i p) (i := j) (n := (μ 29 p).toNat) (by omega), mblS, if_neg hb])
              · have hb : mblP μ p j := hbe.1 (hbx.2 (bI_n.1 h81))
                refine v_iload_n hC 2 dX4_blocking_84 rfl rfl ?_
                refine v_iload_n hC 1 dX4_blocking_85 rfl rfl ?_
                refine v_icmp_ne hC 106 dX4_blocking_86 rfl (fun h86 => ?_) (fun h86 => ?_)
                · refine v_iinc hC dX4_blocking_106 rfl ⟨by omega, by omega⟩ ?_
                  refine v_iinc hC dX4_blocking_109 rfl ⟨by omega, by omega⟩ ?_
                  refine v_goto hC 34 dX4_blocking_112 rfl ?_
                  exact ih2 (j + 1) trivial (by omega) μ1 (c2 + 1) (by omega) (by omega) (by omega) (hF2.trans (hF3.mono (by decide))) z3 (by rw [← b4, itr_step (f := mblS μ i p) (i := j) (n := (μ 29 p).toNat) (by omega), mblS, if_pos hb, if_neg h86])
                · refine v_bipush hC dX4_blocking_89 ⟨by decide, by decide⟩ ?_
                  refine v_iload_n hC 3 dX4_blocking_91 rfl rfl ?_
                  refine v_imul hC dX4_blocking_92 ⟨by omega, by omega⟩ ?_
                  refine v_aload_n hC 0 dX4_blocking_93 rfl rfl ?_
                  refine v_getR hC foX4_29 dX4_blocking_94 rfl rfl rfl (by decide) (by first | decide | (simp only [vdn]; omega)) ?_
                  refine v_iconst hC dX4_blocking_97 ⟨by decide, by decide⟩ ?_
                  refine v_iload_n hC 3 dX4_blocking_98 rfl rfl ?_
                  refine v_imul hC dX4_blocking_99 ⟨by omega, by omega⟩ ?_
                  refine v_iload hC dX4_blocking_100 rfl ?_
                  refine v_iadd hC dX4_blocking_102 ⟨by omega, by omega⟩ ?_
                  refine v_iald hC dX4_blocking_103 rfl rfl rfl (by first | decide | (simp only [vdn]; omega)) ⟨by first | omega | (simp only [mlen]; omega), by first | omega | (simp only [mlen]; omega)⟩ ?_
                  try simp only [Int.toNat_natCast, upM_at, upM_nef, ne_eq, not_false_eq_true, Nat.reduceEqDiff, Nat.reduceAdd]
                  rw [ei, g30]
                  refine v_iadd hC dX4_blocking_104 ⟨by omega, by omega⟩ ?_
                  exact v_iret hC hR dX4_blocking_105 (⟨_, rfl, hF2.trans (hF3.mono (by decide)), z3, by
                    rw [if_neg hnot, ← b4, itr_step (f := mblS μ i p) (i := j) (n := (μ 29 p).toNat) (by omega), mblS, if_pos hb, if_pos h86, mblS_r, mblO_r, blR, hsj]⟩)
    · refine v_iconst hC dX4_blocking_17 ⟨by decide, by decide⟩ ?_
      exact v_iret hC hR dX4_blocking_18 (⟨_, rfl, Fr.rf.up (by decide), upM_at _ _ _ _, by rw [if_pos (Or.inr (by omega))]⟩)
