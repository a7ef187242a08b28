section OQ
variable {μ ν : MU}
theorem Rlt.appeal (h : Rlt μ ν) (P f : Int) : (mapP ν P f ↔ apP μ P f) ∧ Rlt (apM μ P f) (mapM ν P f) := by
  have h20 := h.n20
  have hi : mapP ν P f ↔ apP μ P f := by unfold mapP apP; rw [h.iP]
  refine ⟨hi, ?_⟩
  unfold mapM apM
  by_cases c : apP μ P f
  · rw [if_pos c, if_pos (hi.2 c)]
    have hμ : Fr [13] μ (upM μ 13 P.toNat f) := Fr.u (by decide)
    have hν : Fr [20, 27] ν (upM (upM ν 20 0 0) 27 P.toNat f) := (Fr.u (by decide)).up (by decide)
    refine ⟨hμ.Sf h.sf (by decide), hν.Sm h.sm (by decide), h.c.fr hμ hν (by decide) (by decide), h.k.fr hμ hν (by decide) (by decide), h.b.fr hμ hν (by decide) (by decide), fun p hp => ?_, h.n.fr hμ hν (by decide) (by decide), h.i.fr hν (by decide), h.w.fr hμ hν (by decide) (by decide), h.s.fr hμ hν (by decide) (by decide), h.z.fr hμ hν (by decide) (by decide)⟩
    have := h.p p hp
    rw [up_if, up_if, upM_nef (show (27 : Nat) ≠ 20 by decide)]
    refine ⟨?_, this.2⟩
    split
    · rfl
    · exact this.1
  · rw [if_neg c, if_neg (fun q => c (hi.1 q))]
    exact h.t20 0
theorem stM_y {P n : Int} (h : stP μ P n) : stM μ P n = upM μ 19 P.toNat n := if_pos h
theorem stM_n {P n : Int} (h : ¬ stP μ P n) : stM μ P n = μ := if_neg h
theorem Rlt.stay (h : Rlt μ ν) (P n : Int) : (mstP ν P n ↔ stP μ P n) ∧ Rlt (stM μ P n) (mstM ν P n) := by
  have h20 := h.n20
  have hi : mstP ν P n ↔ stP μ P n := by
    unfold mstP stP; rw [h.iP, h.c.2.2]
    by_cases c : isP μ P
    · have : P.toNat < 20 := by have := c.1; have := c.2; omega
      rw [(h.p P.toNat this).2.2.2.2.1]
    · simp only [c, false_and]
  refine ⟨hi, ?_⟩
  unfold mstM
  by_cases c : stP μ P n
  · rw [stM_y c, if_pos (hi.2 c)]
    have hμ : Fr [19] μ (upM μ 19 P.toNat n) := Fr.u (by decide)
    have hν : Fr [20, 37] ν (upM (upM ν 20 0 0) 37 P.toNat n) := (Fr.u (by decide)).up (by decide)
    refine ⟨hμ.Sf h.sf (by decide), hν.Sm h.sm (by decide), h.c.fr hμ hν (by decide) (by decide), h.k.fr hμ hν (by decide) (by decide), h.b.fr hμ hν (by decide) (by decide), fun p hp => ?_, h.n.fr hμ hν (by decide) (by decide), h.i.fr hν (by decide), h.w.fr hμ hν (by decide) (by decide), h.s.fr hμ hν (by decide) (by decide), h.z.fr hμ hν (by decide) (by decide)⟩
    obtain ⟨a, b, c, d, e, f, g⟩ := h.p p hp
    refine ⟨a, b, c, d, e, f, ?_⟩
    rw [up_if, up_if, upM_nef (show (37 : Nat) ≠ 20 by decide)]
    split
    · rfl
    · exact g
  · rw [stM_n c, if_neg (fun q => c (hi.1 q))]
    exact h.t20 0
theorem fnd_nb {P : Nat → Bool} {n : Nat} : fnd P 0 n = none ↔ ∀ t, t < n → P t = false := by
  constructor
  · intro h t ht; exact fnd_none _ _ h t (by omega) (by omega)
  · intro h
    cases e : fnd P 0 n with
    | none => rfl
    | some j =>
      have := fnd_some _ _ e
      rw [h j (by omega)] at this
      exact absurd this.2.2.1 (by decide)
theorem Rlt.draw (h : Rlt μ ν) (P S n : Int) : (mdrP ν P S n ↔ drP μ P S n) ∧ Rlt (drM μ P S n) (mdrM ν P S n) := by
  have h20 := h.n20
  have hi : mdrP ν P S n ↔ drP μ P S n := by
    unfold mdrP drP; rw [h.iP, h.iS, h.c.2.2]
    by_cases c : isP μ P ∧ isS μ S ∧ 0 ≤ n ∧ n ≤ 999 ∧ μ 2 0 = 0
    · have hs : S.toNat < 6 := by have := c.2.1.1; have := c.2.1.2; have := h.sf.1; omega
      have : mdrF ν P S n = drF μ P S n := by
        unfold mdrF drF
        rw [h.c.2.1]
        refine fnd_congr (n := (μ 1 0).toNat) _ _ (by omega) (fun q hq => ?_)
        obtain ⟨a, b, -⟩ := h.n q S.toNat (by omega) hs
        have : ν 31 (6 * q + S.toNat) = n ↔ μ 12 (6 * q + S.toNat) = n := by
          rw [a]
          split <;> omega
        simp only [this]
      rw [this]
    · simp only [c, false_and]
  refine ⟨hi, ?_⟩
  unfold mdrM drM
  by_cases c : drP μ P S n
  · rw [if_pos c, if_pos (hi.2 c)]
    obtain ⟨⟨c1, c2, c3, c4, c5⟩, c6⟩ := c
    have c7 := (hi.2 ⟨⟨c1, c2, c3, c4, c5⟩, c6⟩).2
    have hs : S.toNat < 6 := by have := c2.1; have := c2.2; have := h.sf.1; omega
    have hp0 : P.toNat < (μ 1 0).toNat := by have := c1.1; have := c1.2; omega
    have hμ : Fr [12] μ (upM μ 12 (6 * P.toNat + S.toNat) n) := Fr.u (by decide)
    have hν : Fr [20, 31] ν (upM (upM ν 20 0 0) 31 (6 * P.toNat + S.toNat) n) := (Fr.u (by decide)).up (by decide)
    have h12 : ∀ j, upM μ 12 (6 * P.toNat + S.toNat) n 12 j = if j = 6 * P.toNat + S.toNat then n else μ 12 j := fun j => up_if
    have h31 : ∀ j, upM (upM ν 20 0 0) 31 (6 * P.toNat + S.toNat) n 31 j = if j = 6 * P.toNat + S.toNat then n else ν 31 j := fun j => by rw [up_if, upM_nef (show (31 : Nat) ≠ 20 by decide)]
    have free : ∀ q : Nat, q < 20 → q ≠ P.toNat → ν 31 (6 * q + S.toNat) ≠ n := by
      intro q hq hne e
      by_cases hq2 : q < (μ 1 0).toNat
      · have := fnd_nb.1 c7 q (by rw [h.c.2.1]; exact hq2)
        have hqP : ¬ (q : Int) = P := by have := c1.1; omega
        simp [e, hqP] at this
      · have := (h.n q S.toNat hq hs).2.2 (by omega)
        omega
    refine ⟨?_, ?_, h.c.fr hμ hν (by decide) (by decide), h.k.fr hμ hν (by decide) (by decide), h.b.fr hμ hν (by decide) (by decide), h.p.fr hμ hν (by decide) (by decide), fun p s hp hs' => ?_, fun p p' s hp hp' hs' h0 e => ?_, h.w.fr hμ hν (by decide) (by decide), h.s.fr hμ hν (by decide) (by decide), h.z.fr hμ hν (by decide) (by decide)⟩
    · obtain ⟨s1, s2, s3, s4, s5, s6, s7, s8⟩ := h.sf
      refine ⟨s1, s2, s3, s4, s5, s6, s7, fun j hj => ?_⟩
      rw [h12]
      split
      · omega
      · exact s8 j hj
    · obtain ⟨s1, s2, s3, s4, s5, s6, s7, s8⟩ := h.sm
      refine ⟨s1, s2, s3, s4, s5, s6, s7, fun j hj => ?_⟩
      rw [h31]
      split
      · omega
      · exact s8 j hj
    · rw [h12, h31]
      obtain ⟨a, b, d⟩ := h.n p s hp hs'
      by_cases e : 6 * p + s = 6 * P.toNat + S.toNat
      · rw [if_pos e, if_pos e, if_neg (by omega)]
        refine ⟨rfl, c4, fun q => ?_⟩
        have q' : μ 1 0 ≤ (p : Int) := q
        omega
      · rw [if_neg e, if_neg e]
        exact ⟨a, b, d⟩
    · rw [h31] at h0 e
      rw [h31] at e
      by_cases e1 : 6 * p + s = 6 * P.toNat + S.toNat
      · by_cases e2 : 6 * p' + s = 6 * P.toNat + S.toNat
        · omega
        · rw [if_pos e1, if_neg e2] at e
          have hss : s = S.toNat := by omega
          subst hss
          exact absurd e.symm (free p' hp' (by omega))
      · rw [if_neg e1] at h0 e
        by_cases e2 : 6 * p' + s = 6 * P.toNat + S.toNat
        · rw [if_pos e2] at e
          have hss : s = S.toNat := by omega
          subst hss
          exact absurd e (free p hp (by omega))
        · rw [if_neg e2] at e
          exact h.i p p' s hp hp' hs' h0 e
  · rw [if_neg c, if_neg (fun q => c (hi.1 q))]
    exact h.t20 0
theorem Rlt.school0 (h : Rlt μ ν) (c : ¬ scC μ) : mscM ν 20 0 = 0 ∧ mscR ν = μ 0 0 ∧ Rlt (upM μ 0 0 (μ 0 0 + 1)) (mscM ν) := by
  have hc : ¬ mscC ν := by
    unfold mscC; rw [h.c.1, h.c.2.2]
    unfold scC at c
    omega
  unfold mscM mscR
  rw [if_neg hc, if_neg hc, h.c.1]
  refine ⟨by rw [upM_nef (by decide), upM_at], rfl, ?_⟩
  have hμ : Fr [0] μ (upM μ 0 0 (μ 0 0 + 1)) := Fr.u (by decide)
  have hν : Fr [20, 22] ν (upM (upM ν 20 0 0) 22 0 (μ 0 0 + 1)) := (Fr.u (by decide)).up (by decide)
  refine ⟨?_, ?_, ⟨?_, h.c.2⟩, h.k.fr hμ hν (by decide) (by decide), h.b.fr hμ hν (by decide) (by decide), h.p.fr hμ hν (by decide) (by decide), h.n.fr hμ hν (by decide) (by decide), h.i.fr hν (by decide), h.w.fr hμ hν (by decide) (by decide), h.s.fr hμ hν (by decide) (by decide), h.z.fr hμ hν (by decide) (by decide)⟩
  · obtain ⟨s1, s2⟩ := h.sf
    refine ⟨?_, s2⟩
    rw [upM_at]
    omega
  · obtain ⟨s1, s2⟩ := h.sm
    refine ⟨?_, s2⟩
    rw [upM_at]
    have := h.sf.1
    omega
  · rw [upM_at, upM_at]
theorem Rlt.school1 (h : Rlt μ ν) (c : scC μ) : mscM ν 20 0 = 1 ∧ Rlt μ (mscM ν) := by
  have hc : mscC ν := by
    unfold mscC; rw [h.c.1, h.c.2.2]
    have := h.sf.1
    unfold scC at c
    omega
  unfold mscM
  rw [if_pos hc]
  exact ⟨upM_at _ _ _ _, h.t20 1⟩
theorem Rlt.pupil0 (h : Rlt μ ν) (f l : Int) (c : cpC f) (d : ¬ cpS μ) : mpuM ν f l 20 0 = 0 ∧ mpuR ν f = μ 1 0 ∧ Rlt (upM (upM (upM μ 13 (μ 1 0).toNat f) 14 (μ 1 0).toNat l) 1 0 (μ 1 0 + 1)) (mpuM ν f l) := by
  have hc : ¬ mpuC f := by unfold mpuC; unfold cpC at c; omega
  have hd : ¬ mpuD ν := by unfold mpuD; unfold cpS at d; rw [h.c.2.1, h.c.2.2]; omega
  have h0 : μ 2 0 = 0 := by unfold cpS at d; omega
  have hn : μ 1 0 < 20 := by unfold cpS at d; omega
  unfold mpuM mpuR
  rw [if_neg hc, if_neg hc, if_neg hd, if_neg hd, h.c.2.1]
  have hμ : Fr [1, 13, 14] μ (upM (upM (upM μ 13 (μ 1 0).toNat f) 14 (μ 1 0).toNat l) 1 0 (μ 1 0 + 1)) := ((Fr.u (by decide)).up (by decide)).up (by decide)
  have hν : Fr [20, 23, 27, 28] ν (upM (upM (upM (upM ν 20 0 0) 27 (μ 1 0).toNat f) 28 (μ 1 0).toNat l) 23 0 (μ 1 0 + 1)) := (((Fr.u (by decide)).up (by decide)).up (by decide)).up (by decide)
  refine ⟨by rw [upM_nef (by decide), upM_nef (by decide), upM_nef (by decide), upM_at], rfl, ?_⟩
  have hz := h.z.fr hμ hν (by decide) (by decide)
  have s2 := h.sf.2.1
  refine ⟨?_, ?_, ⟨h.c.1, ?_, h.c.2.2⟩, h.k.fr hμ hν (by decide) (by decide), h.b.fr hμ hν (by decide) (by decide), fun p hp => ?_, fun p s hp hs => ?_, h.i.fr hν (by decide), h.w.fr hμ hν (by decide) (by decide), ?_, hz⟩
  · obtain ⟨s1, s2, s3⟩ := h.sf
    refine ⟨s1, ?_, s3⟩
    rw [upM_at]; omega
  · obtain ⟨s1, s2, s3⟩ := h.sm
    refine ⟨s1, ?_, s3⟩
    rw [upM_at]; have := h.sf.2.1; omega
  · rw [upM_at, upM_at]
  · obtain ⟨a, b, r⟩ := h.p p hp
    refine ⟨?_, ?_, r⟩
    · rw [upM_nef (by decide), upM_nef (by decide), up_if, upM_nef (by decide), upM_nef (by decide), upM_nef (by decide), up_if]
      split
      · rfl
      · exact a
    · rw [upM_nef (by decide), up_if, upM_nef (by decide), upM_nef (by decide), upM_nef (by decide), up_if, upM_nef (by decide)]
      split
      · rfl
      · exact b
  · obtain ⟨a, b, d⟩ := h.n p s hp hs
    refine ⟨a, b, fun q => d ?_⟩
    rw [upM_at] at q
    omega
  · refine hz.seats ?_ ?_
    · rw [hμ 2 0 (by decide)]; exact h0
    · rw [upM_at]; omega
theorem Rlt.pupil1 (h : Rlt μ ν) (f l : Int) : (¬ cpC f → mpuM ν f l 20 0 = 1 ∧ Rlt μ (mpuM ν f l)) ∧ (cpC f → cpS μ → mpuM ν f l 20 0 = 2 ∧ Rlt μ (mpuM ν f l)) := by
  refine ⟨fun c => ?_, fun c d => ?_⟩
  · have hc : mpuC f := by unfold mpuC; unfold cpC at c; omega
    unfold mpuM
    rw [if_pos hc]
    exact ⟨upM_at _ _ _ _, h.t20 1⟩
  · have hc : ¬ mpuC f := by unfold mpuC; unfold cpC at c; omega
    have hd : mpuD ν := by unfold mpuD; unfold cpS at d; rw [h.c.2.1, h.c.2.2]; have := h.sf.2.1; omega
    unfold mpuM
    rw [if_neg hc, if_pos hd]
    exact ⟨upM_at _ _ _ _, h.t20 2⟩
theorem pl9 {o : Option Nat} (h : ∀ j, o = some j → j < 4) : (oI o = -1 ↔ o9 o = 9) ∧ (¬ o9 o < 9 ↔ o9 o = 9) := by
  cases o with
  | none => simp [oI, o9]
  | some j =>
    have := h j rfl
    simp only [oI, o9]
    omega
theorem Rlt.wish0 (h : Rlt μ ν) (P S : Int) (c : wisC μ P S) (d : ¬ wisS μ P) : mwiM ν P S 20 0 = 0 ∧ mwiR ν P S = μ 11 P.toNat + 1 ∧ Rlt (upM (upM μ 10 (4 * P.toNat + (μ 11 P.toNat).toNat) S) 11 P.toNat (μ 11 P.toNat + 1)) (mwiM ν P S) := by
  obtain ⟨c1, c2, c3⟩ := c
  have h20 := h.n20
  have hp0 : P.toNat < 20 := by have := c1.1; have := c1.2; omega
  have h0 : μ 2 0 = 0 := by unfold wisS at d; omega
  have hn : μ 11 P.toNat < 4 := by unfold wisS at d; omega
  have h11 := h.sf.2.2.2.2.2.1 P.toNat hp0
  have hpl := h.pl hp0 S
  have hp9 := pl9 (o := plF μ P.toNat S) (fun j e => (pl_lt h.sf hp0 e).1)
  have e9 : ¬ o9 (mplF ν P.toNat S) < 9 := by rw [hpl]; exact hp9.2.2 (hp9.1.1 c3)
  have e29 := (h.p P.toNat hp0).2.2.1
  unfold mwiM mwiR
  have hne : ¬ ¬ (mIP ν P ∧ mIS ν S) := fun q => q ⟨(h.iP P).2 c1, (h.iS S).2 c2⟩
  rw [if_neg hne, if_neg hne, if_neg e9, if_neg e9, h.c.2.2, e29, if_neg (by omega), if_neg (by omega)]
  have hμ : Fr [10, 11] μ (upM (upM μ 10 (4 * P.toNat + (μ 11 P.toNat).toNat) S) 11 P.toNat (μ 11 P.toNat + 1)) := (Fr.u (by decide)).up (by decide)
  have hν : Fr [20, 29, 30] ν (upM (upM (upM (upM ν 20 0 0) 20 0 0) 30 (4 * P.toNat + (μ 11 P.toNat).toNat) S) 29 P.toNat (μ 11 P.toNat + 1)) := (((Fr.u (by decide)).up (by decide)).up (by decide)).up (by decide)
  refine ⟨by rw [upM_nef (by decide), upM_nef (by decide), upM_at], rfl, ?_⟩
  have hz := h.z.fr hμ hν (by decide) (by decide)
  have hS : 0 ≤ S ∧ S < 6 := by have := c2.1; have := c2.2; have := h.sf.1; omega
  have g11 : ∀ j, (upM (upM μ 10 (4 * P.toNat + (μ 11 P.toNat).toNat) S) 11 P.toNat (μ 11 P.toNat + 1)) 11 j = if j = P.toNat then μ 11 P.toNat + 1 else μ 11 j := fun j => by rw [up_if, upM_nef (by decide)]
  have g10 : ∀ j, (upM (upM μ 10 (4 * P.toNat + (μ 11 P.toNat).toNat) S) 11 P.toNat (μ 11 P.toNat + 1)) 10 j = if j = 4 * P.toNat + (μ 11 P.toNat).toNat then S else μ 10 j := fun j => by rw [upM_nef (by decide), up_if]
  have g29 : ∀ j, (upM (upM (upM (upM ν 20 0 0) 20 0 0) 30 (4 * P.toNat + (μ 11 P.toNat).toNat) S) 29 P.toNat (μ 11 P.toNat + 1)) 29 j = if j = P.toNat then μ 11 P.toNat + 1 else ν 29 j := fun j => by rw [up_if, upM_nef (by decide), upM_nef (by decide), upM_nef (by decide)]
  have g30 : ∀ j, (upM (upM (upM (upM ν 20 0 0) 20 0 0) 30 (4 * P.toNat + (μ 11 P.toNat).toNat) S) 29 P.toNat (μ 11 P.toNat + 1)) 30 j = if j = 4 * P.toNat + (μ 11 P.toNat).toNat then S else ν 30 j := fun j => by rw [upM_nef (by decide), up_if, upM_nef (by decide), upM_nef (by decide)]
  refine ⟨?_, ?_, h.c.fr hμ hν (by decide) (by decide), h.k.fr hμ hν (by decide) (by decide), h.b.fr hμ hν (by decide) (by decide), fun p hp => ?_, h.n.fr hμ hν (by decide) (by decide), h.i.fr hν (by decide), ⟨fun j hj => ?_, fun p i j hp hij hj => ?_⟩, ?_, hz⟩
  · obtain ⟨s1, s2, s3, s4, s5, s6, s7, s8⟩ := h.sf
    refine ⟨s1, s2, s3, s4, s5, fun p hp => ?_, fun j hj => ?_, s8⟩
    · rw [g11]
      have := s6 p hp
      refine ⟨?_, ?_, this.2.2⟩
      · split <;> omega
      · split <;> omega
    · rw [g10]
      have := s7 j hj
      split <;> omega
  · obtain ⟨s1, s2, s3, s4, s5, s6, s7, s8⟩ := h.sm
    refine ⟨s1, s2, s3, s4, s5, fun p hp => ?_, fun j hj => ?_, s8⟩
    · rw [g29]
      have := s6 p hp
      refine ⟨?_, ?_, this.2.2⟩
      · split <;> omega
      · split <;> omega
    · rw [g30]
      have := s7 j hj
      split <;> omega
  · obtain ⟨a, b, r, r2⟩ := h.p p hp
    refine ⟨a, b, ?_, r2⟩
    rw [g29, g11]
    split
    · rfl
    · exact r
  · rw [g30, g10]
    split
    · rfl
    · exact h.w.1 j hj
  · rw [g11] at hj
    rw [g10, g10]
    have old := h.w.2 p i j hp hij
    have h4 := h.sf.2.2.2.2.2.1 p hp
    by_cases ep : p = P.toNat
    · subst ep
      rw [if_pos rfl] at hj
      rw [if_neg (show ¬ 4 * P.toNat + i = 4 * P.toNat + (μ 11 P.toNat).toNat by omega)]
      by_cases ej : j = (μ 11 P.toNat).toNat
      · rw [if_pos (by omega)]
        have hno := fnd_nb.1 (oI_m.1 c3) i (by omega)
        simpa using hno
      · rw [if_neg (by omega)]
        exact old (by omega)
    · rw [if_neg ep] at hj
      rw [if_neg (by omega), if_neg (by omega)]
      exact old hj
  · refine hz.seats ?_ ?_
    · rw [hμ 2 0 (by decide)]; exact h0
    · rw [hμ 1 0 (by decide)]; exact h20
theorem Rlt.wish1 (h : Rlt μ ν) (P S : Int) : (¬ wisC μ P S → mwiM ν P S 20 0 = 1 ∧ Rlt μ (mwiM ν P S)) ∧ (wisC μ P S → wisS μ P → mwiM ν P S 20 0 = 2 ∧ Rlt μ (mwiM ν P S)) := by
  have h20 := h.n20
  refine ⟨fun c => ?_, fun c d => ?_⟩
  · unfold mwiM
    by_cases c1 : isP μ P ∧ isS μ S
    · rw [if_neg (fun q => q ⟨(h.iP P).2 c1.1, (h.iS S).2 c1.2⟩)]
      have hp0 : P.toNat < 20 := by have := c1.1.1; have := c1.1.2; omega
      have hp9 := pl9 (o := plF μ P.toNat S) (fun j e => (pl_lt h.sf hp0 e).1)
      have e9 : o9 (mplF ν P.toNat S) < 9 := by
        rw [h.pl hp0]
        refine Decidable.byContradiction fun q => c ⟨c1.1, c1.2, hp9.1.2 (hp9.2.1 q)⟩
      rw [if_pos e9]
      exact ⟨upM_at _ _ _ _, (h.t20 0).t20 1⟩
    · rw [if_pos (fun q => c1 ⟨(h.iP P).1 q.1, (h.iS S).1 q.2⟩)]
      exact ⟨upM_at _ _ _ _, h.t20 1⟩
  · obtain ⟨c1, c2, c3⟩ := c
    have hp0 : P.toNat < 20 := by have := c1.1; have := c1.2; omega
    have hp9 := pl9 (o := plF μ P.toNat S) (fun j e => (pl_lt h.sf hp0 e).1)
    have e9 : ¬ o9 (mplF ν P.toNat S) < 9 := by rw [h.pl hp0]; exact hp9.2.2 (hp9.1.1 c3)
    have h11 := h.sf.2.2.2.2.2.1 P.toNat hp0
    unfold mwiM
    rw [if_neg (fun q => q ⟨(h.iP P).2 c1, (h.iS S).2 c2⟩), if_neg e9, h.c.2.2, (h.p P.toNat hp0).2.2.1, if_pos (by unfold wisS at d; omega)]
    exact ⟨upM_at _ _ _ _, (h.t20 0).t20 2⟩
end OQ
