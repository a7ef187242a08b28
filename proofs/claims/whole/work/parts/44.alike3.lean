section OS
variable {μ ν : MU}
/-- a pupil's answer or a pupil's seat: the places p of 15, 16, 18, 19 change alike -/
theorem Rlt.pupilUp (h : Rlt μ ν) {μ' ν' : MU} {p0 : Nat} (hp0 : p0 < (μ 1 0).toNat) (h2 : ¬ μ 2 0 = 0) (hμ : Fr [15, 16, 18, 19] μ μ') (hν : Fr [20, 33, 34, 35, 36, 37] ν ν')
    (ho : ∀ p, p ≠ p0 → μ' 15 p = μ 15 p ∧ μ' 16 p = μ 16 p ∧ μ' 18 p = μ 18 p ∧ μ' 19 p = μ 19 p ∧ ν' 33 p = ν 33 p ∧ ν' 34 p = ν 34 p ∧ ν' 35 p = ν 35 p ∧ ν' 36 p = ν 36 p ∧ ν' 37 p = ν 37 p)
    (h3 : ν' 35 p0 = μ' 18 p0) (h4 : ν' 36 p0 = 0 ↔ μ' 18 p0 = 0) (h5 : ν' 37 p0 = μ' 19 p0) (h6 : Rs1 μ' ν' p0) : Rlt μ' ν' := by
  have h20 := h.n20
  refine ⟨hμ.Sf h.sf (by decide), hν.Sm h.sm (by decide), h.c.fr hμ hν (by decide) (by decide), h.k.fr hμ hν (by decide) (by decide), h.b.fr hμ hν (by decide) (by decide), fun p hp => ?_, h.n.fr hμ hν (by decide) (by decide), h.i.fr hν (by decide), h.w.fr hμ hν (by decide) (by decide), fun p hp => ?_, fun q => ?_⟩
  · obtain ⟨a, b, c, d, e, f, g⟩ := h.p p hp
    rw [hν 27 p (by decide), hμ 13 p (by decide), hν 28 p (by decide), hμ 14 p (by decide), hν 29 p (by decide), hμ 11 p (by decide), hν 32 p (by decide), hμ 17 p (by decide)]
    refine ⟨a, b, c, d, ?_⟩
    by_cases e0 : p = p0
    · rw [e0]; exact ⟨h3, h4, h5⟩
    · obtain ⟨o1, o2, o3, o4, o5, o6, o7, o8, o9⟩ := ho p e0
      rw [o3, o4, o7, o8, o9]
      exact ⟨e, f, g⟩
  · rw [hμ 1 0 (by decide)] at hp
    by_cases e0 : p = p0
    · rw [e0]; exact h6
    · obtain ⟨o1, o2, o3, o4, o5, o6, o7, o8, o9⟩ := ho p e0
      unfold Rs1
      have := h.s p hp
      unfold Rs1 at this
      rw [o1, o2, o5, o6, hμ 11 p (by decide), hμ 6 _ (by decide)]
      simp only [hμ 10 _ (show (10 : Nat) ∉ [15, 16, 18, 19] by decide)]
      exact this
  · rw [hμ 2 0 (by decide)] at q
    exact absurd q h2
theorem Rlt.answer (h : Rlt μ ν) (P w : Int) : anR μ P w = bI (manC ν P w) ∧ Rlt (anM μ P w) (manM ν P w) := by
  have h20 := h.n20
  by_cases c : anC μ P
  · have hp0 : P.toNat < (μ 1 0).toNat := by have := c.1.1; have := c.1.2; omega
    obtain ⟨-, -, -, -, p5, p6, p7⟩ := h.p P.toNat (by omega)
    obtain ⟨s1, s2, s3, s4, s5⟩ := h.s P.toNat hp0
    have s6 : 0 ≤ ν 33 P.toNat ↔ ¬ μ 15 P.toNat = -1 := by
      rw [s1]
      rcases h.own hp0 with ⟨h1, -⟩ | ⟨j, h1, -, h2, -⟩ <;> omega
    have hm : manC ν P w ↔ (0 ≤ w ∧ w ≤ 2) ∧ (2 ≤ w ∨ mayP μ P.toNat) := by
      unfold manC mayP
      rw [h.iP, h.c.2.2, p5, p6, s6]
      exact ⟨fun q => ⟨q.1.2.2, q.2.2⟩, fun q => ⟨⟨c.1, c.2.1, q.1⟩, c.2.2, q.2⟩⟩
    have hanM : anM μ P w = (if w = 0 then accM μ P.toNat else if w = 1 then decM μ P.toNat else if w = 2 then leaM μ P.toNat 3 else μ) := if_pos c
    have hanR : anR μ P w = (if w = 0 ∨ w = 1 then bI (mayP μ P.toNat) else if w = 2 then 1 else 0) := if_pos c
    have out : ∀ a : Int, a = 2 ∨ a = 3 → Rlt (leaM μ P.toNat a) (upM (upM (upM (upM (upM (upM ν 20 0 0) 36 P.toNat 1) 35 P.toNat a) 33 P.toNat (-1)) 34 P.toNat (-1)) 37 P.toNat 0) := by
      intro a ha
      refine h.pupilUp (p0 := P.toNat) hp0 c.2.1 ((((Fr.u (by decide)).up (by decide)).up (by decide)).up (by decide)) ((((((Fr.u (by decide)).up (by decide)).up (by decide)).up (by decide)).up (by decide)).up (by decide)) (fun p hp => ?_) ?_ ?_ ?_ ?_
      · simp [upM, hp]
      · simp [upM]
      · simp only [upM]; simp; omega
      · simp [upM]
      · simp [upM, Rs1]
    rw [hanM, hanR]
    unfold manM
    by_cases w0 : w = 0
    · subst w0
      rw [if_pos rfl, if_pos (Or.inl rfl)]
      unfold accM
      by_cases m : mayP μ P.toNat
      · have hc : manC ν P 0 := hm.2 ⟨by omega, Or.inr m⟩
        rw [if_pos m, if_pos hc, if_neg (by omega)]
        refine ⟨?_, ?_⟩
        · rw [← bI_t m, ← bI_t hc]
        · refine h.pupilUp (p0 := P.toNat) hp0 c.2.1 (Fr.u (by decide)) (((Fr.u (by decide)).up (by decide)).up (by decide)) (fun p hp => ?_) ?_ ?_ ?_ ?_
          · simp [upM, hp]
          · simp [upM]
          · simp [upM]
          · simp [upM, p7]
          · have := h.s P.toNat hp0
            simpa [upM, Rs1] using this
      · have hc : ¬ manC ν P 0 := fun q => by
          rcases (hm.1 q).2 with q | q
          · omega
          · exact m q
        rw [if_neg m, if_neg hc]
        exact ⟨by rw [← bI_f m, ← bI_f hc], h.t20 0⟩
    · rw [if_neg w0]
      by_cases w1 : w = 1
      · subst w1
        rw [if_pos rfl, if_pos (Or.inr rfl)]
        unfold decM
        by_cases m : mayP μ P.toNat
        · have hc : manC ν P 1 := hm.2 ⟨by omega, Or.inr m⟩
          rw [if_pos m, if_pos hc, if_pos (by omega)]
          exact ⟨by rw [← bI_t m, ← bI_t hc], out 2 (Or.inl rfl)⟩
        · have hc : ¬ manC ν P 1 := fun q => by
            rcases (hm.1 q).2 with q | q
            · omega
            · exact m q
          rw [if_neg m, if_neg hc]
          exact ⟨by rw [← bI_f m, ← bI_f hc], h.t20 0⟩
      · rw [if_neg w1, if_neg (fun q => q.elim w0 w1)]
        by_cases w2 : w = 2
        · subst w2
          have hc : manC ν P 2 := hm.2 ⟨by omega, Or.inl (by omega)⟩
          rw [if_pos rfl, if_pos rfl, if_pos hc, if_pos (by omega)]
          exact ⟨bI_t hc, out 3 (Or.inr rfl)⟩
        · have hc : ¬ manC ν P w := fun q => by
            have := (hm.1 q).1
            omega
          rw [if_neg w2, if_neg w2, if_neg hc]
          exact ⟨bI_f hc, h.t20 0⟩
  · have hanM : anM μ P w = μ := if_neg c
    have hanR : anR μ P w = 0 := if_neg c
    have hc : ¬ manC ν P w := fun q => by
      have q1 := (h.iP P).1 q.1.1
      have hp0 : P.toNat < 20 := by have := q1.1; have := q1.2; omega
      have q2 := q.1.2.1
      have q3 := q.2.1
      rw [h.c.2.2] at q2
      rw [(h.p P.toNat hp0).2.2.2.2.1] at q3
      exact c ⟨q1, q2, q3⟩
    rw [hanM, hanR]
    unfold manM
    rw [if_neg hc]
    exact ⟨bI_f hc, h.t20 0⟩
theorem Rlt.over0 (h : Rlt μ ν) (P S : Int) (c : coC μ P S) (d : ¬ coS μ P) : movM ν P S 20 0 = 0 ∧ movR ν P S = 1 ∧ Rlt (sitM μ P.toNat S (-1)) (movM ν P S) := by
  obtain ⟨c1, c2, c3⟩ := c
  have h20 := h.n20
  have hp0 : P.toNat < (μ 1 0).toNat := by have := c1.1; have := c1.2; omega
  have hp9 := pl9 (o := plF μ P.toNat S) (fun j e => (pl_lt h.sf (by omega) e).1)
  obtain ⟨-, -, -, -, p5, p6, p7⟩ := h.p P.toNat (by omega)
  obtain ⟨s1, s2, -⟩ := h.s P.toNat hp0
  have d1 : ¬ ¬ mIP ν P := fun q => q ((h.iP P).2 c1)
  have d2 : ¬ movC ν P S := by
    unfold movC
    rw [h.pl (by omega), h.c.2.2, s1]
    exact fun q => q.elim (fun q => c2 (hp9.1.2 q)) (fun q => c3 q.2)
  have d3 : ¬ movD ν P := by
    unfold movD
    rw [h.c.2.2, p5]
    exact d
  unfold movM movR
  rw [if_neg d1, if_neg d1, if_neg d2, if_neg d2, if_neg d3, if_neg d3]
  refine ⟨by rw [upM_nef (by decide), upM_nef (by decide), upM_at], rfl, ?_⟩
  refine h.pupilUp (p0 := P.toNat) hp0 (fun q => d (Or.inl q)) ((Fr.u (by decide)).up (by decide)) ((((Fr.u (by decide)).up (by decide)).up (by decide)).up (by decide)) (fun p hp => ?_) ?_ ?_ ?_ ?_
  · simp [upM, hp]
  · simpa [upM] using p5
  · simpa [upM] using p6
  · simpa [upM] using p7
  · cases e : plF μ P.toNat S with
    | none => exact absurd (by rw [e]; rfl) c2
    | some j =>
      have hj := pl_some e
      have hl := pl_lt h.sf (by omega) e
      refine ⟨by simp [upM], by simp [upM], fun q => by simp [upM], fun _ => ⟨j, ?_, ?_⟩, fun q => absurd (by simp [upM]) q⟩
      · simpa [upM] using hj.1
      · simpa [upM] using hj.2
theorem Rlt.over1 (h : Rlt μ ν) (P S : Int) : (¬ coC μ P S → movM ν P S 20 0 = 1 ∧ Rlt μ (movM ν P S)) ∧ (coC μ P S → coS μ P → movM ν P S 20 0 = 2 ∧ Rlt μ (movM ν P S)) := by
  have h20 := h.n20
  refine ⟨fun c => ?_, fun c d => ?_⟩
  · unfold movM
    by_cases c1 : isP μ P
    · have hp0 : P.toNat < (μ 1 0).toNat := by have := c1.1; have := c1.2; omega
      have hp9 := pl9 (o := plF μ P.toNat S) (fun j e => (pl_lt h.sf (by omega) e).1)
      obtain ⟨s1, s2, -⟩ := h.s P.toNat hp0
      rw [if_neg (fun q => q ((h.iP P).2 c1))]
      have hc : movC ν P S := by
        unfold movC
        rw [h.pl (by omega), h.c.2.2, s1]
        by_cases e : oI (plF μ P.toNat S) = -1
        · exact Or.inl (hp9.1.1 e)
        · have e2 : μ 15 P.toNat = S := Decidable.byContradiction fun q => c ⟨c1, e, q⟩
          by_cases z : μ 2 0 = 0
          · exfalso
            have z1 := (h.z z P.toNat (by omega)).1
            rw [z1] at e2
            cases f : plF μ P.toNat S with
            | none => exact e (by rw [f]; rfl)
            | some j =>
              have := pl_lt h.sf (by omega) f
              omega
          · exact Or.inr ⟨z, e2⟩
      rw [if_pos hc]
      exact ⟨upM_at _ _ _ _, (h.t20 0).t20 1⟩
    · rw [if_pos (fun q => c1 ((h.iP P).1 q))]
      exact ⟨upM_at _ _ _ _, h.t20 1⟩
  · obtain ⟨c1, c2, c3⟩ := c
    have hp0 : P.toNat < (μ 1 0).toNat := by have := c1.1; have := c1.2; omega
    have hp9 := pl9 (o := plF μ P.toNat S) (fun j e => (pl_lt h.sf (by omega) e).1)
    obtain ⟨-, -, -, -, p5, p6, p7⟩ := h.p P.toNat (by omega)
    obtain ⟨s1, s2, -⟩ := h.s P.toNat hp0
    have d2 : ¬ movC ν P S := by
      unfold movC
      rw [h.pl (by omega), h.c.2.2, s1]
      exact fun q => q.elim (fun q => c2 (hp9.1.2 q)) (fun q => c3 q.2)
    have d3 : movD ν P := by
      unfold movD
      rw [h.c.2.2, p5]
      exact d
    unfold movM
    rw [if_neg (fun q => q ((h.iP P).2 c1)), if_neg d2, if_pos d3]
    exact ⟨upM_at _ _ _ _, (h.t20 0).t20 2⟩
theorem Rlt.hd (h : Rlt μ ν) : Hd μ := fun q hq h1 => by
  obtain ⟨s1, s2, s3, s4, s5⟩ := h.s q hq
  rcases h.own hq with ⟨h2, -⟩ | ⟨j, -, -, h2, h3, -⟩
  · exact absurd (s3 h2) h1
  · have h6 := h.sf.2.2.2.1 (μ 15 q).toNat (by omega)
    have := s5 h1
    omega
theorem Rlt.hkd (h : Rlt μ ν) : ∀ q : Nat, q < (ν 23 0).toNat → ν 33 q < 6 ∧ ν 34 q < 3 := fun q hq => by
  rw [h.c.2.1] at hq
  obtain ⟨s1, s2, s3, s4, s5⟩ := h.s q hq
  rw [s1, s2]
  rcases h.own hq with ⟨h2, -⟩ | ⟨j, -, -, h2, h3, -⟩
  · have := s3 h2
    omega
  · refine ⟨h3, ?_⟩
    by_cases e : μ 16 q = -1
    · omega
    · exact (h.hd q hq e).2.2.2
theorem Rlt.envies0 (h : Rlt μ ν) (a b : Int) (c : ceC μ a b) : menM ν a b 20 0 = 0 ∧ menR ν a b = bI (ceR μ a b) ∧ Rlt μ (menM ν a b) := by
  obtain ⟨c1, c2, c3⟩ := c
  have h20 := h.n20
  have ha : a.toNat < (μ 1 0).toNat := by have := c1.1; have := c1.2; omega
  have hb : b.toNat < (μ 1 0).toNat := by have := c2.1; have := c2.2; omega
  obtain ⟨s1, s2, s3, -, s5⟩ := h.s b.toNat hb
  have hd := h.hd b.toNat hb c3
  have e1 : menC ν a b := ⟨(h.iP a).2 c1, (h.iP b).2 c2⟩
  have e2 : menD ν b := by unfold menD; rw [s1, s2]; exact ⟨hd.1, hd.2.2.1⟩
  unfold menM menR
  rw [if_pos e1, if_pos e1, if_pos e2, if_pos e2]
  refine ⟨upM_at _ _ _ _, ?_, (h.t20 0).t20 0⟩
  have hs6 : (μ 15 b.toNat).toNat < 6 := by omega
  have hk : (((μ 16 b.toNat).toNat : Nat) : Int) < μ 6 (μ 15 b.toNat).toNat := by have := (s5 c3).2; omega
  have key : menP ν a b ↔ ceR μ a b := by
    unfold menP ceR
    rw [s1, s2, h.pref ha]
    refine and_congr Iff.rfl ?_
    rcases h.el (p := a.toNat) (by omega) hs6 hk with ⟨a1, a2, a3⟩ | ⟨a1, a2⟩
    · rcases h.el (p := b.toNat) (by omega) hs6 hk with ⟨b1, b2, b3⟩ | ⟨b1, b2⟩
      · have := h.rkl ha hb hs6 hk a1 b1
        exact ⟨fun q => ⟨b2, this.1 q.2.2⟩, fun q => ⟨a1, b1, this.2 q.2⟩⟩
      · exact ⟨fun q => absurd q.2.1 b1, fun q => by omega⟩
    · exact ⟨fun q => absurd q.1 a1, fun q => by omega⟩
  by_cases e : ceR μ a b
  · rw [← bI_t e, ← bI_t (key.2 e)]
  · rw [← bI_f e, ← bI_f (fun q => e (key.1 q))]
theorem Rlt.envies1 (h : Rlt μ ν) (a b : Int) (c : ¬ ceC μ a b) : menM ν a b 20 0 = 1 ∧ Rlt μ (menM ν a b) := by
  have h20 := h.n20
  unfold menM
  by_cases e1 : menC ν a b
  · have hb' := (h.iP b).1 e1.2
    have hb : b.toNat < (μ 1 0).toNat := by have := hb'.1; have := hb'.2; omega
    obtain ⟨s1, s2, s3, s4, s5⟩ := h.s b.toNat hb
    have e2 : ¬ menD ν b := by
      unfold menD; rw [s1, s2]
      exact fun q => c ⟨(h.iP a).1 e1.1, hb', by omega⟩
    rw [if_pos e1, if_neg e2]
    exact ⟨upM_at _ _ _ _, (h.t20 0).t20 1⟩
  · rw [if_neg e1]
    exact ⟨upM_at _ _ _ _, h.t20 1⟩
theorem bc_bands (b0 b1 b2 : Int) {j : Nat} (hj : j < 3) : if j < bcV b0 b1 b2 then 0 ≤ bb3 b0 b1 b2 j ∧ bb3 (if b0 < 0 then -1 else b0) (if b0 < 0 ∨ b1 < 0 then -1 else b1) (if b0 < 0 ∨ b1 < 0 ∨ b2 < 0 then -1 else b2) j = bb3 b0 b1 b2 j else bb3 (if b0 < 0 then -1 else b0) (if b0 < 0 ∨ b1 < 0 then -1 else b1) (if b0 < 0 ∨ b1 < 0 ∨ b2 < 0 then -1 else b2) j < 0 := by
  obtain rfl | rfl | rfl : j = 0 ∨ j = 1 ∨ j = 2 := by omega
  all_goals
    by_cases c0 : b0 < 0 <;> by_cases c1 : b1 < 0 <;> by_cases c2 : b2 < 0 <;> simp [bcV, bb3, fnd, c0, c1, c2] <;> omega
theorem bcV_3 (b0 b1 b2 : Int) : bcV b0 b1 b2 ≤ 3 := by
  unfold bcV
  cases e : fnd (fun j => decide (bb3 b0 b1 b2 j < 0)) 0 3 with
  | none => simp
  | some j =>
    have := fnd_some _ _ e
    simp; omega
theorem Rlt.kind0 (h : Rlt μ ν) (S n b0 b1 b2 : Int) (c : ckC μ S n b0 b1 b2) (d : ¬ ckS μ S) : mkdM ν S n b0 b1 b2 20 0 = 0 ∧ mkdR ν S n b0 b1 b2 = μ 6 S.toNat ∧ Rlt (ckM μ S.toNat (μ 6 S.toNat).toNat n b0 b1 b2) (mkdM ν S n b0 b1 b2) := by
  obtain ⟨c1, c2, c3, c4, c5, c6⟩ := c
  have h20 := h.n20
  have hs : S.toNat < 6 := by have := c1.1; have := c1.2; have := h.sf.1; omega
  have h0 : μ 2 0 = 0 := by unfold ckS at d; omega
  have hk3 := h.sf.2.2.2.1 S.toNat hs
  have hk : μ 6 S.toNat < 3 := by unfold ckS at d; omega
  have e24 := h.k.1 S.toNat hs
  have d1 : ¬ ¬ mkdC ν S n b0 b1 b2 := fun q => q ⟨(h.iS S).2 c1, c2, c3, c4, c5, c6⟩
  unfold mkdM mkdR
  have d2 : ¬ (¬ μ 2 0 = 0 ∨ μ 6 S.toNat = 3) := by omega
  rw [if_neg d1, if_neg d1, h.c.2.2, e24, if_neg d2, if_neg d2]
  generalize hC0 : (if b0 < 0 then -1 else b0) = C0
  generalize hC1 : (if b0 < 0 ∨ b1 < 0 then -1 else b1) = C1
  generalize hC2 : (if b0 < 0 ∨ b1 < 0 ∨ b2 < 0 then -1 else b2) = C2
  have hB : ∀ j : Nat, j < 3 → if j < bcV b0 b1 b2 then 0 ≤ bb3 b0 b1 b2 j ∧ bb3 C0 C1 C2 j = bb3 b0 b1 b2 j else bb3 C0 C1 C2 j < 0 := by
    rw [← hC0, ← hC1, ← hC2]
    exact fun j hj => bc_bands b0 b1 b2 hj
  generalize hkk : (μ 6 S.toNat).toNat = k
  generalize hss : S.toNat = s at *
  have hkI : μ 6 s = (k : Int) := by omega
  have hks : k < 3 := by omega
  unfold ckM mkd0
  have hμ : Fr [6, 7, 8, 9] μ (upM (upM (bnd3 (upM μ 9 (3 * s + k) n) (3 * s + k) b0 b1 b2) 8 (3 * s + k) (bcV b0 b1 b2)) 6 s ((k : Int) + 1)) := ((((((Fr.u (by decide)).up (by decide)).up (by decide)).up (by decide)).up (by decide)).up (by decide))
  have hν : Fr [20, 24, 25, 26] ν (upM (upM (upM (upM (upM (upM (upM ν 20 0 0) 20 0 0) 25 (3 * s + k) n) 26 (3 * (3 * s + k)) C0) 26 (3 * (3 * s + k) + 1) C1) 26 (3 * (3 * s + k) + 2) C2) 24 s ((k : Int) + 1)) := (((((((Fr.u (by decide)).up (by decide)).up (by decide)).up (by decide)).up (by decide)).up (by decide)).up (by decide))
  refine ⟨by simp [upM], rfl, ?_⟩
  generalize hM : (upM (upM (bnd3 (upM μ 9 (3 * s + k) n) (3 * s + k) b0 b1 b2) 8 (3 * s + k) (bcV b0 b1 b2)) 6 s ((k : Int) + 1)) = M at *
  generalize hN : (upM (upM (upM (upM (upM (upM (upM ν 20 0 0) 20 0 0) 25 (3 * s + k) n) 26 (3 * (3 * s + k)) C0) 26 (3 * (3 * s + k) + 1) C1) 26 (3 * (3 * s + k) + 2) C2) 24 s ((k : Int) + 1)) = N at *
  have g6 : ∀ j, M 6 j = if j = s then (k : Int) + 1 else μ 6 j := fun j => by
    rw [← hM, up_if, upM_nef (by decide), bnd3_ne (by decide), upM_nef (by decide)]
  have g8 : ∀ j, M 8 j = if j = 3 * s + k then (bcV b0 b1 b2 : Int) else μ 8 j := fun j => by
    rw [← hM, upM_nef (by decide), up_if, bnd3_ne (by decide), upM_nef (by decide)]
  have g9 : ∀ j, M 9 j = if j = 3 * s + k then n else μ 9 j := fun j => by
    rw [← hM, upM_nef (by decide), upM_nef (by decide), bnd3_ne (by decide), up_if]
  have g7a : ∀ j, j < 3 → M 7 (3 * (3 * s + k) + j) = bb3 b0 b1 b2 j := fun j hj => by
    rw [← hM, upM_nef (by decide), upM_nef (by decide)]
    exact bnd3_at _ _ _ _ _ hj
  have g7b : ∀ q j, j < 3 → q ≠ 3 * s + k → M 7 (3 * q + j) = μ 7 (3 * q + j) := fun q j hj hq => by
    rw [← hM, upM_nef (by decide), upM_nef (by decide)]
    show upM (upM (upM (upM μ 9 (3 * s + k) n) 7 (3 * (3 * s + k) + 0) b0) 7 (3 * (3 * s + k) + 1) b1) 7 (3 * (3 * s + k) + 2) b2 7 (3 * q + j) = _
    rw [upM_ne (by omega), upM_ne (by omega), upM_ne (by omega), upM_nef (by decide)]
  have g24 : ∀ j, N 24 j = if j = s then (k : Int) + 1 else ν 24 j := fun j => by
    rw [← hN, up_if, upM_nef (by decide), upM_nef (by decide), upM_nef (by decide), upM_nef (by decide), upM_nef (by decide), upM_nef (by decide)]
  have g25 : ∀ j, N 25 j = if j = 3 * s + k then n else ν 25 j := fun j => by
    rw [← hN, upM_nef (by decide), upM_nef (by decide), upM_nef (by decide), upM_nef (by decide), up_if, upM_nef (by decide), upM_nef (by decide)]
  have g26a : ∀ j, j < 3 → N 26 (9 * s + 3 * k + j) = bb3 C0 C1 C2 j := fun j hj => by
    rw [← hN, upM_nef (by decide), up_if, up_if, up_if]
    unfold bb3
    obtain rfl | rfl | rfl : j = 0 ∨ j = 1 ∨ j = 2 := by omega
    · rw [if_neg (by omega), if_neg (by omega), if_pos (by omega), if_pos rfl]
    · rw [if_neg (by omega), if_pos (by omega), if_neg (by omega), if_pos rfl]
    · rw [if_pos (by omega), if_neg (by omega), if_neg (by omega)]
  have g26b : ∀ s' k' j, j < 3 → k' < 3 → (s' ≠ s ∨ k' ≠ k) → N 26 (9 * s' + 3 * k' + j) = ν 26 (9 * s' + 3 * k' + j) := fun s' k' j hj hk' hne => by
    rw [← hN, upM_nef (by decide), upM_ne (by omega), upM_ne (by omega), upM_ne (by omega), upM_nef (by decide), upM_nef (by decide), upM_nef (by decide)]
  have hb3 := bcV_3 b0 b1 b2
  have hz := h.z.fr hμ hν (by decide) (by decide)
  refine ⟨?_, ?_, h.c.fr hμ hν (by decide) (by decide), ⟨fun j hj => ?_, fun j hj => ?_⟩, fun s' k' hs' hk' => ?_, h.p.fr hμ hν (by decide) (by decide), h.n.fr hμ hν (by decide) (by decide), h.i.fr hν (by decide), h.w.fr hμ hν (by decide) (by decide), ?_, hz⟩
  · obtain ⟨s1, s2, s3, s4, s5, s6, s7, s8⟩ := h.sf
    unfold Sf
    rw [hμ 0 0 (by decide), hμ 1 0 (by decide), hμ 2 0 (by decide)]
    refine ⟨s1, s2, s3, fun j hj => ?_, fun j hj => ?_, fun j hj => ?_, fun j hj => ?_, fun j hj => ?_⟩
    · have := s4 j hj; rw [g6]; split <;> omega
    · have := s5 j hj
      rw [g8, g9]
      by_cases e : j = 3 * s + k
      · rw [if_pos e, if_pos e]; omega
      · rw [if_neg e, if_neg e]; exact this
    · rw [hμ 11 j (by decide), hμ 17 j (by decide)]; exact s6 j hj
    · rw [hμ 10 j (by decide)]; exact s7 j hj
    · rw [hμ 12 j (by decide)]; exact s8 j hj
  · obtain ⟨s1, s2, s3, s4, s5, s6, s7, s8⟩ := h.sm
    unfold Sm
    rw [hν 21 0 (by decide), hν 22 0 (by decide), hν 23 0 (by decide)]
    refine ⟨s1, s2, s3, fun j hj => ?_, fun j hj => ?_, fun j hj => ?_, fun j hj => ?_, fun j hj => ?_⟩
    · have := s4 j hj; rw [g24]; split <;> omega
    · have := s5 j hj
      rw [g25]
      split <;> omega
    · rw [hν 29 j (by decide), hν 32 j (by decide)]; exact s6 j hj
    · rw [hν 30 j (by decide)]; exact s7 j hj
    · rw [hν 31 j (by decide)]; exact s8 j hj
  · rw [g24, g6]
    split
    · rfl
    · exact h.k.1 j hj
  · rw [g25, g9]
    split
    · rfl
    · exact h.k.2 j hj
  · intro j hj
    rw [g6] at hk'
    have h4 := h.sf.2.2.2.1 s' hs'
    have hk3' : k' < 3 := by split at hk' <;> omega
    by_cases e : s' = s ∧ k' = k
    · obtain ⟨rfl, rfl⟩ := e
      rw [g8, if_pos rfl, g7a j hj, g26a j hj]
      have := hB j hj
      by_cases q : j < bcV b0 b1 b2
      · rw [if_pos q] at this
        rw [if_pos (by omega)]
        exact this
      · rw [if_neg q] at this
        rw [if_neg (by omega)]
        exact this
    · have e1 : 3 * s' + k' ≠ 3 * s + k := by omega
      have hk6 : (k' : Int) < μ 6 s' := by
        by_cases es : s' = s
        · rw [if_pos es] at hk'
          rw [es, hkI]
          omega
        · rw [if_neg es] at hk'
          exact hk'
      have hold := h.b s' k' hs' hk6 j hj
      rw [g8, if_neg e1, g7b _ j hj e1, g26b s' k' j hj hk3' (by omega)]
      exact hold
  · refine hz.seats ?_ ?_
    · rw [hμ 2 0 (by decide)]; exact h0
    · rw [hμ 1 0 (by decide)]; exact h20
theorem Rlt.kind1 (h : Rlt μ ν) (S n b0 b1 b2 : Int) : (¬ ckC μ S n b0 b1 b2 → mkdM ν S n b0 b1 b2 20 0 = 1 ∧ Rlt μ (mkdM ν S n b0 b1 b2)) ∧ (ckC μ S n b0 b1 b2 → ckS μ S → mkdM ν S n b0 b1 b2 20 0 = 2 ∧ Rlt μ (mkdM ν S n b0 b1 b2)) := by
  have hi : mkdC ν S n b0 b1 b2 ↔ ckC μ S n b0 b1 b2 := by unfold mkdC ckC; rw [h.iS]
  refine ⟨fun c => ?_, fun c d => ?_⟩
  · unfold mkdM
    rw [if_pos (fun q => c (hi.1 q))]
    exact ⟨upM_at _ _ _ _, h.t20 1⟩
  · have hs : S.toNat < 6 := by have := c.1.1; have := c.1.2; have := h.sf.1; omega
    have hk3 := h.sf.2.2.2.1 S.toNat hs
    unfold mkdM
    rw [if_neg (fun q => q (hi.2 c)), h.c.2.2, h.k.1 _ hs, if_pos (by unfold ckS at d; omega)]
    exact ⟨upM_at _ _ _ _, (h.t20 0).t20 2⟩
end OS
