/-! Call by call: both halves answer alike and go on alike. -/
section RF
variable {μ ν μ' ν' : MU} {S S' : List Nat}
theorem Rc.fr (h : Rc μ ν) (hμ : Fr S μ μ') (hν : Fr S' ν ν') (h1 : ∀ f, f ∈ [0, 1, 2] → f ∉ S) (h2 : ∀ f, f ∈ [21, 22, 23] → f ∉ S') : Rc μ' ν' := by
  unfold Rc at h ⊢
  simp only [hμ 0 _ (h1 0 (by decide)), hμ 1 _ (h1 1 (by decide)), hμ 2 _ (h1 2 (by decide)), hν 21 _ (h2 21 (by decide)), hν 22 _ (h2 22 (by decide)), hν 23 _ (h2 23 (by decide))]
  exact h
theorem Rk.fr (h : Rk μ ν) (hμ : Fr S μ μ') (hν : Fr S' ν ν') (h1 : ∀ f, f ∈ [6, 9] → f ∉ S) (h2 : ∀ f, f ∈ [24, 25] → f ∉ S') : Rk μ' ν' := by
  unfold Rk at h ⊢
  simp only [hμ 6 _ (h1 6 (by decide)), hμ 9 _ (h1 9 (by decide)), hν 24 _ (h2 24 (by decide)), hν 25 _ (h2 25 (by decide))]
  exact h
theorem Rb.fr (h : Rb μ ν) (hμ : Fr S μ μ') (hν : Fr S' ν ν') (h1 : ∀ f, f ∈ [6, 7, 8] → f ∉ S) (h2 : ∀ f, f ∈ [26] → f ∉ S') : Rb μ' ν' := by
  unfold Rb Rb1 at h ⊢
  simp only [hμ 6 _ (h1 6 (by decide)), hμ 7 _ (h1 7 (by decide)), hμ 8 _ (h1 8 (by decide)), hν 26 _ (h2 26 (by decide))]
  exact h
theorem Rp.fr (h : Rp μ ν) (hμ : Fr S μ μ') (hν : Fr S' ν ν') (h1 : ∀ f, f ∈ [11, 13, 14, 17, 18, 19] → f ∉ S) (h2 : ∀ f, f ∈ [27, 28, 29, 32, 35, 36, 37] → f ∉ S') : Rp μ' ν' := by
  unfold Rp at h ⊢
  simp only [hμ 11 _ (h1 11 (by decide)), hμ 13 _ (h1 13 (by decide)), hμ 14 _ (h1 14 (by decide)), hμ 17 _ (h1 17 (by decide)), hμ 18 _ (h1 18 (by decide)), hμ 19 _ (h1 19 (by decide)), hν 27 _ (h2 27 (by decide)), hν 28 _ (h2 28 (by decide)), hν 29 _ (h2 29 (by decide)), hν 32 _ (h2 32 (by decide)), hν 35 _ (h2 35 (by decide)), hν 36 _ (h2 36 (by decide)), hν 37 _ (h2 37 (by decide))]
  exact h
theorem Rn.fr (h : Rn μ ν) (hμ : Fr S μ μ') (hν : Fr S' ν ν') (h1 : ∀ f, f ∈ [1, 12] → f ∉ S) (h2 : ∀ f, f ∈ [31] → f ∉ S') : Rn μ' ν' := by
  unfold Rn at h ⊢
  simp only [hμ 1 _ (h1 1 (by decide)), hμ 12 _ (h1 12 (by decide)), hν 31 _ (h2 31 (by decide))]
  exact h
theorem Ri.fr (h : Ri ν) (hν : Fr S' ν ν') (h2 : ∀ f, f ∈ [31] → f ∉ S') : Ri ν' := by
  unfold Ri at h ⊢
  simp only [hν 31 _ (h2 31 (by decide))]
  exact h
theorem Rw.fr (h : Rw μ ν) (hμ : Fr S μ μ') (hν : Fr S' ν ν') (h1 : ∀ f, f ∈ [10, 11] → f ∉ S) (h2 : ∀ f, f ∈ [30] → f ∉ S') : Rw μ' ν' := by
  unfold Rw at h ⊢
  simp only [hμ 10 _ (h1 10 (by decide)), hμ 11 _ (h1 11 (by decide)), hν 30 _ (h2 30 (by decide))]
  exact h
theorem Rs.fr (h : Rs μ ν) (hμ : Fr S μ μ') (hν : Fr S' ν ν') (h1 : ∀ f, f ∈ [1, 6, 10, 11, 15, 16] → f ∉ S) (h2 : ∀ f, f ∈ [33, 34] → f ∉ S') : Rs μ' ν' := by
  unfold Rs Rs1 at h ⊢
  simp only [hμ 1 _ (h1 1 (by decide)), hμ 6 _ (h1 6 (by decide)), hμ 10 _ (h1 10 (by decide)), hμ 11 _ (h1 11 (by decide)), hμ 15 _ (h1 15 (by decide)), hμ 16 _ (h1 16 (by decide)), hν 33 _ (h2 33 (by decide)), hν 34 _ (h2 34 (by decide))]
  exact h
theorem R0.fr (h : R0 μ ν) (hμ : Fr S μ μ') (hν : Fr S' ν ν') (h1 : ∀ f, f ∈ [2, 15, 16, 17] → f ∉ S) (h2 : ∀ f, f ∈ [33, 34] → f ∉ S') : R0 μ' ν' := by
  unfold R0 at h ⊢
  simp only [hμ 2 _ (h1 2 (by decide)), hμ 15 _ (h1 15 (by decide)), hμ 16 _ (h1 16 (by decide)), hμ 17 _ (h1 17 (by decide)), hν 33 _ (h2 33 (by decide)), hν 34 _ (h2 34 (by decide))]
  exact h
/-- before the round everybody is as it began -/
theorem R0.seats (h : R0 μ ν) (h0 : μ 2 0 = 0) (h1 : (μ 1 0).toNat ≤ 20) : Rs μ ν := fun p hp => by
  obtain ⟨a, b, -, c, d⟩ := h h0 p (by omega)
  exact ⟨by rw [a, c], by rw [b, d], fun _ => b, fun q => absurd a q, fun q => absurd b q⟩
end RF
section OP
variable {μ ν : MU}
theorem Rlt.t20 (h : Rlt μ ν) (v : Int) : Rlt μ (upM ν 20 0 v) := h.of (fun _ _ _ => rfl) (fun f j hf => upM_nef (fun q => by subst q; revert hf; decide))
theorem Fr.u {S : List Nat} {a : MU} {f j : Nat} {v : Int} (hf : f ∈ S) : Fr S a (upM a f j v) := Fr.rf.up hf
theorem up_if {a : MU} {f i j : Nat} {v : Int} : upM a f i v f j = if j = i then v else a f j := by
  unfold upM
  by_cases e : j = i
  · rw [if_pos ⟨rfl, e⟩, if_pos e]
  · rw [if_neg (fun q => e q.2), if_neg e]
theorem Rlt.iP (h : Rlt μ ν) (w : Int) : mIP ν w ↔ isP μ w := by
  unfold mIP; rw [h.c.2.1]
theorem Rlt.iS (h : Rlt μ ν) (w : Int) : mIS ν w ↔ isS μ w := by
  unfold mIS; rw [h.c.1]
theorem Rlt.seat (h : Rlt μ ν) (P w : Int) : mseF ν P w = seF μ P w := by
  have h20 := h.n20
  unfold mseF seF
  by_cases c : isP μ P
  · have hp : P.toNat < (μ 1 0).toNat := by have := c.1; have := c.2; omega
    obtain ⟨p1, p2, p3, p4, p5, p6, p7⟩ := h.p P.toNat (by omega)
    obtain ⟨s1, s2, -⟩ := h.s P.toNat hp
    rw [if_pos c, s1, s2, p1, p4, p5, p7]
    by_cases hw : 0 ≤ w ∧ w ≤ 5
    · rw [if_pos ⟨(h.iP P).2 c, hw⟩]
      repeat' split
      all_goals first | rfl | omega
    · rw [if_neg (fun q => hw q.2)]
      repeat' split
      all_goals first | rfl | omega
  · rw [if_neg c, if_neg (fun q => c ((h.iP P).1 q.1))]
theorem cnt_congr {P Q : Nat → Bool} {n : Nat} (h : ∀ p, p < n → P p = Q p) : cntF P n = cntF Q n := by
  unfold cntF
  exact itr_congr (n := n) n 0 0 (by omega) (fun j b hj => by unfold cntS; rw [h j hj])
theorem Rlt.look (h : Rlt μ ν) (w : Int) : mlkF ν w = lkF μ w := by
  have h20 := h.n20
  unfold mlkF lkF
  obtain ⟨c1, c2, c3⟩ := h.c
  rw [c1, c2, c3]
  have e1 : itr (fun p a => a + ν 32 p) 0 (μ 1 0).toNat (0 : Int) = itr (fun p a => a + μ 17 p) 0 (μ 1 0).toNat (0 : Int) := itr_congr (n := (μ 1 0).toNat) _ _ _ (by omega) (fun j b hj => by
    show b + ν 32 j = b + μ 17 j
    rw [(h.p j (by omega)).2.2.2.1])
  have e2 : cntF (fun p => decide (¬ μ 2 0 = 0 ∧ 0 ≤ ν 33 p)) (μ 1 0).toNat = cntF (fun p => decide (¬ μ 15 p = -1)) (μ 1 0).toNat := cnt_congr fun p hp => by
    obtain ⟨s1, -⟩ := h.s p hp
    rw [s1]
    by_cases z : μ 2 0 = 0
    · simp [z, (h.z z p (by omega)).1]
    · rcases h.own hp with ⟨h1, -⟩ | ⟨j, h1, -, h2, -⟩
      · simp [h1]
      · simp [h1, h2, z]
  rw [e1, e2]
theorem Rlt.adm (h : Rlt μ ν) {p s : Nat} (hp : p < 20) (hs : s < 6) : fnd (fun k => (mbnF ν p s k).isSome) 0 (ν 24 s).toNat = admF μ s (μ 13 p) := by
  unfold admF
  rw [h.k.1 s hs]
  exact fnd_congr (n := (μ 6 s).toNat) _ _ (by omega) (fun k hk => by rw [h.bn hp hs (by omega)])
theorem Rlt.why (h : Rlt μ ν) (P S : Int) : mwhF ν P S = whF μ P S := by
  have h20 := h.n20
  unfold mwhF whF
  by_cases c : isP μ P ∧ isS μ S
  · rw [if_pos c, if_pos ⟨(h.iP P).2 c.1, (h.iS S).2 c.2⟩]
    have hp : P.toNat < (μ 1 0).toNat := by have := c.1.1; have := c.1.2; omega
    have hs : S.toNat < 6 := by have := c.2.1; have := c.2.2; have := h.sf.1; omega
    obtain ⟨s1, -⟩ := h.s P.toNat hp
    rw [s1, h.adm (by omega) hs, h.pl (by omega)]
    by_cases e : μ 15 P.toNat = S
    · rw [if_pos e, if_pos e]
    · rw [if_neg e, if_neg e]
      have hpr := h.pref hp S
      rw [h.pl (by omega)] at hpr
      obtain f | ⟨i, f⟩ : plF μ P.toNat S = none ∨ ∃ i, plF μ P.toNat S = some i := by
        cases plF μ P.toNat S with
        | none => exact Or.inl rfl
        | some i => exact Or.inr ⟨i, rfl⟩
      · rw [if_pos (show o9 (plF μ P.toNat S) = 9 by rw [f]; rfl), if_pos (show oI (plF μ P.toNat S) = -1 by rw [f]; rfl)]
      · have hi := pl_lt h.sf (by omega) f
        have o1 : o9 (plF μ P.toNat S) = (i : Int) := by rw [f]; rfl
        have n1 : ¬ o9 (plF μ P.toNat S) = 9 := by rw [o1]; omega
        have n2 : ¬ oI (plF μ P.toNat S) = -1 := by rw [f]; simp only [oI]; omega
        rw [if_neg n1, if_neg n2]
        by_cases d : (admF μ S.toNat (μ 13 P.toNat)).isSome = true
        · rw [if_pos d, if_pos d]
          by_cases g : prefP μ P.toNat S
          · rw [if_pos g, if_neg (by have := hpr.1 g; omega)]
          · rw [if_neg g, if_pos]
            have g' := fun q => g (hpr.2 q)
            have : ownF ν P.toNat ≠ o9 (plF μ P.toNat S) := by
              rw [o1]
              rcases h.own hp with ⟨h1, h2⟩ | ⟨j, hne, hj, -, -, hpl, h2⟩
              · rw [h2]; omega
              · rw [h2]
                intro q
                have hij : j = i := by omega
                subst hij
                have a1 := (pl_some hpl).2
                have a2 := (pl_some f).2
                exact e (by rw [← a1, a2])
            omega
        · rw [if_neg d, if_neg d]
  · rw [if_neg c, if_neg (fun q => c ⟨(h.iP P).1 q.1, (h.iS S).1 q.2⟩)]
theorem Rlt.cntH (h : Rlt μ ν) (s k : Nat) : cntF (fun p => decide (ν 33 p = (s : Int) ∧ ν 34 p = (k : Int))) (ν 23 0).toNat = cntF (fun p => decide (holdP μ p s k)) (μ 1 0).toNat := by
  rw [h.c.2.1]
  exact cnt_congr fun p hp => by
    obtain ⟨s1, s2, -⟩ := h.s p hp
    rw [s1, s2]
theorem itr_rel2 {σ τ : Type} {f : Nat → σ → σ} {g : Nat → τ → τ} {n : Nat} {R : Nat → σ → τ → Prop} (hs : ∀ j a b, j < n → R j a b → R (j + 1) (f j a) (g j b)) : ∀ (m i : Nat) (a : σ) (b : τ), i + m = n → R i a b → R n (itr f i m a) (itr g i m b)
  | 0, i, a, b, e, h => by
    have : i = n := by omega
    subst this; exact h
  | m + 1, i, a, b, e, h => itr_rel2 hs m (i + 1) (f i a) (g i b) (by omega) (hs i a b (by omega) h)
theorem Rlt.el (h : Rlt μ ν) {p s k : Nat} (hp : p < 20) (hs : s < 6) (hk : (k : Int) < μ 6 s) : ((mbnF ν p s k).isSome = true ∧ stdF μ p s k < 100000 ∧ mg ν s k p = rkF ν p s k) ∨ (¬ (mbnF ν p s k).isSome = true ∧ stdF μ p s k = 100000 + (p : Int)) := by
  have hb := h.bn hp hs hk
  have hk3 := h.sf.2.2.2.1 s hs
  have nn := h.sf.2.2.2.2.2.2.2 (6 * p + s) (by omega)
  unfold mg stdF
  cases e : bandF μ (3 * s + k) (μ 13 p) with
  | none =>
    rw [e] at hb
    right
    rw [hb]
    exact ⟨by decide, by simp [oI]⟩
  | some b =>
    have hb3 := bn3 h.sf (by omega) _ e
    have hb1 : ¬ ((b : Int) = -1) := by omega
    rw [e] at hb
    left
    rw [hb]
    refine ⟨rfl, ?_, by simp⟩
    simp only [oI, hb1, if_false]
    split <;> omega
theorem Rlt.rkl (h : Rlt μ ν) {p q s k : Nat} (hp : p < (μ 1 0).toNat) (hq : q < (μ 1 0).toNat) (hs : s < 6) (hk : (k : Int) < μ 6 s) (e1 : (mbnF ν p s k).isSome = true) (e2 : (mbnF ν q s k).isSome = true) : rkF ν p s k < rkF ν q s k ↔ stdF μ p s k < stdF μ q s k := by
  have h20 := h.n20
  rcases h.el (p := p) (by omega) hs hk with ⟨-, a1, a2⟩ | ⟨n, -⟩
  · rcases h.el (p := q) (by omega) hs hk with ⟨-, b1, b2⟩ | ⟨n, -⟩
    · rw [← a2, ← b2]
      exact ((h.iso hs hk).2 p q hp hq a1 b1).symm
    · exact absurd e2 n
  · exact absurd e1 n
theorem Rlt.last (h : Rlt μ ν) {s k : Nat} (hs : s < 6) (hk : (k : Int) < μ 6 s) : mlaF ν s k = laF μ s k := by
  have h20 := h.n20
  have hk3 := h.sf.2.2.2.1 s hs
  unfold mlaF laF
  rw [h.c.2.1]
  have key := itr_rel2 (n := (μ 1 0).toNat) (f := mlaS ν s k) (g := maxS (fun p => decide (holdP μ p s k)) (fun p => stdF μ p s k)) (R := fun i l c => (l = -1 ∧ c = (-1, -1)) ∨ ∃ q : Nat, q < i ∧ l = (q : Int) ∧ c = ((q : Int), stdF μ q s k)) ?_ (μ 1 0).toNat 0 (-1) (-1, -1) (by omega) (Or.inl ⟨rfl, rfl⟩)
  · rcases key with ⟨k1, k2⟩ | ⟨q, -, k1, k2⟩
    · rw [k1, k2]
    · rw [k1, k2]
  · intro p l c hp hR
    obtain ⟨s1, s2, -⟩ := h.s p hp
    unfold mlaS maxS
    rw [s1, s2]
    by_cases hh : μ 15 p = (s : Int) ∧ μ 16 p = (k : Int)
    · rw [if_pos hh]
      have hd : decide (holdP μ p s k) = true := decide_eq_true hh
      have hstd := h.sf.std (p := p) (s := s) (k := k) (by omega) hs (by omega)
      rcases hR with ⟨rfl, rfl⟩ | ⟨q, hq, rfl, rfl⟩
      · rw [if_pos (Or.inl (by decide)), if_pos ⟨hd, by show (-1 : Int) < stdF μ p s k; omega⟩]
        exact Or.inr ⟨p, by omega, rfl, rfl⟩
      · have e1 := h.el (p := p) (by omega) hs hk
        have e2 := h.el (p := q) (by omega) hs hk
        by_cases hc : ((q : Int) < 0 ∨ ¬ (mbnF ν p s k).isSome = true ∨ ((mbnF ν (q : Int).toNat s k).isSome = true ∧ rkF ν (q : Int).toNat s k < rkF ν p s k))
        · rw [if_pos hc, if_pos]
          · exact Or.inr ⟨p, by omega, rfl, rfl⟩
          · refine ⟨hd, ?_⟩
            rw [Int.toNat_natCast] at hc
            show stdF μ q s k < stdF μ p s k
            rcases hc with hc | hc | ⟨hc1, hc2⟩
            · omega
            · rcases e1 with e1 | e1
              · exact absurd e1.1 hc
              · rcases e2 with e2 | e2 <;> omega
            · rcases e1 with e1 | e1
              · exact (h.rkl (by omega) hp hs hk hc1 e1.1).1 hc2
              · rcases e2 with e2 | e2 <;> omega
        · rw [if_neg hc, if_neg]
          · exact Or.inr ⟨q, by omega, rfl, rfl⟩
          · intro g
            have g2 : stdF μ q s k < stdF μ p s k := g.2
            refine hc ?_
            rw [Int.toNat_natCast]
            rcases e1 with e1 | e1
            · rcases e2 with e2 | e2
              · exact Or.inr (Or.inr ⟨e2.1, (h.rkl (by omega) hp hs hk e2.1 e1.1).2 g2⟩)
              · omega
            · exact Or.inr (Or.inl e1.1)
    · rw [if_neg hh, if_neg (fun g => hh (of_decide_eq_true g.1))]
      rcases hR with ⟨h1, h2⟩ | ⟨q, hq, h1, h2⟩
      · exact Or.inl ⟨h1, h2⟩
      · exact Or.inr ⟨q, by omega, h1, h2⟩
theorem Rlt.held (h : Rlt μ ν) (S K w : Int) : mheF ν S K w = heF μ S K w := by
  unfold mheF heF
  by_cases c : isS μ S ∧ 0 ≤ K ∧ K < μ 6 S.toNat
  · have hs : S.toNat < 6 := by have := c.1.1; have := c.1.2; have := h.sf.1; omega
    have hk3 := h.sf.2.2.2.1 S.toNat hs
    rw [if_pos c]
    by_cases hw : 0 ≤ w ∧ w ≤ 2
    · rw [if_pos ⟨⟨(h.iS S).2 c.1, c.2.1, hw⟩, by rw [h.k.1 _ hs]; exact c.2.2⟩]
      rw [h.k.2 _ (by omega), h.cntH, h.last hs (by omega)]
      repeat' split
      all_goals first | rfl | omega
    · rw [if_neg (fun q => hw q.1.2.2)]
      repeat' split
      all_goals first | rfl | omega
  · rw [if_neg c, if_neg]
    intro q
    have hS := (h.iS S).1 q.1.1
    have hs : S.toNat < 6 := by have := hS.1; have := hS.2; have := h.sf.1; omega
    have q2 := q.2
    rw [h.k.1 _ hs] at q2
    exact c ⟨hS, q.1.2.1, q2⟩
theorem Rlt.blk (h : Rlt μ ν) {p j : Nat} (hp : p < (μ 1 0).toNat) (hj : (j : Int) < μ 11 p) : mblP ν p j ↔ blkP μ p j := by
  have h20 := h.n20
  have h11 := h.sf.2.2.2.2.2.1 p (by omega)
  have h10 := h.sf.2.2.2.2.2.2.1 (4 * p + j) (by omega)
  have e30 := h.w.1 (4 * p + j) (by omega)
  have e35 := (h.p p (by omega)).2.2.2.2.1
  have hpr := h.pref hp (μ 10 (4 * p + j))
  rw [h.pl (by omega), h.at (by omega) hj] at hpr
  unfold mblP blkP
  rw [e30, e35, hpr]
  have hO : mchO ν (μ 10 (4 * p + j)).toNat (mBO ν p (μ 10 (4 * p + j)).toNat) p = chV μ (μ 10 (4 * p + j)).toNat (chO μ (μ 10 (4 * p + j)).toNat p) p := by
    rw [h.ch (by omega)]
    refine chV_of rfl rfl (fun _ => rfl) (fun _ _ => rfl) (fun q hq => ?_) p hp
    obtain ⟨s1, s2, s3, s4, s5⟩ := h.s q hq
    unfold mBO chO anyP
    rw [s1, s2]
    have : 0 ≤ μ 16 q ↔ ¬ μ 16 q = -1 := ⟨fun a => by omega, fun a => (s5 a).1⟩
    simp only [this]
  rw [hO]
  rfl
theorem Rlt.bl (h : Rlt μ ν) (i : Int) : mblF ν i = blF μ i := by
  have h20 := h.n20
  unfold mblF blF
  rw [h.c.2.1]
  refine itr_congr (n := (μ 1 0).toNat) _ _ _ (by omega) (fun p b hp => ?_)
  unfold mblO blO
  rw [(h.p p (by omega)).2.2.1]
  refine itr_congr (n := (μ 11 p).toNat) _ _ _ (by omega) (fun j c hj => ?_)
  have h11 := h.sf.2.2.2.2.2.1 p (by omega)
  have hb := h.blk (j := j) hp (by omega)
  unfold mblS blS
  cases c with
  | inr r => rfl
  | inl c =>
    simp only []
    by_cases e : blkP μ p j
    · rw [if_pos e, if_pos (hb.2 e), h.w.1 (4 * p + j) (by omega)]
    · rw [if_neg e, if_neg (fun q => e (hb.1 q))]
/-- an index below -1 finds nothing -/
theorem bl_neg {i : Int} (hi : i < 0) : ∀ (m p : Nat) (c : Int), 0 ≤ c → ∃ c', 0 ≤ c' ∧ itr (blO μ i) p m (.inl c) = .inl c'
  | 0, _, c, h => ⟨c, h, rfl⟩
  | m + 1, p, c, h => by
    have one : ∀ (m j : Nat) (c : Int), 0 ≤ c → ∃ c', 0 ≤ c' ∧ itr (blS μ i p) j m (.inl c) = .inl c' := by
      intro m
      induction m with
      | zero => intro j c h; exact ⟨c, h, rfl⟩
      | succ m ih =>
        intro j c h
        show ∃ c', 0 ≤ c' ∧ itr (blS μ i p) (j + 1) m (blS μ i p j (.inl c)) = .inl c'
        have : blS μ i p j (.inl c) = if blkP μ p j then .inl (c + 1) else .inl c := by
          unfold blS
          simp only []
          rw [if_neg (show ¬ c = i by omega)]
        rw [this]
        split
        · exact ih _ _ (by omega)
        · exact ih _ _ h
    obtain ⟨c1, h1, e1⟩ := one (μ 11 p).toNat 0 c h
    show ∃ c', 0 ≤ c' ∧ itr (blO μ i) (p + 1) m (blO μ i p (.inl c)) = .inl c'
    have : blO μ i p (.inl c) = .inl c1 := e1
    rw [this]
    exact bl_neg hi m (p + 1) c1 h1
theorem Rlt.blocking (h : Rlt μ ν) (i : Int) : (if ν 21 0 = 0 ∨ i < -1 then -1 else blR i (mblF ν i)) = if μ 2 0 = 0 then -1 else blR i (blF μ i) := by
  rw [h.c.2.2, h.bl]
  by_cases e : μ 2 0 = 0
  · rw [if_pos e, if_pos (Or.inl e)]
  · rw [if_neg e]
    by_cases hi : i < -1
    · rw [if_pos (Or.inr hi)]
      obtain ⟨c, -, hc⟩ := bl_neg (μ := μ) (show i < 0 by omega) (μ 1 0).toNat 0 0 (Int.le_refl 0)
      have : blF μ i = .inl c := hc
      rw [this]
      simp only [blR]
      rw [if_neg (by omega)]
    · rw [if_neg (fun q => q.elim e hi)]
end OP
