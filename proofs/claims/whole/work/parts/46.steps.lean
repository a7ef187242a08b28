/-! A step of the law: the class's call, then the reference's. -/
section ST
variable {μ μ1 μ2 : MU} {S : List Nat}
theorem Rlt.fix (h : Rlt μ μ) (hf : Fr S μ μ1) (hS : ∀ f, f ∈ mFl → f ∉ S) : Rlt μ μ1 := h.of (fun _ _ _ => rfl) (fun f j hf' => hf f j (hS f hf'))
theorem Rlt.fin (h : Rlt μ1 μ2) (hf : Fr S μ1 μ2) (hS : ∀ f, f ∈ cFl → f ∉ S) : Rlt μ2 μ2 := h.of (fun f j hf' => hf f j (hS f hf')) (fun _ _ _ => rfl)
theorem Rlt.t40 (h : Rlt μ μ2) (v : Int) : Rlt (upM μ 40 0 v) μ2 := h.of (fun f j hf => upM_nef (fun q => by subst q; revert hf; decide)) (fun _ _ _ => rfl)
theorem bI_iff {P Q : Prop} [Decidable P] [Decidable Q] (h : P ↔ Q) : bI P = bI Q := by
  unfold bI
  by_cases q : Q
  · rw [if_pos q, if_pos (h.2 q)]
  · rw [if_neg q, if_neg (fun p => q (h.1 p))]
theorem fr_if {C : Prop} [Decidable C] {a b c : MU} (h1 : Fr S a b) (h2 : Fr S a c) : Fr S a (if C then b else c) := by
  split
  · exact h1
  · exact h2
theorem st_draw (h : Rlt μ μ) (P Q n : Int) {r : Int} (hc : drM μ P Q n = μ1 ∧ r = bI (drP μ P Q n)) : Sm μ1 ∧ ∀ r2 μ2, mdrM μ1 P Q n = μ2 ∧ r2 = bI (mdrP μ1 P Q n) → r = r2 ∧ Rlt μ2 μ2 := by
  obtain ⟨rfl, rfl⟩ := hc
  have f1 : Fr [12] μ (drM μ P Q n) := fr_if (Fr.u (by decide)) Fr.rf
  have h1 := h.fix f1 (by decide)
  refine ⟨h1.sm, fun r2 μ2 hm => ?_⟩
  obtain ⟨rfl, rfl⟩ := hm
  obtain ⟨a, b⟩ := h1.draw P Q n
  have f2 : Fr [20, 31] (drM μ P Q n) (mdrM (drM μ P Q n) P Q n) := fr_if ((Fr.u (by decide)).up (by decide)) (Fr.u (by decide))
  exact ⟨bI_iff a.symm, b.fin f2 (by decide)⟩
theorem st_appeal (h : Rlt μ μ) (P f : Int) {r : Int} (hc : apM μ P f = μ1 ∧ r = bI (apP μ P f)) : Sm μ1 ∧ ∀ r2 μ2, mapM μ1 P f = μ2 ∧ r2 = bI (mapP μ1 P f) → r = r2 ∧ Rlt μ2 μ2 := by
  obtain ⟨rfl, rfl⟩ := hc
  have f1 : Fr [13] μ (apM μ P f) := fr_if (Fr.u (by decide)) Fr.rf
  have h1 := h.fix f1 (by decide)
  refine ⟨h1.sm, fun r2 μ2 hm => ?_⟩
  obtain ⟨rfl, rfl⟩ := hm
  obtain ⟨a, b⟩ := h1.appeal P f
  have f2 : Fr [20, 27] (apM μ P f) (mapM (apM μ P f) P f) := fr_if ((Fr.u (by decide)).up (by decide)) (Fr.u (by decide))
  exact ⟨bI_iff a.symm, b.fin f2 (by decide)⟩
theorem st_stay (h : Rlt μ μ) (P n : Int) {r : Int} (hc : stM μ P n = μ1 ∧ r = bI (stP μ P n)) : Sm μ1 ∧ ∀ r2 μ2, mstM μ1 P n = μ2 ∧ r2 = bI (mstP μ1 P n) → r = r2 ∧ Rlt μ2 μ2 := by
  obtain ⟨e1, rfl⟩ := hc
  have f1 : Fr [19] μ μ1 := by rw [← e1]; exact fr_if (Fr.u (by decide)) Fr.rf
  have h1 := h.fix f1 (by decide)
  refine ⟨h1.sm, fun r2 μ2 hm => ?_⟩
  obtain ⟨rfl, rfl⟩ := hm
  obtain ⟨a, b⟩ := h1.stay P n
  rw [e1] at b
  have f2 : Fr [20, 37] μ1 (mstM μ1 P n) := fr_if ((Fr.u (by decide)).up (by decide)) (Fr.u (by decide))
  exact ⟨bI_iff a.symm, b.fin f2 (by decide)⟩
theorem lea_fr {p : Nat} {a : Int} : Fr [15, 16, 18, 19] μ (leaM μ p a) := (((Fr.u (by decide)).up (by decide)).up (by decide)).up (by decide)
theorem st_answer (h : Rlt μ μ) (P w : Int) {r : Int} (hc : anM μ P w = μ1 ∧ r = anR μ P w) : Sm μ1 ∧ ∀ r2 μ2, manM μ1 P w = μ2 ∧ r2 = bI (manC μ1 P w) → r = r2 ∧ Rlt μ2 μ2 := by
  obtain ⟨rfl, rfl⟩ := hc
  have f1 : Fr [15, 16, 18, 19] μ (anM μ P w) := fr_if (fr_if (fr_if (Fr.u (by decide)) Fr.rf) (fr_if (fr_if lea_fr Fr.rf) (fr_if lea_fr Fr.rf))) Fr.rf
  have h1 := h.fix f1 (by decide)
  refine ⟨h1.sm, fun r2 μ2 hm => ?_⟩
  obtain ⟨rfl, rfl⟩ := hm
  obtain ⟨a, b⟩ := h1.answer P w
  have fA : Fr [20, 33, 34, 35, 36, 37] (anM μ P w) (manA (anM μ P w) P w) := ((Fr.u (by decide)).up (by decide)).up (by decide)
  have f2 : Fr [20, 33, 34, 35, 36, 37] (anM μ P w) (manM (anM μ P w) P w) := fr_if (fr_if (((fA.up (by decide)).up (by decide)).up (by decide)) fA) (Fr.u (by decide))
  exact ⟨a, b.fin f2 (by decide)⟩
theorem st_seat (h : Rlt μ μ) (P w : Int) {r : Int} (hc : μ = μ1 ∧ r = seF μ P w) : Sm μ1 ∧ ∀ r2 μ2, upM μ1 20 0 0 = μ2 ∧ r2 = mseF μ1 P w → r = r2 ∧ Rlt μ2 μ2 := by
  obtain ⟨rfl, rfl⟩ := hc
  refine ⟨h.sm, fun r2 μ2 hm => ?_⟩
  obtain ⟨rfl, rfl⟩ := hm
  exact ⟨(h.seat P w).symm, (h.t20 0).fin (S := [20]) (Fr.u (by decide)) (by decide)⟩
theorem st_held (h : Rlt μ μ) (P K w : Int) {r : Int} (hc : μ = μ1 ∧ r = heF μ P K w) : Sm μ1 ∧ ∀ r2 μ2, upM μ1 20 0 0 = μ2 ∧ r2 = mheF μ1 P K w → r = r2 ∧ Rlt μ2 μ2 := by
  obtain ⟨rfl, rfl⟩ := hc
  refine ⟨h.sm, fun r2 μ2 hm => ?_⟩
  obtain ⟨rfl, rfl⟩ := hm
  exact ⟨(h.held P K w).symm, (h.t20 0).fin (S := [20]) (Fr.u (by decide)) (by decide)⟩
theorem st_why (h : Rlt μ μ) (P w : Int) {r : Int} (hc : μ = μ1 ∧ r = whF μ P w) : Sm μ1 ∧ ∀ r2 μ2, upM μ1 20 0 0 = μ2 ∧ r2 = mwhF μ1 P w → r = r2 ∧ Rlt μ2 μ2 := by
  obtain ⟨rfl, rfl⟩ := hc
  refine ⟨h.sm, fun r2 μ2 hm => ?_⟩
  obtain ⟨rfl, rfl⟩ := hm
  exact ⟨(h.why P w).symm, (h.t20 0).fin (S := [20]) (Fr.u (by decide)) (by decide)⟩
theorem st_look (h : Rlt μ μ) (w : Int) {r : Int} (hc : μ = μ1 ∧ r = lkF μ w) : Sm μ1 ∧ ∀ r2 μ2, upM μ1 20 0 0 = μ2 ∧ r2 = mlkF μ1 w → r = r2 ∧ Rlt μ2 μ2 := by
  obtain ⟨rfl, rfl⟩ := hc
  refine ⟨h.sm, fun r2 μ2 hm => ?_⟩
  obtain ⟨rfl, rfl⟩ := hm
  exact ⟨(h.look w).symm, (h.t20 0).fin (S := [20]) (Fr.u (by decide)) (by decide)⟩
theorem st_blocking (h : Rlt μ μ) (i : Int) {r : Int} (hc : Fr [3, 4, 5] μ μ1 ∧ r = if μ 2 0 = 0 then -1 else blR i (blF μ i)) : Sm μ1 ∧ ∀ r2 μ2, Fr [20, 38, 39] μ1 μ2 ∧ μ2 20 0 = 0 ∧ (r2 = if μ1 21 0 = 0 ∨ i < -1 then -1 else blR i (mblF μ1 i)) → r = r2 ∧ Rlt μ2 μ2 := by
  obtain ⟨f1, rfl⟩ := hc
  have h1 := h.fix f1 (by decide)
  refine ⟨h1.sm, fun r2 μ2 hm => ?_⟩
  obtain ⟨f2, -, rfl⟩ := hm
  refine ⟨(h1.blocking i).symm, ?_⟩
  have f : Fr [3, 4, 5, 20, 38, 39] μ μ2 := (f1.mono (by decide)).trans (f2.mono (by decide))
  exact h.of (fun g j hg => f g j (by revert g; decide)) (fun g j hg => f g j (by revert g; decide))
/-- the calls that may throw -/
theorem wr_fr {post : Int → MU → Prop} {tp : Nat → MU → Prop} {f : Nat → Int} {r : Int} (hw : wrP post tp f r μ1) (hp : ∀ r1 μ', post r1 μ' → Fr S μ μ') (ht : ∀ w μ', tp w μ' → μ = μ') (h40 : 40 ∈ S) : Fr S μ μ1 := by
  rcases hw with ⟨-, r1, μ', h1, rfl⟩ | ⟨w, -, -, h1⟩
  · exact (hp r1 μ' h1).up h40
  · rw [ht w μ1 h1]; exact Fr.rf
theorem st_school (h : Rlt μ μ) {r : Int} (hw : wrP (fun r μ' => ¬ scC μ ∧ upM μ 0 0 (μ 0 0 + 1) = μ' ∧ r = μ 0 0) (fun w μ' => μ = μ' ∧ w = 1 ∧ scC μ) (fun _ => 1) r μ1) : Sm μ1 ∧ ∀ r2 μ2, mscM μ1 = μ2 ∧ r2 = mscR μ1 → μ2 20 0 = r ∧ (r = 0 → μ2 40 0 = r2) ∧ Rlt μ2 μ2 := by
  have h1 : Rlt μ μ1 := h.fix (wr_fr (S := [0, 40]) hw (fun r1 μ' hp => by rw [← hp.2.1]; exact Fr.u (by decide)) (fun w μ' hp => hp.1) (by decide)) (by decide)
  refine ⟨h1.sm, fun r2 μ2 hm => ?_⟩
  obtain ⟨rfl, rfl⟩ := hm
  have f2 : Fr [20, 22] μ1 (mscM μ1) := fr_if (Fr.u (by decide)) ((Fr.u (by decide)).up (by decide))
  rcases hw with ⟨rfl, r1, μ', ⟨hc, rfl, rfl⟩, e⟩ | ⟨w, rfl, -, rfl, -, hc⟩
  · obtain ⟨a, b, c⟩ := h1.school0 hc
    refine ⟨a, fun _ => ?_, ?_⟩
    · rw [f2 40 0 (by decide), b, ← e, upM_at]
    · have := c.t40 (μ 0 0)
      rw [e] at this
      exact this.fin f2 (by decide)
  · obtain ⟨a, c⟩ := h1.school1 hc
    exact ⟨a, fun q => absurd (show (1 : Int) = 0 from q) (by decide), c.fin f2 (by decide)⟩
theorem ck_fr {s k : Nat} {n b0 b1 b2 : Int} : Fr [6, 7, 8, 9] μ (ckM μ s k n b0 b1 b2) := ((((((Fr.u (by decide)).up (by decide)).up (by decide)).up (by decide)).up (by decide)).up (by decide))
theorem st_kind (h : Rlt μ μ) (Q n b0 b1 b2 : Int) {r : Int} (hw : wrP (fun r μ' => ckC μ Q n b0 b1 b2 ∧ ¬ ckS μ Q ∧ ckM μ Q.toNat (μ 6 Q.toNat).toNat n b0 b1 b2 = μ' ∧ r = μ 6 Q.toNat) (fun w μ' => μ = μ' ∧ ((w = 0 ∧ ¬ ckC μ Q n b0 b1 b2) ∨ (w = 1 ∧ ckC μ Q n b0 b1 b2 ∧ ckS μ Q))) (fun w => if w = 0 then 1 else 2) r μ1) : Sm μ1 ∧ ∀ r2 μ2, mkdM μ1 Q n b0 b1 b2 = μ2 ∧ r2 = mkdR μ1 Q n b0 b1 b2 → μ2 20 0 = r ∧ (r = 0 → μ2 40 0 = r2) ∧ Rlt μ2 μ2 := by
  have h1 : Rlt μ μ1 := h.fix (wr_fr (S := [6, 7, 8, 9, 40]) hw (fun r1 μ' hp => by rw [← hp.2.2.1]; exact ck_fr.mono (by decide)) (fun w μ' hp => hp.1) (by decide)) (by decide)
  refine ⟨h1.sm, fun r2 μ2 hm => ?_⟩
  obtain ⟨rfl, rfl⟩ := hm
  have f2 : Fr [20, 24, 25, 26] μ1 (mkdM μ1 Q n b0 b1 b2) := fr_if (Fr.u (by decide)) (fr_if ((Fr.u (by decide)).up (by decide)) (((((((Fr.u (by decide)).up (by decide)).up (by decide)).up (by decide)).up (by decide)).up (by decide)).up (by decide)))
  rcases hw with ⟨rfl, r1, μ', ⟨hc, hd, rfl, rfl⟩, e⟩ | ⟨w, rfl, -, rfl, ⟨rfl, hc⟩ | ⟨rfl, hc, hd⟩⟩
  · obtain ⟨a, b, c⟩ := h1.kind0 Q n b0 b1 b2 hc hd
    refine ⟨a, fun _ => ?_, ?_⟩
    · rw [f2 40 0 (by decide), b, ← e, upM_at]
    · have := c.t40 (μ 6 Q.toNat)
      rw [e] at this
      exact this.fin f2 (by decide)
  · obtain ⟨a, c⟩ := (h1.kind1 Q n b0 b1 b2).1 hc
    exact ⟨a, fun q => absurd q (by decide), c.fin f2 (by decide)⟩
  · obtain ⟨a, c⟩ := (h1.kind1 Q n b0 b1 b2).2 hc hd
    exact ⟨a, fun q => absurd q (by decide), c.fin f2 (by decide)⟩
theorem st_pupil (h : Rlt μ μ) (f l : Int) {r : Int} (hw : wrP (fun r μ' => cpC f ∧ ¬ cpS μ ∧ upM (upM (upM μ 13 (μ 1 0).toNat f) 14 (μ 1 0).toNat l) 1 0 (μ 1 0 + 1) = μ' ∧ r = μ 1 0) (fun w μ' => μ = μ' ∧ ((w = 0 ∧ ¬ cpC f) ∨ (w = 1 ∧ cpC f ∧ cpS μ))) (fun w => if w = 0 then 1 else 2) r μ1) : Sm μ1 ∧ ∀ r2 μ2, mpuM μ1 f l = μ2 ∧ r2 = mpuR μ1 f → μ2 20 0 = r ∧ (r = 0 → μ2 40 0 = r2) ∧ Rlt μ2 μ2 := by
  have h1 : Rlt μ μ1 := h.fix (wr_fr (S := [1, 13, 14, 40]) hw (fun r1 μ' hp => by rw [← hp.2.2.1]; exact ((Fr.u (by decide)).up (by decide)).up (by decide)) (fun w μ' hp => hp.1) (by decide)) (by decide)
  refine ⟨h1.sm, fun r2 μ2 hm => ?_⟩
  obtain ⟨rfl, rfl⟩ := hm
  have f2 : Fr [20, 23, 27, 28] μ1 (mpuM μ1 f l) := fr_if (Fr.u (by decide)) (fr_if (Fr.u (by decide)) ((((Fr.u (by decide)).up (by decide)).up (by decide)).up (by decide)))
  rcases hw with ⟨rfl, r1, μ', ⟨hc, hd, rfl, rfl⟩, e⟩ | ⟨w, rfl, -, rfl, ⟨rfl, hc⟩ | ⟨rfl, hc, hd⟩⟩
  · obtain ⟨a, b, c⟩ := h1.pupil0 f l hc hd
    refine ⟨a, fun _ => ?_, ?_⟩
    · rw [f2 40 0 (by decide), b, ← e, upM_at]
    · have := c.t40 (μ 1 0)
      rw [e] at this
      exact this.fin f2 (by decide)
  · obtain ⟨a, c⟩ := (h1.pupil1 f l).1 hc
    exact ⟨a, fun q => absurd q (by decide), c.fin f2 (by decide)⟩
  · obtain ⟨a, c⟩ := (h1.pupil1 f l).2 hc hd
    exact ⟨a, fun q => absurd q (by decide), c.fin f2 (by decide)⟩
theorem st_wish (h : Rlt μ μ) (P Q : Int) {r : Int} (hw : wrP (fun r μ' => wisC μ P Q ∧ ¬ wisS μ P ∧ upM (upM μ 10 (4 * P.toNat + (μ 11 P.toNat).toNat) Q) 11 P.toNat (μ 11 P.toNat + 1) = μ' ∧ r = μ 11 P.toNat + 1) (fun w μ' => μ = μ' ∧ ((w = 0 ∧ ¬ wisC μ P Q) ∨ (w = 1 ∧ wisC μ P Q ∧ wisS μ P))) (fun w => if w = 0 then 1 else 2) r μ1) : Sm μ1 ∧ ∀ r2 μ2, mwiM μ1 P Q = μ2 ∧ r2 = mwiR μ1 P Q → μ2 20 0 = r ∧ (r = 0 → μ2 40 0 = r2) ∧ Rlt μ2 μ2 := by
  have h1 : Rlt μ μ1 := h.fix (wr_fr (S := [10, 11, 40]) hw (fun r1 μ' hp => by rw [← hp.2.2.1]; exact (Fr.u (by decide)).up (by decide)) (fun w μ' hp => hp.1) (by decide)) (by decide)
  refine ⟨h1.sm, fun r2 μ2 hm => ?_⟩
  obtain ⟨rfl, rfl⟩ := hm
  have f2 : Fr [20, 29, 30] μ1 (mwiM μ1 P Q) := fr_if (Fr.u (by decide)) (fr_if ((Fr.u (by decide)).up (by decide)) (fr_if ((Fr.u (by decide)).up (by decide)) ((((Fr.u (by decide)).up (by decide)).up (by decide)).up (by decide))))
  rcases hw with ⟨rfl, r1, μ', ⟨hc, hd, rfl, rfl⟩, e⟩ | ⟨w, rfl, -, rfl, ⟨rfl, hc⟩ | ⟨rfl, hc, hd⟩⟩
  · obtain ⟨a, b, c⟩ := h1.wish0 P Q hc hd
    refine ⟨a, fun _ => ?_, ?_⟩
    · rw [f2 40 0 (by decide), b, ← e, upM_at]
    · have := c.t40 (μ 11 P.toNat + 1)
      rw [e] at this
      exact this.fin f2 (by decide)
  · obtain ⟨a, c⟩ := (h1.wish1 P Q).1 hc
    exact ⟨a, fun q => absurd q (by decide), c.fin f2 (by decide)⟩
  · obtain ⟨a, c⟩ := (h1.wish1 P Q).2 hc hd
    exact ⟨a, fun q => absurd q (by decide), c.fin f2 (by decide)⟩
theorem st_over (h : Rlt μ μ) (P Q : Int) {r : Int} (hw : wrP (fun r μ' => coC μ P Q ∧ ¬ coS μ P ∧ sitM μ P.toNat Q (-1) = μ' ∧ r = 1) (fun w μ' => μ = μ' ∧ ((w = 0 ∧ ¬ coC μ P Q) ∨ (w = 1 ∧ coC μ P Q ∧ coS μ P))) (fun w => if w = 0 then 1 else 2) r μ1) : Sm μ1 ∧ ∀ r2 μ2, movM μ1 P Q = μ2 ∧ r2 = movR μ1 P Q → μ2 20 0 = r ∧ (r = 0 → μ2 40 0 = r2) ∧ (r2 = 0 ∨ r2 = 1) ∧ Rlt μ2 μ2 := by
  have h1 : Rlt μ μ1 := h.fix (wr_fr (S := [15, 16, 40]) hw (fun r1 μ' hp => by rw [← hp.2.2.1]; exact (Fr.u (by decide)).up (by decide)) (fun w μ' hp => hp.1) (by decide)) (by decide)
  refine ⟨h1.sm, fun r2 μ2 hm => ?_⟩
  obtain ⟨rfl, rfl⟩ := hm
  have f2 : Fr [20, 33, 34] μ1 (movM μ1 P Q) := fr_if (Fr.u (by decide)) (fr_if ((Fr.u (by decide)).up (by decide)) (fr_if ((Fr.u (by decide)).up (by decide)) ((((Fr.u (by decide)).up (by decide)).up (by decide)).up (by decide))))
  have h01 : movR μ1 P Q = 0 ∨ movR μ1 P Q = 1 := by
    unfold movR
    repeat' split
    all_goals first | exact Or.inl rfl | exact Or.inr rfl
  rcases hw with ⟨rfl, r1, μ', ⟨hc, hd, rfl, rfl⟩, e⟩ | ⟨w, rfl, -, rfl, ⟨rfl, hc⟩ | ⟨rfl, hc, hd⟩⟩
  · obtain ⟨a, b, c⟩ := h1.over0 P Q hc hd
    refine ⟨a, fun _ => ?_, h01, ?_⟩
    · rw [f2 40 0 (by decide), b, ← e, upM_at]
    · have := c.t40 1
      rw [e] at this
      exact this.fin f2 (by decide)
  · obtain ⟨a, c⟩ := (h1.over1 P Q).1 hc
    exact ⟨a, fun q => absurd q (by decide), h01, c.fin f2 (by decide)⟩
  · obtain ⟨a, c⟩ := (h1.over1 P Q).2 hc hd
    exact ⟨a, fun q => absurd q (by decide), h01, c.fin f2 (by decide)⟩
theorem st_envies (h : Rlt μ μ) (P Q : Int) {r : Int} (hw : wrP (fun r μ' => ceC μ P Q ∧ μ = μ' ∧ r = bI (ceR μ P Q)) (fun w μ' => μ = μ' ∧ w = 0 ∧ ¬ ceC μ P Q) (fun _ => 1) r μ1) : (Sm μ1 ∧ ∀ q : Nat, q < (μ1 23 0).toNat → μ1 33 q < 6 ∧ μ1 34 q < 3) ∧ ∀ r2 μ2, menM μ1 P Q = μ2 ∧ r2 = menR μ1 P Q → μ2 20 0 = r ∧ (r = 0 → μ2 40 0 = r2) ∧ (r2 = 0 ∨ r2 = 1) ∧ Rlt μ2 μ2 := by
  have h1 : Rlt μ μ1 := h.fix (wr_fr (S := [40]) hw (fun r1 μ' hp => by rw [← hp.2.1]; exact Fr.rf) (fun w μ' hp => hp.1) (by decide)) (by decide)
  refine ⟨⟨h1.sm, h1.hkd⟩, fun r2 μ2 hm => ?_⟩
  obtain ⟨rfl, rfl⟩ := hm
  have f2 : Fr [20] μ1 (menM μ1 P Q) := fr_if (fr_if ((Fr.u (by decide)).up (by decide)) ((Fr.u (by decide)).up (by decide))) (Fr.u (by decide))
  have h01 : menR μ1 P Q = 0 ∨ menR μ1 P Q = 1 := by
    unfold menR
    repeat' split
    all_goals first | exact bI_01 | exact Or.inl rfl
  rcases hw with ⟨rfl, r1, μ', ⟨hc, rfl, rfl⟩, e⟩ | ⟨w, rfl, -, rfl, -, hc⟩
  · obtain ⟨a, b, c⟩ := h1.envies0 P Q hc
    refine ⟨a, fun _ => ?_, h01, ?_⟩
    · rw [f2 40 0 (by decide), b, ← e, upM_at]
    · have := c.t40 (bI (ceR μ P Q))
      rw [e] at this
      exact this.fin f2 (by decide)
  · obtain ⟨a, c⟩ := h1.envies1 P Q hc
    exact ⟨a, fun q => absurd (show (1 : Int) = 0 from q) (by decide), h01, c.fin f2 (by decide)⟩
theorem cRe_fr {a b : MU} (h : cRe a b) : Fr [3, 4, 5, 15, 16, 17] a b := h (fun c => Fr [3, 4, 5, 15, 16, 17] a c) Fr.rf (fun _ _ _ _ hJ _ _ _ hA => hJ.trans hA.1)
theorem mRe_fr {a b : MU} (h : mRe a b) : Fr [32, 33, 34, 38, 39] a b := h (fun c => Fr [32, 33, 34, 38, 39] a c) Fr.rf (fun _ _ _ _ hJ _ _ _ hA => hJ.trans hA.1)
theorem st_run (h : Rlt μ μ) {r : Int} (hw : wrP (fun r μ' => μ 2 0 = 0 ∧ ∃ μ1, cRe μ μ1 ∧ cclP μ1 ∧ upM μ1 2 0 1 = μ' ∧ r = cntF (fun p => decide (¬ μ1 15 p = -1)) (μ1 1 0).toNat) (fun w μ' => μ = μ' ∧ w = 1 ∧ ¬ μ 2 0 = 0) (fun _ => 1) r μ1) : Sm μ1 ∧ ∀ r2 μ2, ((μ1 21 0 ≠ 0 → r2 = 0 ∧ upM μ1 20 0 1 = μ2) ∧ (μ1 21 0 = 0 → mRe (mru0 μ1) μ2 ∧ mclP μ2 ∧ r2 = cntF (fun p => decide (¬ μ2 21 0 = 0 ∧ 0 ≤ μ2 33 p)) (μ2 23 0).toNat)) → μ2 20 0 = r ∧ (r = 0 → μ2 40 0 = r2) ∧ Rlt μ2 μ2 := by
  have h1 : Rlt μ μ1 := h.fix (wr_fr (S := [2, 3, 4, 5, 15, 16, 17, 40]) hw (fun r1 μ' hp => by
    obtain ⟨-, ν, a, -, rfl, -⟩ := hp
    exact ((cRe_fr a).mono (by decide)).up (by decide)) (fun w μ' hp => hp.1) (by decide)) (by decide)
  refine ⟨h1.sm, fun r2 μ2 hm => ?_⟩
  rcases hw with ⟨rfl, r1, μ', ⟨hc, ν, a, b, rfl, rfl⟩, e⟩ | ⟨w, rfl, -, rfl, -, hc⟩
  · obtain ⟨m1, m2, m3⟩ := hm.2 (h1.c.2.2.trans hc)
    obtain ⟨x1, x2, x3⟩ := h1.run hc a b m1 m2
    have f2 : Fr [20, 21, 32, 33, 34, 38, 39] μ1 μ2 := Fr.trans (b := mru0 μ1) ((Fr.u (by decide)).up (by decide)) ((mRe_fr m1).mono (by decide))
    refine ⟨x2, fun _ => ?_, ?_⟩
    · rw [f2 40 0 (by decide), m3, x1, ← e, upM_at]
    · have := x3.t40 (cntF (fun p => decide (¬ ν 15 p = -1)) (ν 1 0).toNat)
      rw [e] at this
      exact this.fin f2 (by decide)
  · obtain ⟨rfl, rfl⟩ := hm.1 (fun q => hc (h1.c.2.2.symm.trans q))
    exact ⟨upM_at _ _ _ _, fun q => absurd (show (1 : Int) = 0 from q) (by decide), (h1.t20 1).fin (S := [20]) (Fr.u (by decide)) (by decide)⟩
theorem st_chain (h : Rlt μ μ) {r : Int} (hw : wrP (fun r μ' => ¬ μ 2 0 = 0 ∧ ∃ n : Nat, n ≤ 80 ∧ r = (n : Int) ∧ cchP μ n μ') (fun w μ' => μ = μ' ∧ w = 1 ∧ μ 2 0 = 0) (fun _ => 1) r μ1) : Sm μ1 ∧ ∀ r2 μ2, ((μ1 21 0 = 0 → r2 = 0 ∧ upM μ1 20 0 1 = μ2) ∧ (μ1 21 0 ≠ 0 → ∃ n : Nat, r2 = (n : Int) ∧ mchP (upM μ1 20 0 0) n μ2)) → μ2 20 0 = r ∧ (r = 0 → μ2 40 0 = r2) ∧ Rlt μ2 μ2 := by
  have h1 : Rlt μ μ1 := h.fix (wr_fr (S := [15, 16, 40]) hw (fun r1 μ' hp => by
    obtain ⟨-, n, -, -, e, -⟩ := hp
    rw [e]
    exact (cit_fr μ n).mono (by decide)) (fun w μ' hp => hp.1) (by decide)) (by decide)
  refine ⟨h1.sm, fun r2 μ2 hm => ?_⟩
  rcases hw with ⟨rfl, r1, μ', ⟨hc, n, -, rfl, hch⟩, e⟩ | ⟨w, rfl, -, rfl, -, hc⟩
  · obtain ⟨m, rfl, hmc⟩ := hm.2 (fun q => hc (h1.c.2.2.symm.trans q))
    obtain ⟨x1, x2⟩ := (h1.t20 0).chain hc hch hmc
    have f2 : Fr [20, 33, 34] μ1 μ2 := by
      rw [hmc.1]
      exact Fr.trans (b := upM μ1 20 0 0) (Fr.u (by decide)) ((mit_fr _ m).mono (by decide))
    subst x1
    have e20 : μ2 20 0 = 0 := by
      rw [hmc.1, mit_fr _ n 20 0 (by decide), upM_at]
    refine ⟨e20, fun _ => ?_, ?_⟩
    · rw [f2 40 0 (by decide), ← e, upM_at]
    · have := x2.t40 (n : Int)
      rw [e] at this
      exact this.fin f2 (by decide)
  · obtain ⟨rfl, rfl⟩ := hm.1 (h1.c.2.2.trans hc)
    exact ⟨upM_at _ _ _ _, fun q => absurd (show (1 : Int) = 0 from q) (by decide), (h1.t20 1).fin (S := [20]) (Fr.u (by decide)) (by decide)⟩
end ST
