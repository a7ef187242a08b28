section CH
variable {μ ν : MU}
theorem Rlt.fw (h : Rlt μ ν) {s k : Nat} (hs : s < 6) (hk : (k : Int) < μ 6 s) : mfw ν s k = fwF μ s k := by
  unfold mfw fwF
  rw [h.c.2.1]
  refine (bst_iso (h.iso hs hk) (fun p hp => ?_)).symm
  have := h.wait hp (s : Int)
  simp only [this]
theorem Rlt.mK (h : Rlt μ ν) {s : Nat} (hs : s < 6) : mmvK ν s = mvK μ s := by
  unfold mmvK mvK
  rw [h.k.1 s hs]
  refine fnd_congr (n := (μ 6 s).toNat) _ _ (by omega) (fun k hk => ?_)
  have hk3 := h.sf.2.2.2.1 s hs
  have e1 := h.fw hs (k := k) (by omega)
  have e2 := h.cntH s k
  have e3 := h.k.2 (3 * s + k) (by omega)
  unfold mfrP
  simp only [e1, e2, e3]
theorem Rlt.mS (h : Rlt μ ν) : mmvS ν = mvS μ := by
  unfold mmvS mvS
  rw [h.c.1]
  have h6 := h.sf.1
  exact fnd_congr (n := (μ 0 0).toNat) _ _ (by omega) (fun s hs => by rw [h.mK (by omega)])
theorem Rlt.mv (h : Rlt μ ν) (h2 : ¬ μ 2 0 = 0) : Rlt (mvM μ) (mmvM ν) := by
  have h20 := h.n20
  have h6 := h.sf.1
  cases es : mvS μ with
  | none => rw [mvM_none es, mmvM_none (h.mS.trans es)]; exact h
  | some s =>
    have fs := fnd_some _ _ es
    have hs : s < 6 := by omega
    cases ek : mvK μ s with
    | none =>
      have := fs.2.2.1
      rw [ek] at this
      exact absurd this (by decide)
    | some k =>
      have fk := fnd_some _ _ ek
      have hk : (k : Int) < μ 6 s := by omega
      have e1 : mvM μ = sitM μ (fwF μ s k).toNat s k := by unfold mvM; rw [es]; simp only []; rw [ek]
      have e2 : mmvM ν = msit ν (fwF μ s k).toNat s k := by unfold mmvM; rw [h.mS, es]; simp only []; rw [h.mK hs, ek]; simp only []; rw [h.fw hs hk]
      have hne : ¬ fwF μ s k = -1 := (of_decide_eq_true fk.2.2.1).2
      obtain ⟨q, hq, hqn, hw, -⟩ := fwF_r μ s k hne
      rw [e1, e2, hq, Int.toNat_natCast]
      obtain ⟨-, -, -, -, p5, p6, p7⟩ := h.p q (by omega)
      refine h.pupilUp (p0 := q) hqn h2 ((Fr.u (by decide)).up (by decide)) ((Fr.u (by decide)).up (by decide)) (fun p hp => ?_) ?_ ?_ ?_ ?_
      · simp [upM, hp]
      · simpa [upM] using p5
      · simpa [upM] using p6
      · simpa [upM] using p7
      · cases e : plF μ q s with
        | none => exact absurd (by rw [e]; rfl) hw.1.1
        | some j =>
          have hj := pl_some e
          refine ⟨by simp [upM], by simp [upM], fun q => ?_, fun _ => ⟨j, ?_, ?_⟩, fun q => ?_⟩
          · simp [upM] at q
          · simpa [upM] using hj.1
          · simpa [upM] using hj.2
          · simp [upM]; exact hk
theorem Rlt.its (h : Rlt μ ν) (h2 : ¬ μ 2 0 = 0) : ∀ i, Rlt (cit i μ) (mit i ν)
  | 0 => h
  | i + 1 => (Rlt.its h h2 i).mv (by rw [cit_fr μ i 2 0 (by decide)]; exact h2)
theorem Rlt.chain (h : Rlt μ ν) (h2 : ¬ μ 2 0 = 0) {n m : Nat} {μ' ν' : MU} (hc : cchP μ n μ') (hm : mchP ν m ν') : n = m ∧ Rlt μ' ν' := by
  obtain ⟨rfl, c1, c2⟩ := hc
  obtain ⟨rfl, m1, m2⟩ := hm
  have e : n = m := by
    by_cases l1 : n < m
    · have a := m1 n l1
      rw [(h.its h2 n).mS, c2] at a
      exact absurd a (by decide)
    · by_cases l2 : m < n
      · have a := c1 m l2
        rw [← (h.its h2 m).mS, m2] at a
        exact absurd a (by decide)
      · omega
  subst e
  exact ⟨rfl, h.its h2 n⟩
end CH
section RU
theorem chv_lt {n : Nat} {g : Nat → Nat → Int} {B : Int} {O : Nat → Bool} {kc : Nat} {st : Nat → Nat} (p : Nat) : chv n g B O kc st p = -1 ∨ (0 ≤ chv n g B O kc st p ∧ chv n g B O kc st p < kc) := by
  refine itr_inv (P := fun (i : Nat) (T : Nat → Int) => ∀ p, T p = -1 ∨ (0 ≤ T p ∧ T p < (i : Int))) (n := kc) kc 0 (fun _ => -1) (by omega) (fun _ => Or.inl rfl) (fun j T hj hT => ?_) p
  refine itr_inv (P := fun (_ : Nat) (T : Nat → Int) => ∀ p, T p = -1 ∨ (0 ≤ T p ∧ T p < ((j + 1 : Nat) : Int))) (n := st j) (st j) 0 T (by omega) (fun p => ?_) (fun _ T' _ hT' p => ?_)
  · rcases hT p with h | h
    · exact Or.inl h
    · exact Or.inr ⟨h.1, by omega⟩
  · unfold tk1
    split
    · exact Or.inr ⟨by omega, by omega⟩
    · exact hT' p
theorem chV_lt (μ : MU) (s : Nat) (O : Nat → Bool) (p : Nat) : chV μ s O p = -1 ∨ (0 ≤ chV μ s O p ∧ chV μ s O p < ((μ 6 s).toNat : Int)) := chv_lt p
theorem chV_ok (μ : MU) : ChOk (μ 1 0).toNat (chV μ) :=
  ⟨fun _ _ _ h => chV_in h, fun _ _ _ hAO _ hp h => chv_mono hAO hp h, fun _ _ _ hAO h => chv_same hAO h, fun _ _ _ h p hp => chV_of rfl rfl (fun _ => rfl) (fun _ _ => rfl) (fun q hq => h q hq) p hp⟩
abbrev lsF (μ : MU) (p j : Nat) : Nat := (μ 10 (4 * p + j)).toNat
abbrev ldF (μ : MU) (p : Nat) : Nat := (μ 11 p).toNat
abbrev RdV (μ : MU) (a : Nat → Int) (sc kd : Nat → Int) : Prop := RdI (μ 1 0).toNat (ldF μ) (lsF μ) (chV μ) (fun p => (a p).toNat) sc kd
theorem RdV.sc {μ : MU} {a sc kd : Nat → Int} (h : RdV μ a sc kd) {p : Nat} (hp : p < (μ 1 0).toNat) : (sc p = -1 ∧ kd p = -1) ∨ ∃ j, j < ldF μ p ∧ sc p = (lsF μ p j : Int) ∧ 0 ≤ kd p ∧ kd p < μ 6 (lsF μ p j) := by
  obtain ⟨h1, h2, h3, h4⟩ := h p hp
  cases e : (a p).toNat with
  | zero => exact Or.inl (h2 e)
  | succ j =>
    obtain ⟨k1, k2⟩ := h4 j e
    by_cases c : chV μ (lsF μ p j) (asd (lsF μ) (fun p => (a p).toNat) (lsF μ p j)) p = -1
    · rw [if_pos c] at k2
      exact Or.inl ⟨k2, k1.trans c⟩
    · rw [if_neg c] at k2
      rw [← k1] at c
      refine Or.inr ⟨j, ?_, k2, ?_⟩
      · have h1' : (a p).toNat ≤ ldF μ p := h1
        omega
      · rcases chV_lt μ (lsF μ p j) (asd (lsF μ) (fun p => (a p).toNat) (lsF μ p j)) p with q | q
        · exact absurd (k1.trans q) c
        · rw [← k1] at q
          omega
/-- the class's asking keeps the round's word -/
theorem ask_c {μ c c' : MU} {p s : Nat} {ν : MU} (h : Rlt μ ν) (hF : Fr [3, 4, 5, 15, 16, 17] μ c) (hS : Sf c) (hR : RdV μ (c 17) (c 15) (c 16)) (hp : p < (μ 1 0).toNat) (ha : ccnA c p) (hs : c 10 (4 * p + (c 17 p).toNat) = (s : Int)) (hA : AskP c p s c') : RdV μ (c' 17) (c' 15) (c' 16) := by
  have h20 := h.n20
  obtain ⟨ha1, ha2⟩ := ha
  have h17 := (hS.2.2.2.2.2.1 p (by omega))
  have e11 : c 11 p = μ 11 p := hF 11 p (by decide)
  have hls : lsF μ p (c 17 p).toNat = s := by
    unfold lsF
    rw [← hF 10 _ (by decide), hs]
    rfl
  have e1 : c 1 0 = μ 1 0 := hF 1 0 (by decide)
  have hch : ∀ q, q < (μ 1 0).toNat → chV c s (chO c s p) q = chV μ s (chO c s p) q := chV_of e1 (hF 6 s (by decide)) (fun j => hF 9 j (by decide)) (fun q k => hF.std (by decide) q s k) (fun _ _ => rfl)
  refine RdI.step (chV_ok μ) ?_ hp hR ha1 ?_ ?_
  · intro q hq i j hi hj e
    have h4 := h.sf.2.2.2.2.2.1 q (by omega)
    have hi' : i < (μ 11 q).toNat := hi
    have hj' : j < (μ 11 q).toNat := hj
    have r1 := h.sf.2.2.2.2.2.2.1 (4 * q + i) (by omega)
    have r2 := h.sf.2.2.2.2.2.2.1 (4 * q + j) (by omega)
    have e' : (μ 10 (4 * q + i)).toNat = (μ 10 (4 * q + j)).toNat := e
    by_cases l1 : i < j
    · have := h.w.2 q i j (by omega) l1 (by omega)
      omega
    · by_cases l2 : j < i
      · have := h.w.2 q j i (by omega) l2 (by omega)
        omega
      · omega
  · show (c 17 p).toNat < (μ 11 p).toNat
    omega
  · refine ⟨fun q hq => ?_, chO c s p, fun q hq => ?_, fun q hq => ?_⟩
    · show (c' 17 q).toNat = _
      rw [hA.2.1 q]
      by_cases e : q = p
      · subst e
        rw [if_pos rfl, if_pos rfl]
        show (c 17 q + 1).toNat = (c 17 q).toNat + 1
        omega
      · rw [if_neg e, if_neg e]
    · rw [hls]
      unfold chO
      exact ⟨fun g => of_decide_eq_true g, fun g => decide_eq_true g⟩
    · rw [hls]
      obtain ⟨a1, a2⟩ := hA.2.2 q (by rw [e1]; exact hq)
      rw [← hch q hq]
      exact ⟨a1, a2⟩
/-- the reference's asking, too -/
theorem ask_m {μ ν c c' : MU} {p s : Nat} (h : Rlt μ ν) (hF : Fr [20, 21, 32, 33, 34, 38, 39] ν c) (hS : Sm c) (hR : RdV μ (c 32) (c 33) (c 34)) (hp : p < (μ 1 0).toNat) (ha : mcnA c p) (hs : c 30 (4 * p + (c 32 p).toNat) = (s : Int)) (hA : mAskP c p s c') : RdV μ (c' 32) (c' 33) (c' 34) := by
  have h20 := h.n20
  obtain ⟨ha1, ha2⟩ := ha
  have h32 := (hS.2.2.2.2.2.1 p (by omega))
  have h11 := h.sf.2.2.2.2.2.1 p (by omega)
  have e11 : c 29 p = μ 11 p := (hF 29 p (by decide)).trans (h.p p (by omega)).2.2.1
  have h30 : c 30 (4 * p + (c 32 p).toNat) = μ 10 (4 * p + (c 32 p).toNat) := (hF 30 _ (by decide)).trans (h.w.1 _ (by omega))
  have hls : lsF μ p (c 32 p).toNat = s := by
    unfold lsF
    rw [← h30, hs]
    rfl
  have hs6 : s < 6 := by
    have := h.sf.2.2.2.2.2.2.1 (4 * p + (c 32 p).toNat) (by omega)
    omega
  have e1 : c 23 0 = μ 1 0 := (hF 23 0 (by decide)).trans h.c.2.1
  have e2 : c 23 0 = ν 23 0 := hF 23 0 (by decide)
  have hch : ∀ q, q < (μ 1 0).toNat → mchO c s (mAO c p s) q = chV μ s (mAO c p s) q := fun q hq => by
    rw [← h.ch hs6]
    exact mchO_of e2 (hF 24 s (by decide)) (fun j => hF 25 j (by decide)) (fun k q => hF.mg (by decide) s k q) (fun _ _ => rfl) q (by rw [h.c.2.1]; exact hq)
  have hsc : c 33 p = -1 := by
    rcases hR.sc hp with h1 | ⟨j, -, h2, -⟩
    · exact h1.1
    · omega
  refine RdI.step (chV_ok μ) ?_ hp hR hsc ?_ ?_
  · intro q hq i j hi hj e
    have h4 := h.sf.2.2.2.2.2.1 q (by omega)
    have hi' : i < (μ 11 q).toNat := hi
    have hj' : j < (μ 11 q).toNat := hj
    have r1 := h.sf.2.2.2.2.2.2.1 (4 * q + i) (by omega)
    have r2 := h.sf.2.2.2.2.2.2.1 (4 * q + j) (by omega)
    have e' : (μ 10 (4 * q + i)).toNat = (μ 10 (4 * q + j)).toNat := e
    by_cases l1 : i < j
    · have := h.w.2 q i j (by omega) l1 (by omega)
      omega
    · by_cases l2 : j < i
      · have := h.w.2 q j i (by omega) l2 (by omega)
        omega
      · omega
  · show (c 32 p).toNat < (μ 11 p).toNat
    omega
  · refine ⟨fun q hq => ?_, mAO c p s, fun q hq => ?_, fun q hq => ?_⟩
    · show (c' 32 q).toNat = _
      rw [hA.2.1 q]
      by_cases e : q = p
      · subst e
        rw [if_pos rfl, if_pos rfl]
        show (c 32 q + 1).toNat = (c 32 q).toNat + 1
        omega
      · rw [if_neg e, if_neg e]
    · rw [hls]
      unfold mAO
      rw [decide_eq_true_eq]
      refine or_congr Iff.rfl ⟨fun g => ⟨g, ?_⟩, fun g => g.1⟩
      rcases hR.sc hq with h1 | ⟨j, -, -, h3, -⟩
      · omega
      · omega
    · rw [hls]
      obtain ⟨a1, a2⟩ := hA.2.2 q (by rw [e1]; exact hq)
      rw [← hch q hq]
      exact ⟨a1, a2⟩
/-- what holds all through the class's round, and through the reference's -/
def Jc (μ c : MU) : Prop := Fr [3, 4, 5, 15, 16, 17] μ c ∧ Sf c ∧ RdV μ (c 17) (c 15) (c 16) ∧ ∀ q, (μ 1 0).toNat ≤ q → c 17 q = μ 17 q
def Jm (μ ν c : MU) : Prop := Fr [32, 33, 34, 38, 39] (mru0 ν) c ∧ Sm c ∧ RdV μ (c 32) (c 33) (c 34) ∧ ∀ q, (μ 1 0).toNat ≤ q → c 32 q = ν 32 q
theorem Jc.step {μ ν c c' : MU} {p s : Nat} (h : Rlt μ ν) (hJ : Jc μ c) (hp : p < (c 1 0).toNat) (ha : ccnA c p) (hs : c 10 (4 * p + (c 17 p).toNat) = (s : Int)) (hA : AskP c p s c') : Jc μ c' := by
  obtain ⟨j1, j2, j3, j4⟩ := hJ
  have h20 := h.n20
  have e1 : c 1 0 = μ 1 0 := j1 1 0 (by decide)
  rw [e1] at hp
  have h11 := j2.2.2.2.2.2.1 p (by omega)
  refine ⟨j1.trans hA.1, AskP_Sf hA j2 (by omega) (by have := ha.2; omega), ask_c h j1 j2 j3 hp ha hs hA, fun q hq => ?_⟩
  rw [hA.2.1 q, if_neg (by omega)]
  exact j4 q hq
theorem Jm.fr {μ ν c : MU} (h : Jm μ ν c) : Fr [20, 21, 32, 33, 34, 38, 39] ν c := by
  have h0 : Fr [20, 21, 32, 33, 34, 38, 39] ν (mru0 ν) := (Fr.u (by decide)).up (by decide)
  exact h0.trans (h.1.mono (by decide))
theorem Jm.step {μ ν c c' : MU} {p s : Nat} (h : Rlt μ ν) (hJ : Jm μ ν c) (hp : p < (c 23 0).toNat) (ha : mcnA c p) (hs : c 30 (4 * p + (c 32 p).toNat) = (s : Int)) (hA : mAskP c p s c') : Jm μ ν c' := by
  have hf := hJ.fr
  obtain ⟨j1, j2, j3, j4⟩ := hJ
  have h20 := h.n20
  have e1 : c 23 0 = μ 1 0 := (hf 23 0 (by decide)).trans h.c.2.1
  rw [e1] at hp
  have h11 := j2.2.2.2.2.2.1 p (by omega)
  refine ⟨j1.trans hA.1, mAskP_Sm hA j2 (by omega) (by have := ha.2; omega), ask_m h hf j2 j3 hp ha hs hA, fun q hq => ?_⟩
  rw [hA.2.1 q, if_neg (by omega)]
  exact j4 q hq
theorem rd0 {μ : MU} {a sc kd : Nat → Int} (h : ∀ p, p < (μ 1 0).toNat → a p = 0 ∧ sc p = -1 ∧ kd p = -1) : RdV μ a sc kd := by
  intro p hp
  obtain ⟨a0, s0, k0⟩ := h p hp
  have : (fun p => (a p).toNat) p = 0 := by show (a p).toNat = 0; omega
  refine ⟨by omega, fun _ => ⟨s0, k0⟩, fun j hj => by omega, fun j hj => by omega⟩
theorem Rlt.run {μ ν : MU} (h : Rlt μ ν) (h0 : μ 2 0 = 0) {μ1 ν1 : MU} (hc : cRe μ μ1) (cc : cclP μ1) (hm : mRe (mru0 ν) ν1) (cm : mclP ν1) :
    cntF (fun p => decide (¬ ν1 21 0 = 0 ∧ 0 ≤ ν1 33 p)) (ν1 23 0).toNat = cntF (fun p => decide (¬ μ1 15 p = -1)) (μ1 1 0).toNat ∧ ν1 20 0 = 0 ∧ Rlt (upM μ1 2 0 1) ν1 := by
  have h20 := h.n20
  have hz := h.z h0
  have c0 : Jc μ μ := ⟨Fr.rf, h.sf, rd0 fun p hp => ⟨(hz p (by omega)).2.2.1, (hz p (by omega)).1, (hz p (by omega)).2.1⟩, fun _ _ => rfl⟩
  have hν0 : Fr [20, 21] ν (mru0 ν) := (Fr.u (by decide)).up (by decide)
  have m0 : Jm μ ν (mru0 ν) := by
    refine ⟨Fr.rf, ?_, rd0 fun p hp => ?_, fun q _ => hν0 32 q (by decide)⟩
    · obtain ⟨s1, s2, s3, s4⟩ := h.sm
      refine ⟨s1, s2, Or.inr (upM_at _ _ _ _), s4⟩
    · rw [hν0 32 p (by decide), hν0 33 p (by decide), hν0 34 p (by decide), (h.p p (by omega)).2.2.2.1]
      exact ⟨(hz p (by omega)).2.2.1, (hz p (by omega)).2.2.2.1, (hz p (by omega)).2.2.2.2⟩
  have jc : Jc μ μ1 := hc (Jc μ) c0 (fun c p s c' hJ hp ha hs hA => hJ.step h hp ha hs hA)
  have jm : Jm μ ν ν1 := hm (Jm μ ν) m0 (fun c p s c' hJ hp ha hs hA => hJ.step h hp ha hs hA)
  have hf := jm.fr
  have ec1 : μ1 1 0 = μ 1 0 := jc.1 1 0 (by decide)
  have em1 : ν1 23 0 = μ 1 0 := (hf 23 0 (by decide)).trans h.c.2.1
  -- both have ended
  have endc : RdC (μ 1 0).toNat (ldF μ) (fun p => (μ1 17 p).toNat) (μ1 15) := by
    intro p hp
    by_cases e : μ1 15 p = -1
    · right
      have hle : (μ1 17 p).toNat ≤ (μ 11 p).toNat := (jc.2.2.1 p hp).1
      have : ¬ ccnA μ1 p := cc p (by rw [ec1]; exact hp)
      have e11 : μ1 11 p = μ 11 p := jc.1 11 p (by decide)
      have hn : ¬ μ1 17 p < μ1 11 p := fun q => this ⟨e, q⟩
      show (μ1 17 p).toNat = (μ 11 p).toNat
      omega
    · exact Or.inl e
  have endm : RdC (μ 1 0).toNat (ldF μ) (fun p => (ν1 32 p).toNat) (ν1 33) := by
    intro p hp
    by_cases e : ν1 33 p = -1
    · right
      have hle : (ν1 32 p).toNat ≤ (μ 11 p).toNat := (jm.2.2.1 p hp).1
      have : ¬ mcnA ν1 p := cm p (by rw [em1]; exact hp)
      have e11 : ν1 29 p = μ 11 p := (hf 29 p (by decide)).trans (h.p p (by omega)).2.2.1
      have hn : ¬ ν1 32 p < ν1 29 p := fun q => this ⟨by omega, q⟩
      show (ν1 32 p).toNat = (μ 11 p).toNat
      omega
    · exact Or.inl e
  -- each stays below the other's end
  have le1 : ∀ q, q < (μ 1 0).toNat → (μ1 17 q).toNat ≤ (ν1 32 q).toNat := by
    refine (hc (fun c => Jc μ c ∧ ∀ q, q < (μ 1 0).toNat → (c 17 q).toNat ≤ (ν1 32 q).toNat) ⟨c0, fun q hq => ?_⟩ (fun c p s c' hJ hp ha hs hA => ?_)).2
    · rw [(hz q (by omega)).2.2.1]; exact Nat.zero_le _
    · obtain ⟨j, hle⟩ := hJ
      refine ⟨j.step h hp ha hs hA, fun q hq => ?_⟩
      have e1 : c 1 0 = μ 1 0 := j.1 1 0 (by decide)
      rw [e1] at hp
      rw [hA.2.1 q]
      by_cases e : q = p
      · subst e
        rw [if_pos rfl]
        have e11 : c 11 q = μ 11 q := j.1 11 q (by decide)
        have ha2 := ha.2
        have h17 := j.2.1.2.2.2.2.2.1 q (by omega)
        have := RdI.below (chV_ok μ) hq j.2.2.1 jm.2.2.1 endm hle ha.1 (show (c 17 q).toNat < (μ 11 q).toNat by omega)
        have this' : (c 17 q).toNat < (ν1 32 q).toNat := this
        omega
      · rw [if_neg e]; exact hle q hq
  have le2 : ∀ q, q < (μ 1 0).toNat → (ν1 32 q).toNat ≤ (μ1 17 q).toNat := by
    refine (hm (fun c => Jm μ ν c ∧ ∀ q, q < (μ 1 0).toNat → (c 32 q).toNat ≤ (μ1 17 q).toNat) ⟨m0, fun q hq => ?_⟩ (fun c p s c' hJ hp ha hs hA => ?_)).2
    · rw [hν0 32 q (by decide), (h.p q (by omega)).2.2.2.1, (hz q (by omega)).2.2.1]; exact Nat.zero_le _
    · obtain ⟨j, hle⟩ := hJ
      refine ⟨j.step h hp ha hs hA, fun q hq => ?_⟩
      have hfc := j.fr
      have e1 : c 23 0 = μ 1 0 := (hfc 23 0 (by decide)).trans h.c.2.1
      rw [e1] at hp
      rw [hA.2.1 q]
      by_cases e : q = p
      · subst e
        rw [if_pos rfl]
        have e11 : c 29 q = μ 11 q := (hfc 29 q (by decide)).trans (h.p q (by omega)).2.2.1
        have ha2 := ha.2
        have h17 := j.2.1.2.2.2.2.2.1 q (by omega)
        have hsc : c 33 q = -1 := by
          rcases j.2.2.1.sc hq with h1 | ⟨_, -, h2, -⟩
          · exact h1.1
          · have := ha.1; omega
        have := RdI.below (chV_ok μ) hq j.2.2.1 jc.2.2.1 endc hle hsc (show (c 32 q).toNat < (μ 11 q).toNat by omega)
        have this' : (c 32 q).toNat < (μ1 17 q).toNat := this
        omega
      · rw [if_neg e]; exact hle q hq
  have eqa : ∀ q, q < (μ 1 0).toNat → (μ1 17 q).toNat = (ν1 32 q).toNat := fun q hq => Nat.le_antisymm (le1 q hq) (le2 q hq)
  have same := RdI.same (chV_ok μ) jc.2.2.1 jm.2.2.1 eqa
  have e21 : ν1 21 0 = 1 := by rw [jm.1 21 0 (by decide)]; exact upM_at _ _ _ _
  have e20 : ν1 20 0 = 0 := by rw [jm.1 20 0 (by decide)]; show upM (upM ν 20 0 0) 21 0 1 20 0 = 0; rw [upM_nef (by decide), upM_at]
  have hμ : Fr [2, 3, 4, 5, 15, 16, 17] μ (upM μ1 2 0 1) := (jc.1.mono (by decide)).up (by decide)
  have hμ1 : Fr [2] μ1 (upM μ1 2 0 1) := Fr.u (by decide)
  refine ⟨?_, e20, ?_, jm.2.1, ?_, h.k.fr hμ hf (by decide) (by decide), h.b.fr hμ hf (by decide) (by decide), fun p hp => ?_, h.n.fr hμ hf (by decide) (by decide), h.i.fr hf (by decide), h.w.fr hμ hf (by decide) (by decide), fun p hp => ?_, fun q => ?_⟩
  · rw [ec1, em1]
    refine cnt_congr fun p hp => ?_
    rw [← (same p hp).1, e21]
    rcases jc.2.2.1.sc hp with h1 | ⟨j, -, h2, -⟩
    · simp [h1.1]
    · have : ¬ μ1 15 p = -1 := by omega
      have h3 : 0 ≤ μ1 15 p := by omega
      simp [this, h3]
  · obtain ⟨s1, s2, s3, s4⟩ := jc.2.1
    exact ⟨s1, s2, Or.inr (upM_at _ _ _ _), s4⟩
  · refine ⟨?_, ?_, ?_⟩
    · rw [hμ 0 0 (by decide), hf 22 0 (by decide)]; exact h.c.1
    · rw [hμ 1 0 (by decide)]; exact em1
    · rw [upM_at]; exact e21
  · obtain ⟨a, b, c, d, e, f, g⟩ := h.p p hp
    rw [hf 27 p (by decide), hμ 13 p (by decide), hf 28 p (by decide), hμ 14 p (by decide), hf 29 p (by decide), hμ 11 p (by decide), hf 35 p (by decide), hf 36 p (by decide), hμ 18 p (by decide), hf 37 p (by decide), hμ 19 p (by decide), hμ1 17 p (by decide)]
    refine ⟨a, b, c, ?_, e, f, g⟩
    by_cases hpn : p < (μ 1 0).toNat
    · have := eqa p hpn
      have r1 := jc.2.1.2.2.2.2.2.1 p hp
      have r2 := jm.2.1.2.2.2.2.2.1 p hp
      omega
    · rw [jc.2.2.2 p (by omega), jm.2.2.2 p (by omega)]
      exact d
  · rw [hμ 1 0 (by decide)] at hp
    unfold Rs1
    rw [hμ1 15 p (by decide), hμ1 16 p (by decide), hμ 11 p (by decide), hμ 6 _ (by decide)]
    simp only [hμ 10 _ (show (10 : Nat) ∉ [2, 3, 4, 5, 15, 16, 17] by decide)]
    refine ⟨(same p hp).1.symm, (same p hp).2.symm, fun q => ?_, fun q => ?_, fun q => ?_⟩
    · rcases jc.2.2.1.sc hp with h1 | ⟨j, -, h2, -⟩
      · exact h1.2
      · omega
    · rcases jc.2.2.1.sc hp with h1 | ⟨j, hj, h2, -⟩
      · exact absurd h1.1 q
      · have hj' : j < (μ 11 p).toNat := hj
        have h4 := h.sf.2.2.2.2.2.1 p (by omega)
        have r := h.sf.2.2.2.2.2.2.1 (4 * p + j) (by omega)
        have h2' : μ1 15 p = ((μ 10 (4 * p + j)).toNat : Int) := h2
        exact ⟨j, by omega, by omega⟩
    · rcases jc.2.2.1.sc hp with h1 | ⟨j, hj, h2, h3, h4⟩
      · exact absurd h1.2 q
      · refine ⟨h3, ?_⟩
        rw [h2, Int.toNat_natCast]
        exact h4
  · rw [upM_at] at q
    omega
end RU
