/-! The round: whoever asks first, it ends alike. n pupils, lists ls p 0 .. ls p (ld p - 1) without repeats, a choice ch. -/
/-- who has asked at s -/
def asd (ls : Nat → Nat → Nat) (a : Nat → Nat) (s : Nat) (p : Nat) : Bool := (fnd (fun j => decide (ls p j = s)) 0 (a p)).isSome
theorem asd_iff {ls : Nat → Nat → Nat} {a : Nat → Nat} {s p : Nat} : asd ls a s p = true ↔ ∃ j, j < a p ∧ ls p j = s := by
  unfold asd
  cases e : fnd (fun j => decide (ls p j = s)) 0 (a p) with
  | none =>
    refine ⟨(fun h => by cases h), fun hj => ?_⟩
    obtain ⟨j, h1, h2⟩ := hj
    have := fnd_none _ _ e j (by omega) (by omega)
    simp [h2] at this
  | some j =>
    have := fnd_some _ _ e
    exact ⟨fun _ => ⟨j, by omega, by simpa using this.2.2.1⟩, fun _ => rfl⟩
section RD
variable {n : Nat} {ld : Nat → Nat} {ls : Nat → Nat → Nat} {ch : Nat → (Nat → Bool) → Nat → Int}
/-- what a choice must be -/
def ChOk (n : Nat) (ch : Nat → (Nat → Bool) → Nat → Int) : Prop :=
  (∀ s A p, ch s A p ≠ -1 → A p = true ∧ p < n) ∧
  (∀ s A O, (∀ p, A p = true → O p = true) → ∀ p, A p = true → ch s A p = -1 → ch s O p = -1) ∧
  (∀ s A O, (∀ p, A p = true → O p = true) → (∀ p, ch s O p ≠ -1 → A p = true) → ch s A = ch s O) ∧
  (∀ s A O, (∀ p, p < n → A p = O p) → ∀ p, p < n → ch s A p = ch s O p)
/-- what holds of a state of the round: asked, school, kind -/
def RdI (n : Nat) (ld : Nat → Nat) (ls : Nat → Nat → Nat) (ch : Nat → (Nat → Bool) → Nat → Int) (a : Nat → Nat) (sc kd : Nat → Int) : Prop := ∀ p, p < n → a p ≤ ld p ∧
  (a p = 0 → sc p = -1 ∧ kd p = -1) ∧ (∀ j, j + 1 < a p → ch (ls p j) (asd ls a (ls p j)) p = -1) ∧
  (∀ j, a p = j + 1 → kd p = ch (ls p j) (asd ls a (ls p j)) p ∧ sc p = if ch (ls p j) (asd ls a (ls p j)) p = -1 then -1 else (ls p j : Int))
/-- p asks at the next place of its list -/
def RdS (n : Nat) (ls : Nat → Nat → Nat) (ch : Nat → (Nat → Bool) → Nat → Int) (p : Nat) (a : Nat → Nat) (sc kd : Nat → Int) (a' : Nat → Nat) (sc' kd' : Nat → Int) : Prop :=
  (∀ q, q < n → a' q = if q = p then a p + 1 else a q) ∧ ∃ O : Nat → Bool, (∀ q, q < n → (O q = true ↔ q = p ∨ sc q = (ls p (a p) : Int) ∧ kd q ≠ -1)) ∧
  (∀ q, q < n → kd' q = (if O q = true then ch (ls p (a p)) O q else kd q) ∧ sc' q = (if O q = true then (if ch (ls p (a p)) O q = -1 then -1 else (ls p (a p) : Int)) else sc q))
theorem RdI.step (hch : ChOk n ch) (hls : ∀ p, p < n → ∀ i j, i < ld p → j < ld p → ls p i = ls p j → i = j) {p : Nat} {a a' : Nat → Nat} {sc kd sc' kd' : Nat → Int} (hp : p < n) (hI : RdI n ld ls ch a sc kd) (h0 : sc p = -1) (h1 : a p < ld p) (hS : RdS n ls ch p a sc kd a' sc' kd') : RdI n ld ls ch a' sc' kd' := by
  obtain ⟨c1, c2, c3, c4⟩ := hch
  obtain ⟨ha', O, hO, hK⟩ := hS
  -- asked anew: at the school s one more, elsewhere as before
  have hne : ∀ t q, q < n → t ≠ ls p (a p) ∨ q ≠ p → asd ls a' t q = asd ls a t q := by
    intro t q hq hc
    rw [Bool.eq_iff_iff, asd_iff, asd_iff]
    by_cases e : q = p
    · subst e
      have ht : t ≠ ls q (a q) := hc.resolve_right (fun h => h rfl)
      rw [ha' q hq, if_pos rfl]
      refine ⟨fun hj => ?_, fun hj => ?_⟩
      · obtain ⟨j, h3, h4⟩ := hj
        have : j ≠ a q := fun e => ht (by rw [← h4, e])
        exact ⟨j, by omega, h4⟩
      · obtain ⟨j, h3, h4⟩ := hj
        exact ⟨j, by omega, h4⟩
    · rw [ha' q hq, if_neg e]
  have hpp : asd ls a' (ls p (a p)) p = true := asd_iff.mpr ⟨a p, by rw [ha' p hp, if_pos rfl]; omega, rfl⟩
  -- who holds at s
  have hold : ∀ q, q < n → (O q = true ↔ q = p ∨ ch (ls p (a p)) (asd ls a (ls p (a p))) q ≠ -1) := by
    intro q hq
    rw [hO q hq]
    obtain ⟨-, i0, i1, i2⟩ := hI q hq
    refine ⟨fun h => h.imp id (fun h34 => ?_), fun h => h.imp id (fun h3 => ?_)⟩
    · obtain ⟨h3, h4⟩ := h34
      cases hj : a q with
      | zero => exact absurd (i0 hj).2 h4
      | succ j =>
        obtain ⟨e1, e2⟩ := i2 j hj
        rw [e1] at h4
        rw [if_neg h4, h3] at e2
        have : ls p (a p) = ls q j := by omega
        rw [this]; exact h4
    · obtain ⟨j, h4, h5⟩ := asd_iff.mp (c1 _ _ _ h3).1
      by_cases hj : j + 1 < a q
      · exact absurd (by rw [← h5]; exact i1 j hj) h3
      · obtain ⟨e1, e2⟩ := i2 j (by omega)
        rw [h5] at e1 e2
        rw [if_neg h3] at e2
        exact ⟨e2, by rw [e1]; exact h3⟩
  have hsub : ∀ q, asd ls a (ls p (a p)) q = true → q < n → asd ls a' (ls p (a p)) q = true := fun q h3 hq => by
    obtain ⟨j, h4, h5⟩ := asd_iff.mp h3
    refine asd_iff.mpr ⟨j, ?_, h5⟩
    rw [ha' q hq]
    split
    · rename_i e; subst e; omega
    · exact h4
  -- sets cut to the pupils below n
  have cut : ∀ (s : Nat) (A : Nat → Bool) (q : Nat), q < n → ch s (fun t => A t && decide (t < n)) q = ch s A q := fun s A q hq => c4 s _ _ (fun t ht => by simp [ht]) q hq
  have rej : ∀ q, q < n → asd ls a (ls p (a p)) q = true → ch (ls p (a p)) (asd ls a (ls p (a p))) q = -1 → ch (ls p (a p)) (asd ls a' (ls p (a p))) q = -1 := by
    intro q hq h3 h4
    rw [← cut _ _ q hq] at h4 ⊢
    refine c2 _ _ _ (fun t ht => ?_) q (by simp [h3, hq]) h4
    simp at ht ⊢
    exact ⟨hsub t ht.1 ht.2, ht.2⟩
  have key : ∀ q, q < n → ch (ls p (a p)) O q = ch (ls p (a p)) (asd ls a' (ls p (a p))) q := by
    intro q hq
    rw [← cut _ O q hq, ← cut _ (asd ls a' (ls p (a p))) q hq]
    refine congrFun (c3 _ _ _ (fun t ht => ?_) (fun t ht => ?_)) q
    · simp at ht ⊢
      refine ⟨?_, ht.2⟩
      rcases (hold t ht.2).mp ht.1 with e | h3
      · rw [e]; exact hpp
      · exact hsub t (c1 _ _ _ h3).1 ht.2
    · have h3 := (c1 _ _ _ ht)
      simp at h3
      have htn : t < n := h3.2
      rw [cut _ _ t htn] at ht
      simp only [htn, decide_true, Bool.and_true]
      refine (hold t htn).mpr ?_
      by_cases e : t = p
      · exact Or.inl e
      · refine Or.inr fun h4 => ht (rej t htn ?_ h4)
        rw [← hne _ t htn (Or.inr e)]
        exact h3.1
  intro q hq
  obtain ⟨b0, i0, i1, i2⟩ := hI q hq
  obtain ⟨k1, k2⟩ := hK q hq
  have haq := ha' q hq
  -- where the place is not s, nothing changed
  have same : ∀ j, j < a q → ls q j ≠ ls p (a p) → ch (ls q j) (asd ls a' (ls q j)) q = ch (ls q j) (asd ls a (ls q j)) q := fun j _ hj => c4 _ _ _ (fun t ht => hne _ t ht (Or.inl hj)) q hq
  by_cases e : q = p
  · subst e
    rw [if_pos rfl] at haq
    have hOq : O q = true := (hO q hq).mpr (Or.inl rfl)
    rw [if_pos hOq] at k1 k2
    rw [key q hq] at k1 k2
    have hd : ∀ j, j < a q → ls q j ≠ ls q (a q) := fun j hj e => by
      have := hls q hq j (a q) (by omega) h1 e
      omega
    refine ⟨by omega, fun h => by omega, fun j hj => ?_, fun j hj => ?_⟩
    · rw [same j (by omega) (hd j (by omega))]
      by_cases hj2 : j + 1 < a q
      · exact i1 j hj2
      · obtain ⟨e1, e2⟩ := i2 j (by omega)
        rw [h0] at e2
        refine Decidable.byContradiction fun h => ?_
        rw [if_neg h] at e2
        omega
    · have : j = a q := by omega
      subst this
      exact ⟨k1, k2⟩
  · rw [if_neg e] at haq
    rw [haq]
    by_cases hOq : O q = true
    · rw [if_pos hOq] at k1 k2
      rw [key q hq] at k1 k2
      have h3 := ((hO q hq).mp hOq).resolve_left e
      cases hj : a q with
      | zero => exact absurd (i0 hj).2 h3.2
      | succ j =>
        obtain ⟨e1, e2⟩ := i2 j hj
        rw [e1] at h3
        rw [if_neg h3.2] at e2
        have hs : ls q j = ls p (a p) := by have := h3.1; omega
        refine ⟨by omega, fun h => by omega, fun t ht => ?_, fun t ht => ?_⟩
        · rw [same t (by omega) (fun h => by
            have := hls q hq t j (by omega) (by omega) (h.trans hs.symm)
            omega)]
          exact i1 t (by omega)
        · have : t = j := by omega
          subst this
          rw [hs]
          exact ⟨k1, k2⟩
    · rw [if_neg hOq] at k1 k2
      have hno := fun h => hOq ((hold q hq).mpr h)
      have hch0 : ch (ls p (a p)) (asd ls a (ls p (a p))) q = -1 := Decidable.byContradiction fun h => hno (Or.inr h)
      have at' : ∀ j, j < a q → ch (ls q j) (asd ls a (ls q j)) q = -1 ∨ ls q j ≠ ls p (a p) → ch (ls q j) (asd ls a' (ls q j)) q = ch (ls q j) (asd ls a (ls q j)) q := by
        intro j hj h
        by_cases hs : ls q j = ls p (a p)
        · rw [hs, hch0]
          exact rej q hq (asd_iff.mpr ⟨j, hj, hs⟩) hch0
        · exact same j hj hs
      refine ⟨b0, fun h => by rw [k1, k2]; exact i0 h, fun j hj => ?_, fun j hj => ?_⟩
      · rw [at' j (by omega) (Or.inl (i1 j hj))]; exact i1 j hj
      · obtain ⟨e1, e2⟩ := i2 j hj
        have hc : ch (ls q j) (asd ls a (ls q j)) q = -1 ∨ ls q j ≠ ls p (a p) := by
          by_cases hs : ls q j = ls p (a p)
          · exact Or.inl (by rw [hs]; exact hch0)
          · exact Or.inr hs
        rw [k1, k2, at' j (by omega) hc]
        exact ⟨e1, e2⟩
/-- nobody is left who would ask -/
def RdC (n : Nat) (ld : Nat → Nat) (a : Nat → Nat) (sc : Nat → Int) : Prop := ∀ p, p < n → sc p ≠ -1 ∨ a p = ld p
/-- an ask stays below where it ends -/
theorem RdI.below (hch : ChOk n ch) {p : Nat} {a b : Nat → Nat} {sc kd sc' kd' : Nat → Int} (hp : p < n) (hI : RdI n ld ls ch a sc kd) (hI' : RdI n ld ls ch b sc' kd') (hC : RdC n ld b sc') (hab : ∀ q, q < n → a q ≤ b q) (h0 : sc p = -1) (h1 : a p < ld p) : a p < b p := by
  obtain ⟨c1, c2, c3, c4⟩ := hch
  refine Nat.lt_of_le_of_ne (hab p hp) fun e => ?_
  have hb : sc' p ≠ -1 := (hC p hp).resolve_right (by omega)
  obtain ⟨-, i0, i1, i2⟩ := hI p hp
  obtain ⟨-, j0, j1, j2⟩ := hI' p hp
  cases hj : a p with
  | zero => exact hb (j0 (by omega)).1
  | succ j =>
    have e1 := (i2 j hj).2
    have e2 := (j2 j (by omega)).2
    rw [h0] at e1
    have h3 : ch (ls p j) (asd ls a (ls p j)) p = -1 := Decidable.byContradiction fun h => by
      rw [if_neg h] at e1
      omega
    refine hb ?_
    rw [e2, if_pos]
    have cut : ∀ (s : Nat) (A : Nat → Bool) (q : Nat), q < n → ch s (fun t => A t && decide (t < n)) q = ch s A q := fun s A q hq => c4 s _ _ (fun t ht => by simp [ht]) q hq
    rw [← cut _ _ p hp] at h3 ⊢
    refine c2 _ _ _ (fun t ht => ?_) p ?_ h3
    · simp at ht ⊢
      obtain ⟨i, h5, h6⟩ := asd_iff.mp ht.1
      exact ⟨asd_iff.mpr ⟨i, Nat.lt_of_lt_of_le h5 (hab t ht.2), h6⟩, ht.2⟩
    · simp [hp]
      exact asd_iff.mpr ⟨j, by omega, rfl⟩
/-- the asked alone tell the rest -/
theorem RdI.same (hch : ChOk n ch) {a b : Nat → Nat} {sc kd sc' kd' : Nat → Int} (hI : RdI n ld ls ch a sc kd) (hI' : RdI n ld ls ch b sc' kd') (hab : ∀ q, q < n → a q = b q) : ∀ p, p < n → sc p = sc' p ∧ kd p = kd' p := by
  obtain ⟨c1, c2, c3, c4⟩ := hch
  intro p hp
  obtain ⟨-, i0, i1, i2⟩ := hI p hp
  obtain ⟨-, j0, j1, j2⟩ := hI' p hp
  have e : ∀ s, ch s (asd ls a s) p = ch s (asd ls b s) p := fun s => c4 _ _ _ (fun t ht => by unfold asd; rw [hab t ht]) p hp
  cases hj : a p with
  | zero => rw [(i0 hj).1, (i0 hj).2, (j0 (by rw [← hab p hp]; exact hj)).1, (j0 (by rw [← hab p hp]; exact hj)).2]; exact ⟨rfl, rfl⟩
  | succ j =>
    obtain ⟨e1, e2⟩ := i2 j hj
    obtain ⟨e3, e4⟩ := j2 j (by rw [← hab p hp]; exact hj)
    rw [e1, e2, e3, e4, e]
    exact ⟨rfl, rfl⟩
end RD
