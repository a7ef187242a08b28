/-! How a school chooses, and the round: pure. -/
theorem itr_rel {σ τ : Type} {f : Nat → σ → σ} {g : Nat → τ → τ} {R : σ → τ → Prop} (hs : ∀ j a b, R a b → R (f j a) (g j b)) : ∀ (m i : Nat) (a : σ) (b : τ), R a b → R (itr f i m a) (itr g i m b)
  | 0, _, _, _, h => h
  | m + 1, i, a, b, h => itr_rel hs m (i + 1) (f i a) (g i b) (hs i a b h)
/-- the least of those with E whose g lies under B; the first of them -/
def bst (n : Nat) (g : Nat → Int) (B : Int) (E : Nat → Bool) : Int := (itr (minS E g) 0 n (-1, B)).1
def bstP (n : Nat) (g : Nat → Int) (B : Int) (E : Nat → Bool) (c : Int × Int) : Prop :=
  (c = (-1, B) ∧ ∀ p, p < n → E p = true → B ≤ g p) ∨ ∃ p : Nat, p < n ∧ c = ((p : Int), g p) ∧ E p = true ∧ g p < B ∧ ∀ q, q < n → E q = true → g p ≤ g q ∧ (q < p → g p < g q)
theorem bstP_step {n : Nat} {g : Nat → Int} {B : Int} {E : Nat → Bool} {c : Int × Int} (h : bstP n g B E c) : bstP (n + 1) g B E (minS E g n c) := by
  unfold minS
  by_cases hc : E n = true ∧ g n < c.2
  · rw [if_pos hc]
    refine Or.inr ⟨n, Nat.lt_succ_self n, rfl, hc.1, ?_, fun q hq hE => ?_⟩
    · rcases h with ⟨rfl, -⟩ | ⟨p, -, rfl, -, hB, -⟩
      · exact hc.2
      · have := hc.2; dsimp only at this; omega
    · by_cases e : q = n
      · subst e; exact ⟨Int.le_refl _, fun h => absurd h (Nat.lt_irrefl _)⟩
      · rcases h with ⟨rfl, hall⟩ | ⟨p, hp, rfl, hEp, hB, hall⟩
        · have h1 := hall q (by omega) hE
          have h2 := hc.2
          dsimp only at h2
          exact ⟨by omega, fun _ => by omega⟩
        · have h1 := (hall q (by omega) hE).1
          have h2 := hc.2
          dsimp only at h2
          exact ⟨by omega, fun _ => by omega⟩
  · rw [if_neg hc]
    rcases h with ⟨rfl, hall⟩ | ⟨p, hp, rfl, hEp, hB, hall⟩
    · refine Or.inl ⟨rfl, fun q hq hE => ?_⟩
      by_cases e : q = n
      · subst e
        exact Int.not_lt.mp fun h => hc ⟨hE, h⟩
      · exact hall q (by omega) hE
    · refine Or.inr ⟨p, by omega, rfl, hEp, hB, fun q hq hE => ?_⟩
      by_cases e : q = n
      · subst e
        exact ⟨Int.not_lt.mp fun h => hc ⟨hE, h⟩, fun h => by omega⟩
      · exact hall q (by omega) hE
theorem bst_P (n : Nat) (g : Nat → Int) (B : Int) (E : Nat → Bool) : bstP n g B E (itr (minS E g) 0 n (-1, B)) := by
  refine itr_inv (P := fun i c => bstP i g B E c) (n := n) n 0 (-1, B) (by omega) (Or.inl ⟨rfl, fun p hp => by omega⟩) (fun j c _ h => bstP_step h)
theorem bst_spec (n : Nat) (g : Nat → Int) (B : Int) (E : Nat → Bool) : (bst n g B E = -1 ∧ ∀ p, p < n → E p = true → B ≤ g p) ∨ ∃ p : Nat, p < n ∧ bst n g B E = (p : Int) ∧ E p = true ∧ g p < B ∧ ∀ q, q < n → E q = true → g p ≤ g q ∧ (q < p → g p < g q) := by
  unfold bst
  rcases bst_P n g B E with ⟨e, h⟩ | ⟨p, h1, e, h2⟩
  · exact Or.inl ⟨by rw [e], h⟩
  · exact Or.inr ⟨p, h1, by rw [e], h2⟩
theorem bst_congr {n : Nat} {g g' : Nat → Int} {B : Int} {E E' : Nat → Bool} (hg : ∀ p, p < n → g p = g' p) (hE : ∀ p, p < n → E p = E' p) : bst n g B E = bst n g' B E' := by
  unfold bst
  exact congrArg Prod.fst (itr_congr (g := minS E' g') (n := n) n 0 (-1, B) (by omega) (fun j b hj => by unfold minS; rw [hg j hj, hE j hj]))
/-- one seat is given -/
def tk1 (n : Nat) (g : Nat → Int) (B : Int) (O : Nat → Bool) (k : Int) (T : Nat → Int) : Nat → Int := fun p =>
  if bst n g B (fun q => O q && decide (T q = -1)) = (p : Int) then k else T p
/-- a kind's seats; all kinds -/
def tkK (n : Nat) (g : Nat → Int) (B : Int) (O : Nat → Bool) (k : Int) (m : Nat) (T : Nat → Int) : Nat → Int := itr (fun _ T => tk1 n g B O k T) 0 m T
def chv (n : Nat) (g : Nat → Nat → Int) (B : Int) (O : Nat → Bool) (kc : Nat) (st : Nat → Nat) : Nat → Int := itr (fun k T => tkK n (g k) B O (k : Int) (st k) T) 0 kc (fun _ => -1)
section CH
variable {n : Nat} {g : Nat → Int} {B : Int} {O A : Nat → Bool} {k : Int} {T : Nat → Int}
theorem tk1_old {p : Nat} (h : T p ≠ -1) : tk1 n g B O k T p = T p := by
  unfold tk1
  rcases bst_spec n g B (fun q => O q && decide (T q = -1)) with ⟨e, -⟩ | ⟨q, hq, e, hE, -⟩
  · rw [e, if_neg (by omega)]
  · rw [e]
    refine if_neg fun h1 => h ?_
    have : q = p := by omega
    subst this
    simp at hE
    exact hE.2
theorem tk1_from {p : Nat} (h : tk1 n g B O k T p ≠ T p) : O p = true ∧ T p = -1 ∧ p < n := by
  unfold tk1 at h
  rcases bst_spec n g B (fun q => O q && decide (T q = -1)) with ⟨e, -⟩ | ⟨q, hq, e, hE, -⟩
  · rw [e, if_neg (by omega)] at h
    exact absurd rfl h
  · rw [e] at h
    by_cases h1 : (q : Int) = (p : Int)
    · have : q = p := by omega
      subst this
      simp at hE
      exact ⟨hE.1, hE.2, hq⟩
    · rw [if_neg h1] at h
      exact absurd rfl h
/-- who remains of fewer remains of more -/
theorem tk1_mono {TA TB : Nat → Int} (hk : k ≠ -1) (hAB : ∀ p, A p = true → O p = true) (h : ∀ p, A p = true → TA p = -1 → TB p = -1) : ∀ p, A p = true → tk1 n g B A k TA p = -1 → tk1 n g B O k TB p = -1 := by
  intro p hp h1
  have hA : TA p = -1 := by
    refine Decidable.byContradiction fun q => q ?_
    rw [tk1_old q] at h1
    exact h1
  have hB := h p hp hA
  unfold tk1 at h1 ⊢
  rcases bst_spec n g B (fun q => O q && decide (TB q = -1)) with ⟨e, -⟩ | ⟨b, hb, e, hE, hlt, hmin⟩
  · rw [e, if_neg (by omega)]; exact hB
  · rw [e]
    by_cases hpb : (b : Int) = (p : Int)
    · have hbp : b = p := by omega
      subst hbp
      exfalso
      rcases bst_spec n g B (fun q => A q && decide (TA q = -1)) with ⟨e', hall⟩ | ⟨a, ha, e', hE', hlt', hmin'⟩
      · have := hall b hb (by simp [hp, hA])
        omega
      · rw [e'] at h1
        have hab : a ≠ b := fun q => by
          subst q
          rw [if_pos rfl] at h1
          exact hk h1
        simp at hE'
        have m1 := hmin a ha (by simp [hAB a hE'.1, h a hE'.1 hE'.2])
        have m2 := hmin' b hb (by simp [hp, hA])
        by_cases hl : a < b
        · have := m1.2 hl
          omega
        · have := m2.2 (by omega)
          omega
    · rw [if_neg hpb]; exact hB
/-- where those that are taken lie among fewer, the fewer choose alike -/
theorem tk1_same (hk : k ≠ -1) (hAO : ∀ p, A p = true → O p = true) (h : ∀ p, tk1 n g B O k T p ≠ -1 → T p = -1 → A p = true) : tk1 n g B A k T = tk1 n g B O k T := by
  have e : bst n g B (fun q => A q && decide (T q = -1)) = bst n g B (fun q => O q && decide (T q = -1)) := by
    rcases bst_spec n g B (fun q => O q && decide (T q = -1)) with ⟨e, hall⟩ | ⟨b, hb, e, hE, hlt, hmin⟩
    · rw [e]
      rcases bst_spec n g B (fun q => A q && decide (T q = -1)) with ⟨e', -⟩ | ⟨a, ha, e', hE', hlt', -⟩
      · exact e'
      · simp at hE'
        have := hall a ha (by simp [hAO a hE'.1, hE'.2])
        omega
    · rw [e]
      simp at hE
      have hAb : A b = true := h b (by unfold tk1; rw [e, if_pos rfl]; exact hk) hE.2
      rcases bst_spec n g B (fun q => A q && decide (T q = -1)) with ⟨e', hall⟩ | ⟨a, ha, e', hE', hlt', hmin'⟩
      · have := hall b hb (by simp [hAb, hE.2])
        omega
      · simp at hE'
        have m1 := hmin a ha (by simp [hAO a hE'.1, hE'.2])
        have m2 := hmin' b hb (by simp [hAb, hE.2])
        rw [e']
        by_cases hl : a < b
        · have := m1.2 hl; omega
        · by_cases hl2 : b < a
          · have := m2.2 hl2; omega
          · have : a = b := by omega
            rw [this]
  funext p
  unfold tk1
  rw [e]
end CH
/-- steps that keep what is taken; steps that agree where the taken lie in A -/
def Kp (f : (Nat → Int) → Nat → Int) : Prop := ∀ T p, T p ≠ -1 → f T p = T p
def Ag (A : Nat → Bool) (f h : (Nat → Int) → Nat → Int) : Prop := ∀ T, (∀ p, h T p ≠ -1 → T p = -1 → A p = true) → f T = h T
theorem itr_Kp {f : Nat → (Nat → Int) → Nat → Int} (hf : ∀ j, Kp (f j)) : ∀ (m i : Nat), Kp (itr f i m)
  | 0, _ => fun _ _ _ => rfl
  | m + 1, i => fun T p h => by
    have h1 := hf i T p h
    show itr f (i + 1) m (f i T) p = T p
    rw [itr_Kp hf m (i + 1) (f i T) p (by rw [h1]; exact h), h1]
theorem itr_Ag {A : Nat → Bool} {f h : Nat → (Nat → Int) → Nat → Int} (hh : ∀ j, Kp (h j)) (ha : ∀ j, Ag A (f j) (h j)) : ∀ (m i : Nat), Ag A (itr f i m) (itr h i m)
  | 0, _ => fun _ _ => rfl
  | m + 1, i => fun T hT => by
    have hT' : ∀ p, itr h (i + 1) m (h i T) p ≠ -1 → T p = -1 → A p = true := hT
    have e : f i T = h i T := ha i T fun p hp h0 => hT' p (by rw [itr_Kp hh m (i + 1) (h i T) p hp]; exact hp) h0
    show itr f (i + 1) m (f i T) = itr h (i + 1) m (h i T)
    rw [e]
    refine itr_Ag hh ha m (i + 1) (h i T) fun p hp h0 => ?_
    refine hT' p hp (Decidable.byContradiction fun q => ?_)
    rw [hh i T p q] at h0
    exact q h0
section CV
variable {n : Nat} {g : Nat → Nat → Int} {B : Int} {O A : Nat → Bool} {kc : Nat} {st : Nat → Nat}
theorem tkK_Kp (g : Nat → Int) (k : Int) (m : Nat) : Kp (tkK n g B O k m) := itr_Kp (fun _ T p h => tk1_old h) m 0
theorem tkK_in {g : Nat → Int} {k : Int} {m : Nat} {T : Nat → Int} {p : Nat} (h : tkK n g B O k m T p ≠ -1) (h0 : T p = -1) : O p = true ∧ p < n := by
  suffices hs : ∀ (m i : Nat) (T : Nat → Int), itr (fun _ T => tk1 n g B O k T) i m T p ≠ -1 → T p = -1 → O p = true ∧ p < n from hs m 0 T h h0
  intro m
  induction m with
  | zero => intro i T h h0; exact absurd h0 h
  | succ m ih =>
    intro i T h h0
    by_cases hc : tk1 n g B O k T p = -1
    · exact ih (i + 1) (tk1 n g B O k T) h hc
    · have := tk1_from (n := n) (g := g) (B := B) (O := O) (k := k) (T := T) (p := p) (by rw [h0]; exact hc)
      exact ⟨this.1, this.2.2⟩
theorem chv_in {p : Nat} (h : chv n g B O kc st p ≠ -1) : O p = true ∧ p < n := by
  suffices hs : ∀ (m i : Nat) (T : Nat → Int), itr (fun k T => tkK n (g k) B O (k : Int) (st k) T) i m T p ≠ -1 → T p = -1 → O p = true ∧ p < n from hs kc 0 _ h rfl
  intro m
  induction m with
  | zero => intro i T h h0; exact absurd h0 h
  | succ m ih =>
    intro i T h h0
    by_cases hc : tkK n (g i) B O (i : Int) (st i) T p = -1
    · exact ih (i + 1) _ h hc
    · exact tkK_in hc h0
theorem chv_mono (hAO : ∀ p, A p = true → O p = true) {p : Nat} (hp : A p = true) (h : chv n g B A kc st p = -1) : chv n g B O kc st p = -1 := by
  refine itr_rel (R := fun (TA TB : Nat → Int) => ∀ p, A p = true → TA p = -1 → TB p = -1) (f := fun k T => tkK n (g k) B A (k : Int) (st k) T) (g := fun k T => tkK n (g k) B O (k : Int) (st k) T) ?_ kc 0 _ _ (fun _ _ h => h) p hp h
  intro j TA TB hR
  exact itr_rel (R := fun (TA TB : Nat → Int) => ∀ p, A p = true → TA p = -1 → TB p = -1) (f := fun _ T => tk1 n (g j) B A (j : Int) T) (g := fun _ T => tk1 n (g j) B O (j : Int) T) (fun _ a b hab => tk1_mono (by omega) hAO hab) (st j) 0 TA TB hR
theorem chv_same (hAO : ∀ p, A p = true → O p = true) (h : ∀ p, chv n g B O kc st p ≠ -1 → A p = true) : chv n g B A kc st = chv n g B O kc st := by
  refine itr_Ag (A := A) (f := fun k T => tkK n (g k) B A (k : Int) (st k) T) (h := fun k T => tkK n (g k) B O (k : Int) (st k) T) (fun j => tkK_Kp (g j) j (st j)) (fun j => ?_) kc 0 _ (fun p hp _ => h p hp)
  exact itr_Ag (A := A) (f := fun _ T => tk1 n (g j) B A (j : Int) T) (h := fun _ T => tk1 n (g j) B O (j : Int) T) (fun _ T p h => tk1_old h) (fun _ T hT => tk1_same (by omega) hAO hT) (st j) 0
end CV
theorem tk1_congr {n : Nat} {g g' : Nat → Int} {B : Int} {O O' : Nat → Bool} {k : Int} {T T' : Nat → Int} (hg : ∀ p, p < n → g p = g' p) (hO : ∀ p, p < n → O p = O' p) (hT : ∀ p, p < n → T p = T' p) : ∀ p, p < n → tk1 n g B O k T p = tk1 n g' B O' k T' p := by
  intro p hp
  unfold tk1
  rw [bst_congr (g' := g') (E' := fun q => O' q && decide (T' q = -1)) hg (fun q hq => by rw [hO q hq, hT q hq]), hT p hp]
theorem tkK_congr {n : Nat} {g g' : Nat → Int} {B : Int} {O O' : Nat → Bool} {k : Int} {m : Nat} {T T' : Nat → Int} (hg : ∀ p, p < n → g p = g' p) (hO : ∀ p, p < n → O p = O' p) (hT : ∀ p, p < n → T p = T' p) : ∀ p, p < n → tkK n g B O k m T p = tkK n g' B O' k m T' p :=
  itr_rel (R := fun (a b : Nat → Int) => ∀ p, p < n → a p = b p) (fun _ a b hab => tk1_congr hg hO hab) m 0 T T' hT
