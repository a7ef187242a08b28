/-! What the methods answer: pure functions of the state. -/
/-- the first index from i on, among n, with P -/
def fnd (P : Nat → Bool) : Nat → Nat → Option Nat
  | _, 0 => none
  | i, n + 1 => if P i = true then some i else fnd P (i + 1) n
def itr {σ : Type} (f : Nat → σ → σ) : Nat → Nat → σ → σ
  | _, 0, a => a
  | i, n + 1, a => itr f (i + 1) n (f i a)
theorem fnd_done {P : Nat → Bool} {i n : Nat} (h : n ≤ i) : fnd P i (n - i) = none := by
  rw [Nat.sub_eq_zero_of_le h]; rfl
theorem fnd_yes {P : Nat → Bool} {i n : Nat} (h : i < n) (hp : P i = true) : fnd P i (n - i) = some i := by
  obtain ⟨m, e⟩ : ∃ m, n - i = m + 1 := ⟨n - i - 1, by omega⟩
  rw [e]; exact if_pos hp
theorem fnd_no {P : Nat → Bool} {i n : Nat} (h : i < n) (hp : ¬ P i = true) : fnd P i (n - i) = fnd P (i + 1) (n - (i + 1)) := by
  obtain ⟨m, e⟩ : ∃ m, n - i = m + 1 := ⟨n - i - 1, by omega⟩
  rw [e, show n - (i + 1) = m by omega]; exact if_neg hp
theorem itr_done {σ : Type} {f : Nat → σ → σ} {i n : Nat} {a : σ} (h : n ≤ i) : itr f i (n - i) a = a := by
  rw [Nat.sub_eq_zero_of_le h]; rfl
theorem itr_step {σ : Type} {f : Nat → σ → σ} {i n : Nat} {a : σ} (h : i < n) : itr f i (n - i) a = itr f (i + 1) (n - (i + 1)) (f i a) := by
  obtain ⟨m, e⟩ : ∃ m, n - i = m + 1 := ⟨n - i - 1, by omega⟩
  rw [e, show n - (i + 1) = m by omega]; rfl
theorem fnd_next {P : Nat → Bool} {i n : Nat} {T : Option Nat} (h : i < n) (hp : ¬ P i = true) (hT : fnd P i (n - i) = T) : fnd P (i + 1) (n - (i + 1)) = T := (fnd_no h hp).symm.trans hT
theorem itr_next {σ : Type} {f : Nat → σ → σ} {i n : Nat} {a a' T : σ} (h : i < n) (hs : f i a = a') (hT : itr f i (n - i) a = T) : itr f (i + 1) (n - (i + 1)) a' = T := by
  rw [← hT, ← hs]
  exact (itr_step h).symm
/-- a loop's rule for itr: an invariant that each step keeps -/
theorem itr_inv {σ : Type} {f : Nat → σ → σ} {P : Nat → σ → Prop} {n : Nat} : ∀ (m i : Nat) (a : σ), i + m = n → P i a → (∀ j b, j < n → P j b → P (j + 1) (f j b)) → P n (itr f i m a)
  | 0, i, a, e, h, _ => by
    have : i = n := by omega
    subst this; exact h
  | m + 1, i, a, e, h, hs => itr_inv m (i + 1) (f i a) (by omega) (hs i a (by omega) h) hs
theorem itr_congr {σ : Type} {f g : Nat → σ → σ} {n : Nat} : ∀ (m i : Nat) (a : σ), i + m ≤ n → (∀ j b, j < n → f j b = g j b) → itr f i m a = itr g i m a
  | 0, _, _, _, _ => rfl
  | m + 1, i, a, e, h => by
    show itr f (i + 1) m (f i a) = itr g (i + 1) m (g i a)
    rw [h i a (by omega)]
    exact itr_congr m (i + 1) (g i a) (by omega) h
theorem fnd_congr {P Q : Nat → Bool} {n : Nat} : ∀ (m i : Nat), i + m ≤ n → (∀ j, j < n → P j = Q j) → fnd P i m = fnd Q i m
  | 0, _, _, _ => rfl
  | m + 1, i, e, h => by
    show (if P i = true then some i else fnd P (i + 1) m) = (if Q i = true then some i else fnd Q (i + 1) m)
    rw [h i (by omega), fnd_congr m (i + 1) (by omega) h]
theorem fnd_some {P : Nat → Bool} {j : Nat} : ∀ (m i : Nat), fnd P i m = some j → i ≤ j ∧ j < i + m ∧ P j = true ∧ ∀ t, i ≤ t → t < j → P t = false
  | 0, _, h => by cases h
  | m + 1, i, h => by
    have h' : (if P i = true then some i else fnd P (i + 1) m) = some j := h
    by_cases hp : P i = true
    · rw [if_pos hp] at h'
      cases h'
      exact ⟨Nat.le_refl _, by omega, hp, fun t h1 h2 => by omega⟩
    · rw [if_neg hp] at h'
      obtain ⟨h1, h2, h3, h4⟩ := fnd_some m (i + 1) h'
      refine ⟨by omega, by omega, h3, fun t h5 h6 => ?_⟩
      by_cases e : t = i
      · subst e; exact Bool.eq_false_iff.mpr hp
      · exact h4 t (by omega) h6
theorem fnd_none {P : Nat → Bool} : ∀ (m i : Nat), fnd P i m = none → ∀ t, i ≤ t → t < i + m → P t = false
  | 0, _, _, t, h1, h2 => by omega
  | m + 1, i, h, t, h1, h2 => by
    have h' : (if P i = true then some i else fnd P (i + 1) m) = none := h
    by_cases hp : P i = true
    · rw [if_pos hp] at h'; cases h'
    · rw [if_neg hp] at h'
      by_cases e : t = i
      · subst e; exact Bool.eq_false_iff.mpr hp
      · exact fnd_none m (i + 1) h' t (by omega) (by omega)
def oI : Option Nat → Int
  | none => -1
  | some j => (j : Int)
def bI (P : Prop) [Decidable P] : Int := if P then 1 else 0
theorem bI_t {P : Prop} [Decidable P] (h : P) : 1 = bI P := (if_pos h).symm
theorem bI_f {P : Prop} [Decidable P] (h : ¬ P) : 0 = bI P := (if_neg h).symm
theorem bI_01 {P : Prop} [Decidable P] : bI P = 0 ∨ bI P = 1 := by
  unfold bI; split
  · exact Or.inr rfl
  · exact Or.inl rfl
theorem bI_z {P : Prop} [Decidable P] : bI P = 0 ↔ ¬ P := by
  unfold bI; split
  · rename_i h; exact ⟨fun q => by omega, fun q => absurd h q⟩
  · rename_i h; exact ⟨fun _ => h, fun _ => rfl⟩
theorem bI_n {P : Prop} [Decidable P] : ¬ bI P = 0 ↔ P := by
  unfold bI; split
  · rename_i h; exact ⟨fun _ => h, fun _ q => by omega⟩
  · rename_i h; exact ⟨fun q => absurd rfl q, fun q => absurd q h⟩
theorem oI_m {o : Option Nat} : oI o = -1 ↔ o = none := by
  cases o with
  | none => exact ⟨fun _ => rfl, fun _ => rfl⟩
  | some j => exact ⟨fun h => by have : (j : Int) = -1 := h; omega, fun h => by cases h⟩
/-- the class's words: a pupil's place for a school, a kind's band for flags, a school's eye on flags, the standing -/
def plF (μ : MU) (p : Nat) (w : Int) : Option Nat := fnd (fun j => decide (μ 10 (4 * p + j) = w)) 0 (μ 11 p).toNat
def bandF (μ : MU) (q : Nat) (fl : Int) : Option Nat := fnd (fun j => decide (andI fl (μ 7 (3 * q + j)) = μ 7 (3 * q + j))) 0 (μ 8 q).toNat
def admF (μ : MU) (s : Nat) (fl : Int) : Option Nat := fnd (fun k => (bandF μ (3 * s + k) fl).isSome) 0 (μ 6 s).toNat
def stdF (μ : MU) (p s k : Nat) : Int := if oI (bandF μ (3 * s + k) (μ 13 p)) = -1 then 100000 + (p : Int) else (if μ 14 p = 0 then oI (bandF μ (3 * s + k) (μ 13 p)) else 3 + oI (bandF μ (3 * s + k) (μ 13 p))) * 2000 + μ 12 (6 * p + s)
theorem oI_lt {P : Nat → Bool} {n m : Nat} (h : n ≤ m) : -1 ≤ oI (fnd P 0 n) ∧ oI (fnd P 0 n) < (m : Int) ∨ (m = 0 ∧ oI (fnd P 0 n) = -1) := by
  cases e : fnd P 0 n with
  | none =>
    by_cases hm : m = 0
    · exact Or.inr ⟨hm, rfl⟩
    · exact Or.inl ⟨by simp [oI], by simp only [oI]; omega⟩
  | some j =>
    have := fnd_some n 0 e
    exact Or.inl ⟨by simp only [oI]; omega, by simp only [oI]; omega⟩
theorem bandF_r {μ : MU} {q : Nat} (w : Int) (h2 : μ 8 q ≤ 3) : -1 ≤ oI (bandF μ q w) ∧ oI (bandF μ q w) < 3 := by
  rcases oI_lt (P := fun j => decide (andI w (μ 7 (3 * q + j)) = μ 7 (3 * q + j))) (n := (μ 8 q).toNat) (m := 3) (by omega) with h | h
  · exact h
  · omega
theorem plF_r {μ : MU} {p : Nat} (w : Int) (h2 : μ 11 p ≤ 4) : -1 ≤ oI (plF μ p w) ∧ oI (plF μ p w) < 4 := by
  rcases oI_lt (P := fun j => decide (μ 10 (4 * p + j) = w)) (n := (μ 11 p).toNat) (m := 4) (by omega) with h | h
  · exact h
  · omega
theorem stdF_r {μ : MU} {p s k : Nat} (hp : p < 20) (h2 : μ 8 (3 * s + k) ≤ 3) (h3 : 0 ≤ μ 12 (6 * p + s)) (h4 : μ 12 (6 * p + s) < 2000) : 0 ≤ stdF μ p s k ∧ stdF μ p s k < 200000 := by
  have := bandF_r (μ 13 p) h2
  unfold stdF
  split
  · omega
  · split <;> omega
/-- what the class's methods need of the state to run -/
def Sf (μ : MU) : Prop := (0 ≤ μ 0 0 ∧ μ 0 0 ≤ 6) ∧ (0 ≤ μ 1 0 ∧ μ 1 0 ≤ 20) ∧ (μ 2 0 = 0 ∨ μ 2 0 = 1) ∧ (∀ s, s < 6 → 0 ≤ μ 6 s ∧ μ 6 s ≤ 3) ∧ (∀ q, q < 18 → 0 ≤ μ 8 q ∧ μ 8 q ≤ 3 ∧ 0 ≤ μ 9 q ∧ μ 9 q ≤ 6) ∧
  (∀ p, p < 20 → 0 ≤ μ 11 p ∧ μ 11 p ≤ 4 ∧ 0 ≤ μ 17 p ∧ μ 17 p ≤ 4) ∧ (∀ j, j < 80 → 0 ≤ μ 10 j ∧ μ 10 j < 6) ∧ (∀ j, j < 120 → 0 ≤ μ 12 j ∧ μ 12 j < 2000)
theorem Sf.std {μ : MU} (h : Sf μ) {p s k : Nat} (hp : p < 20) (hs : s < 6) (hk : k < 3) : 0 ≤ stdF μ p s k ∧ stdF μ p s k < 200000 := by
  obtain ⟨-, -, -, -, hq, -, -, hn⟩ := h
  exact stdF_r hp (hq (3 * s + k) (by omega)).2.1 (hn _ (by omega)).1 (hn _ (by omega)).2
/-- it speaks of these places alone -/
theorem Sf.of {μ μ' : MU} (h : Sf μ) (e : ∀ f j, f ∈ [0, 1, 2, 6, 8, 9, 10, 11, 12, 17] → μ' f j = μ f j) : Sf μ' := by
  unfold Sf at h ⊢
  simp only [e 0 _ (by decide), e 1 _ (by decide), e 2 _ (by decide), e 6 _ (by decide), e 8 _ (by decide), e 9 _ (by decide), e 10 _ (by decide), e 11 _ (by decide), e 12 _ (by decide), e 17 _ (by decide)]
  exact h
theorem Sf.up {μ : MU} (h : Sf μ) {f j : Nat} {v : Int} (hf : f ∉ [0, 1, 2, 6, 8, 9, 10, 11, 12, 17]) : Sf (upM μ f j v) := h.of fun g k hg => upM_nef fun q => hf (q ▸ hg)
/-- how many below n -/
def cntS (P : Nat → Bool) (p : Nat) (a : Int) : Int := if P p = true then a + 1 else a
def cntF (P : Nat → Bool) (n : Nat) : Int := itr (cntS P) 0 n 0
theorem cntS_y {P : Nat → Bool} {p : Nat} {a : Int} (h : P p = true) : cntS P p a = a + 1 := if_pos h
theorem cntS_n {P : Nat → Bool} {p : Nat} {a : Int} (h : ¬ P p = true) : cntS P p a = a := if_neg h
/-- the best so far: a place and its standing -/
def minS (P : Nat → Bool) (g : Nat → Int) (p : Nat) (a : Int × Int) : Int × Int := if P p = true ∧ g p < a.2 then ((p : Int), g p) else a
def maxS (P : Nat → Bool) (g : Nat → Int) (p : Nat) (a : Int × Int) : Int × Int := if P p = true ∧ a.2 < g p then ((p : Int), g p) else a
abbrev prefP (μ : MU) (p : Nat) (w : Int) : Prop := ¬ oI (plF μ p w) = -1 ∧ (μ 15 p = -1 ∨ oI (plF μ p w) < oI (plF μ p (μ 15 p)))
abbrev waitP (μ : MU) (p : Nat) (w : Int) : Prop := prefP μ p w ∧ oI (plF μ p w) < μ 19 p
abbrev holdP (μ : MU) (p : Nat) (a k : Int) : Prop := μ 15 p = a ∧ μ 16 p = k
abbrev anyP (μ : MU) (p : Nat) (a : Int) : Prop := μ 15 p = a ∧ ¬ μ 16 p = -1
abbrev isS (μ : MU) (w : Int) : Prop := 0 ≤ w ∧ w < μ 0 0
abbrev isP (μ : MU) (w : Int) : Prop := 0 ≤ w ∧ w < μ 1 0
abbrev sitM (μ : MU) (p : Nat) (a k : Int) : MU := upM (upM μ 15 p a) 16 p k
