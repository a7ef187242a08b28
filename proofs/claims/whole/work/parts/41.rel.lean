/-! Both halves stand for the same: the class's half of μ, the reference's half of ν. -/
def Rc (μ ν : MU) : Prop := ν 22 0 = μ 0 0 ∧ ν 23 0 = μ 1 0 ∧ ν 21 0 = μ 2 0
def Rk (μ ν : MU) : Prop := (∀ s, s < 6 → ν 24 s = μ 6 s) ∧ ∀ q, q < 18 → ν 25 q = μ 9 q
def Rb1 (μ ν : MU) (s k : Nat) : Prop := ∀ j : Nat, j < 3 → if (j : Int) < μ 8 (3 * s + k) then 0 ≤ μ 7 (3 * (3 * s + k) + j) ∧ ν 26 (9 * s + 3 * k + j) = μ 7 (3 * (3 * s + k) + j) else ν 26 (9 * s + 3 * k + j) < 0
def Rb (μ ν : MU) : Prop := ∀ s k : Nat, s < 6 → (k : Int) < μ 6 s → Rb1 μ ν s k
def Rp (μ ν : MU) : Prop := ∀ p, p < 20 → ν 27 p = μ 13 p ∧ ν 28 p = μ 14 p ∧ ν 29 p = μ 11 p ∧ ν 32 p = μ 17 p ∧ ν 35 p = μ 18 p ∧ (ν 36 p = 0 ↔ μ 18 p = 0) ∧ ν 37 p = μ 19 p
def Rn (μ ν : MU) : Prop := ∀ p s : Nat, p < 20 → s < 6 → μ 12 (6 * p + s) = (if ν 31 (6 * p + s) < 0 then 1000 + (p : Int) else ν 31 (6 * p + s)) ∧ ν 31 (6 * p + s) ≤ 999 ∧ (μ 1 0 ≤ (p : Int) → ν 31 (6 * p + s) < 0)
def Ri (ν : MU) : Prop := ∀ p p' s : Nat, p < 20 → p' < 20 → s < 6 → 0 ≤ ν 31 (6 * p + s) → ν 31 (6 * p + s) = ν 31 (6 * p' + s) → p = p'
def Rw (μ ν : MU) : Prop := (∀ j, j < 80 → ν 30 j = μ 10 j) ∧ ∀ p i j : Nat, p < 20 → i < j → (j : Int) < μ 11 p → μ 10 (4 * p + i) ≠ μ 10 (4 * p + j)
def Rs1 (μ ν : MU) (p : Nat) : Prop := ν 33 p = μ 15 p ∧ ν 34 p = μ 16 p ∧ (μ 15 p = -1 → μ 16 p = -1) ∧ (μ 15 p ≠ -1 → ∃ j : Nat, (j : Int) < μ 11 p ∧ μ 10 (4 * p + j) = μ 15 p) ∧ (μ 16 p ≠ -1 → 0 ≤ μ 16 p ∧ μ 16 p < μ 6 (μ 15 p).toNat)
def Rs (μ ν : MU) : Prop := ∀ p, p < (μ 1 0).toNat → Rs1 μ ν p
def R0 (μ ν : MU) : Prop := μ 2 0 = 0 → ∀ p, p < 20 → μ 15 p = -1 ∧ μ 16 p = -1 ∧ μ 17 p = 0 ∧ ν 33 p = -1 ∧ ν 34 p = -1
def Rlt (μ ν : MU) : Prop := Sf μ ∧ Sm ν ∧ Rc μ ν ∧ Rk μ ν ∧ Rb μ ν ∧ Rp μ ν ∧ Rn μ ν ∧ Ri ν ∧ Rw μ ν ∧ Rs μ ν ∧ R0 μ ν
/-- the places of which it speaks -/
def cFl : List Nat := [0, 1, 2, 6, 7, 8, 9, 10, 11, 12, 13, 14, 15, 16, 17, 18, 19]
def mFl : List Nat := [21, 22, 23, 24, 25, 26, 27, 28, 29, 30, 31, 32, 33, 34, 35, 36, 37]
theorem Rlt.of {μ ν μ' ν' : MU} (h : Rlt μ ν) (h1 : ∀ f j, f ∈ cFl → μ' f j = μ f j) (h2 : ∀ f j, f ∈ mFl → ν' f j = ν f j) : Rlt μ' ν' := by
  unfold Rlt Sf Sm Rc Rk Rb Rb1 Rp Rn Ri Rw Rs Rs1 R0 at h ⊢
  simp only [h1 0 _ (by decide), h1 1 _ (by decide), h1 2 _ (by decide), h1 6 _ (by decide), h1 7 _ (by decide), h1 8 _ (by decide), h1 9 _ (by decide), h1 10 _ (by decide), h1 11 _ (by decide), h1 12 _ (by decide), h1 13 _ (by decide), h1 14 _ (by decide), h1 15 _ (by decide), h1 16 _ (by decide), h1 17 _ (by decide), h1 18 _ (by decide), h1 19 _ (by decide), h2 21 _ (by decide), h2 22 _ (by decide), h2 23 _ (by decide), h2 24 _ (by decide), h2 25 _ (by decide), h2 26 _ (by decide), h2 27 _ (by decide), h2 28 _ (by decide), h2 29 _ (by decide), h2 30 _ (by decide), h2 31 _ (by decide), h2 32 _ (by decide), h2 33 _ (by decide), h2 34 _ (by decide), h2 35 _ (by decide), h2 36 _ (by decide), h2 37 _ (by decide)]
  exact h
section RR
variable {μ ν : MU}
theorem Rlt.sf (h : Rlt μ ν) : Sf μ := h.1
theorem Rlt.sm (h : Rlt μ ν) : Sm ν := h.2.1
theorem Rlt.c (h : Rlt μ ν) : Rc μ ν := h.2.2.1
theorem Rlt.k (h : Rlt μ ν) : Rk μ ν := h.2.2.2.1
theorem Rlt.b (h : Rlt μ ν) : Rb μ ν := h.2.2.2.2.1
theorem Rlt.p (h : Rlt μ ν) : Rp μ ν := h.2.2.2.2.2.1
theorem Rlt.n (h : Rlt μ ν) : Rn μ ν := h.2.2.2.2.2.2.1
theorem Rlt.i (h : Rlt μ ν) : Ri ν := h.2.2.2.2.2.2.2.1
theorem Rlt.w (h : Rlt μ ν) : Rw μ ν := h.2.2.2.2.2.2.2.2.1
theorem Rlt.s (h : Rlt μ ν) : Rs μ ν := h.2.2.2.2.2.2.2.2.2.1
theorem Rlt.z (h : Rlt μ ν) : R0 μ ν := h.2.2.2.2.2.2.2.2.2.2
theorem Rlt.n20 (h : Rlt μ ν) : (μ 1 0).toNat ≤ 20 := by
  have := h.sf.2.1
  omega
theorem Rlt.inj (h : Rlt μ ν) {s : Nat} (hs : s < 6) : Inj μ s := by
  intro p p' hp hp' e
  have h20 := h.n20
  obtain ⟨a1, a2, -⟩ := h.n p s (by omega) hs
  obtain ⟨b1, b2, -⟩ := h.n p' s (by omega) hs
  rw [a1, b1] at e
  by_cases c1 : ν 31 (6 * p + s) < 0
  · rw [if_pos c1] at e
    by_cases c2 : ν 31 (6 * p' + s) < 0
    · rw [if_pos c2] at e; omega
    · rw [if_neg c2] at e; omega
  · rw [if_neg c1] at e
    by_cases c2 : ν 31 (6 * p' + s) < 0
    · rw [if_pos c2] at e; omega
    · rw [if_neg c2] at e
      exact h.i p p' s (by omega) (by omega) hs (by omega) e
/-- places in the lists -/
theorem fnd_first {P : Nat → Bool} {j : Nat} : ∀ (m i : Nat), i ≤ j → j < i + m → P j = true → (∀ t, i ≤ t → t < j → P t = false) → fnd P i m = some j
  | 0, i, h1, h2, _, _ => by omega
  | m + 1, i, h1, h2, h3, h4 => by
    show (if P i = true then some i else fnd P (i + 1) m) = some j
    by_cases e : i = j
    · subst e; rw [if_pos h3]
    · rw [if_neg (by rw [h4 i (Nat.le_refl _) (by omega)]; exact Bool.false_ne_true)]
      exact fnd_first m (i + 1) (by omega) (by omega) h3 (fun t h5 h6 => h4 t (by omega) h6)
theorem Rlt.pl (h : Rlt μ ν) {p : Nat} (hp : p < 20) (w : Int) : mplF ν p w = plF μ p w := by
  have h1 := (h.p p hp).2.2.1
  have h2 := h.sf.2.2.2.2.2.1 p hp
  unfold mplF plF
  rw [h1]
  refine fnd_congr (n := (μ 11 p).toNat) _ _ (by omega) (fun j hj => ?_)
  rw [h.w.1 (4 * p + j) (by omega)]
theorem pl_some {p j : Nat} {w : Int} (h : plF μ p w = some j) : (j : Int) < μ 11 p ∧ μ 10 (4 * p + j) = w := by
  have := fnd_some _ _ h
  refine ⟨by omega, ?_⟩
  simpa using this.2.2.1
theorem Rlt.at (h : Rlt μ ν) {p j : Nat} (hp : p < 20) (hj : (j : Int) < μ 11 p) : plF μ p (μ 10 (4 * p + j)) = some j := by
  unfold plF
  refine fnd_first _ _ (by omega) (by omega) (by simp) (fun t _ ht => ?_)
  have := h.w.2 p t j hp ht hj
  simp [this]
theorem pl_lt (h : Sf μ) {p j : Nat} {w : Int} (hp : p < 20) (hj : plF μ p w = some j) : j < 4 ∧ 0 ≤ w ∧ w < 6 := by
  have h1 := pl_some hj
  have h2 := h.2.2.2.2.2.1 p hp
  have h3 := h.2.2.2.2.2.2.1 (4 * p + j) (by omega)
  rw [h1.2] at h3
  omega
/-- own place -/
theorem Rlt.own (h : Rlt μ ν) {p : Nat} (hp : p < (μ 1 0).toNat) : (μ 15 p = -1 ∧ ownF ν p = 9) ∨ ∃ j : Nat, μ 15 p ≠ -1 ∧ j < 4 ∧ 0 ≤ μ 15 p ∧ μ 15 p < 6 ∧ plF μ p (μ 15 p) = some j ∧ ownF ν p = (j : Int) := by
  have h20 := h.n20
  obtain ⟨s1, s2, s3, s4, s5⟩ := h.s p hp
  unfold ownF
  rw [s1]
  by_cases e : μ 15 p = -1
  · exact Or.inl ⟨e, by rw [e]; rfl⟩
  · obtain ⟨j, hj, hj2⟩ := s4 e
    have ha := h.at (by omega) hj
    rw [hj2] at ha
    have hl := pl_lt h.sf (by omega) ha
    refine Or.inr ⟨j, e, hl.1, hl.2.1, hl.2.2, ha, ?_⟩
    rw [if_neg (by omega), h.pl (by omega), ha]
    rfl
theorem Rlt.pref (h : Rlt μ ν) {p : Nat} (hp : p < (μ 1 0).toNat) (w : Int) : prefP μ p w ↔ o9 (mplF ν p w) < ownF ν p := by
  have h20 := h.n20
  rw [h.pl (by omega)]
  unfold prefP
  cases e : plF μ p w with
  | none =>
    have : ownF ν p ≤ 9 := by
      rcases h.own hp with ⟨-, h2⟩ | ⟨j, -, hj, -, -, -, h2⟩ <;> omega
    simp only [oI, o9]
    constructor
    · intro q; exact absurd trivial q.1
    · intro q; omega
  | some i =>
    have hi := pl_lt h.sf (by omega) e
    simp only [oI, o9]
    rcases h.own hp with ⟨h1, h2⟩ | ⟨j, hne, hj, -, -, hpl, h2⟩
    · rw [h2]
      exact ⟨fun _ => by omega, fun _ => ⟨by omega, Or.inl h1⟩⟩
    · rw [h2, hpl]
      simp only
      constructor
      · intro q
        rcases q.2 with q | q
        · exact absurd q hne
        · exact q
      · intro q; exact ⟨by omega, Or.inr q⟩
theorem Rlt.wait (h : Rlt μ ν) {p : Nat} (hp : p < (μ 1 0).toNat) (w : Int) : waitP μ p w ↔ mwtP ν p w := by
  have h20 := h.n20
  have h1 := (h.p p (by omega)).2.2.2.2.2.2
  unfold waitP mwtP
  rw [h.pref hp, h1, h.pl (by omega)]
  have hw : ownF ν p ≤ 9 := by
    rcases h.own hp with ⟨-, h2⟩ | ⟨j, -, hj, -, -, -, h2⟩ <;> omega
  cases e : plF μ p w with
  | none =>
    simp only [oI, o9]
    exact ⟨fun q => by omega, fun q => by omega⟩
  | some i =>
    have hi := pl_lt h.sf (by omega) e
    simp only [oI, o9]
    exact ⟨fun q => by omega, fun q => by omega⟩
/-- bands -/
theorem Rlt.bn (h : Rlt μ ν) {p s k : Nat} (hp : p < 20) (hs : s < 6) (hk : (k : Int) < μ 6 s) : mbnF ν p s k = bandF μ (3 * s + k) (μ 13 p) := by
  have hb := h.b s k hs hk
  have hk3 := h.sf.2.2.2.1 s hs
  have hq := h.sf.2.2.2.2.1 (3 * s + k) (by omega)
  have hf := (h.p p hp).1
  have key : ∀ (m i : Nat), i + m = 3 → fnd (fun j => decide (0 ≤ ν 26 (9 * s + 3 * k + j) ∧ andI (ν 27 p) (ν 26 (9 * s + 3 * k + j)) = ν 26 (9 * s + 3 * k + j))) i m = fnd (fun j => decide (andI (μ 13 p) (μ 7 (3 * (3 * s + k) + j)) = μ 7 (3 * (3 * s + k) + j))) i ((μ 8 (3 * s + k)).toNat - i) := by
    intro m
    induction m with
    | zero =>
      intro i hi
      rw [Nat.sub_eq_zero_of_le (by omega)]; rfl
    | succ m ih =>
      intro i hi
      have hbi := hb i (by omega)
      by_cases c : (i : Int) < μ 8 (3 * s + k)
      · rw [if_pos c] at hbi
        obtain ⟨t, ht⟩ : ∃ t, (μ 8 (3 * s + k)).toNat - i = t + 1 := ⟨(μ 8 (3 * s + k)).toNat - i - 1, by omega⟩
        rw [ht]
        show (if _ = true then some i else fnd _ (i + 1) m) = (if _ = true then some i else fnd _ (i + 1) t)
        rw [ih (i + 1) (by omega), show (μ 8 (3 * s + k)).toNat - (i + 1) = t by omega]
        simp only [hf, hbi.2, hbi.1, true_and]
      · rw [if_neg c] at hbi
        show (if _ = true then some i else fnd _ (i + 1) m) = _
        rw [if_neg (by simp only [decide_eq_true_eq]; omega), ih (i + 1) (by omega), Nat.sub_eq_zero_of_le (by omega), Nat.sub_eq_zero_of_le (by omega)]
        rfl
  exact key 3 0 rfl
theorem bn3 (h : Sf μ) {q : Nat} (hq : q < 18) (w : Int) {j : Nat} (e : bandF μ q w = some j) : j < 3 := by
  have h1 := h.2.2.2.2.1 q hq
  have := fnd_some _ _ e
  omega
/-- the two orders -/
def oIso (n : Nat) (g : Nat → Int) (B : Int) (g' : Nat → Int) (B' : Int) : Prop := (∀ p, p < n → (g p < B ↔ g' p < B')) ∧ ∀ p q, p < n → q < n → g p < B → g q < B → (g p < g q ↔ g' p < g' q)
theorem Rlt.iso (h : Rlt μ ν) {s k : Nat} (hs : s < 6) (hk : (k : Int) < μ 6 s) : oIso (μ 1 0).toNat (fun p => stdF μ p s k) 100000 (fun p => mg ν s k p) 1000000 := by
  have h20 := h.n20
  have hk3 := h.sf.2.2.2.1 s hs
  have one : ∀ p, p < (μ 1 0).toNat → (stdF μ p s k = 100000 + (p : Int) ∧ mg ν s k p = 1000000) ∨ ∃ (b l : Nat) (m : Int), b < 3 ∧ l < 2 ∧ 0 ≤ m ∧ m < 2000 ∧ stdF μ p s k = ((3 * l + b : Nat) : Int) * 2000 + m ∧ mg ν s k p = 100000 * (l : Int) + 10000 * (b : Int) + m := by
    intro p hp
    obtain ⟨r1, r2, -⟩ := h.p p (by omega)
    obtain ⟨n1, n2, -⟩ := h.n p s (by omega) hs
    have nn := h.sf.2.2.2.2.2.2.2 (6 * p + s) (by omega)
    have hb := h.bn (p := p) (by omega) hs hk
    unfold mg stdF rkF
    rw [hb, r2]
    cases e : bandF μ (3 * s + k) (μ 13 p) with
    | none => left; simp [oI]
    | some b =>
      have hb3 := bn3 h.sf (by omega) _ e
      right
      rw [← n1]
      by_cases l0 : μ 14 p = 0
      · refine ⟨b, 0, μ 12 (6 * p + s), hb3, by omega, nn.1, nn.2, ?_, ?_⟩
        · have hb1 : ¬ ((b : Int) = -1) := by omega
          simp [oI, l0, hb1]
        · simp [o9, l0]
      · refine ⟨b, 1, μ 12 (6 * p + s), hb3, by omega, nn.1, nn.2, ?_, ?_⟩
        · have hb1 : ¬ ((b : Int) = -1) := by omega
          simp [oI, l0, hb1]
        · simp [o9, l0]
  refine ⟨fun p hp => ?_, fun p q hp hq => ?_⟩
  · show stdF μ p s k < 100000 ↔ mg ν s k p < 1000000
    rcases one p hp with ⟨e1, e2⟩ | ⟨b, l, m, h1, h2, h3, h4, e1, e2⟩ <;> omega
  · show stdF μ p s k < 100000 → stdF μ q s k < 100000 → (stdF μ p s k < stdF μ q s k ↔ mg ν s k p < mg ν s k q)
    rcases one p hp with ⟨e1, e2⟩ | ⟨b, l, m, h1, h2, h3, h4, e1, e2⟩ <;> rcases one q hq with ⟨f1, f2⟩ | ⟨b', l', m', g1, g2, g3, g4, f1, f2⟩ <;> omega
theorem bst_iso {n : Nat} {g g' : Nat → Int} {B B' : Int} {E E' : Nat → Bool} (h : oIso n g B g' B') (hE : ∀ p, p < n → E p = E' p) : bst n g B E = bst n g' B' E' := by
  rcases bst_spec n g B E with ⟨e, hall⟩ | ⟨p, hp, e, h1, h2, h3⟩
  · rcases bst_spec n g' B' E' with ⟨e', -⟩ | ⟨p', hp', e', h1', h2', -⟩
    · rw [e, e']
    · have := hall p' hp' (by rw [hE p' hp']; exact h1')
      have := (h.1 p' hp').2 h2'
      omega
  · rcases bst_spec n g' B' E' with ⟨e', hall'⟩ | ⟨p', hp', e', h1', h2', h3'⟩
    · have := hall' p hp (by rw [← hE p hp]; exact h1)
      have := (h.1 p hp).1 h2
      omega
    · rw [e, e']
      have a := h3 p' hp' (by rw [hE p' hp']; exact h1')
      have b := h3' p hp (by rw [← hE p hp]; exact h1)
      have c := h.2 p p' hp hp' h2 ((h.1 p' hp').2 h2')
      have d := h.2 p' p hp' hp ((h.1 p' hp').2 h2') h2
      by_cases l1 : p < p'
      · have := b.2 l1; omega
      · by_cases l2 : p' < p
        · have := a.2 l2; omega
        · omega
theorem tk1_iso {n : Nat} {g g' : Nat → Int} {B B' : Int} {O : Nat → Bool} {k : Int} (h : oIso n g B g' B') (T : Nat → Int) : tk1 n g B O k T = tk1 n g' B' O k T := by
  funext p
  unfold tk1
  rw [bst_iso h (E' := fun q => O q && decide (T q = -1)) (fun _ _ => rfl)]
theorem tkK_iso {n : Nat} {g g' : Nat → Int} {B B' : Int} {O : Nat → Bool} {k : Int} {m : Nat} (h : oIso n g B g' B') (T : Nat → Int) : tkK n g B O k m T = tkK n g' B' O k m T := by
  unfold tkK
  exact itr_congr (n := m) m 0 T (by omega) (fun _ b _ => tk1_iso h b)
theorem Rlt.ch (h : Rlt μ ν) {s : Nat} (hs : s < 6) (O : Nat → Bool) : mchO ν s O = chV μ s O := by
  unfold mchO chV chv
  rw [h.c.2.1, h.k.1 s hs]
  refine itr_congr (n := (μ 6 s).toNat) _ _ _ (by omega) (fun k T hk => ?_)
  have hk3 := h.sf.2.2.2.1 s hs
  simp only [h.k.2 (3 * s + k) (by omega)]
  exact (tkK_iso (h.iso hs (by omega)) T).symm
end RR
