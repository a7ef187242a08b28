/-! The office's scratch: the pool and the takers. -/
def Fr (S : List Nat) (μ μ' : MU) : Prop := ∀ f j, f ∉ S → μ' f j = μ f j
theorem Fr.rf {S : List Nat} {μ : MU} : Fr S μ μ := fun _ _ _ => rfl
theorem Fr.trans {S : List Nat} {a b c : MU} (h1 : Fr S a b) (h2 : Fr S b c) : Fr S a c := fun f j hf => (h2 f j hf).trans (h1 f j hf)
theorem Fr.up {S : List Nat} {a b : MU} (h : Fr S a b) {f j : Nat} {v : Int} (hf : f ∈ S) : Fr S a (upM b f j v) := fun g k hg => (upM_nef (show g ≠ f from fun q => hg (by rw [q]; exact hf))).trans (h g k hg)
theorem Fr.mono {S S' : List Nat} {a b : MU} (h : Fr S a b) (hs : ∀ f, f ∈ S → f ∈ S') : Fr S' a b := fun f j hf => h f j fun q => hf (hs f q)
theorem Fr.Sf {S : List Nat} {a b : MU} (h : Fr S a b) (ha : Sf a) (hs : ∀ f, f ∈ [0, 1, 2, 6, 8, 9, 10, 11, 12, 17] → f ∉ S) : Sf b := ha.of fun f j hf => h f j (hs f hf)
theorem bandF_of {a b : MU} {q : Nat} {w : Int} (h7 : ∀ j, b 7 j = a 7 j) (h8 : b 8 q = a 8 q) : bandF b q w = bandF a q w := by
  unfold bandF
  rw [h8]
  congr 1
  funext j
  rw [h7]
theorem stdF_of {a b : MU} {p s k : Nat} (h7 : ∀ j, b 7 j = a 7 j) (h8 : ∀ j, b 8 j = a 8 j) (h12 : ∀ j, b 12 j = a 12 j) (h13 : b 13 p = a 13 p) (h14 : b 14 p = a 14 p) : stdF b p s k = stdF a p s k := by
  unfold stdF
  rw [bandF_of h7 (h8 _), h12, h13, h14]
theorem Fr.std {S : List Nat} {a b : MU} (h : Fr S a b) (hs : ∀ f, f ∈ [7, 8, 12, 13, 14] → f ∉ S) (p s k : Nat) : stdF b p s k = stdF a p s k :=
  stdF_of (fun j => h 7 j (hs 7 (by decide))) (fun j => h 8 j (hs 8 (by decide))) (fun j => h 12 j (hs 12 (by decide))) (h 13 p (hs 13 (by decide))) (h 14 p (hs 14 (by decide)))
/-- the pool holds those of O that are not taken, each once; the takers are T -/
def PI (μ : MU) (O : Nat → Bool) (T : Nat → Int) : Prop :=
  (0 ≤ μ 3 0 ∧ μ 3 0 ≤ μ 1 0) ∧ (∀ p, p < (μ 1 0).toNat → μ 5 p = T p) ∧
  (∀ j : Nat, (j : Int) < μ 3 0 → ∃ p : Nat, μ 4 j = (p : Int) ∧ p < (μ 1 0).toNat ∧ O p = true ∧ T p = -1) ∧
  (∀ p : Nat, p < (μ 1 0).toNat → O p = true → T p = -1 → ∃ j : Nat, (j : Int) < μ 3 0 ∧ μ 4 j = (p : Int)) ∧
  (∀ i j : Nat, (i : Int) < μ 3 0 → (j : Int) < μ 3 0 → μ 4 i = μ 4 j → i = j)
/-- standings of those who are eligible differ -/
def Inj (μ : MU) (s : Nat) : Prop := ∀ p p' : Nat, p < (μ 1 0).toNat → p' < (μ 1 0).toNat → μ 12 (6 * p + s) = μ 12 (6 * p' + s) → p = p'
theorem std_inj {μ : MU} {s k p p' : Nat} (hs : s < 6) (hk : k < 3) (hSf : Sf μ) (hI : Inj μ s) (hp : p < (μ 1 0).toNat) (hp' : p' < (μ 1 0).toNat) (h1 : stdF μ p s k < 100000) (e : stdF μ p s k = stdF μ p' s k) : p = p' := by
  have h2 : stdF μ p' s k < 100000 := by omega
  obtain ⟨-, n1, -, -, hq, -, -, hn⟩ := hSf
  have b1 := bandF_r (μ 13 p) (hq (3 * s + k) (by omega)).2.1
  have b2 := bandF_r (μ 13 p') (hq (3 * s + k) (by omega)).2.1
  have m1 := hn (6 * p + s) (by omega)
  have m2 := hn (6 * p' + s) (by omega)
  refine hI p p' hp hp' ?_
  unfold stdF at h1 h2 e
  by_cases c1 : oI (bandF μ (3 * s + k) (μ 13 p)) = -1
  · rw [if_pos c1] at h1; omega
  · by_cases c2 : oI (bandF μ (3 * s + k) (μ 13 p')) = -1
    · rw [if_pos c2] at h2; omega
    · rw [if_neg c1, if_neg c2] at e
      split at e <;> split at e <;> omega
/-- the first of the pool is the first of all that are left -/
theorem pool_first {μ : MU} {O : Nat → Bool} {T : Nat → Int} {s k : Nat} (hs : s < 6) (hk : k < 3) (hSf : Sf μ) (hI : Inj μ s) (hP : PI μ O T) :
    (bst (μ 3 0).toNat (fun j => stdF μ (μ 4 j).toNat s k) 100000 (fun _ => true) = -1 ∧ bst (μ 1 0).toNat (fun p => stdF μ p s k) 100000 (fun q => O q && decide (T q = -1)) = -1) ∨
    ∃ j p : Nat, (j : Int) < μ 3 0 ∧ bst (μ 3 0).toNat (fun j => stdF μ (μ 4 j).toNat s k) 100000 (fun _ => true) = (j : Int) ∧ μ 4 j = (p : Int) ∧ p < (μ 1 0).toNat ∧ O p = true ∧ T p = -1 ∧ bst (μ 1 0).toNat (fun p => stdF μ p s k) 100000 (fun q => O q && decide (T q = -1)) = (p : Int) := by
  obtain ⟨⟨z1, z2⟩, p2, p3, p4, p5⟩ := hP
  rcases bst_spec (μ 3 0).toNat (fun j => stdF μ (μ 4 j).toNat s k) 100000 (fun _ => true) with ⟨e, hall⟩ | ⟨j, hj, e, -, hlt, hmin⟩
  · refine Or.inl ⟨e, ?_⟩
    rcases bst_spec (μ 1 0).toNat (fun p => stdF μ p s k) 100000 (fun q => O q && decide (T q = -1)) with ⟨e', -⟩ | ⟨p, hp, e', hE, hlt, -⟩
    · exact e'
    · simp at hE
      obtain ⟨j, hj, hjp⟩ := p4 p hp hE.1 hE.2
      have h1 := hall j (by omega) rfl
      rw [hjp, Int.toNat_natCast] at h1
      omega
  · obtain ⟨p, hp, hpn, hO, hT⟩ := p3 j (by omega)
    refine Or.inr ⟨j, p, by omega, e, hp, hpn, hO, hT, ?_⟩
    rw [hp, Int.toNat_natCast] at hlt
    rcases bst_spec (μ 1 0).toNat (fun p => stdF μ p s k) 100000 (fun q => O q && decide (T q = -1)) with ⟨e', hall⟩ | ⟨p', hp', e', hE, hlt', hmin'⟩
    · have := hall p hpn (by simp [hO, hT])
      omega
    · rw [e']
      simp at hE
      have m1 := (hmin' p hpn (by simp [hO, hT])).1
      obtain ⟨j', hj', hjp'⟩ := p4 p' hp' hE.1 hE.2
      have m2 := (hmin j' (by omega) rfl).1
      rw [hp, hjp', Int.toNat_natCast, Int.toNat_natCast] at m2
      have := std_inj hs hk hSf hI hpn hp' hlt (by omega)
      rw [this]
/-- one is taken out of the pool: the last takes its place -/
theorem PI.take {μ : MU} {O : Nat → Bool} {T : Nat → Int} {g : Nat → Int} {B k : Int} {j p : Nat} (hk : k ≠ -1) (hP : PI μ O T) (hj : (j : Int) < μ 3 0) (hjp : μ 4 j = (p : Int)) (hp : p < (μ 1 0).toNat) (hb : bst (μ 1 0).toNat g B (fun q => O q && decide (T q = -1)) = (p : Int)) :
    PI (upM (upM (upM μ 5 p k) 3 0 (μ 3 0 - 1)) 4 j (μ 4 (μ 3 0 - 1).toNat)) O (tk1 (μ 1 0).toNat g B O k T) := by
  obtain ⟨⟨z1, z2⟩, p2, p3, p4, p5⟩ := hP
  have ht : ∀ q : Nat, tk1 (μ 1 0).toNat g B O k T q = if q = p then k else T q := fun q => by
    unfold tk1
    rw [hb]
    by_cases e : q = p
    · rw [if_pos (by rw [e]), if_pos e]
    · rw [if_neg (fun h => e (by omega)), if_neg e]
  have e1 : ∀ x, (upM (upM (upM μ 5 p k) 3 0 (μ 3 0 - 1)) 4 j (μ 4 (μ 3 0 - 1).toNat)) 1 x = μ 1 x := fun x => by
    rw [upM_nef (by decide), upM_nef (by decide), upM_nef (by decide)]
  have e3 : (upM (upM (upM μ 5 p k) 3 0 (μ 3 0 - 1)) 4 j (μ 4 (μ 3 0 - 1).toNat)) 3 0 = μ 3 0 - 1 := by
    rw [upM_nef (by decide), upM_at]
  have e5 : ∀ x, (upM (upM (upM μ 5 p k) 3 0 (μ 3 0 - 1)) 4 j (μ 4 (μ 3 0 - 1).toNat)) 5 x = if x = p then k else μ 5 x := fun x => by
    rw [upM_nef (by decide), upM_nef (by decide)]
    unfold upM
    by_cases e : x = p
    · rw [if_pos ⟨rfl, e⟩, if_pos e]
    · rw [if_neg (fun h => e h.2), if_neg e]
  have e4 : ∀ x, (upM (upM (upM μ 5 p k) 3 0 (μ 3 0 - 1)) 4 j (μ 4 (μ 3 0 - 1).toNat)) 4 x = if x = j then μ 4 (μ 3 0 - 1).toNat else μ 4 x := fun x => by
    by_cases e : x = j
    · subst e; rw [upM_at, if_pos rfl]
    · rw [upM_ne (fun h => e h.2), upM_nef (by decide), upM_nef (by decide), if_neg e]
  have other : ∀ (i q : Nat), (i : Int) < μ 3 0 → μ 4 i = (q : Int) → i ≠ j → q ≠ p := fun i q hi hq hij e => hij (p5 i j hi hj (by rw [hq, hjp, e]))
  refine ⟨?_, ?_, ?_, ?_, ?_⟩
  · rw [e3, e1]; omega
  · intro q hq
    rw [e1] at hq
    rw [e5, ht]
    split
    · rfl
    · exact p2 q hq
  · intro i hi
    rw [e3] at hi
    rw [e4, e1]
    by_cases e : i = j
    · rw [if_pos e]
      obtain ⟨q, h1, h2, h3, h4⟩ := p3 (μ 3 0 - 1).toNat (by omega)
      refine ⟨q, h1, h2, h3, ?_⟩
      rw [ht, if_neg (other _ q (by omega) h1 (by omega))]
      exact h4
    · rw [if_neg e]
      obtain ⟨q, h1, h2, h3, h4⟩ := p3 i (by omega)
      refine ⟨q, h1, h2, h3, ?_⟩
      rw [ht, if_neg (other i q (by omega) h1 e)]
      exact h4
  · intro q hq hO hT
    rw [e1] at hq
    rw [ht] at hT
    by_cases e : q = p
    · rw [if_pos e] at hT
      exact absurd hT hk
    · rw [if_neg e] at hT
      obtain ⟨i, h1, h2⟩ := p4 q hq hO hT
      have hij : i ≠ j := fun h => e (by rw [h, hjp] at h2; omega)
      by_cases hl : i = (μ 3 0 - 1).toNat
      · refine ⟨j, by rw [e3]; omega, ?_⟩
        rw [e4, if_pos rfl, ← hl]
        exact h2
      · refine ⟨i, by rw [e3]; omega, ?_⟩
        rw [e4, if_neg hij]
        exact h2
  · intro i i' h1 h2 h3
    rw [e3] at h1 h2
    rw [e4, e4] at h3
    by_cases c1 : i = j
    · by_cases c2 : i' = j
      · rw [c1, c2]
      · rw [if_pos c1, if_neg c2] at h3
        have := p5 _ _ (by omega) (by omega) h3
        omega
    · by_cases c2 : i' = j
      · rw [if_neg c1, if_pos c2] at h3
        have := p5 _ _ (by omega) (by omega) h3
        omega
      · rw [if_neg c1, if_neg c2] at h3
        exact p5 i i' (by omega) (by omega) h3
/-- nobody is left for the kind: nothing changes -/
theorem tk1_idle {n : Nat} {g : Nat → Int} {B : Int} {O : Nat → Bool} {k : Int} {T : Nat → Int} (h : bst n g B (fun q => O q && decide (T q = -1)) = -1) : tk1 n g B O k T = T := by
  funext p
  unfold tk1
  rw [h, if_neg (by omega)]
theorem itr_idle {σ : Type} {f : σ → σ} {a : σ} (h : f a = a) : ∀ (m i : Nat), itr (fun _ b => f b) i m a = a
  | 0, _ => rfl
  | m + 1, i => by
    show itr (fun _ b => f b) (i + 1) m (f a) = a
    rw [h]
    exact itr_idle h m (i + 1)
/-- the choice of a school among O -/
def chV (μ : MU) (s : Nat) (O : Nat → Bool) : Nat → Int := chv (μ 1 0).toNat (fun k p => stdF μ p s k) 100000 O (μ 6 s).toNat (fun k => (μ 9 (3 * s + k)).toNat)
