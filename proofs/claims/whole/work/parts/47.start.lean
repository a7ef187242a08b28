/-! The state when all is built. -/
/-- the reference's loops -/
def msf (μ : MU) : Nat → MU
  | 0 => μ
  | n + 1 => upM (upM (msf μ n) 33 n (-1)) 34 n (-1)
def mnf (μ : MU) : Nat → MU
  | 0 => μ
  | n + 1 => upM (mnf μ n) 31 n (-1)
/-- the references are set, one after another -/
def mfl (μ : MU) : Nat → MU
  | 0 => μ
  | n + 1 => upM (mfl μ n) (111 + n) 0 1
theorem msf_ne (μ : MU) {f i : Nat} : ∀ n, (f ≠ 33 ∧ f ≠ 34) ∨ n ≤ i → msf μ n f i = μ f i
  | 0, _ => rfl
  | n + 1, h => by
    show upM (upM (msf μ n) 33 n (-1)) 34 n (-1) f i = μ f i
    rw [upM_ne (fun q => by omega), upM_ne (fun q => by omega)]
    exact msf_ne μ n (by omega)
theorem msf_at (μ : MU) {f i : Nat} (hf : f = 33 ∨ f = 34) : ∀ n, i < n → msf μ n f i = -1
  | 0, h => by omega
  | n + 1, h => by
    show upM (upM (msf μ n) 33 n (-1)) 34 n (-1) f i = -1
    by_cases e : i = n
    · subst e
      rcases hf with rfl | rfl
      · rw [upM_nef (by decide), upM_at]
      · rw [upM_at]
    · rw [upM_ne (fun q => e q.2), upM_ne (fun q => e q.2)]
      exact msf_at μ hf n (by omega)
theorem mnf_ne (μ : MU) {f i : Nat} : ∀ n, f ≠ 31 ∨ n ≤ i → mnf μ n f i = μ f i
  | 0, _ => rfl
  | n + 1, h => by
    show upM (mnf μ n) 31 n (-1) f i = μ f i
    rw [upM_ne (fun q => by omega)]
    exact mnf_ne μ n (by omega)
theorem mnf_at (μ : MU) {i : Nat} : ∀ n, i < n → mnf μ n 31 i = -1
  | 0, h => by omega
  | n + 1, h => by
    show upM (mnf μ n) 31 n (-1) 31 i = -1
    by_cases e : i = n
    · subst e; rw [upM_at]
    · rw [upM_ne (fun q => e q.2)]
      exact mnf_at μ n (by omega)
theorem mfl_ne (μ : MU) {f i : Nat} : ∀ n, f < 111 ∨ 111 + n ≤ f ∨ i ≠ 0 → mfl μ n f i = μ f i
  | 0, _ => rfl
  | n + 1, h => by
    show upM (mfl μ n) (111 + n) 0 1 f i = μ f i
    rw [upM_ne (fun q => by omega)]
    exact mfl_ne μ n (by omega)
theorem mfl_at (μ : MU) {f : Nat} : ∀ n, 111 ≤ f → f < 111 + n → mfl μ n f 0 = 1
  | 0, h1, h2 => by omega
  | n + 1, h1, h2 => by
    show upM (mfl μ n) (111 + n) 0 1 f 0 = 1
    by_cases e : f = 111 + n
    · subst e; rw [upM_at]
    · rw [upM_ne (fun q => e q.1)]
      exact mfl_at μ n h1 (by omega)
def mini (μ : MU) : MU := mnf (msf (mfl μ 16) 20) 120
theorem kfil_at (μ : MU) (s : Nat) {f i : Nat} (hf : f = 105 ∨ f = 109) : ∀ n, 3 * s ≤ i → i < 3 * s + n → kfil μ s n f i = 1
  | 0, h1, h2 => by omega
  | n + 1, h1, h2 => by
    show upM (upM (kfil μ s n) 105 (3 * s + n) 1) 109 (3 * s + n) 1 f i = 1
    by_cases e : i = 3 * s + n
    · subst e
      rcases hf with rfl | rfl
      · rw [upM_nef (by decide), upM_at]
      · rw [upM_at]
    · rw [upM_ne (fun q => e q.2), upM_ne (fun q => e q.2)]
      exact kfil_at μ s hf n h1 (by omega)
theorem sfil_at (μ : MU) {f i : Nat} : ∀ n, ((f = 105 ∨ f = 109) ∧ i < 3 * n) ∨ ((f = 104 ∨ f = 108) ∧ i < n) → sfil μ n f i = 1
  | 0, h => by omega
  | n + 1, h => by
    show upM (kfil (upM (sfil μ n) 104 n 1) n 3) 108 n 1 f i = 1
    by_cases e : f = 108 ∧ i = n
    · obtain ⟨rfl, rfl⟩ := e; rw [upM_at]
    · rw [upM_ne e]
      by_cases e2 : (f = 105 ∨ f = 109) ∧ 3 * n ≤ i
      · exact kfil_at _ n e2.1 3 e2.2 (by omega)
      · by_cases e3 : f = 105 ∨ f = 109
        · have : ∀ m, kfil (upM (sfil μ n) 104 n 1) n m f i = upM (sfil μ n) 104 n 1 f i := by
            intro m
            induction m with
            | zero => rfl
            | succ m ih =>
              show upM (upM (kfil (upM (sfil μ n) 104 n 1) n m) 105 (3 * n + m) 1) 109 (3 * n + m) 1 f i = _
              rw [upM_ne (fun q => by omega), upM_ne (fun q => by omega)]
              exact ih
          rw [this, upM_ne (fun q => by omega)]
          exact sfil_at μ n (by omega)
        · rw [kfil_ne _ _ _ (Or.inl ⟨fun q => e3 (Or.inl q), fun q => e3 (Or.inr q)⟩)]
          by_cases e4 : f = 104 ∧ i = n
          · obtain ⟨rfl, rfl⟩ := e4; rw [upM_at]
          · rw [upM_ne e4]
            exact sfil_at μ n (by omega)
theorem nfil_lt (μ : MU) (p : Nat) (v : Int) {i : Nat} : ∀ n, i < 6 * p → nfil μ p v n 12 i = μ 12 i
  | 0, _ => rfl
  | n + 1, h => by
    show upM (nfil μ p v n) 12 (6 * p + n) (1000 + v) 12 i = μ 12 i
    rw [upM_ne (fun q => by omega)]
    exact nfil_lt μ p v n h
theorem nfil_at (μ : MU) (p : Nat) (v : Int) {s : Nat} : ∀ n, s < n → nfil μ p v n 12 (6 * p + s) = 1000 + v
  | 0, h => by omega
  | n + 1, h => by
    show upM (nfil μ p v n) 12 (6 * p + n) (1000 + v) 12 (6 * p + s) = 1000 + v
    by_cases e : s = n
    · subst e; rw [upM_at]
    · rw [upM_ne (fun q => by omega)]
      exact nfil_at μ p v n (by omega)
theorem pfil_n (μ : MU) {p s : Nat} (hs : s < 6) : ∀ n, p < n → pfil μ n 12 (6 * p + s) = 1000 + (p : Int)
  | 0, h => by omega
  | n + 1, h => by
    show upM (pin (pfil μ n) n) 110 n 1 12 (6 * p + s) = _
    unfold pin
    rw [upM_nef (by decide), upM_nef (by decide), upM_nef (by decide), upM_nef (by decide)]
    by_cases e : p = n
    · subst e; exact nfil_at _ p p 6 hs
    · rw [nfil_lt _ _ _ _ (by omega), upM_nef (by decide), upM_nef (by decide)]
      exact pfil_n μ hs n (by omega)
theorem pfil_at (μ : MU) {f p : Nat} {v : Int} (hv : ((f = 15 ∨ f = 16) ∧ v = -1) ∨ (f = 18 ∧ v = 0) ∨ ((f = 106 ∨ f = 107 ∨ f = 110) ∧ v = 1)) : ∀ n, p < n → pfil μ n f p = v
  | 0, h => by omega
  | n + 1, h => by
    show upM (pin (pfil μ n) n) 110 n 1 f p = v
    unfold pin
    by_cases e : p = n
    · subst e
      rcases hv with ⟨rfl | rfl, rfl⟩ | ⟨rfl, rfl⟩ | ⟨rfl | rfl | rfl, rfl⟩
      · rw [upM_nef (by decide), upM_nef (by decide), upM_nef (by decide), upM_at]
      · rw [upM_nef (by decide), upM_nef (by decide), upM_at]
      · rw [upM_nef (by decide), upM_at]
      · rw [upM_nef (by decide), upM_nef (by decide), upM_nef (by decide), upM_nef (by decide), nfil_ne _ _ _ (by decide), upM_nef (by decide), upM_at]
      · rw [upM_nef (by decide), upM_nef (by decide), upM_nef (by decide), upM_nef (by decide), nfil_ne _ _ _ (by decide), upM_at]
      · rw [upM_at]
    · rw [upM_ne (fun q => e q.2), upM_ne (fun q => e q.2), upM_ne (fun q => e q.2), upM_ne (fun q => e q.2), nfil_ne _ _ _ (by omega), upM_ne (fun q => e q.2), upM_ne (fun q => e q.2)]
      exact pfil_at μ hv n (by omega)
/-- the law's start: nothing is set that a cell shows -/
def mu0 : MU := fun f j => if f < 100 ∨ (f ≤ 103 ∧ j = 0) ∨ ((f = 104 ∨ f = 108) ∧ j < 6) ∨ ((f = 105 ∨ f = 109) ∧ j < 18) ∨ ((f = 106 ∨ f = 107 ∨ f = 110) ∧ j < 20) ∨ (111 ≤ f ∧ f ≤ 126 ∧ j = 0) then 0 else 1
theorem mu0_z {f j : Nat} (h : f < 100 ∨ (f ≤ 103 ∧ j = 0) ∨ ((f = 104 ∨ f = 108) ∧ j < 6) ∨ ((f = 105 ∨ f = 109) ∧ j < 18) ∨ ((f = 106 ∨ f = 107 ∨ f = 110) ∧ j < 20) ∨ (111 ≤ f ∧ f ≤ 126 ∧ j = 0)) : mu0 f j = 0 := if_pos h
theorem mu0_o {f j : Nat} (h : ¬ (f < 100 ∨ (f ≤ 103 ∧ j = 0) ∨ ((f = 104 ∨ f = 108) ∧ j < 6) ∨ ((f = 105 ∨ f = 109) ∧ j < 18) ∨ ((f = 106 ∨ f = 107 ∨ f = 110) ∧ j < 20) ∨ (111 ≤ f ∧ f ≤ 126 ∧ j = 0))) : mu0 f j = 1 := if_neg h
theorem mu0_ok (f j : Nat) : mu0 f j = 0 ∨ mu0 f j = 1 := by
  unfold mu0; split
  · exact Or.inl rfl
  · exact Or.inr rfl
theorem mu0_Zo : Zo mu0 := ⟨fun f j h => mu0_z (by omega), fun s h => ⟨mu0_z (by omega), mu0_z (by omega)⟩, fun q h => ⟨mu0_z (by omega), mu0_z (by omega)⟩, fun p h => ⟨mu0_z (by omega), mu0_z (by omega), mu0_z (by omega)⟩⟩
theorem oini_ge {f j : Nat} (h : f ≠ 12 ∧ f ≠ 15 ∧ f ≠ 16 ∧ f ≠ 18) (h2 : f < 100 ∨ 111 ≤ f) (μ : MU) : oini μ f j = μ f j := by
  unfold oini
  rw [upM_nef (by omega), upM_nef (by omega), pfil_ne _ _ (by omega), upM_nef (by omega), sfil_ne _ _ (by omega), upM_nef (by omega)]
theorem oini_fl {f j : Nat} (h1 : 100 ≤ f) (h2 : f < 111) : oini mu0 f j = 1 := by
  unfold oini
  by_cases a1 : f = 103 ∧ j = 0
  · obtain ⟨rfl, rfl⟩ := a1; rw [upM_at]
  rw [upM_ne a1]
  by_cases a2 : f = 102 ∧ j = 0
  · obtain ⟨rfl, rfl⟩ := a2; rw [upM_at]
  rw [upM_ne a2]
  by_cases a3 : (f = 106 ∨ f = 107 ∨ f = 110) ∧ j < 20
  · exact pfil_at _ (by omega) 20 a3.2
  rw [pfil_ne _ _ (by omega)]
  by_cases a4 : f = 101 ∧ j = 0
  · obtain ⟨rfl, rfl⟩ := a4; rw [upM_at]
  rw [upM_ne a4]
  by_cases a5 : ((f = 105 ∨ f = 109) ∧ j < 18) ∨ ((f = 104 ∨ f = 108) ∧ j < 6)
  · exact sfil_at _ 6 (by omega)
  rw [sfil_ne _ _ (by omega)]
  by_cases a6 : f = 100 ∧ j = 0
  · obtain ⟨rfl, rfl⟩ := a6; rw [upM_at]
  rw [upM_ne a6]
  exact mu0_o (by omega)
/-- when all is built -/
def muS : MU := mini (oini mu0)
theorem muS_Fl {f j : Nat} (h : 100 ≤ f) : muS f j = 1 := by
  unfold muS mini
  rw [mnf_ne _ _ (by omega), msf_ne _ _ (by omega)]
  by_cases a : f < 111
  · rw [mfl_ne _ _ (by omega)]; exact oini_fl h a
  · by_cases b : f < 127 ∧ j = 0
    · obtain ⟨b1, rfl⟩ := b
      exact mfl_at _ 16 (by omega) (by omega)
    · rw [mfl_ne _ _ (by omega), oini_ge (by omega) (by omega)]
      exact mu0_o (by omega)
theorem muS_0 {f j : Nat} (h : f < 100) (h2 : f ≠ 12 ∧ f ≠ 15 ∧ f ≠ 16 ∧ f ≠ 18 ∧ f ≠ 31 ∧ f ≠ 33 ∧ f ≠ 34) : muS f j = 0 := by
  unfold muS mini
  rw [mnf_ne _ _ (by omega), msf_ne _ _ (by omega), mfl_ne _ _ (by omega), oini_ge (by omega) (by omega)]
  exact mu0_z (by omega)
theorem muS_c {f j : Nat} (h : f < 31) : muS f j = oini mu0 f j := by
  unfold muS mini
  rw [mnf_ne _ _ (by omega), msf_ne _ _ (by omega), mfl_ne _ _ (by omega)]
theorem muS_12 {p s : Nat} (hp : p < 20) (hs : s < 6) : muS 12 (6 * p + s) = 1000 + (p : Int) := by
  rw [muS_c (by decide)]
  unfold oini
  rw [upM_nef (by decide), upM_nef (by decide)]
  exact pfil_n _ hs 20 hp
theorem muS_15 {f p : Nat} {v : Int} (hp : p < 20) (hv : ((f = 15 ∨ f = 16) ∧ v = -1) ∨ (f = 18 ∧ v = 0)) : muS f p = v := by
  rw [muS_c (by omega)]
  unfold oini
  rw [upM_nef (by omega), upM_nef (by omega)]
  exact pfil_at _ (by omega) 20 hp
theorem muS_31 {j : Nat} (h : j < 120) : muS 31 j = -1 := mnf_at _ 120 h
theorem muS_33 {f p : Nat} (hf : f = 33 ∨ f = 34) (hp : p < 20) : muS f p = -1 := by
  unfold muS mini
  rw [mnf_ne _ _ (by omega)]
  exact msf_at _ hf 20 hp
theorem muS_RL : Rlt muS muS := by
  have z : ∀ f j, f ∈ [0, 1, 2, 6, 8, 9, 10, 11, 13, 14, 17, 19, 20, 21, 22, 23, 24, 25, 26, 27, 28, 29, 30, 32, 35, 36, 37] → muS f j = 0 := fun f j hf => by
    simp only [List.mem_cons, List.not_mem_nil, or_false] at hf
    exact muS_0 (by omega) (by omega)
  have z1 : ∀ j, muS 1 j = 0 := fun j => z 1 j (by decide)
  refine ⟨?_, ?_, ?_, ⟨fun s _ => ?_, fun q _ => ?_⟩, fun s k _ hk => ?_, fun p hp => ?_, fun p s hp hs => ?_, fun p p' s hp hp' hs h0 => ?_, ⟨fun j _ => ?_, fun p i j _ _ hj => ?_⟩, fun p hp => ?_, fun _ p hp => ?_⟩
  · unfold Sf
    simp only [z 0 _ (by decide), z 1 _ (by decide), z 2 _ (by decide), z 6 _ (by decide), z 8 _ (by decide), z 9 _ (by decide), z 10 _ (by decide), z 11 _ (by decide), z 17 _ (by decide)]
    refine ⟨by omega, by omega, Or.inl trivial, fun _ _ => by omega, fun _ _ => by omega, fun _ _ => by omega, fun _ _ => by omega, fun j hj => ?_⟩
    have := muS_12 (p := j / 6) (s := j % 6) (by omega) (by omega)
    rw [show 6 * (j / 6) + j % 6 = j by omega] at this
    rw [this]
    omega
  · unfold Sm
    simp only [z 22 _ (by decide), z 23 _ (by decide), z 21 _ (by decide), z 24 _ (by decide), z 25 _ (by decide), z 29 _ (by decide), z 30 _ (by decide), z 32 _ (by decide)]
    refine ⟨by omega, by omega, Or.inl trivial, fun _ _ => by omega, fun _ _ => by omega, fun _ _ => by omega, fun _ _ => by omega, fun j hj => ?_⟩
    rw [muS_31 hj]
    omega
  · unfold Rc
    rw [z 22 _ (by decide), z 0 _ (by decide), z 23 _ (by decide), z1, z 21 _ (by decide), z 2 _ (by decide)]
    exact ⟨rfl, rfl, rfl⟩
  · rw [z 24 _ (by decide), z 6 _ (by decide)]
  · rw [z 25 _ (by decide), z 9 _ (by decide)]
  · rw [z 6 _ (by decide)] at hk
    exact (Int.not_lt.mpr (Int.natCast_nonneg k) hk).elim
  · rw [z 27 _ (by decide), z 13 _ (by decide), z 28 _ (by decide), z 14 _ (by decide), z 29 _ (by decide), z 11 _ (by decide), z 32 _ (by decide), z 17 _ (by decide), z 35 _ (by decide), z 36 _ (by decide), z 37 _ (by decide), z 19 _ (by decide), muS_15 (f := 18) (v := 0) hp (by omega)]
    exact ⟨rfl, rfl, rfl, rfl, rfl, Iff.rfl, rfl⟩
  · rw [muS_31 (by omega), muS_12 hp hs]
    exact ⟨rfl, by decide, fun _ => by decide⟩
  · rw [muS_31 (by omega)] at h0
    omega
  · rw [z 30 _ (by decide), z 10 _ (by decide)]
  · rw [z 11 _ (by decide)] at hj
    omega
  · rw [z1] at hp
    have : (0 : Int).toNat = 0 := rfl
    omega
  · rw [muS_15 (f := 15) (v := -1) hp (by omega), muS_15 (f := 16) (v := -1) hp (by omega), z 17 _ (by decide), muS_33 (Or.inl rfl) hp, muS_33 (Or.inr rfl) hp]
    exact ⟨rfl, rfl, rfl, rfl, rfl⟩
