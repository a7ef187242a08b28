/-! The layer: ints as Int, one world of cells for the class and the reference, a judgement V over abstract locals and stack. -/
abbrev inR (x : Int) : Prop := -2147483648 ≤ x ∧ x ≤ 2147483647
abbrev i32 (x : Int) : Int32 := Int32.ofInt x
theorem i32_toInt {x : Int} (h : inR x) : (i32 x).toInt = x := Int32.toInt_ofInt_of_le (by have := h.1; omega) (by have := h.2; omega)
theorem i32_lt {x y : Int} (hx : inR x) (hy : inR y) : i32 x < i32 y ↔ x < y := by rw [Int32.lt_iff_toInt_lt, i32_toInt hx, i32_toInt hy]
theorem i32_le {x y : Int} (hx : inR x) (hy : inR y) : i32 x ≤ i32 y ↔ x ≤ y := by rw [Int32.le_iff_toInt_le, i32_toInt hx, i32_toInt hy]
theorem i32_eq {x y : Int} (hx : inR x) (hy : inR y) : i32 x = i32 y ↔ x = y := by rw [← Int32.toInt_inj, i32_toInt hx, i32_toInt hy]
theorem i32_clamp {x : Int} (h : inR x) : (i32 x).toNatClampNeg = x.toNat := by
  show (i32 x).toInt.toNat = _
  rw [i32_toInt h]
theorem i32_of (x : Int32) : i32 x.toInt = x := Int32.ofInt_toInt x
theorem inR_of (x : Int32) : inR x.toInt := ⟨by have := x.le_toInt; omega, by have := x.toInt_lt; omega⟩
theorem inR0 : inR 0 := ⟨by decide, by decide⟩
theorem i32_zero : i32 0 = 0 := rfl
/-- a bitwise and of two ints -/
def andI (x y : Int) : Int := (i32 x &&& i32 y).toInt
theorem andI_R (x y : Int) : inR (andI x y) := inR_of _
abbrev MU : Type := Nat → Nat → Int
abbrev AV : Type := Int ⊕ (Nat × Nat) ⊕ Int ⊕ Nat
abbrev aI (x : Int) : AV := .inl x
abbrev aR (c i : Nat) : AV := .inr (.inl (c, i))
abbrev aL (x : Int) : AV := .inr (.inr (.inl x))
/-- a reference to a cell that is none of ours -/
abbrev aX (a : Nat) : AV := .inr (.inr (.inr a))
def upM (μ : MU) (f j : Nat) (v : Int) : MU := fun g k => if g = f ∧ k = j then v else μ g k
theorem upM_at (μ : MU) (f j : Nat) (v : Int) : upM μ f j v f j = v := if_pos ⟨rfl, rfl⟩
theorem upM_ne {μ : MU} {f j g k : Nat} {v : Int} (h : ¬ (g = f ∧ k = j)) : upM μ f j v g k = μ g k := if_neg h
theorem upM_nef {μ : MU} {f j g k : Nat} {v : Int} (h : g ≠ f) : upM μ f j v g k = μ g k := if_neg (fun q => h q.1)
/-- what a place of a cell holds: a reference to a cell (and where its flag lies: 0 while it is null), an int, a long -/
abbrev FD : Type := (Nat × Nat × Nat × Nat) ⊕ (Nat × Nat) ⊕ (Nat × Nat)
abbrev fR (c i f j : Nat) : FD := .inl (c, i, f, j)
abbrev fI (f j : Nat) : FD := .inr (.inl (f, j))
abbrev fL (f j : Nat) : FD := .inr (.inr (f, j))
/-- where a cell lies, from the base -/
def off : Nat → Nat → Nat
  | 0, _ => 0
  | 1, _ => 1
  | 2, i => 2 + 8 * i
  | 3, i => 3 + 8 * i
  | 4, i => 4 + 8 * (i / 3) + 2 * (i % 3)
  | 5, i => 5 + 8 * (i / 3) + 2 * (i % 3)
  | 6, _ => 50
  | 7, i => 51 + 3 * i
  | 8, i => 52 + 3 * i
  | 9, i => 53 + 3 * i
  | 10, _ => 111
  | 11, _ => 112
  | c, _ => 101 + c
/-- how many cells of a kind there are -/
def vdn : Nat → Nat
  | 0 => 1 | 1 => 1 | 2 => 6 | 3 => 6 | 4 => 18 | 5 => 18 | 6 => 1 | 7 => 20 | 8 => 20 | 9 => 20 | 10 => 1 | 11 => 1
  | 12 => 1 | 13 => 1 | 14 => 1 | 15 => 1 | 16 => 1 | 17 => 1 | 18 => 1 | 19 => 1 | 20 => 1 | 21 => 1 | 22 => 1 | 23 => 1 | 24 => 1 | 25 => 1 | 26 => 1 | 27 => 1 | 28 => 1 | 29 => 1
  | _ => 0
abbrev lay (b c i : Nat) : Nat := b + off c i
def mlen : Nat → Nat
  | 13 => 6 | 14 => 18 | 15 => 54 | 16 => 20 | 17 => 20 | 18 => 20 | 19 => 80 | 20 => 120 | _ => 20
/-- a cell: an object (its class's place, its fields), or an array (its class's place among the array classes, its length, its places) -/
def cellD : Nat → Nat → (Nat × List FD) ⊕ (Nat × Nat × (Nat → FD))
  | 0, _ => .inl (ciO, [fR 1 0 100 0, fR 6 0 101 0, fI 0 0, fI 1 0, fI 2 0, fR 10 0 102 0, fI 3 0, fR 11 0 103 0])
  | 1, _ => .inr (3, 6, fun j => fR 2 j 108 j)
  | 2, i => .inl (ciS, [fR 3 i 104 i, fI 6 i])
  | 3, i => .inr (4, 3, fun j => fR 4 (3 * i + j) 109 (3 * i + j))
  | 4, i => .inl (ciK, [fR 5 i 105 i, fI 8 i, fI 9 i])
  | 5, i => .inr (0, 3, fun j => fI 7 (3 * i + j))
  | 6, _ => .inr (5, 20, fun j => fR 7 j 110 j)
  | 7, i => .inl (ciP, [fR 8 i 106 i, fI 11 i, fR 9 i 107 i, fI 13 i, fI 14 i, fI 15 i, fI 16 i, fI 17 i, fI 18 i, fI 19 i])
  | 8, i => .inr (0, 4, fun j => fI 10 (4 * i + j))
  | 9, i => .inr (0, 6, fun j => fI 12 (6 * i + j))
  | 10, _ => .inr (0, 20, fun j => fI 4 j)
  | 11, _ => .inr (0, 20, fun j => fI 5 j)
  | 12, _ => .inl (ciM, [fI 20 0, fI 21 0, fI 22 0, fR 13 0 111 0, fR 14 0 112 0, fR 15 0 113 0, fI 23 0, fR 16 0 114 0, fR 17 0 115 0, fR 18 0 116 0, fR 19 0 117 0, fR 20 0 118 0, fR 21 0 119 0, fR 22 0 120 0, fR 23 0 121 0, fR 24 0 122 0, fR 25 0 123 0, fR 26 0 124 0, fR 27 0 125 0, fR 28 0 126 0])
  | 17, _ => .inr (1, 20, fun j => fI 28 j)
  | 25, _ => .inr (1, 20, fun j => fI 36 j)
  | 27, _ => .inr (1, 20, fun j => fI 38 j)
  | 29, _ => .inr (2, 1, fun j => fL 40 j)
  | c, _ => .inr (0, mlen c, fun j => fI (11 + c) j)
def fdLoc : FD → Nat × Nat
  | .inl (_, _, f, j) => (f, j)
  | .inr (.inl (f, j)) => (f, j)
  | .inr (.inr (f, j)) => (f, j)
def plc (c i k : Nat) : Option FD := match cellD c i with
  | .inl (_, fds) => fds[k]?
  | .inr (_, n, el) => if k < n then some (el k) else none
def vOf (b : Nat) (μ : MU) : FD → Value
  | .inl (c, i, f, j) => if μ f j = 0 then .null else .ref (lay b c i)
  | .inr (.inl (f, j)) => .int (i32 (μ f j))
  | .inr (.inr (f, j)) => .long (Int64.ofInt (μ f j))
theorem vOf_up {b : Nat} {μ : MU} {f j : Nat} {v : Int} {d : FD} (h : fdLoc d ≠ (f, j)) : vOf b (upM μ f j v) d = vOf b μ d := by
  obtain ⟨c, i, g, k⟩ | ⟨g, k⟩ | ⟨g, k⟩ := d
  all_goals
    have h1 : ¬ (g = f ∧ k = j) := fun q => h (by rw [q.1, q.2]; rfl)
    simp only [vOf, upM_ne h1]
/-- whose place it is -/
def own3 : Nat → Nat → Nat × Nat × Nat
  | 0, _ => (0, 0, 2) | 1, _ => (0, 0, 3) | 2, _ => (0, 0, 4) | 3, _ => (0, 0, 6)
  | 4, j => (10, 0, j) | 5, j => (11, 0, j)
  | 6, j => (2, j, 1) | 7, j => (5, j / 3, j % 3) | 8, j => (4, j, 1) | 9, j => (4, j, 2)
  | 10, j => (8, j / 4, j % 4) | 11, j => (7, j, 1) | 12, j => (9, j / 6, j % 6)
  | 13, j => (7, j, 3) | 14, j => (7, j, 4) | 15, j => (7, j, 5) | 16, j => (7, j, 6) | 17, j => (7, j, 7) | 18, j => (7, j, 8) | 19, j => (7, j, 9)
  | 20, _ => (12, 0, 0) | 21, _ => (12, 0, 1) | 22, _ => (12, 0, 2) | 23, _ => (12, 0, 6)
  | 100, _ => (0, 0, 0) | 101, _ => (0, 0, 1) | 102, _ => (0, 0, 5) | 103, _ => (0, 0, 7)
  | 104, j => (2, j, 0) | 105, j => (4, j, 0) | 106, j => (7, j, 0) | 107, j => (7, j, 2)
  | 108, j => (1, 0, j) | 109, j => (3, j / 3, j % 3) | 110, j => (6, 0, j)
  | 111, _ => (12, 0, 3) | 112, _ => (12, 0, 4) | 113, _ => (12, 0, 5)
  | 40, j => (29, 0, j)
  | f, j => if f < 100 then (f - 11, 0, j) else (12, 0, f - 107)
def lenD (c i : Nat) : Nat := match cellD c i with
  | .inl (_, fds) => fds.length
  | .inr (_, n, _) => n
theorem vdn_lt {c i : Nat} (h : i < vdn c) : c < 30 := by
  unfold vdn at h
  split at h <;> omega
set_option maxRecDepth 100000 in
theorem own3_all : ((List.range 30).all fun c => (List.range (vdn c)).all fun i => (List.range (lenD c i)).all fun k => decide ((plc c i k).map (fun d => own3 (fdLoc d).1 (fdLoc d).2) = some (c, i, k))) = true := by decide +kernel
theorem own3_tab {c i k : Nat} (hc : c < 30) (hi : i < vdn c) (hk : k < lenD c i) : (plc c i k).map (fun d => own3 (fdLoc d).1 (fdLoc d).2) = some (c, i, k) := by
  have h1 := List.all_eq_true.mp own3_all c (List.mem_range.mpr hc)
  have h2 := List.all_eq_true.mp h1 i (List.mem_range.mpr hi)
  have h3 := List.all_eq_true.mp h2 k (List.mem_range.mpr hk)
  exact of_decide_eq_true h3
theorem plc_lt {c i k : Nat} {d : FD} (h : plc c i k = some d) : k < lenD c i := by
  unfold plc at h
  unfold lenD
  cases he : cellD c i with
  | inl a =>
    rw [he] at h
    exact (List.getElem?_eq_some_iff.mp h).1
  | inr a =>
    rw [he] at h
    dsimp only at h ⊢
    by_cases hk : k < a.2.1
    · exact hk
    · rw [if_neg hk] at h; cases h
theorem own3_ok {c i k : Nat} {d : FD} (hi : i < vdn c) (h : plc c i k = some d) : own3 (fdLoc d).1 (fdLoc d).2 = (c, i, k) := by
  have h1 := own3_tab (vdn_lt hi) hi (plc_lt h)
  rw [h] at h1
  exact Option.some.inj h1
def offInv (o : Nat) : Nat × Nat :=
  if o = 0 then (0, 0) else if o = 1 then (1, 0) else
  if o < 50 then (if (o - 2) % 8 = 0 then (2, (o - 2) / 8) else if (o - 2) % 8 = 1 then (3, (o - 2) / 8) else (4 + (o - 2) % 2, 3 * ((o - 2) / 8) + ((o - 2) % 8 - 2) / 2)) else
  if o = 50 then (6, 0) else if o < 111 then (7 + (o - 51) % 3, (o - 51) / 3) else (o - 101, 0)
set_option maxRecDepth 100000 in
theorem off_all : ((List.range 30).all fun c => (List.range (vdn c)).all fun i => decide (offInv (off c i) = (c, i) ∧ off c i < 131)) = true := by decide +kernel
theorem off_tab (c : Nat) (hc : c < 30) (i : Nat) (hi : i < vdn c) : offInv (off c i) = (c, i) ∧ off c i < 131 := by
  have h1 := List.all_eq_true.mp off_all c (List.mem_range.mpr hc)
  have h2 := List.all_eq_true.mp h1 i (List.mem_range.mpr hi)
  exact of_decide_eq_true h2
theorem off_inj {c i c' i' : Nat} (h : i < vdn c) (h' : i' < vdn c') (e : off c i = off c' i') : c = c' ∧ i = i' := by
  have h1 := (off_tab c (vdn_lt h) i h).1
  have h2 := (off_tab c' (vdn_lt h') i' h').1
  rw [e] at h1
  have h3 := h1.symm.trans h2
  cases h3
  exact ⟨rfl, rfl⟩
theorem off_lt {c i : Nat} (h : i < vdn c) : off c i < 131 := (off_tab c (vdn_lt h) i h).2
theorem lg_sl_cat1 {vs : List Value} (h : ∀ v ∈ vs, v.category = 1) : lg_sl vs = vs.map Slot.val := by
  induction vs with
  | nil => rfl
  | cons v vs ih =>
    have hv := h v List.mem_cons_self
    have e : lg_sl (v :: vs) = (if v.category = 2 then [.val v, .second] else [.val v]) ++ lg_sl vs := rfl
    rw [e, if_neg (by omega), ih (fun w hw => h w (List.mem_cons_of_mem _ hw))]
    rfl
theorem lv_args_at' {vs : List Value} (h : ∀ v ∈ vs, v.category = 1) : ∀ (k i : Nat) (v : Value), vs[i]? = some v → (k + i, v) ∈ lv_args k vs := by
  induction vs with
  | nil => intro k i v hi; cases hi
  | cons w vs ih =>
    intro k i v hi
    have hw := h w List.mem_cons_self
    have e : lv_args k (w :: vs) = (k, w) :: lv_args (if w.category = 2 then k + 2 else k + 1) vs := rfl
    rw [e, if_neg (by omega)]
    cases i with
    | zero => cases hi; exact List.mem_cons_self
    | succ i =>
      have := ih (fun w hw => h w (List.mem_cons_of_mem _ hw)) (k + 1) i v hi
      rw [show k + (i + 1) = k + 1 + i by omega]
      exact List.mem_cons_of_mem _ this
theorem lv_args_at {vs : List Value} (h : ∀ v ∈ vs, v.category = 1) {i : Nat} {v : Value} (hi : vs[i]? = some v) : (i, v) ∈ lv_args 0 vs := by
  have := lv_args_at' h 0 i v hi
  rwa [Nat.zero_add] at this
