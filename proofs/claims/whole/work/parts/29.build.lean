/-! Rows of building: a new object, a new array, references set once, constructors. -/
def dfl : FD → Value
  | .inl _ => .null
  | .inr (.inl _) => .int 0
  | .inr (.inr _) => .long 0
theorem vOf_dfl {b : Nat} {μ : MU} {d : FD} (h : μ (fdLoc d).1 (fdLoc d).2 = 0) : vOf b μ d = dfl d := by
  obtain ⟨c, i, f, j⟩ | ⟨f, j⟩ | ⟨f, j⟩ := d
  · exact if_pos h
  · have h' : μ f j = 0 := h
    show Value.int (i32 (μ f j)) = .int 0
    rw [h']; rfl
  · have h' : μ f j = 0 := h
    show Value.long (Int64.ofInt (μ f j)) = .long 0
    rw [h']; rfl
def FN (own : String) (idx ci N : Nat) (fds : List FD) : Prop := ∃ (C : String) (T : u_T) (ty0 : Nat → FieldType), wCl[ci]? = some (C, T, N) ∧ (∀ w ∈ u_ws C T N, w ∈ wG) ∧ (∀ k, k < N → parseFieldDescriptor (T k).2.2.1 = some (ty0 k)) ∧ Cond.classLink own idx C ∈ wG ∧ Cond.instantiable C N ∈ wG ∧ Cond.initialized C ∈ wG ∧ ∀ j, j < N → ∃ d, fds[j]? = some d ∧ defaultValue (ty0 j) = dfl d
theorem Wd.grow {b : Nat} {D : va_G} {K : Nat → ClassId} {μ : MU} {H H1 : Heap} {c i : Nat} (h : Wd b D K μ H) (hsz : H1.size = H.size + 1) (ho : ∀ q : Nat, q < H.size → H1[q]? = H[q]?) (hi : i < vdn c) (hw : b + off c i = H.size) (hn : holds b D K μ H1 c i) : Wd b D K μ H1 := by
  intro c' i' hi' hl
  by_cases he : lay b c' i' < H.size
  · exact holds_congr (fun _ _ _ => rfl) (ho _ he) (h c' i' hi' he)
  · have e : off c' i' = off c i := by
      have h1 : b + off c' i' < H1.size := hl
      have h2 : ¬ b + off c' i' < H.size := he
      omega
    obtain ⟨rfl, rfl⟩ := off_inj hi' hi e
    exact hn
section VB
variable {x : MC} {n k w : Nat} {pc : Nat} {L : List (Option AV)} {S : List AV} {μ : MU} {own : String} {cc : ByteArray} {rm : Room}
theorem v_new (hC : Ctx x own cc rm) {c i ci idx N : Nat} {fds : List FD} (hFN : FN own idx ci N fds) (d : decode cc pc = .ok (.new idx, 3)) (hcd : cellD c i = .inl (ci, fds)) (hi : i < vdn c) (hw : off c i = w) (h0 : ∀ d, d ∈ fds → μ (fdLoc d).1 (fdLoc d).2 = 0) (hR1 : n + 1 ≤ rm.cells) (hR2 : k + N ≤ rm.slots)
    (kk : V x (n + 1) (k + N) (some (w + 1)) (pc + 3) L (aR c i :: S) μ) : V x n k (some w) pc L S μ := by
  obtain ⟨p, l, e, R, s, m, args, below, meth, c0, Q, nL, H0, b, D, K⟩ := x
  intro hM hS hL H locs ls hlo hH hF
  obtain ⟨hx, hb, hml, hts, hown, hK, hlk, hRm⟩ := hC
  subst hRm
  obtain ⟨C, T, ty0, h1, h2, h3, h4, h5, h6, h7⟩ := hFN
  have hKn := hK.1 ci _ h1
  have hsz : H.size = b + w := hH.2
  refine W.newcK (c := c0) (h := b + w) hx hb hown (hts _ h4) (hts _ h5) (hts _ h6) rfl d hR1 hR2 hKn.2.1 hsz fun H1 kC hkC e1 z1 o1 => ?_
  have hlay : lay b c i = b + w := by show b + off c i = b + w; rw [hw]
  have hob : t_OB (lay b c i) (D.1 ci) N (D.2 ci) H1 (vp_V (fds.map (vOf b μ))) := by
    rw [hlay]
    refine (u_born ty0 hts h2 hKn hkC e1 h3).to fun j hj => ?_
    obtain ⟨d9, h8, h9⟩ := h7 j hj
    rw [h9, ← vOf_dfl (b := b) (h0 d9 (List.mem_of_getElem? h8))]
    unfold vp_V
    rw [List.getD_eq_getElem?_getD, List.getElem?_map, h8]
    rfl
  have h9 := kk hM (OkV.cons trivial hS) hL H1 locs ls hlo ⟨hH.1.grow (by omega) (fun q hq => o1 q (by omega)) hi (by omega) ((holds_obj hcd).2 ⟨_, h1, hob⟩), (by show H1.size = b + (w + 1); omega)⟩ ⟨Nat.le_trans hF.1 (by omega), fun q h1 h2 => (o1 q (by have := hF.1; omega)).trans (hF.2.1 q h1 h2), hF.2.2⟩
  rw [List.map_cons, show cv b (aR c i) = .ref (b + w) from congrArg Value.ref hlay] at h9
  exact h9
theorem v_newA (hC : Ctx x own cc rm) {c i t len : Nat} {el : Nat → FD} {ty : FieldType} {at' : ArrayType} {y : Int} (d : decode cc pc = .ok (.newarray at', 2)) (hty : newarray.typeOf at' = ty) (hp : ∀ C, ty ≠ .object C) (ht : ∀ K, (tysK K)[t]? = some (K t, ty)) (hwd : Cond.arrayClass ty ∈ wG) (hcd : cellD c i = .inr (t, len, el)) (hi : i < vdn c) (hw : off c i = w) (hy : y = (len : Int)) (hbt : len * componentBytes ty ≤ 536870912) (h0 : ∀ j, j < len → μ (fdLoc (el j)).1 (fdLoc (el j)).2 = 0 ∧ dfl (el j) = defaultValue ty) (hR1 : n + 1 ≤ rm.cells) (hR2 : k + len ≤ rm.slots)
    (kk : V x (n + 1) (k + len) (some (w + 1)) (pc + 2) L (aR c i :: S) μ) : V x n k (some w) pc L (aI y :: S) μ := by
  obtain ⟨p, l, e, R, s, m, args, below, meth, c0, Q, nL, H0, b, D, K⟩ := x
  intro hM hS hL H locs ls hlo hH hF
  obtain ⟨hx, hb, hml, hts, hown, hK, hlk, hRm⟩ := hC
  subst hRm
  subst hty
  have hyR : inR y := hS.hd
  have hsz : H.size = b + w := hH.2
  refine va_newaK (c := c0) (N := len) (h := b + w) hx hb (hts _ hwd) rfl d rfl (fun q => by have := (i32_lt hyR inR0).1 q; omega) (by rw [i32_clamp hyR, hy]; rfl) hbt hR1 hR2 hsz fun H1 cA e1 z1 o1 hArr hfind => ?_
  have hlay : lay b c i = b + w := by show b + off c i = b + w; rw [hw]
  have hcA : cA = K t := by
    have h1 := (hK.2 t _ (ht K)).2
    unfold va_RA at h1
    generalize newarray.typeOf at' = ty9 at h1 hfind hp
    cases ty9 with
    | object C => exact absurd rfl (hp C)
    | _ => exact Option.some.inj (hfind.symm.trans h1)
  have hcell : H1[lay b c i]? = some (arrV (K t) len (fun j => vOf b μ (el j))) := by
    rw [hlay, e1, hcA]
    refine congrArg some (arrV_congr fun j hj => ?_)
    rw [vOf_dfl (h0 j hj).1, (h0 j hj).2]
  have h9 := kk hM (OkV.cons trivial hS.tl) hL H1 locs ls hlo ⟨hH.1.grow (by omega) (fun q hq => o1 q (by omega)) hi (by omega) ((holds_arr hcd).2 hcell), (by show H1.size = b + (w + 1); omega)⟩ ⟨Nat.le_trans hF.1 (by omega), fun q h1 h2 => (o1 q (by have := hF.1; omega)).trans (hF.2.1 q h1 h2), hF.2.2⟩
  rw [List.map_cons, show cv b (aR c i) = .ref (b + w) from congrArg Value.ref hlay] at h9
  exact h9
end VB
