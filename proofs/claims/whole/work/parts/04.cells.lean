/-! Rows of fields and arrays, of returns, of calls. -/
def FO (own : String) (idx ci kf : Nat) : Prop := ∃ (C : String) (T : u_T) (N : Nat), wCl[ci]? = some (C, T, N) ∧ (∀ w ∈ u_ws C T N, w ∈ wG) ∧ kf < N ∧ Cond.fieldLink own idx (T kf).1 (T kf).2.1 (T kf).2.2.1 ∈ wG
def FOw (own : String) (idx ci kf : Nat) (ty : FieldType) : Prop := ∃ (C : String) (T : u_T) (N : Nat) (ty0 : Nat → FieldType), wCl[ci]? = some (C, T, N) ∧ (∀ w ∈ u_ws C T N, w ∈ wG) ∧ (∀ k, k < N → parseFieldDescriptor (T k).2.2.1 = some (ty0 k)) ∧ (∀ a, a < N → ∀ b, b < N → a ≠ b → (T a).2.1 ≠ (T b).2.1) ∧ kf < N ∧ Cond.fieldLink own idx (T kf).1 (T kf).2.1 (T kf).2.2.1 ∈ wG ∧ (T kf).2.2.2 = false ∧ ty0 kf = ty
/-- the cell is there -/
abbrev Pres (z : Option Nat) (c i : Nat) : Prop := ∀ w, z = some w → off c i < w
theorem pres0 {c i : Nat} : Pres none c i := fun w h => by cases h
theorem Hp.at {z : Option Nat} {b : Nat} {D : va_G} {K : Nat → ClassId} {μ : MU} {H : Heap} {c i : Nat} (h : Hp z b D K μ H) (hi : i < vdn c) (hp : ∀ w, z = some w → off c i < w) : lay b c i < H.size ∧ holds b D K μ H c i := by
  have hl : lay b c i < H.size := by
    cases z with
    | none => exact h.2.lt rfl hi
    | some w => have h2 : H.size = b + w := h.2; have := hp w rfl; show b + off c i < H.size; omega
  exact ⟨hl, h.1 c i hi hl⟩
theorem holds_obj {b : Nat} {D : va_G} {K : Nat → ClassId} {μ : MU} {H : Heap} {c i ci : Nat} {fds : List FD} (hcd : cellD c i = .inl (ci, fds)) : holds b D K μ H c i ↔ ∃ r : vw_C, wCl[ci]? = some r ∧ t_OB (lay b c i) (D.1 ci) r.2.2 (D.2 ci) H (vp_V (fds.map (vOf b μ))) := by
  unfold holds
  simp only [hcd]
theorem holds_arr {b : Nat} {D : va_G} {K : Nat → ClassId} {μ : MU} {H : Heap} {c i t n : Nat} {el : Nat → FD} (hcd : cellD c i = .inr (t, n, el)) : holds b D K μ H c i ↔ H[lay b c i]? = some (arrV (K t) n (fun j => vOf b μ (el j))) := by
  unfold holds
  simp only [hcd]
theorem plc_obj {c i ci : Nat} {fds : List FD} (hcd : cellD c i = .inl (ci, fds)) (k : Nat) : plc c i k = fds[k]? := by
  unfold plc
  simp only [hcd]
theorem plc_arr {c i t n : Nat} {el : Nat → FD} (hcd : cellD c i = .inr (t, n, el)) {k : Nat} (hk : k < n) : plc c i k = some (el k) := by
  unfold plc
  simp only [hcd, if_pos hk]
theorem map_up {b : Nat} {μ : MU} {c i ci kf f j : Nat} {fds : List FD} {d : FD} {v : Int} (hi : i < vdn c) (hcd : cellD c i = .inl (ci, fds)) (hfd : fds[kf]? = some d) (hd : fdLoc d = (f, j)) : fds.map (vOf b (upM μ f j v)) = (fds.map (vOf b μ)).set kf (vOf b (upM μ f j v) d) := by
  refine List.ext_getElem? fun t => ?_
  by_cases ht : t = kf
  · subst ht
    rw [List.getElem?_set_self (by rw [List.length_map]; exact (List.getElem?_eq_some_iff.mp hfd).1), List.getElem?_map, hfd]
    rfl
  · rw [List.getElem?_set_ne (Ne.symm ht), List.getElem?_map, List.getElem?_map]
    cases hq : fds[t]? with
    | none => rfl
    | some d' =>
      refine congrArg some (vOf_up fun q => ht ?_)
      have e1 := own3_ok hi ((plc_obj hcd kf).trans hfd)
      have e2 := own3_ok hi ((plc_obj hcd t).trans hq)
      rw [q] at e2
      rw [hd] at e1
      have e3 := e2.symm.trans e1
      cases e3
      rfl
theorem arr_up {b : Nat} {μ : MU} {c i t n f j kx : Nat} {el : Nat → FD} {v : Int} {cA : ClassId} (hi : i < vdn c) (hcd : cellD c i = .inr (t, n, el)) (hk : kx < n) (hd : fdLoc (el kx) = (f, j)) : (arrV cA n (fun j' => vOf b μ (el j'))).setSlot kx (vOf b (upM μ f j v) (el kx)) = arrV cA n (fun j' => vOf b (upM μ f j v) (el j')) := by
  rw [arrV_store]
  refine arrV_congr fun t' ht' => ?_
  unfold updV
  by_cases q : t' = kx
  · rw [if_pos q, q]
  · rw [if_neg q]
    refine (vOf_up fun q2 => q ?_).symm
    have e1 := own3_ok hi (plc_arr hcd hk)
    have e2 := own3_ok hi (plc_arr hcd ht')
    rw [q2] at e2
    rw [hd] at e1
    have e3 := e2.symm.trans e1
    cases e3
    rfl
theorem Md.up {z : Option Nat} {b : Nat} {μ : MU} {H H1 : Heap} {f j : Nat} {v : Int} (h : Md z b μ H) (hf : z = none → f < 100) (hz : H1.size = H.size) {c i : Nat} (ho : ∀ q : Nat, q ≠ lay b c i → H1[q]? = H[q]?) (hi : i < vdn c) : Md z b (upM μ f j v) H1 := by
  cases z with
  | none => exact ⟨fun g k' hg => by rw [upM_nef (by have := hf rfl; omega)]; exact h.1 g k' hg, by rw [hz]; exact h.2.1, fun q cell hq hc => h.2.2 q cell hq (by
    rw [← ho q (fun e => by have := off_lt hi; unfold lay at e; omega)]; exact hc)⟩
  | some w => exact hz.trans h
section VF
variable {x : MC} {n k : Nat} {z : Option Nat} {pc : Nat} {L : List (Option AV)} {S : List AV} {μ : MU} {own : String} {cc : ByteArray} {rm : Room}

theorem v_getI' (hC : Ctx x own cc rm) {c i ci kf idx f j : Nat} {fds : List FD} {N : Nat} (hN : vdn c = N) (hi : i < N) (hp : Pres z c i) (hcd : cellD c i = .inl (ci, fds)) (hfd : fds[kf]? = some (fI f j)) (hFO : FO own idx ci kf) (d : decode cc pc = .ok (.getfield idx, 3)) (kk : V x n k z (pc + 3) L (aI (μ f j) :: S) μ) : V x n k z pc L (aR c i :: S) μ := by
  obtain ⟨p, l, e, R, s, m, args, below, meth, c0, Q, nL, H0, b, D, K⟩ := x
  intro hM hS hL H locs ls hlo hH hF
  obtain ⟨hx, hb, hml, hts, hown, hK, hlk, hRm⟩ := hC
  subst hN
  have hh := (holds_obj hcd).1 (hH.at hi hp).2
  obtain ⟨C, T, N, h1, h2, h3, h4⟩ := hFO
  exact va_get (D := D) (tys := tysK K) (v := .int (i32 (μ f j))) hx hb hts h2 hown hK (va_P1 (q := (lay b c i, .inr (ci, fds.map (vOf b μ)))) hh) 0 rfl h1 kf h3 (hts _ h4) (fun _ h => h) (by rw [List.getElem?_map, hfd]; rfl) d (kk hM (OkV.cons (hM f j) hS.tl) hL H locs ls hlo hH hF)
theorem v_getR' (hC : Ctx x own cc rm) {c i ci kf idx f j c' i' : Nat} {fds : List FD} {N : Nat} (hN : vdn c = N) (hi : i < N) (hp : Pres z c i) (hcd : cellD c i = .inl (ci, fds)) (hfd : fds[kf]? = some (fR c' i' f j)) (hfl : z = none → 100 ≤ f) (hfl2 : z ≠ none → μ f j ≠ 0) (hFO : FO own idx ci kf) (d : decode cc pc = .ok (.getfield idx, 3)) (kk : V x n k z (pc + 3) L (aR c' i' :: S) μ) : V x n k z pc L (aR c i :: S) μ := by
  obtain ⟨p, l, e, R, s, m, args, below, meth, c0, Q, nL, H0, b, D, K⟩ := x
  intro hM hS hL H locs ls hlo hH hF
  obtain ⟨hx, hb, hml, hts, hown, hK, hlk, hRm⟩ := hC
  subst hN
  have hh := (holds_obj hcd).1 (hH.at hi hp).2
  obtain ⟨C, T, N, h1, h2, h3, h4⟩ := hFO
  have h9 : μ f j ≠ 0 := by
    cases z with
    | none => rw [hH.2.1 f j (hfl rfl)]; decide
    | some w => exact hfl2 (fun q => by cases q)
  exact va_get (D := D) (tys := tysK K) (v := .ref (lay b c' i')) hx hb hts h2 hown hK (va_P1 (q := (lay b c i, .inr (ci, fds.map (vOf b μ)))) hh) 0 rfl h1 kf h3 (hts _ h4) (fun _ h => h) (by rw [List.getElem?_map, hfd]; exact congrArg some (if_neg h9)) d (kk hM (OkV.cons trivial hS.tl) hL H locs ls hlo hH hF)
theorem v_put' (hC : Ctx x own cc rm) {c i ci kf idx f j : Nat} {fds : List FD} {N : Nat} {v : Int} {ty : FieldType} (hN : vdn c = N) (hi : i < N) (hp : Pres z c i) (hcd : cellD c i = .inl (ci, fds)) (hfd : fds[kf]? = some (fI f j)) (hf : z = none → f < 100) (hFO : FOw own idx ci kf ty) (hn : narrow ty (.int (i32 v)) = .int (i32 v)) (hfit : fits ty (.int (i32 v)) = true) (d : decode cc pc = .ok (.putfield idx, 3)) (kk : V x n k z (pc + 3) L S (upM μ f j v)) : V x n k z pc L (aI v :: aR c i :: S) μ := by
  obtain ⟨p, l, e, R, s, m, args, below, meth, c0, Q, nL, H0, b, D, K⟩ := x
  intro hM hS hL H locs ls hlo hH hF
  obtain ⟨hx, hb, hml, hts, hown, hK, hlk, hRm⟩ := hC
  subst hN
  obtain ⟨C, T, N, ty0, h1, h2, hty, hnm, h3, h4, hfin, htyk⟩ := hFO
  obtain ⟨r, hr, hob⟩ := (holds_obj hcd).1 (hH.at hi hp).2
  have hr' : r = (C, T, N) := Option.some.inj (hr.symm.trans h1)
  subst hr'
  have hap := va_apart (own := own) hts h2 ty0 hty hnm hK h1
  obtain ⟨cell, q1, q2, q3, q4⟩ := hob
  obtain ⟨hSl, hfc, kC, hkC, hkind⟩ := hK.1 ci _ h1
  obtain ⟨cf, kf', fi, fl, hi', hsl⟩ := hSl kf h3
  have hlay := hts _ (h2 _ (u_in_lay h3))
  unfold u_lay at hlay
  rw [if_neg (by rw [hfin]; decide)] at hlay
  have hst := (u_facts hfc hkC (u_lays hts h2 h3) hi').1
  have h6 := u_store (v := .int (i32 v)) hfc hkC hkind hlay hi' (ty := ty) (by rw [hty kf h3, htyk]) hn hfit
  refine W.putK hx hb (f := fl) ⟨hown, hts _ h4, ⟨_, _, _, hi'⟩, hst⟩ (by rw [q2]; exact h6) q1 q3 (by rw [hsl]; exact k2_hasslot (q4 kf h3)) rfl rfl d fun H' e1 e2 e3 => ?_
  rw [hsl] at e1 ⊢
  have hlen : kf < (fds.map (vOf b μ)).length := by rw [List.length_map]; exact (List.getElem?_eq_some_iff.mp hfd).1
  have hob2 : t_OB (lay b c i) (D.1 ci) N (D.2 ci) H' (vp_V ((fds.map (vOf b μ)).set kf (.int (i32 v)))) := t_OB.to (V := updV (vp_V (fds.map (vOf b μ))) kf (.int (i32 v))) ⟨_, e1, q2, q3, t_set q4 hap h3 _⟩ (fun j' _ => vp_updV_set hlen _ j')
  have hm := map_up (b := b) (μ := μ) (v := v) hi hcd hfd rfl
  rw [show vOf b (upM μ f j v) (fI f j) = .int (i32 v) from congrArg (fun y => Value.int (i32 y)) (upM_at μ f j v)] at hm
  rw [← hm] at hob2
  exact kk (hM.up hS.hd) hS.tl.tl hL H' _ ls hlo ⟨hH.1.put hi ((plc_obj hcd kf).trans hfd) rfl e2 e3 ((holds_obj hcd).2 ⟨_, h1, hob2⟩), hH.2.up hf e2 e3 hi⟩ (hF.put e2 e3 (Nat.le_add_right b _))
theorem v_getI (hC : Ctx x own cc rm) {c i ci kf idx f j : Nat} {fds : List FD} {N : Nat} (hFO : FO own idx ci kf) (d : decode cc pc = .ok (.getfield idx, 3)) (hN : vdn c = N) (hcd : cellD c i = .inl (ci, fds)) (hfd : fds[kf]? = some (fI f j)) (hi : i < N) (kk : V x n k none (pc + 3) L (aI (μ f j) :: S) μ) : V x n k none pc L (aR c i :: S) μ := v_getI' hC hN hi pres0 hcd hfd hFO d kk
theorem v_getR (hC : Ctx x own cc rm) {c i ci kf idx f j c' i' : Nat} {fds : List FD} {N : Nat} (hFO : FO own idx ci kf) (d : decode cc pc = .ok (.getfield idx, 3)) (hN : vdn c = N) (hcd : cellD c i = .inl (ci, fds)) (hfd : fds[kf]? = some (fR c' i' f j)) (hfl : 100 ≤ f) (hi : i < N) (kk : V x n k none (pc + 3) L (aR c' i' :: S) μ) : V x n k none pc L (aR c i :: S) μ := v_getR' hC hN hi pres0 hcd hfd (fun _ => hfl) (fun q => absurd rfl q) hFO d kk
theorem v_putI (hC : Ctx x own cc rm) {c i ci kf idx f j : Nat} {fds : List FD} {N : Nat} {v : Int} (hFO : FOw own idx ci kf .int) (d : decode cc pc = .ok (.putfield idx, 3)) (hN : vdn c = N) (hcd : cellD c i = .inl (ci, fds)) (hfd : fds[kf]? = some (fI f j)) (hf : f < 100) (hi : i < N) (kk : V x n k none (pc + 3) L S (upM μ f j v)) : V x n k none pc L (aI v :: aR c i :: S) μ := v_put' hC hN hi pres0 hcd hfd (fun _ => hf) hFO rfl rfl d kk
theorem bool_n {v : Int} (h : v = 0 ∨ v = 1) : narrow .boolean (.int (i32 v)) = .int (i32 v) ∧ fits .boolean (.int (i32 v)) = true := by
  rcases h with rfl | rfl <;> decide
theorem v_putZ (hC : Ctx x own cc rm) {c i ci kf idx f j : Nat} {fds : List FD} {N : Nat} {v : Int} (hFO : FOw own idx ci kf .boolean) (d : decode cc pc = .ok (.putfield idx, 3)) (hN : vdn c = N) (hcd : cellD c i = .inl (ci, fds)) (hfd : fds[kf]? = some (fI f j)) (hf : f < 100) (hi : i < N) (hv : v = 0 ∨ v = 1) (kk : V x n k none (pc + 3) L S (upM μ f j v)) : V x n k none pc L (aI v :: aR c i :: S) μ := v_put' hC hN hi pres0 hcd hfd (fun _ => hf) hFO (bool_n hv).1 (bool_n hv).2 d kk
theorem ix_in {y : Int} {N : Nat} {cA : ClassId} {g : Nat → Value} (hy : inR y) (h : 0 ≤ y ∧ y < (N : Int)) : ¬ (i32 y < 0 ∨ (arrV cA N g).slots.size ≤ (i32 y).toNatClampNeg) := by
  rw [arrV_size, i32_clamp hy]
  rintro (q | q)
  · have := (i32_lt hy inR0).1 q
    omega
  · omega
theorem ix_at {y : Int} {N : Nat} {cA : ClassId} {g : Nat → Value} {v : Value} (hy : inR y) (h : 0 ≤ y ∧ y < (N : Int)) (hv : g y.toNat = v) : (arrV cA N g).slots[(i32 y).toNatClampNeg]? = some v := by
  rw [i32_clamp hy, arrV_read _ _ (by omega), hv]
theorem v_iald' (hC : Ctx x own cc rm) {c i f j : Nat} {y : Int} {el : Nat → FD} {N len : Nat} (hN : vdn c = N) (hi : i < N) (hp : Pres z c i) (hcd : cellD c i = .inr (0, len, el)) (hel : el y.toNat = fI f j) (hy : 0 ≤ y ∧ y < (len : Int)) (d : decode cc pc = .ok (.iaload, 1)) (kk : V x n k z (pc + 1) L (aI (μ f j) :: S) μ) : V x n k z pc L (aI y :: aR c i :: S) μ := by
  obtain ⟨p, l, e, R, s, m, args, below, meth, c0, Q, nL, H0, b, D, K⟩ := x
  intro hM hS hL H locs ls hlo hH hF
  obtain ⟨hx, hb, hml, hts, hown, hK, hlk, hRm⟩ := hC
  subst hN
  have hh := (holds_arr hcd).1 (hH.at hi hp).2
  have hyR : inR y := hS.hd
  exact W.iald (v := .int (i32 (μ f j))) hx hb hh ((hK.2 0 _ rfl).1 len _) (fun q => by cases q) (ix_in hyR hy) (ix_at hyR hy (by rw [hel]; rfl)) rfl rfl d (kk hM (OkV.cons (hM f j) hS.tl.tl) hL H locs ls hlo hH hF)
theorem v_iald (hC : Ctx x own cc rm) {c i f j : Nat} {y : Int} {el : Nat → FD} {N len : Nat} (d : decode cc pc = .ok (.iaload, 1)) (hN : vdn c = N) (hcd : cellD c i = .inr (0, len, el)) (hel : el y.toNat = fI f j) (hi : i < N) (hy : 0 ≤ y ∧ y < (len : Int)) (kk : V x n k none (pc + 1) L (aI (μ f j) :: S) μ) : V x n k none pc L (aI y :: aR c i :: S) μ := v_iald' hC hN hi pres0 hcd hel hy d kk
theorem v_zald' (hC : Ctx x own cc rm) {c i f j : Nat} {y : Int} {el : Nat → FD} {N len : Nat} (hN : vdn c = N) (hi : i < N) (hp : Pres z c i) (hcd : cellD c i = .inr (1, len, el)) (hel : el y.toNat = fI f j) (hy : 0 ≤ y ∧ y < (len : Int)) (d : decode cc pc = .ok (.baload, 1)) (kk : V x n k z (pc + 1) L (aI (μ f j) :: S) μ) : V x n k z pc L (aI y :: aR c i :: S) μ := by
  obtain ⟨p, l, e, R, s, m, args, below, meth, c0, Q, nL, H0, b, D, K⟩ := x
  intro hM hS hL H locs ls hlo hH hF
  obtain ⟨hx, hb, hml, hts, hown, hK, hlk, hRm⟩ := hC
  subst hN
  have hh := (holds_arr hcd).1 (hH.at hi hp).2
  have hyR : inR y := hS.hd
  exact W.zald (v := .int (i32 (μ f j))) hx hb hh ((hK.2 1 _ rfl).1 len _) (fun q => by cases q) (ix_in hyR hy) (ix_at hyR hy (by rw [hel]; rfl)) rfl rfl d (kk hM (OkV.cons (hM f j) hS.tl.tl) hL H locs ls hlo hH hF)
theorem v_zald (hC : Ctx x own cc rm) {c i f j : Nat} {y : Int} {el : Nat → FD} {N len : Nat} (d : decode cc pc = .ok (.baload, 1)) (hN : vdn c = N) (hcd : cellD c i = .inr (1, len, el)) (hel : el y.toNat = fI f j) (hi : i < N) (hy : 0 ≤ y ∧ y < (len : Int)) (kk : V x n k none (pc + 1) L (aI (μ f j) :: S) μ) : V x n k none pc L (aI y :: aR c i :: S) μ := v_zald' hC hN hi pres0 hcd hel hy d kk
theorem v_aald' (hC : Ctx x own cc rm) {c i f j c' i' t : Nat} {y : Int} {el : Nat → FD} {N len : Nat} {C : String} (hN : vdn c = N) (hi : i < N) (hp : Pres z c i) (hcd : cellD c i = .inr (t, len, el)) (ht : ∀ K, (tysK K)[t]? = some (K t, .object C)) (hel : el y.toNat = fR c' i' f j) (hfl : z = none → 100 ≤ f) (hfl2 : z ≠ none → μ f j ≠ 0) (hy : 0 ≤ y ∧ y < (len : Int)) (d : decode cc pc = .ok (.aaload, 1)) (kk : V x n k z (pc + 1) L (aR c' i' :: S) μ) : V x n k z pc L (aI y :: aR c i :: S) μ := by
  obtain ⟨p, l, e, R, s, m, args, below, meth, c0, Q, nL, H0, b, D, K⟩ := x
  intro hM hS hL H locs ls hlo hH hF
  obtain ⟨hx, hb, hml, hts, hown, hK, hlk, hRm⟩ := hC
  subst hN
  have hh := (holds_arr hcd).1 (hH.at hi hp).2
  have hyR : inR y := hS.hd
  have h9 : μ f j ≠ 0 := by
    cases z with
    | none => rw [hH.2.1 f j (hfl rfl)]; decide
    | some w => exact hfl2 (fun q => by cases q)
  exact W.aald (v := .ref (lay b c' i')) (ty := .object C) hx hb hh ((hK.2 t _ (ht K)).1 len _) rfl (fun q => by cases q) (ix_in hyR hy) (ix_at hyR hy (by rw [hel]; exact if_neg h9)) rfl rfl d (kk hM (OkV.cons trivial hS.tl.tl) hL H locs ls hlo hH hF)
theorem v_aald (hC : Ctx x own cc rm) {c i f j c' i' t : Nat} {y : Int} {el : Nat → FD} {N len : Nat} {C : String} (d : decode cc pc = .ok (.aaload, 1)) (hN : vdn c = N) (hcd : cellD c i = .inr (t, len, el)) (ht : ∀ K, (tysK K)[t]? = some (K t, .object C)) (hel : el y.toNat = fR c' i' f j) (hfl : 100 ≤ f) (hi : i < N) (hy : 0 ≤ y ∧ y < (len : Int)) (kk : V x n k none (pc + 1) L (aR c' i' :: S) μ) : V x n k none pc L (aI y :: aR c i :: S) μ := v_aald' hC hN hi pres0 hcd ht hel (fun _ => hfl) (fun q => absurd rfl q) hy d kk
theorem v_iast' (hC : Ctx x own cc rm) {c i f j : Nat} {y v : Int} {el : Nat → FD} {N len : Nat} (hN : vdn c = N) (hi : i < N) (hp : Pres z c i) (hcd : cellD c i = .inr (0, len, el)) (hel : el y.toNat = fI f j) (hf : z = none → f < 100) (hy : 0 ≤ y ∧ y < (len : Int)) (d : decode cc pc = .ok (.iastore, 1)) (kk : V x n k z (pc + 1) L S (upM μ f j v)) : V x n k z pc L (aI v :: aI y :: aR c i :: S) μ := by
  obtain ⟨p, l, e, R, s, m, args, below, meth, c0, Q, nL, H0, b, D, K⟩ := x
  intro hM hS hL H locs ls hlo hH hF
  obtain ⟨hx, hb, hml, hts, hown, hK, hlk, hRm⟩ := hC
  subst hN
  have hh := (holds_arr hcd).1 (hH.at hi hp).2
  have hyR : inR y := hS.tl.hd
  have hk : y.toNat < len := by omega
  refine W.iast hx hb hh ((hK.2 0 _ rfl).1 len _) (fun q => by cases q) (ix_in hyR hy) rfl rfl d fun H' e1 e2 e3 => ?_
  rw [i32_clamp hyR] at e1 ⊢
  have hu := arr_up (b := b) (μ := μ) (v := v) (cA := K 0) hi hcd hk (by rw [hel]; rfl : fdLoc (el y.toNat) = (f, j))
  rw [hel, show vOf b (upM μ f j v) (fI f j) = .int (i32 v) from congrArg (fun y => Value.int (i32 y)) (upM_at μ f j v)] at hu
  rw [hu] at e1
  exact kk (hM.up hS.hd) hS.tl.tl.tl hL H' _ ls hlo ⟨hH.1.put hi (plc_arr hcd hk) (by rw [hel]; rfl) e2 e3 ((holds_arr hcd).2 e1), hH.2.up hf e2 e3 hi⟩ (hF.put e2 e3 (Nat.le_add_right b _))
theorem v_iast (hC : Ctx x own cc rm) {c i f j : Nat} {y v : Int} {el : Nat → FD} {N len : Nat} (d : decode cc pc = .ok (.iastore, 1)) (hN : vdn c = N) (hcd : cellD c i = .inr (0, len, el)) (hel : el y.toNat = fI f j) (hf : f < 100) (hi : i < N) (hy : 0 ≤ y ∧ y < (len : Int)) (kk : V x n k none (pc + 1) L S (upM μ f j v)) : V x n k none pc L (aI v :: aI y :: aR c i :: S) μ := v_iast' hC hN hi pres0 hcd hel (fun _ => hf) hy d kk
theorem v_zast (hC : Ctx x own cc rm) {c i f j : Nat} {y v : Int} {el : Nat → FD} {N len : Nat} (d : decode cc pc = .ok (.bastore, 1)) (hN : vdn c = N) (hcd : cellD c i = .inr (1, len, el)) (hel : el y.toNat = fI f j) (hf : f < 100) (hi : i < N) (hy : 0 ≤ y ∧ y < (len : Int)) (hv : v = 0 ∨ v = 1) (kk : V x n k none (pc + 1) L S (upM μ f j v)) : V x n k none pc L (aI v :: aI y :: aR c i :: S) μ := by
  obtain ⟨p, l, e, R, s, m, args, below, meth, c0, Q, nL, H0, b, D, K⟩ := x
  intro hM hS hL H locs ls hlo hH hF
  obtain ⟨hx, hb, hml, hts, hown, hK, hlk, hRm⟩ := hC
  subst hN
  have hh := (holds_arr hcd).1 (hH.at hi (fun _ q => by cases q)).2
  have hyR : inR y := hS.tl.hd
  have hk : y.toNat < len := by omega
  refine W.zast hx hb hh ((hK.2 1 _ rfl).1 len _) (fun q => by cases q) (ix_in hyR hy) rfl rfl d fun H' e1 e2 e3 => ?_
  rw [(bool_n hv).1] at e1
  rw [i32_clamp hyR] at e1 ⊢
  have hu := arr_up (b := b) (μ := μ) (v := v) (cA := K 1) hi hcd hk (by rw [hel]; rfl : fdLoc (el y.toNat) = (f, j))
  rw [hel, show vOf b (upM μ f j v) (fI f j) = .int (i32 v) from congrArg (fun y => Value.int (i32 y)) (upM_at μ f j v)] at hu
  rw [hu] at e1
  exact kk (hM.up hS.hd) hS.tl.tl.tl hL H' _ ls hlo ⟨hH.1.put hi (plc_arr hcd hk) (by rw [hel]; rfl) e2 e3 ((holds_arr hcd).2 e1), hH.2.up (fun _ => hf) e2 e3 hi⟩ (hF.put e2 e3 (Nat.le_add_right b _))
theorem v_i2l (hC : Ctx x own cc rm) {y : Int} (d : decode cc pc = .ok (.i2l, 1)) (kk : V x n k z (pc + 1) L (aL y :: S) μ) : V x n k z pc L (aI y :: S) μ := by
  obtain ⟨p, l, e, R, s, m, args, below, meth, c0, Q, nL, H0, b, D, K⟩ := x
  intro hM hS hL H locs ls hlo hH hF
  obtain ⟨hx, hb, hml, hts, hown, hK, hlk, hRm⟩ := hC
  have hy : inR y := hS.hd
  refine lv_i2l hx hb d (v := Int64.ofInt y) ?_ (kk hM (OkV.cons hS.hd hS.tl) hL H locs ls hlo hH hF)
  exact Int64.toInt_inj.mp (by rw [Int32.toInt_toInt64, i32_toInt hy, Int64.toInt_ofInt_of_le (by have := hy.1; omega) (by have := hy.2; omega)])
theorem v_lconst (hC : Ctx x own cc rm) {q : Fin 2} {y : Int} (d : decode cc pc = .ok (.lconst q, 1)) (hy : y = ((q : Nat) : Int)) (kk : V x n k z (pc + 1) L (aL y :: S) μ) : V x n k z pc L S μ := by
  obtain ⟨p, l, e, R, s, m, args, below, meth, c0, Q, nL, H0, b, D, K⟩ := x
  intro hM hS hL H locs ls hlo hH hF
  obtain ⟨hx, hb, hml, hts, hown, hK, hlk, hRm⟩ := hC
  subst hy
  exact lv_lconst hx hb d (Int64.ofInt_eq_ofNat).symm (kk hM (OkV.cons (show inR _ from ⟨by omega, by omega⟩) hS) hL H locs ls hlo hH hF)
theorem v_last (hC : Ctx x own cc rm) {y v : Int} (d : decode cc pc = .ok (.lastore, 1)) (hy : y = 0) (kk : V x n k none (pc + 1) L S (upM μ 40 0 v)) : V x n k none pc L (aL v :: aI y :: aR 29 0 :: S) μ := by
  obtain ⟨p, l, e, R, s, m, args, below, meth, c0, Q, nL, H0, b, D, K⟩ := x
  intro hM hS hL H locs ls hlo hH hF
  obtain ⟨hx, hb, hml, hts, hown, hK, hlk, hRm⟩ := hC
  have hi : 0 < vdn 29 := by decide
  have hcd : cellD 29 0 = .inr (2, 1, fun j => fL 40 j) := rfl
  have hh := (holds_arr hcd).1 (hH.at hi (fun _ q => by cases q)).2
  have hyR : inR y := hS.tl.hd
  have hy' : 0 ≤ y ∧ y < ((1 : Nat) : Int) := by omega
  have hk : y.toNat < 1 := by omega
  have hel : y.toNat = 0 := by omega
  refine W.last hx hb hh ((hK.2 2 _ rfl).1 1 _) (fun q => by cases q) (ix_in hyR hy') rfl rfl d fun H' e1 e2 e3 => ?_
  rw [i32_clamp hyR] at e1 ⊢
  have hu := arr_up (b := b) (μ := μ) (v := v) (cA := K 2) (f := 40) (j := 0) hi hcd hk (by rw [hel]; rfl)
  rw [hel] at hu e1
  rw [show vOf b (upM μ 40 0 v) ((fun j => fL 40 j) 0) = .long (Int64.ofInt v) from congrArg (fun y => Value.long (Int64.ofInt y)) (upM_at μ 40 0 v)] at hu
  rw [hu] at e1
  exact kk (hM.up hS.hd) hS.tl.tl.tl hL H' _ ls hlo ⟨hH.1.put hi (plc_arr hcd (k := 0) (by decide)) rfl e2 e3 ((holds_arr hcd).2 e1), hH.2.up (fun _ => by decide) e2 e3 hi⟩ (hF.put e2 e3 (Nat.le_add_right b _))
theorem v_lald (hC : Ctx x own cc rm) {y : Int} (d : decode cc pc = .ok (.laload, 1)) (hy : y = 0) (kk : V x n k none (pc + 1) L (aL (μ 40 0) :: S) μ) : V x n k none pc L (aI y :: aR 29 0 :: S) μ := by
  obtain ⟨p, l, e, R, s, m, args, below, meth, c0, Q, nL, H0, b, D, K⟩ := x
  intro hM hS hL H locs ls hlo hH hF
  obtain ⟨hx, hb, hml, hts, hown, hK, hlk, hRm⟩ := hC
  have hi : 0 < vdn 29 := by decide
  have hcd : cellD 29 0 = .inr (2, 1, fun j => fL 40 j) := rfl
  have hh := (holds_arr hcd).1 (hH.at hi (fun _ q => by cases q)).2
  have hyR : inR y := hS.hd
  have hy' : 0 ≤ y ∧ y < ((1 : Nat) : Int) := by omega
  exact W.lald (v := .long (Int64.ofInt (μ 40 0))) hx hb hh ((hK.2 2 _ rfl).1 1 _) (fun q => by cases q) (ix_in hyR hy') (ix_at hyR hy' (by rw [hy]; rfl)) rfl rfl d (kk hM (OkV.cons (hM 40 0) hS.tl.tl) hL H locs ls hlo hH hF)
theorem v_lcmp (hC : Ctx x own cc rm) {y w : Int} (d : decode cc pc = .ok (.lcmp, 1)) (kk : ∀ r : Int, (r = 0 ↔ y = w) → V x n k z (pc + 1) L (aI r :: S) μ) : V x n k z pc L (aL w :: aL y :: S) μ := by
  obtain ⟨p, l, e, R, s, m, args, below, meth, c0, Q, nL, H0, b, D, K⟩ := x
  intro hM hS hL H locs ls hlo hH hF
  obtain ⟨hx, hb, hml, hts, hown, hK, hlk, hRm⟩ := hC
  have hw : inR w := hS.hd
  have hy : inR y := hS.tl.hd
  have tI : ∀ {u : Int}, inR u → (Int64.ofInt u).toInt = u := fun hu => Int64.toInt_ofInt_of_le (by have := hu.1; omega) (by have := hu.2; omega)
  refine W.lcmp hx hb d ?_
  have h9 := kk (lg_cmp (Int64.ofInt y) (Int64.ofInt w)).toInt (by
    unfold lg_cmp
    simp only [gt_iff_lt, Int64.lt_iff_toInt_lt, ← Int64.toInt_inj, tI hw, tI hy]
    repeat' split
    all_goals (constructor <;> intro hh <;> first | omega | (exact absurd hh (by decide)) | decide)) hM (OkV.cons (inR_of _) hS.tl.tl) hL H locs ls hlo hH hF
  rw [List.map_cons, show cv b (aI (lg_cmp (Int64.ofInt y) (Int64.ofInt w)).toInt) = .int (lg_cmp (Int64.ofInt y) (Int64.ofInt w)) from congrArg Value.int (i32_of _)] at h9
  exact h9
end VF
/-! Contracts: what is given at the start, what is owed at the end. -/
def QR (b : Nat) (D : va_G) (K : Nat → ClassId) (z : Option Nat) (post : Option Int → MU → Prop) : Array Value → State → Outcome → State → Prop := fun _ st oc t =>
  (∃ (r : Option Int) (μ' : MU), oc = .returned (r.map (fun y => .int (i32 y))) ∧ (∀ y, r = some y → inR y) ∧ OkM μ' ∧ post r μ' ∧ Hp z b D K μ' t.heap ∧ va_K D wCl (tysK K) t) ∧ va_F (Ad b) st t
def PC (b : Nat) (D : va_G) (K : Nat → ClassId) (z : Option Nat) (as : List AV) (μ : MU) : Array Value → State → Prop := va_Pc (as.map (cv b)) (fun U => OkM μ ∧ OkL (as.map some) ∧ Hp z b D K μ U.heap ∧ va_K D wCl (tysK K) U)
theorem PC.blind {b : Nat} {D : va_G} {K : Nat → ClassId} {z : Option Nat} {as : List AV} {μ : MU} : FrameBlind (PC b D K z as μ) := fun a U g mk q => by
  obtain ⟨q0, q1, q2, q3, q4⟩ := q
  exact ⟨q0, q1, q2, q3, va_K.moved (u := U) (U := U.calling g mk a) (Vm.Alike.refl U.vm) q4⟩
/-- what the frame owes -/
def Rt (x : MC) (z : Option Nat) (post : Option Int → MU → Prop) (mc ms : Nat) (ret : Option FieldType) : Prop := match x with
  | (_, _, _, _, s, _, args, below, meth, _, Q, _, H0, b, D, K) => (∀ t, MQ below (QR b D K z post) args s mc ms (Ad b) t → Q t) ∧ meth.sig.returnType = ret ∧ H0 = s.heap
theorem w_mono {p : Program} {l : Launch} {e : Env} {R : Room} {s : State} {m : MethodId} {args : Array Value} {below : List Frame} {meth : Method} {c : Code} {H : Heap} {locs : List Loc} {cells slots : Nat} {Q Q' : State → Prop} {g : JFrame} (hq : ∀ t, Q t → Q' t) (k : W p l e R s m args below meth c H locs cells slots Q g) : W p l e R s m args below meth c H locs cells slots Q' g := fun T hT X => by
  obtain ⟨t, a, b⟩ := k T hT X
  exact ⟨t, a, hq t b⟩
section VC
variable {x : MC} {n k : Nat} {z : Option Nat} {pc : Nat} {L : List (Option AV)} {S : List AV} {μ : MU} {own : String} {cc : ByteArray} {rm : Room}

theorem v_zret (hC : Ctx x own cc rm) {post : Option Int → MU → Prop} {mc ms : Nat} {r : Int} {ty : FieldType} (hR : Rt x z post mc ms (some ty)) (hn : n ≤ mc) (hk : k ≤ ms) (d : decode cc pc = .ok (.ireturn, 1)) (hnar : narrow ty (.int (i32 r)) = .int (i32 r)) (hp : post (some r) μ) : V x n k z pc L [aI r] μ := by
  obtain ⟨p, l, e, R, s, m, args, below, meth, c0, Q, nL, H0, b, D, K⟩ := x
  intro hM hS hL H locs ls hlo hH hF
  obtain ⟨hx, hb, hml, hts, hown, hK, hlk, hRm⟩ := hC
  obtain ⟨hQ, hr, rfl⟩ := hR
  refine W.widen hn hk ?_
  have h9 : W p l e R s m args below meth c0 H locs mc ms (MQ below (QR b D K z post) args s mc ms (Ad b)) (F0 m pc ls [.int (i32 r)]) := W.zret (v := i32 r) hx hb hr hnar (fun t ht hW => ⟨⟨some r, μ, rfl, (fun y hy => by cases hy; exact hS.hd), hM, hp, by rw [ht]; exact hH, va_K.moved hW.alike hK⟩, hF.F ht⟩) hF.2.2 d hlk
  exact w_mono hQ h9
theorem v_iret (hC : Ctx x own cc rm) {post : Option Int → MU → Prop} {r : Int} (hR : Rt x z post 0 0 (some .int)) (d : decode cc pc = .ok (.ireturn, 1)) (hp : post (some r) μ) : V x 0 0 z pc L [aI r] μ := v_zret hC hR (Nat.le_refl _) (Nat.le_refl _) d rfl hp
theorem v_bret (hC : Ctx x own cc rm) {post : Option Int → MU → Prop} {r : Int} (hR : Rt x z post 0 0 (some .boolean)) (d : decode cc pc = .ok (.ireturn, 1)) (hv : r = 0 ∨ r = 1) (hp : post (some r) μ) : V x 0 0 z pc L [aI r] μ := v_zret hC hR (Nat.le_refl _) (Nat.le_refl _) d (bool_n hv).1 hp
theorem v_vret (hC : Ctx x own cc rm) {post : Option Int → MU → Prop} {mc ms : Nat} (hR : Rt x z post mc ms none) (hn : n ≤ mc) (hk : k ≤ ms) (d : decode cc pc = .ok (.return_, 1)) (hp : post none μ) : V x n k z pc L [] μ := by
  obtain ⟨p, l, e, R, s, m, args, below, meth, c0, Q, nL, H0, b, D, K⟩ := x
  intro hM hS hL H locs ls hlo hH hF
  obtain ⟨hx, hb, hml, hts, hown, hK, hlk, hRm⟩ := hC
  obtain ⟨hQ, hr, rfl⟩ := hR
  refine W.widen hn hk ?_
  have h9 : W p l e R s m args below meth c0 H locs mc ms (MQ below (QR b D K z post) args s mc ms (Ad b)) (F0 m pc ls []) := W.vret hx hb hr (fun t ht hW => ⟨⟨none, μ, rfl, (fun y hy => by cases hy), hM, hp, by rw [ht]; exact hH, va_K.moved hW.alike hK⟩, hF.F ht⟩) hF.2.2 d hlk
  exact w_mono hQ h9

/-- a method's contract out of its walk -/
theorem met_of {l : Launch} {y : MethodName} {rm : Room} {cc : ByteArray} {maxL : Nat} {ret : Option FieldType} {b : Nat} {D : va_G} {K : Nat → ClassId} {z z' : Option Nat} {as : List AV} {μ : MU} {post : Option Int → MU → Prop} {mc ms : Nat} (hy : plainName y.cls = true) (hlen : as.length ≤ maxL)
    (h : ∀ x : MC, Ctx x y.cls cc rm → Rt x z' post mc ms ret → OkM μ → OkL (as.map some) → V x 0 0 z 0 (as.map some ++ List.replicate (maxL - as.length) none) [] μ) : Met l y (Cond.code y cc maxL ret :: wG) rm (PC b D K z as μ) (QR b D K z' post) mc ms (Ad b) := by
  refine Met.ofW (cc := cc) (maxL := maxL) (ret := ret) hy rfl ?_
  intro p e s m args below meth c s₁ B hml hv
  obtain ⟨rfl, hM, hA, hH, hK⟩ := hv
  have hts0 := atoms_spec (ws := Cond.code y cc maxL ret :: wG) B.pre
  have hts : ∀ w ∈ wG, w.before ((as.map (cv b)).toArray) s = true := fun w hw => hts0 w (List.mem_cons_of_mem _ hw)
  have hown : s.vm.findClass y.cls = some m.cls := findClass_of_methodNamed B.named
  have hV := h (p, l, e, rm, s, m, (as.map (cv b)).toArray, below, meth, c, MQ below (QR b D K z' post) (as.map (cv b)).toArray s mc ms (Ad b), maxL, s.heap, b, D, K) ⟨B.exec, B.bytes, hml, hts, hown, hK, B.notSynchronized, rfl⟩ ⟨fun _ h => h, B.returns, rfl⟩ hM hA
  have hcat : ∀ v ∈ as.map (cv b), v.category = 1 := fun v hv => by
    obtain ⟨w, hw1, rfl⟩ := List.mem_map.mp hv
    exact cv_cat (hA w (List.mem_map.mpr ⟨w, hw1, rfl⟩))
  have hsl : lg_sl (as.map (cv b)) = (as.map (cv b)).map Slot.val := lg_sl_cat1 hcat
  have hle := lv_entry (as.map (cv b)) (n := maxL) (by rw [hsl]; simpa using hlen)
  rw [lg_entry_eq]
  generalize (lg_sl (as.map (cv b)) ++ List.replicate (maxL - (lg_sl (as.map (cv b))).length) Slot.unset).toArray = ls at hle ⊢
  refine hV hM (fun v hv => by cases hv) (fun v hv => ?_) s.heap [] ls ⟨hle.1, hle.2.1, by simp; omega, fun i v hi => ?_⟩ hH va_S.rf
  · rcases List.mem_append.mp hv with q | q
    · exact hA v q
    · have := List.eq_of_mem_replicate q
      cases this
  · refine hle.2.2 (i, cv b v) (lv_args_at hcat ?_)
    by_cases hia : i < as.length
    · rw [List.getElem?_append_left (by simpa using hia), List.getElem?_map] at hi
      rw [List.getElem?_map]
      cases hq : as[i]? with
      | none => rw [hq] at hi; cases hi
      | some w => rw [hq] at hi; cases hi; rfl
    · rw [List.getElem?_append_right (by simpa using Nat.not_lt.mp hia)] at hi
      have := List.eq_of_mem_replicate (List.mem_of_getElem? hi)
      cases this
/-- behind a call -/
theorem w_call {p : Program} {l : Launch} {e : Env} {R : Room} {s : State} {m : MethodId} {args : Array Value} {below : List Frame} {meth : Method} {c : Code} {H H0 : Heap} {locs : List Loc} {cells slots mc ms : Nat} {Q : State → Prop} {ls : Array Slot} {rest st0 : List Value} {a : Array Value} {b : Nat} {D : va_G} {K : Nat → ClassId} {z : Option Nat} {post : Option Int → MU → Prop} (hr : va_Run p l e R s m args below meth c H locs cells slots mc ms (F0 m pc ls st0) rest (QR b D K z post a) (Ad b)) (hS : va_S (Ad b) H0 H locs)
    (kk : ∀ (r : Option Int) (μ' : MU) (H1 : Heap) (locs1 : List Loc), (∀ y, r = some y → inR y) → OkM μ' → post r μ' → Hp z b D K μ' H1 → va_S (Ad b) H0 H1 locs1 → W p l e R s m args below meth c H1 locs1 (cells + mc) (slots + ms) Q (F0 m (pc + 3) ls ((r.map (fun y => Value.int (i32 y))).toList ++ rest))) : W p l e R s m args below meth c H locs cells slots Q (F0 m pc ls st0) := by
  intro T hT X
  obtain ⟨v, st₀, t, T', L', h0, X', hL', e1, e2, ⟨⟨r, μ', hv, hy, hM', hp, hH', -⟩, hz, hkeep⟩, st⟩ := hr T hT X
  cases hv
  rw [h0] at hz hkeep
  obtain ⟨t2, a1, b1⟩ := kk r μ' T'.heap (locs ++ L') hy hM' hp (by rw [e1]; exact hH')
    ⟨Nat.le_trans hS.1 (by rw [e1]; exact hz), fun q h1 h2 => by rw [e1, hkeep q (Nat.lt_of_lt_of_le h1 hS.1) h2]; exact hS.2.1 q h1 h2, fun q hq => by
      rcases List.mem_append.mp hq with h | h
      · exact hS.2.2 q h
      · exact hL' q h⟩ T' rfl X'
  exact ⟨t2, st t2 a1, b1⟩
/-- a contract, at every launch, base and table -/
def CT (y : MethodName) (cc : ByteArray) (maxL : Nat) (ret : Option FieldType) (rm : Room) (z z' : Option Nat) (as : List AV) (μ : MU) (post : Option Int → MU → Prop) (mc ms : Nat) : Prop := ∀ (l : Launch) (b : Nat) (D : va_G) (K : Nat → ClassId), Met l y (Cond.code y cc maxL ret :: wG) rm (PC b D K z as μ) (QR b D K z' post) mc ms (Ad b)
abbrev pI (post : Int → MU → Prop) : Option Int → MU → Prop := fun r μ' => ∃ y, r = some y ∧ post y μ'
abbrev pV (post : MU → Prop) : Option Int → MU → Prop := fun r μ' => r = none ∧ post μ'
abbrev CTi (y : MethodName) (cc : ByteArray) (maxL : Nat) (ret : Option FieldType) (rm : Room) (as : List AV) (μ : MU) (post : Int → MU → Prop) : Prop := CT y cc maxL ret rm none none as μ (pI post) 0 0
abbrev CTv (y : MethodName) (cc : ByteArray) (maxL : Nat) (rm : Room) (as : List AV) (μ : MU) (post : MU → Prop) : Prop := CT y cc maxL none rm none none as μ (pV post) 0 0
/-- the words of a call -/
def CW (x : MC) (own C : String) (idx : Nat) (y : MethodName) (bytes : ByteArray) (maxL : Nat) (ret : Option FieldType) (rm : Room) (mc ms na : Nat) : Prop := match x with
  | (_, _, _, R, s, _, args, _, _, _, _, _, _, _, _, _) => CallW R s args own C idx y bytes maxL ret (Cond.code y bytes maxL ret :: wG) rm mc ms na
def CS (x : MC) (own : String) (idx : Nat) (y : MethodName) (bytes : ByteArray) (maxL : Nat) (ret : Option FieldType) (rm : Room) (mc ms na : Nat) : Prop := match x with
  | (_, _, _, R, s, _, args, _, _, _, _, _, _, _, _, _) => CallB R s args own idx y bytes maxL ret (Cond.code y bytes maxL ret :: wG) rm mc ms na ∧ (Cond.static y).before args s = true
theorem wG_in {ws : List Cond} (h : ∀ w ∈ ws, w ∈ wG) : GoodIn wG ws := fun w hw => ⟨h w hw, good_of_word (List.mem_filter.mp (h w hw)).2⟩
theorem wG_cons {w : Cond} (h : w ∈ wG) : ∀ v ∈ w :: wG, v ∈ wG := fun v hv => by
  rcases List.mem_cons.mp hv with q | q
  · rw [q]; exact h
  · exact q
theorem cw_V {x : MC} {own C : String} {cc : ByteArray} {rm : Room} {idx maxL na : Nat} {y : MethodName} {bytes : ByteArray} {ret : Option FieldType} {rmc : Room} (hC : Ctx x own cc rm) (h1 : Cond.methodLink own idx y ∈ wG) (h2 : Cond.instanceMethod y ∈ wG) (h3 : Cond.selects C y y ∈ wG) (h4 : Cond.initialized C ∈ wG) (h5 : Cond.code y bytes maxL ret ∈ wG) (hd : y.cls = C ∧ y.cls ≠ "java/lang/invoke/MethodHandle" ∧ y.cls ≠ "java/lang/invoke/VarHandle" ∧ (parseMethodDescriptor y.desc).map (fun d => d.parameters.length) = some na) (hR : rmc.frames + 1 ≤ rm.frames ∧ 8 + (maxL + 11) + rmc.locals ≤ rm.locals) : CW x own C idx y bytes maxL ret rmc rmc.cells rmc.slots na := by
  obtain ⟨p, l, e, R, s, m, args, below, meth, c0, Q, nL, H0, b, D, K⟩ := x
  obtain ⟨hx, hb, hml, hts, hown, hK, hlk, rfl⟩ := hC
  refine cwV na hts (wG_in fun w hw => ?_) rfl rfl rfl hd hR
  rcases List.mem_append.mp hw with q | q
  · simp only [List.mem_cons, List.not_mem_nil, or_false] at q
    rcases q with rfl | rfl | rfl | rfl
    · exact h1
    · exact h2
    · exact h3
    · exact h4
  · exact wG_cons h5 w q
theorem cw_S {x : MC} {own : String} {cc : ByteArray} {rm : Room} {idx maxL na : Nat} {y : MethodName} {bytes : ByteArray} {ret : Option FieldType} {rmc : Room} (hC : Ctx x own cc rm) (h1 : Cond.methodLink own idx y ∈ wG) (h2 : Cond.static y ∈ wG) (h4 : Cond.initialized own ∈ wG) (h5 : Cond.code y bytes maxL ret ∈ wG) (hd : y.cls = own ∧ y.cls ≠ "java/lang/invoke/MethodHandle" ∧ y.cls ≠ "java/lang/invoke/VarHandle" ∧ (parseMethodDescriptor y.desc).map (fun d => d.parameters.length) = some na) (hR : rmc.frames + 1 ≤ rm.frames ∧ 8 + (maxL + 11) + rmc.locals ≤ rm.locals) : CS x own idx y bytes maxL ret rmc rmc.cells rmc.slots na := by
  obtain ⟨p, l, e, R, s, m, args, below, meth, c0, Q, nL, H0, b, D, K⟩ := x
  obtain ⟨hx, hb, hml, hts, hown, hK, hlk, rfl⟩ := hC
  refine cwS na hts (wG_in fun w hw => ?_) rfl rfl rfl hd hR
  rcases List.mem_append.mp hw with q | q
  · simp only [List.mem_cons, List.not_mem_nil, or_false] at q
    rcases q with rfl | rfl | rfl
    · exact h1
    · exact h2
    · exact h4
  · exact wG_cons h5 w q
theorem okl_list {as : List AV} {S : List AV} (h : OkV (as.reverse ++ S)) (hc : ∀ v, v ∈ as → okv v → okl v) : OkL (as.map some) := fun v hv => by
  obtain ⟨w, hw, e⟩ := List.mem_map.mp hv
  cases e
  exact hc v hw (h v (List.mem_append_left _ (List.mem_reverse.mpr hw)))
theorem cat_cv (b : Nat) (v : AV) : (cv b v).category = (cv 0 v).category := by
  obtain x | ⟨c, i⟩ | x | a := v <;> rfl
theorem cat_sum {b : Nat} {S : List AV} {N : Nat} (h : (S.map (fun v => (cv 0 v).category)).sum ≤ N) : ((S.map (cv b)).map (fun v => v.category)).sum ≤ N := by
  rw [List.map_map]
  refine Nat.le_trans (Nat.le_of_eq (congrArg List.sum (List.map_congr_left fun v _ => ?_))) h
  exact cat_cv b v
theorem v_callV (hC : Ctx x own cc rm) {c i ci idx na maxL mc ms : Nat} {fds : List FD} {C : String} {T : u_T} {NC : Nat} {y : MethodName} {bytes : ByteArray} {ret : Option FieldType} {rmc : Room} {as : List AV} {z' : Option Nat} {post : Option Int → MU → Prop} {N : Nat} (hN : vdn c = N) (hi : i < N) (hp : Pres z c i) (hcd : cellD c i = .inl (ci, fds)) (hcl : wCl[ci]? = some (C, T, NC))
    (hCT : CT y bytes maxL ret rmc z z' (aR c i :: as) μ post mc ms) (cw : CW x own C idx y bytes maxL ret rmc mc ms na) (hna : as.length = na) (hnl : ∀ v, v ∈ as → okv v → okl v) (hR1 : n + mc ≤ rm.cells) (hR2 : k + ms ≤ rm.slots) (hst : (S.map (fun v => (cv 0 v).category)).sum ≤ 8) (d : decode cc pc = .ok (.invokevirtual idx, 3))
    (kk : ∀ (r : Option Int) (μ' : MU), (∀ y, r = some y → inR y) → post r μ' → V x (n + mc) (k + ms) z' (pc + 3) L ((r.map aI).toList ++ S) μ') : V x n k z pc L (as.reverse ++ aR c i :: S) μ := by
  obtain ⟨p, l, e, R, s, m, args, below, meth, c0, Q, nL, H0, b, D, K⟩ := x
  intro hM hS hL H locs ls hlo hH hF
  obtain ⟨hx, hb, hml, hts, hown, hK, hlk, hRm⟩ := hC
  subst hN
  subst hRm
  obtain ⟨r0, hr0, cellB, g1, g2, g3, -⟩ := (holds_obj hcd).1 (hH.at hi hp).2
  have hokl : OkL ((aR c i :: as).map some) := by
    intro v hv
    rcases List.mem_cons.mp hv with q | q
    · cases q; trivial
    · exact okl_list hS hnl v q
  have hrun := va_runV (p := p) (l := l) (e := e) (R := R) (s := s) (m := m) (args := args) (below := below) (meth := meth) (c := c0) (H := H) (locs := locs) (cells := n) (slots := k) (b := lay b c i) (As := as.map (cv b)) (rest := S.map (cv b)) (g := F0 m pc ls ((as.reverse ++ aR c i :: S).map (cv b))) ⟨hx, hb, hml, hown, hts⟩ (hCT l b D K) cw
    ⟨PC.blind, ⟨cellB, g1, by rw [g3]; rfl, by rw [g2]; exact (hK.1 ci _ hcl).2.1⟩, fun U hU hW => ⟨rfl, hM, hokl, by rw [hU]; exact hH, va_K.moved hW.alike hK⟩⟩ rfl (by rw [List.length_map]; exact hna) hlo.1 (by simp [cv]) (lv_room (cat_sum hst)) d ⟨hR1, hR2⟩
  refine w_call hrun hF fun r μ' H1 locs1 hy hM1 hp1 hH1 hF1 => ?_
  have h9 := kk r μ' hy hp1 hM1 (fun v hv => by
    rcases List.mem_append.mp hv with q | q
    · cases r with
      | none => cases q
      | some w => rw [List.mem_singleton.mp q]; exact hy w rfl
    · exact hS v (List.mem_append_right _ (List.mem_cons_of_mem _ q))) hL H1 locs1 ls hlo hH1 hF1
  cases r with
  | none => exact h9
  | some w => exact h9
theorem v_callS (hC : Ctx x own cc rm) {idx na maxL mc ms : Nat} {y : MethodName} {bytes : ByteArray} {ret : Option FieldType} {rmc : Room} {as : List AV} {z' : Option Nat} {post : Option Int → MU → Prop}
    (hCT : CT y bytes maxL ret rmc z z' as μ post mc ms) (cw : CS x own idx y bytes maxL ret rmc mc ms na) (hna : as.length = na) (hnl : ∀ v, v ∈ as → okv v → okl v) (hR1 : n + mc ≤ rm.cells) (hR2 : k + ms ≤ rm.slots) (hst : (S.map (fun v => (cv 0 v).category)).sum ≤ 8) (d : decode cc pc = .ok (.invokestatic idx, 3))
    (kk : ∀ (r : Option Int) (μ' : MU), (∀ y, r = some y → inR y) → post r μ' → V x (n + mc) (k + ms) z' (pc + 3) L ((r.map aI).toList ++ S) μ') : V x n k z pc L (as.reverse ++ S) μ := by
  obtain ⟨p, l, e, R, s, m, args, below, meth, c0, Q, nL, H0, b, D, K⟩ := x
  intro hM hS hL H locs ls hlo hH hF
  obtain ⟨hx, hb, hml, hts, hown, hK, hlk, hRm⟩ := hC
  subst hRm
  have hrun := va_runS (p := p) (l := l) (e := e) (R := R) (s := s) (m := m) (args := args) (below := below) (meth := meth) (c := c0) (H := H) (locs := locs) (cells := n) (slots := k) (As := as.map (cv b)) (rest := S.map (cv b)) (g := F0 m pc ls ((as.reverse ++ S).map (cv b))) ⟨hx, hb, hml, hown, hts⟩ (hCT l b D K) cw
    ⟨PC.blind, fun U hU hW => ⟨rfl, hM, okl_list hS hnl, by rw [hU]; exact hH, va_K.moved hW.alike hK⟩⟩ rfl (by rw [List.length_map]; exact hna) hlo.1 (by simp) (lv_room (cat_sum hst)) d ⟨hR1, hR2⟩
  refine w_call hrun hF fun r μ' H1 locs1 hy hM1 hp1 hH1 hF1 => ?_
  have h9 := kk r μ' hy hp1 hM1 (fun v hv => by
    rcases List.mem_append.mp hv with q | q
    · cases r with
      | none => cases q
      | some w => rw [List.mem_singleton.mp q]; exact hy w rfl
    · exact hS v (List.mem_append_right _ q)) hL H1 locs1 ls hlo hH1 hF1
  cases r with
  | none => exact h9
  | some w => exact h9
theorem okl_I {y : Int} (h : okv (aI y)) : okl (aI y) := h

theorem v_callI0 (hC : Ctx x own cc rm) {c i ci idx maxL : Nat} {fds : List FD} {C : String} {T : u_T} {NC : Nat} {y : MethodName} {bytes : ByteArray} {ret : Option FieldType} {rmc : Room} {post : Int → MU → Prop} {N : Nat} (cw : CW x own C idx y bytes maxL ret rmc 0 0 0) (d : decode cc pc = .ok (.invokevirtual idx, 3)) (hN : vdn c = N) (hcd : cellD c i = .inl (ci, fds)) (hcl : wCl[ci]? = some (C, T, NC)) (hR1 : n ≤ rm.cells) (hR2 : k ≤ rm.slots) (hst : (S.map (fun v => (cv 0 v).category)).sum ≤ 8) (hi : i < N) (hCT : CTi y bytes maxL ret rmc (aR c i :: []) μ post) (kk : ∀ (r : Int) (μ' : MU), post r μ' → V x n k none (pc + 3) L (aI r :: S) μ') : V x n k none pc L (aR c i :: S) μ := v_callV (as := []) hC hN hi pres0 hcd hcl hCT cw rfl (fun v hv => by cases hv) hR1 hR2 hst d (fun r μ' _ h => by obtain ⟨w, rfl, hw⟩ := h; exact kk w μ' hw)
theorem v_callI1 (hC : Ctx x own cc rm) {c i ci idx maxL : Nat} {fds : List FD} {C : String} {T : u_T} {NC : Nat} {y : MethodName} {bytes : ByteArray} {ret : Option FieldType} {rmc : Room} {y1 : Int} {post : Int → MU → Prop} {N : Nat} (cw : CW x own C idx y bytes maxL ret rmc 0 0 1) (d : decode cc pc = .ok (.invokevirtual idx, 3)) (hN : vdn c = N) (hcd : cellD c i = .inl (ci, fds)) (hcl : wCl[ci]? = some (C, T, NC)) (hR1 : n ≤ rm.cells) (hR2 : k ≤ rm.slots) (hst : (S.map (fun v => (cv 0 v).category)).sum ≤ 8) (hi : i < N) (hCT : CTi y bytes maxL ret rmc (aR c i :: [aI y1]) μ post) (kk : ∀ (r : Int) (μ' : MU), post r μ' → V x n k none (pc + 3) L (aI r :: S) μ') : V x n k none pc L (aI y1 :: aR c i :: S) μ := v_callV (as := [aI y1]) hC hN hi pres0 hcd hcl hCT cw rfl (fun v hv h => by
    simp only [List.mem_cons, List.not_mem_nil, or_false] at hv
    subst hv; exact h) hR1 hR2 hst d (fun r μ' _ h => by obtain ⟨w, rfl, hw⟩ := h; exact kk w μ' hw)
theorem v_callI2 (hC : Ctx x own cc rm) {c i ci idx maxL : Nat} {fds : List FD} {C : String} {T : u_T} {NC : Nat} {y : MethodName} {bytes : ByteArray} {ret : Option FieldType} {rmc : Room} {y1 y2 : Int} {post : Int → MU → Prop} {N : Nat} (cw : CW x own C idx y bytes maxL ret rmc 0 0 2) (d : decode cc pc = .ok (.invokevirtual idx, 3)) (hN : vdn c = N) (hcd : cellD c i = .inl (ci, fds)) (hcl : wCl[ci]? = some (C, T, NC)) (hR1 : n ≤ rm.cells) (hR2 : k ≤ rm.slots) (hst : (S.map (fun v => (cv 0 v).category)).sum ≤ 8) (hi : i < N) (hCT : CTi y bytes maxL ret rmc (aR c i :: [aI y1, aI y2]) μ post) (kk : ∀ (r : Int) (μ' : MU), post r μ' → V x n k none (pc + 3) L (aI r :: S) μ') : V x n k none pc L (aI y2 :: aI y1 :: aR c i :: S) μ := v_callV (as := [aI y1, aI y2]) hC hN hi pres0 hcd hcl hCT cw rfl (fun v hv h => by
    simp only [List.mem_cons, List.not_mem_nil, or_false] at hv
    rcases hv with rfl | rfl <;> exact h) hR1 hR2 hst d (fun r μ' _ h => by obtain ⟨w, rfl, hw⟩ := h; exact kk w μ' hw)
theorem v_callI3 (hC : Ctx x own cc rm) {c i ci idx maxL : Nat} {fds : List FD} {C : String} {T : u_T} {NC : Nat} {y : MethodName} {bytes : ByteArray} {ret : Option FieldType} {rmc : Room} {y1 y2 y3 : Int} {post : Int → MU → Prop} {N : Nat} (cw : CW x own C idx y bytes maxL ret rmc 0 0 3) (d : decode cc pc = .ok (.invokevirtual idx, 3)) (hN : vdn c = N) (hcd : cellD c i = .inl (ci, fds)) (hcl : wCl[ci]? = some (C, T, NC)) (hR1 : n ≤ rm.cells) (hR2 : k ≤ rm.slots) (hst : (S.map (fun v => (cv 0 v).category)).sum ≤ 8) (hi : i < N) (hCT : CTi y bytes maxL ret rmc (aR c i :: [aI y1, aI y2, aI y3]) μ post) (kk : ∀ (r : Int) (μ' : MU), post r μ' → V x n k none (pc + 3) L (aI r :: S) μ') : V x n k none pc L (aI y3 :: aI y2 :: aI y1 :: aR c i :: S) μ := v_callV (as := [aI y1, aI y2, aI y3]) hC hN hi pres0 hcd hcl hCT cw rfl (fun v hv h => by
    simp only [List.mem_cons, List.not_mem_nil, or_false] at hv
    rcases hv with rfl | rfl | rfl <;> exact h) hR1 hR2 hst d (fun r μ' _ h => by obtain ⟨w, rfl, hw⟩ := h; exact kk w μ' hw)
theorem v_callI5 (hC : Ctx x own cc rm) {c i ci idx maxL : Nat} {fds : List FD} {C : String} {T : u_T} {NC : Nat} {y : MethodName} {bytes : ByteArray} {ret : Option FieldType} {rmc : Room} {y1 y2 y3 y4 y5 : Int} {post : Int → MU → Prop} {N : Nat} (cw : CW x own C idx y bytes maxL ret rmc 0 0 5) (d : decode cc pc = .ok (.invokevirtual idx, 3)) (hN : vdn c = N) (hcd : cellD c i = .inl (ci, fds)) (hcl : wCl[ci]? = some (C, T, NC)) (hR1 : n ≤ rm.cells) (hR2 : k ≤ rm.slots) (hst : (S.map (fun v => (cv 0 v).category)).sum ≤ 8) (hi : i < N) (hCT : CTi y bytes maxL ret rmc (aR c i :: [aI y1, aI y2, aI y3, aI y4, aI y5]) μ post) (kk : ∀ (r : Int) (μ' : MU), post r μ' → V x n k none (pc + 3) L (aI r :: S) μ') : V x n k none pc L (aI y5 :: aI y4 :: aI y3 :: aI y2 :: aI y1 :: aR c i :: S) μ := v_callV (as := [aI y1, aI y2, aI y3, aI y4, aI y5]) hC hN hi pres0 hcd hcl hCT cw rfl (fun v hv h => by
    simp only [List.mem_cons, List.not_mem_nil, or_false] at hv
    rcases hv with rfl | rfl | rfl | rfl | rfl <;> exact h) hR1 hR2 hst d (fun r μ' _ h => by obtain ⟨w, rfl, hw⟩ := h; exact kk w μ' hw)
theorem v_callV0 (hC : Ctx x own cc rm) {c i ci idx maxL : Nat} {fds : List FD} {C : String} {T : u_T} {NC : Nat} {y : MethodName} {bytes : ByteArray} {rmc : Room} {post : MU → Prop} {N : Nat} (cw : CW x own C idx y bytes maxL none rmc 0 0 0) (d : decode cc pc = .ok (.invokevirtual idx, 3)) (hN : vdn c = N) (hcd : cellD c i = .inl (ci, fds)) (hcl : wCl[ci]? = some (C, T, NC)) (hR1 : n ≤ rm.cells) (hR2 : k ≤ rm.slots) (hst : (S.map (fun v => (cv 0 v).category)).sum ≤ 8) (hi : i < N) (hCT : CTv y bytes maxL rmc (aR c i :: []) μ post) (kk : ∀ (μ' : MU), post μ' → V x n k none (pc + 3) L S μ') : V x n k none pc L (aR c i :: S) μ := v_callV (as := []) hC hN hi pres0 hcd hcl hCT cw rfl (fun v hv => by cases hv) hR1 hR2 hst d (fun r μ' _ h => by obtain ⟨rfl, hw⟩ := h; exact kk μ' hw)
theorem v_callV1 (hC : Ctx x own cc rm) {c i ci idx maxL : Nat} {fds : List FD} {C : String} {T : u_T} {NC : Nat} {y : MethodName} {bytes : ByteArray} {rmc : Room} {y1 : Int} {post : MU → Prop} {N : Nat} (cw : CW x own C idx y bytes maxL none rmc 0 0 1) (d : decode cc pc = .ok (.invokevirtual idx, 3)) (hN : vdn c = N) (hcd : cellD c i = .inl (ci, fds)) (hcl : wCl[ci]? = some (C, T, NC)) (hR1 : n ≤ rm.cells) (hR2 : k ≤ rm.slots) (hst : (S.map (fun v => (cv 0 v).category)).sum ≤ 8) (hi : i < N) (hCT : CTv y bytes maxL rmc (aR c i :: [aI y1]) μ post) (kk : ∀ (μ' : MU), post μ' → V x n k none (pc + 3) L S μ') : V x n k none pc L (aI y1 :: aR c i :: S) μ := v_callV (as := [aI y1]) hC hN hi pres0 hcd hcl hCT cw rfl (fun v hv h => by
    simp only [List.mem_cons, List.not_mem_nil, or_false] at hv
    subst hv; exact h) hR1 hR2 hst d (fun r μ' _ h => by obtain ⟨rfl, hw⟩ := h; exact kk μ' hw)
theorem v_callV2 (hC : Ctx x own cc rm) {c i ci idx maxL : Nat} {fds : List FD} {C : String} {T : u_T} {NC : Nat} {y : MethodName} {bytes : ByteArray} {rmc : Room} {y1 y2 : Int} {post : MU → Prop} {N : Nat} (cw : CW x own C idx y bytes maxL none rmc 0 0 2) (d : decode cc pc = .ok (.invokevirtual idx, 3)) (hN : vdn c = N) (hcd : cellD c i = .inl (ci, fds)) (hcl : wCl[ci]? = some (C, T, NC)) (hR1 : n ≤ rm.cells) (hR2 : k ≤ rm.slots) (hst : (S.map (fun v => (cv 0 v).category)).sum ≤ 8) (hi : i < N) (hCT : CTv y bytes maxL rmc (aR c i :: [aI y1, aI y2]) μ post) (kk : ∀ (μ' : MU), post μ' → V x n k none (pc + 3) L S μ') : V x n k none pc L (aI y2 :: aI y1 :: aR c i :: S) μ := v_callV (as := [aI y1, aI y2]) hC hN hi pres0 hcd hcl hCT cw rfl (fun v hv h => by
    simp only [List.mem_cons, List.not_mem_nil, or_false] at hv
    rcases hv with rfl | rfl <;> exact h) hR1 hR2 hst d (fun r μ' _ h => by obtain ⟨rfl, hw⟩ := h; exact kk μ' hw)
theorem v_callV3 (hC : Ctx x own cc rm) {c i ci idx maxL : Nat} {fds : List FD} {C : String} {T : u_T} {NC : Nat} {y : MethodName} {bytes : ByteArray} {rmc : Room} {y1 y2 y3 : Int} {post : MU → Prop} {N : Nat} (cw : CW x own C idx y bytes maxL none rmc 0 0 3) (d : decode cc pc = .ok (.invokevirtual idx, 3)) (hN : vdn c = N) (hcd : cellD c i = .inl (ci, fds)) (hcl : wCl[ci]? = some (C, T, NC)) (hR1 : n ≤ rm.cells) (hR2 : k ≤ rm.slots) (hst : (S.map (fun v => (cv 0 v).category)).sum ≤ 8) (hi : i < N) (hCT : CTv y bytes maxL rmc (aR c i :: [aI y1, aI y2, aI y3]) μ post) (kk : ∀ (μ' : MU), post μ' → V x n k none (pc + 3) L S μ') : V x n k none pc L (aI y3 :: aI y2 :: aI y1 :: aR c i :: S) μ := v_callV (as := [aI y1, aI y2, aI y3]) hC hN hi pres0 hcd hcl hCT cw rfl (fun v hv h => by
    simp only [List.mem_cons, List.not_mem_nil, or_false] at hv
    rcases hv with rfl | rfl | rfl <;> exact h) hR1 hR2 hst d (fun r μ' _ h => by obtain ⟨rfl, hw⟩ := h; exact kk μ' hw)
theorem v_callSI1 (hC : Ctx x own cc rm) {idx maxL : Nat} {y : MethodName} {bytes : ByteArray} {ret : Option FieldType} {rmc : Room} {y1 : Int} {post : Int → MU → Prop} (cw : CS x own idx y bytes maxL ret rmc 0 0 1) (d : decode cc pc = .ok (.invokestatic idx, 3)) (hR1 : n ≤ rm.cells) (hR2 : k ≤ rm.slots) (hst : (S.map (fun v => (cv 0 v).category)).sum ≤ 8) (hCT : CTi y bytes maxL ret rmc [aI y1] μ post) (kk : ∀ (r : Int) (μ' : MU), post r μ' → V x n k none (pc + 3) L (aI r :: S) μ') : V x n k none pc L (aI y1 :: S) μ := v_callS (as := [aI y1]) hC hCT cw rfl (fun v hv h => by
    simp only [List.mem_cons, List.not_mem_nil, or_false] at hv
    subst hv; exact h) hR1 hR2 hst d (fun r μ' _ h => by obtain ⟨w, rfl, hw⟩ := h; exact kk w μ' hw)
end VC
/-- a local is forgotten -/
theorem v_forget {x : MC} {n k : Nat} {z : Option Nat} {pc : Nat} {L : List (Option AV)} {S : List AV} {μ : MU} (i : Nat) (kk : V x n k z pc (L.set i none) S μ) : V x n k z pc L S μ := by
  obtain ⟨p, l, e, R, s, m, args, below, meth, c0, Q, nL, H0, b, D, K⟩ := x
  intro hM hS hL H locs ls hlo hH hF
  refine kk hM hS (fun v hv => ?_) H locs ls ⟨hlo.1, hlo.2.1, by rw [List.length_set]; exact hlo.2.2.1, fun j v hj => ?_⟩ hH hF
  · rcases List.mem_or_eq_of_mem_set hv with q | q
    · exact hL v q
    · cases q
  · by_cases q : i = j
    · subst q
      by_cases hl : i < L.length
      · rw [List.getElem?_set_self hl] at hj; cases hj
      · rw [List.getElem?_eq_none (by rw [List.length_set]; omega)] at hj; cases hj
    · rw [List.getElem?_set_ne q] at hj
      exact hlo.2.2.2 j v hj
/-- a loop: by a measure -/
theorem v_loop {α : Type} (f : α → Nat) (P : α → Prop) (G : α → Prop) (h : ∀ a, P a → (∀ a', P a' → f a' < f a → G a') → G a) (a : α) (ha : P a) : G a := by
  suffices hs : ∀ n a, f a < n → P a → G a from hs (f a + 1) a (Nat.lt_succ_self _) ha
  intro n
  induction n with
  | zero => intro a h0; exact absurd h0 (Nat.not_lt_zero _)
  | succ n ih => intro a h0 hp; exact h a hp (fun a' hp' hlt => ih a' (by omega) hp')
