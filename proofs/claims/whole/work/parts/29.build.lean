/-! Rows of building: a new object, a new array, references set once, constructors. -/
def dfl : FD → Value
  | .inl _ => .null
  | .inr (.inl _) => .int 0
  | .inr (.inr _) => .long 0
theorem vOf_dfl {b : Nat} {μ : MU} {d : FD} (h : μ (fdLoc d).1 (fdLoc d).2 = 0) : vOf b μ d = dfl d := by
  obtain ⟨c, i, f, j⟩ | ⟨f, j⟩ | ⟨f, j⟩ := d
  · exact if_pos h
  · have h' : μ f j = 0 := h
    show Value.int (i32 (μ f j)) = .int 0
    rw [h']; rfl
  · have h' : μ f j = 0 := h
    show Value.long (Int64.ofInt (μ f j)) = .long 0
    rw [h']; rfl
def FN (own : String) (idx ci N : Nat) (fds : List FD) : Prop := ∃ (C : String) (T : u_T) (ty0 : Nat → FieldType), wCl[ci]? = some (C, T, N) ∧ (∀ w ∈ u_ws C T N, w ∈ wG) ∧ (∀ k, k < N → parseFieldDescriptor (T k).2.2.1 = some (ty0 k)) ∧ Cond.classLink own idx C ∈ wG ∧ Cond.instantiable C N ∈ wG ∧ Cond.initialized C ∈ wG ∧ ∀ j, j < N → ∃ d, fds[j]? = some d ∧ defaultValue (ty0 j) = dfl d
theorem Wd.grow {b : Nat} {D : va_G} {K : Nat → ClassId} {μ : MU} {H H1 : Heap} {c i : Nat} (h : Wd b D K μ H) (hsz : H1.size = H.size + 1) (ho : ∀ q : Nat, q < H.size → H1[q]? = H[q]?) (hi : i < vdn c) (hw : b + off c i = H.size) (hn : holds b D K μ H1 c i) : Wd b D K μ H1 := by
  intro c' i' hi' hl
  by_cases he : lay b c' i' < H.size
  · exact holds_congr (fun _ _ _ => rfl) (ho _ he) (h c' i' hi' he)
  · have e : off c' i' = off c i := by
      have h1 : b + off c' i' < H1.size := hl
      have h2 : ¬ b + off c' i' < H.size := he
      omega
    obtain ⟨rfl, rfl⟩ := off_inj hi' hi e
    exact hn
section VB
variable {x : MC} {n k w : Nat} {pc : Nat} {L : List (Option AV)} {S : List AV} {μ : MU} {own : String} {cc : ByteArray} {rm : Room}
theorem v_new (hC : Ctx x own cc rm) {c i ci idx N : Nat} {fds : List FD} (hFN : FN own idx ci N fds) (d : decode cc pc = .ok (.new idx, 3)) (hcd : cellD c i = .inl (ci, fds)) (hi : i < vdn c) (hw : off c i = w) (h0 : ∀ d, d ∈ fds → μ (fdLoc d).1 (fdLoc d).2 = 0) (hR1 : n + 1 ≤ rm.cells) (hR2 : k + N ≤ rm.slots)
    (kk : V x (n + 1) (k + N) (some (w + 1)) (pc + 3) L (aR c i :: S) μ) : V x n k (some w) pc L S μ := by
  obtain ⟨p, l, e, R, s, m, args, below, meth, c0, Q, nL, H0, b, D, K⟩ := x
  intro hM hS hL H locs ls hlo hH hF
  obtain ⟨hx, hb, hml, hts, hown, hK, hlk, hRm⟩ := hC
  subst hRm
  obtain ⟨C, T, ty0, h1, h2, h3, h4, h5, h6, h7⟩ := hFN
  have hKn := hK.1 ci _ h1
  have hsz : H.size = b + w := hH.2
  refine W.newcK (c := c0) (h := b + w) hx hb hown (hts _ h4) (hts _ h5) (hts _ h6) rfl d hR1 hR2 hKn.2.1 hsz fun H1 kC hkC e1 z1 o1 => ?_
  have hlay : lay b c i = b + w := by show b + off c i = b + w; rw [hw]
  have hob : t_OB (lay b c i) (D.1 ci) N (D.2 ci) H1 (vp_V (fds.map (vOf b μ))) := by
    rw [hlay]
    refine (u_born ty0 hts h2 hKn hkC e1 h3).to fun j hj => ?_
    obtain ⟨d9, h8, h9⟩ := h7 j hj
    rw [h9, ← vOf_dfl (b := b) (h0 d9 (List.mem_of_getElem? h8))]
    unfold vp_V
    rw [List.getD_eq_getElem?_getD, List.getElem?_map, h8]
    rfl
  have h9 := kk hM (OkV.cons trivial hS) hL H1 locs ls hlo ⟨hH.1.grow (by omega) (fun q hq => o1 q (by omega)) hi (by omega) ((holds_obj hcd).2 ⟨_, h1, hob⟩), (by show H1.size = b + (w + 1); omega)⟩ ⟨Nat.le_trans hF.1 (by omega), fun q h1 h2 => (o1 q (by have := hF.1; omega)).trans (hF.2.1 q h1 h2), hF.2.2⟩
  rw [List.map_cons, show cv b (aR c i) = .ref (b + w) from congrArg Value.ref hlay] at h9
  exact h9
theorem v_newA (hC : Ctx x own cc rm) {c i t len : Nat} {el : Nat → FD} {ty : FieldType} {at' : ArrayType} {y : Int} (d : decode cc pc = .ok (.newarray at', 2)) (hty : newarray.typeOf at' = ty) (hp : ∀ C, ty ≠ .object C) (ht : ∀ K, (tysK K)[t]? = some (K t, ty)) (hwd : Cond.arrayClass ty ∈ wG) (hcd : cellD c i = .inr (t, len, el)) (hi : i < vdn c) (hw : off c i = w) (hy : y = (len : Int)) (hbt : len * componentBytes ty ≤ 536870912) (h0 : ∀ j, j < len → μ (fdLoc (el j)).1 (fdLoc (el j)).2 = 0 ∧ dfl (el j) = defaultValue ty) (hR1 : n + 1 ≤ rm.cells) (hR2 : k + len ≤ rm.slots)
    (kk : V x (n + 1) (k + len) (some (w + 1)) (pc + 2) L (aR c i :: S) μ) : V x n k (some w) pc L (aI y :: S) μ := by
  obtain ⟨p, l, e, R, s, m, args, below, meth, c0, Q, nL, H0, b, D, K⟩ := x
  intro hM hS hL H locs ls hlo hH hF
  obtain ⟨hx, hb, hml, hts, hown, hK, hlk, hRm⟩ := hC
  subst hRm
  subst hty
  have hyR : inR y := hS.hd
  have hsz : H.size = b + w := hH.2
  refine va_newaK (c := c0) (N := len) (h := b + w) hx hb (hts _ hwd) rfl d rfl (fun q => by have := (i32_lt hyR inR0).1 q; omega) (by rw [i32_clamp hyR, hy]; rfl) hbt hR1 hR2 hsz fun H1 cA e1 z1 o1 hArr hfind => ?_
  have hlay : lay b c i = b + w := by show b + off c i = b + w; rw [hw]
  have hcA : cA = K t := by
    have h1 := (hK.2 t _ (ht K)).2
    unfold va_RA at h1
    generalize newarray.typeOf at' = ty9 at h1 hfind hp
    cases ty9 with
    | object C => exact absurd rfl (hp C)
    | _ => exact Option.some.inj (hfind.symm.trans h1)
  have hcell : H1[lay b c i]? = some (arrV (K t) len (fun j => vOf b μ (el j))) := by
    rw [hlay, e1, hcA]
    refine congrArg some (arrV_congr fun j hj => ?_)
    rw [vOf_dfl (h0 j hj).1, (h0 j hj).2]
  have h9 := kk hM (OkV.cons trivial hS.tl) hL H1 locs ls hlo ⟨hH.1.grow (by omega) (fun q hq => o1 q (by omega)) hi (by omega) ((holds_arr hcd).2 hcell), (by show H1.size = b + (w + 1); omega)⟩ ⟨Nat.le_trans hF.1 (by omega), fun q h1 h2 => (o1 q (by have := hF.1; omega)).trans (hF.2.1 q h1 h2), hF.2.2⟩
  rw [List.map_cons, show cv b (aR c i) = .ref (b + w) from congrArg Value.ref hlay] at h9
  exact h9
/-- the constructor of Object -/
theorem v_objI {z : Option Nat} (hC : Ctx x own cc rm) {idx c i : Nat} (d : decode cc pc = .ok (.invokespecial idx, 3)) (h1 : Cond.methodLink own idx Lib.objectInit ∈ wG) (h2 : Cond.instanceMethod Lib.objectInit ∈ wG) (h3 : Cond.code Lib.objectInit ⟨#[0xb1]⟩ 1 none ∈ wG) (hf : 1 ≤ rm.frames) (hl : 20 ≤ rm.locals) (hst : (S.map (fun v => (cv 0 v).category)).sum ≤ 8) (kk : V x n k z (pc + 3) L S μ) : V x n k z pc L (aR c i :: S) μ := by
  obtain ⟨p, l, e, R, s, m, args, below, meth, c0, Q, nL, H0, b, D, K⟩ := x
  intro hM hS hL H locs ls hlo hH hF
  obtain ⟨hx, hb, hml, hts, hown, hK, hlk, hRm⟩ := hC
  subst hRm
  have hW : 2 * (F0 m pc ls ((aR c i :: S).map (cv b))).monitorRoom + ((S.map (cv b)).map fun v => v.category).sum ≤ 8 := lv_room (cat_sum hst)
  exact W.objInit hx hb hown (hts _ h1) (hts _ h2) (hts _ h3) (g := F0 m pc ls ((aR c i :: S).map (cv b))) (a := lay b c i) (rest := S.map (cv b)) rfl (by rw [hml]; exact hlo.1) rfl d hf (by omega) (kk hM hS.tl hL H locs ls hlo hH hF)
/-- the words of a constructor's call -/
def CI (x : MC) (own : String) (idx : Nat) (y : MethodName) (bytes : ByteArray) (maxL : Nat) (rm : Room) (mc ms na : Nat) : Prop := match x with
  | (_, _, _, R, s, _, args, _, _, _, _, _, _, _, _, _) => CallB R s args own idx y bytes maxL none (Cond.code y bytes maxL none :: wG) rm mc ms na ∧ y.name = "<init>" ∧ (Cond.instanceMethod y).before args s = true
theorem cw_I {idx maxL na : Nat} {y : MethodName} {bytes : ByteArray} {rmc : Room} (hC : Ctx x own cc rm) (h1 : Cond.methodLink own idx y ∈ wG) (h2 : Cond.instanceMethod y ∈ wG) (h4 : Cond.initialized y.cls ∈ wG) (h5 : Cond.code y bytes maxL none ∈ wG) (hy : y.name = "<init>") (hd : y.cls ≠ "java/lang/invoke/MethodHandle" ∧ y.cls ≠ "java/lang/invoke/VarHandle" ∧ (parseMethodDescriptor y.desc).map (fun d => d.parameters.length) = some na) (hR : rmc.frames + 1 ≤ rm.frames ∧ 8 + (maxL + 11) + rmc.locals ≤ rm.locals) : CI x own idx y bytes maxL rmc rmc.cells rmc.slots na := by
  obtain ⟨p, l, e, R, s, m, args, below, meth, c0, Q, nL, H0, b, D, K⟩ := x
  obtain ⟨hx, hb, hml, hts, hown, hK, hlk, rfl⟩ := hC
  exact cwI na hts (wG_in (wG_cons h5)) rfl rfl rfl (hts _ h4) (hts _ h1) (hts _ h2) hy hd hR
theorem v_callC {z z' : Option Nat} (hC : Ctx x own cc rm) {c i idx na maxL mc ms : Nat} {y : MethodName} {bytes : ByteArray} {rmc : Room} {as : List AV} {post : MU → Prop}
    (hCT : CT y bytes maxL none rmc z z' (aR c i :: as) μ (pV post) mc ms) (cw : CI x own idx y bytes maxL rmc mc ms na) (hna : as.length = na) (hnl : ∀ v, v ∈ as → okv v → okl v) (hR1 : n + mc ≤ rm.cells) (hR2 : k + ms ≤ rm.slots) (hst : (S.map (fun v => (cv 0 v).category)).sum ≤ 8) (d : decode cc pc = .ok (.invokespecial idx, 3))
    (kk : ∀ (μ' : MU), post μ' → V x (n + mc) (k + ms) z' (pc + 3) L S μ') : V x n k z pc L (as.reverse ++ aR c i :: S) μ := by
  obtain ⟨p, l, e, R, s, m, args, below, meth, c0, Q, nL, H0, b, D, K⟩ := x
  intro hM hS hL H locs ls hlo hH hF
  obtain ⟨hx, hb, hml, hts, hown, hK, hlk, hRm⟩ := hC
  subst hRm
  have hokl : OkL ((aR c i :: as).map some) := by
    intro v hv
    rcases List.mem_cons.mp hv with q | q
    · cases q; trivial
    · exact okl_list hS hnl v q
  have hrun := va_runI (p := p) (l := l) (e := e) (R := R) (s := s) (m := m) (args := args) (below := below) (meth := meth) (c := c0) (H := H) (locs := locs) (cells := n) (slots := k) (b := lay b c i) (As := as.map (cv b)) (rest := S.map (cv b)) (g := F0 m pc ls ((as.reverse ++ aR c i :: S).map (cv b))) ⟨hx, hb, hml, hown, hts⟩ (hCT l b D K) cw
    ⟨PC.blind, fun U hU hW => ⟨rfl, hM, hokl, by rw [hU]; exact hH, va_K.moved hW.alike hK⟩⟩ rfl (by rw [List.length_map]; exact hna) hlo.1 (by simp [cv]) (lv_room (cat_sum hst)) d ⟨hR1, hR2⟩
  refine w_call hrun hF fun r μ' H1 locs1 hy hM1 hp1 hH1 hF1 => ?_
  obtain ⟨rfl, hp2⟩ := hp1
  exact kk μ' hp2 hM1 (fun v hv => hS v (List.mem_append_right _ (List.mem_cons_of_mem _ hv))) hL H1 locs1 ls hlo hH1 hF1
/-- the frame is a constructor's -/
def Ix (x : MC) : Prop := match x with
  | (_, _, _, _, _, _, _, _, meth, _, _, _, _, _, _, _) => meth.name = "<init>"
def FOf (own : String) (idx ci kf : Nat) (ty : FieldType) : Prop := ∃ (C : String) (T : u_T) (N : Nat) (ty0 : Nat → FieldType), wCl[ci]? = some (C, T, N) ∧ (∀ w ∈ u_ws C T N, w ∈ wG) ∧ (∀ k, k < N → parseFieldDescriptor (T k).2.2.1 = some (ty0 k)) ∧ (∀ a, a < N → ∀ b, b < N → a ≠ b → (T a).2.1 ≠ (T b).2.1) ∧ kf < N ∧ Cond.fieldLink own idx (T kf).1 (T kf).2.1 (T kf).2.2.1 ∈ wG ∧ (T kf).2.2.2 = true ∧ (T kf).1 = own ∧ ty0 kf = ty
/-- a final field gets its reference -/
theorem v_putR (hC : Ctx x own cc rm) (hIx : Ix x) {c i ci kf idx f j c' i' : Nat} {fds : List FD} {ty : FieldType} (hi : i < vdn c) (hp : Pres (some w) c i) (hcd : cellD c i = .inl (ci, fds)) (hfd : fds[kf]? = some (fR c' i' f j)) (hFO : FOf own idx ci kf ty) (hn : ∀ a : Nat, narrow ty (.ref a) = .ref a) (hfit : ∀ a : Nat, fits ty (.ref a) = true) (d : decode cc pc = .ok (.putfield idx, 3)) (kk : V x n k (some w) (pc + 3) L S (upM μ f j 1)) : V x n k (some w) pc L (aR c' i' :: aR c i :: S) μ := by
  obtain ⟨p, l, e, R, s, m, args, below, meth, c0, Q, nL, H0, b, D, K⟩ := x
  intro hM hS hL H locs ls hlo hH hF
  obtain ⟨hx, hb, hml, hts, hown, hK, hlk, hRm⟩ := hC
  obtain ⟨C, T, N, ty0, h1, h2, hty, hnm, h3, h4, hfin, hdecl, htyk⟩ := hFO
  obtain ⟨r, hr, hob⟩ := (holds_obj hcd).1 (hH.at hi hp).2
  have hr' : r = (C, T, N) := Option.some.inj (hr.symm.trans h1)
  subst hr'
  have hap := va_apart (own := own) hts h2 ty0 hty hnm hK h1
  obtain ⟨cell, q1, q2, q3, q4⟩ := hob
  obtain ⟨hSl, hfc, kC, hkC, hkind⟩ := hK.1 ci _ h1
  obtain ⟨cf, kf', fi, fl, hi', hsl⟩ := hSl kf h3
  have hlay := hts _ (h2 _ (u_in_lay h3))
  unfold u_lay at hlay
  rw [if_pos hfin] at hlay
  have hst := (u_facts hfc hkC (u_lays hts h2 h3) hi').1
  have hcf : m.cls = cf := by
    obtain ⟨_, _, c9, _, _, _, -, -, hf', -, -, -, hown2, -⟩ := Cond.laysFinal_spec hlay
    have e1 : c9 = cf := by have := hi'.symm.trans hf'; simp at this; exact this.1.symm
    rw [hdecl] at hown2
    rw [← e1]; exact Option.some.inj (hown.symm.trans hown2)
  have h6 := u_fits (v := .ref (lay b c' i')) hfc hkC hkind (Or.inr hlay) hi' (ty := ty) (by rw [hty kf h3, htyk]) (hn _) (hfit _)
  refine W.putFinK hx hb hown (hts _ h4) hi' hst hcf hIx (by rw [q2]; exact h6) q1 q3 (by rw [hsl]; exact k2_hasslot (q4 kf h3)) rfl rfl d fun H' e1 e2 e3 => ?_
  rw [hsl] at e1 ⊢
  have hlen : kf < (fds.map (vOf b μ)).length := by rw [List.length_map]; exact (List.getElem?_eq_some_iff.mp hfd).1
  have hob2 : t_OB (lay b c i) (D.1 ci) N (D.2 ci) H' (vp_V ((fds.map (vOf b μ)).set kf (.ref (lay b c' i')))) := t_OB.to (V := updV (vp_V (fds.map (vOf b μ))) kf (.ref (lay b c' i'))) ⟨_, e1, q2, q3, t_set q4 hap h3 _⟩ (fun j' _ => vp_updV_set hlen _ j')
  have hm := map_up (b := b) (μ := μ) (v := 1) hi hcd hfd rfl
  rw [show vOf b (upM μ f j 1) (fR c' i' f j) = .ref (lay b c' i') from if_neg (by rw [upM_at]; decide)] at hm
  rw [← hm] at hob2
  exact kk (hM.up ⟨by decide, by decide⟩) hS.tl.tl hL H' _ ls hlo ⟨hH.1.put hi ((plc_obj hcd kf).trans hfd) rfl e2 e3 ((holds_obj hcd).2 ⟨_, h1, hob2⟩), hH.2.up (fun q => by cases q) e2 e3 hi⟩ (hF.put e2 e3 (Nat.le_add_right b _))
/-- arrays over a class can be made -/
def Ax (x : MC) (C : String) : Prop := match x with
  | (_, _, _, _, s, _, _, _, _, _, _, _, _, _, _, _) => va_AO C s
theorem v_newQ (hC : Ctx x own cc rm) {c i t len idx : Nat} {el : Nat → FD} {C : String} {y : Int} (d : decode cc pc = .ok (.anewarray idx, 3)) (hcl : Cond.classLink own idx C ∈ wG) (hov : Ax x C) (ht : ∀ K, (tysK K)[t]? = some (K t, .object C)) (hcd : cellD c i = .inr (t, len, el)) (hi : i < vdn c) (hw : off c i = w) (hy : y = (len : Int)) (hbt : len * 4 ≤ 536870912) (h0 : ∀ j, j < len → μ (fdLoc (el j)).1 (fdLoc (el j)).2 = 0 ∧ dfl (el j) = .null) (hR1 : n + 1 ≤ rm.cells) (hR2 : k + len ≤ rm.slots)
    (kk : V x (n + 1) (k + len) (some (w + 1)) (pc + 3) L (aR c i :: S) μ) : V x n k (some w) pc L (aI y :: S) μ := by
  obtain ⟨p, l, e, R, s, m, args, below, meth, c0, Q, nL, H0, b, D, K⟩ := x
  intro hM hS hL H locs ls hlo hH hF
  obtain ⟨hx, hb, hml, hts, hown, hK, hlk, hRm⟩ := hC
  subst hRm
  have hyR : inR y := hS.hd
  have hsz : H.size = b + w := hH.2
  have hcn : (i32 y).toNatClampNeg = len := by rw [i32_clamp hyR, hy]; rfl
  refine W.anew hx hb hown (hts _ hcl) (va_AO.use hov) (g := F0 m pc ls ((aI y :: S).map (cv b))) rfl d rfl (fun q => by have := (i32_lt hyR inR0).1 q; omega) (by rw [hcn]; exact hbt) hR1 (by rw [hcn]; exact hR2) fun cA kA comp f1 f2 f3 f4 => ?_
  rw [hcn]
  have hlay : lay b c i = b + w := by show b + off c i = b + w; rw [hw]
  have hcA : cA = K t := by
    obtain ⟨kA9, comp9, -, -, -, h4⟩ := (hK.2 t _ (ht K)).2
    exact Option.some.inj (f1.symm.trans h4)
  generalize hH1 : H.push { cls := cA, slots := Array.replicate len Value.null, vm := .none } = H1
  have e1 : H1[b + w]? = some { cls := cA, slots := Array.replicate len Value.null, vm := .none } := by rw [← hH1, ← hsz]; simp
  have z1 : H1.size = H.size + 1 := by rw [← hH1]; simp
  have o1 : ∀ q, q < H.size → H1[q]? = H[q]? := fun q hq => by rw [← hH1, Array.getElem?_push_lt hq, Array.getElem?_eq_getElem hq]
  have hcell : H1[lay b c i]? = some (arrV (K t) len (fun j => vOf b μ (el j))) := by
    rw [hlay, e1, hcA, arrV_new]
    refine congrArg some (arrV_congr fun j hj => ?_)
    rw [vOf_dfl (h0 j hj).1, (h0 j hj).2]
  have h9 := kk hM (OkV.cons trivial hS.tl) hL H1 locs ls hlo ⟨hH.1.grow z1 o1 hi (by omega) ((holds_arr hcd).2 hcell), (by show H1.size = b + (w + 1); omega)⟩ ⟨Nat.le_trans hF.1 (by omega), fun q h1 h2 => (o1 q (Nat.lt_of_lt_of_le h1 hF.1)).trans (hF.2.1 q h1 h2), hF.2.2⟩
  rw [List.map_cons, show cv b (aR c i) = .ref (b + w) from congrArg Value.ref hlay, ← hsz] at h9
  exact h9
/-- a reference is stored into an array of references -/
theorem v_aastR (hC : Ctx x own cc rm) {c i t len c' i' ci' f j NC : Nat} {el : Nat → FD} {fds' : List FD} {C : String} {T : u_T} {y : Int} (d : decode cc pc = .ok (.aastore, 1)) (ht : ∀ K, (tysK K)[t]? = some (K t, .object C)) (hcd : cellD c i = .inr (t, len, el)) (hi : i < vdn c) (hp : Pres (some w) c i) (hcd' : cellD c' i' = .inl (ci', fds')) (hi' : i' < vdn c') (hp' : Pres (some w) c' i') (hcl' : wCl[ci']? = some (C, T, NC)) (hy : 0 ≤ y ∧ y < (len : Int)) (hel : el y.toNat = fR c' i' f j) (kk : V x n k (some w) (pc + 1) L S (upM μ f j 1)) : V x n k (some w) pc L (aR c' i' :: aI y :: aR c i :: S) μ := by
  obtain ⟨p, l, e, R, s, m, args, below, meth, c0, Q, nL, H0, b, D, K⟩ := x
  intro hM hS hL H locs ls hlo hH hF
  obtain ⟨hx, hb, hml, hts, hown, hK, hlk, hRm⟩ := hC
  have hh := (holds_arr hcd).1 (hH.at hi hp).2
  obtain ⟨r, hr, cellV, q1, q2, q3, -⟩ := (holds_obj hcd').1 (hH.at hi' hp').2
  have hyR : inR y := hS.tl.hd
  have hk : y.toNat < len := by omega
  obtain ⟨kA, comp, g1, g2, g3, -⟩ := (hK.2 t _ (ht K)).2
  obtain ⟨-, hfc, kC, hkC, hkind⟩ := hK.1 ci' _ hcl'
  have hcomp : comp = D.1 ci' := Option.some.inj (g3.symm.trans hfc)
  subst hcomp
  refine W.aast hx hb (cell := arrV (K t) len (fun j => vOf b μ (el j))) (v := lay b c' i') (j := i32 y) hh (fun q h => by cases h) (fun h => by cases h) g1 g2 rfl hkC (by
    rw [arrV_size, i32_clamp hyR]
    exact ⟨fun q => by have := (i32_lt hyR inR0).1 q; omega, hk⟩) q1 (fun q h => by rw [q3] at h; cases h) (by rw [q2]; exact hkC) (by rw [q2]; exact Jvm.Free.SB.assignable_self s.vm _) (g := F0 m pc ls ((aR c' i' :: aI y :: aR c i :: S).map (cv b))) rfl rfl d fun H' e1 e2 e3 => ?_
  rw [i32_clamp hyR] at e1 ⊢
  have hu := arr_up (b := b) (μ := μ) (v := 1) (cA := K t) hi hcd hk (by rw [hel]; rfl : fdLoc (el y.toNat) = (f, j))
  rw [hel, show vOf b (upM μ f j 1) (fR c' i' f j) = .ref (lay b c' i') from if_neg (by rw [upM_at]; decide)] at hu
  rw [hu] at e1
  exact kk (hM.up ⟨by decide, by decide⟩) hS.tl.tl.tl hL H' _ ls hlo ⟨hH.1.put hi (plc_arr hcd hk) (by rw [hel]; rfl) e2 e3 ((holds_arr hcd).2 e1), hH.2.up (fun q => by cases q) e2 e3 hi⟩ (hF.put e2 e3 (Nat.le_add_right b _))
end VB
