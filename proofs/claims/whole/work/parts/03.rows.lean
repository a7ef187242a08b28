/-! The judgement V: the machine at pc, locals L, stack S, state μ; a row an instruction. -/
abbrev MC : Type := Program × Launch × Env × Room × State × MethodId × Array Value × List Frame × Method × Code × (State → Prop) × Nat × Heap × Nat × va_G × (Nat → ClassId)
abbrev tysK (K : Nat → ClassId) : List (ClassId × FieldType) := [(K 0, .int), (K 1, .boolean), (K 2, .long), (K 3, .object "SeatOffice$School"), (K 4, .object "SeatOffice$Kind"), (K 5, .object "SeatOffice$Pupil")]
def cv (b : Nat) : AV → Value
  | .inl x => .int (i32 x)
  | .inr (.inl (c, i)) => .ref (lay b c i)
  | .inr (.inr (.inl x)) => .long (Int64.ofInt x)
  | .inr (.inr (.inr a)) => .ref a
def okv : AV → Prop
  | .inl x => inR x
  | .inr (.inl _) => True
  | .inr (.inr (.inl x)) => inR x
  | .inr (.inr (.inr _)) => True
/-- in a local: no long -/
def okl : AV → Prop
  | .inl x => inR x
  | .inr (.inl _) => True
  | .inr (.inr (.inl _)) => False
  | .inr (.inr (.inr _)) => True
abbrev OkM (μ : MU) : Prop := ∀ f j, inR (μ f j)
abbrev OkV (S : List AV) : Prop := ∀ v, v ∈ S → okv v
abbrev OkL (L : List (Option AV)) : Prop := ∀ v, some v ∈ L → okl v
theorem OkV.cons {v : AV} {S : List AV} (h : okv v) (hS : OkV S) : OkV (v :: S) := fun w hw => by
  rcases List.mem_cons.mp hw with q | q
  · rw [q]; exact h
  · exact hS w q
theorem OkV.tl {v : AV} {S : List AV} (h : OkV (v :: S)) : OkV S := fun w hw => h w (List.mem_cons_of_mem _ hw)
theorem OkV.hd {v : AV} {S : List AV} (h : OkV (v :: S)) : okv v := h v List.mem_cons_self
theorem OkL.at {L : List (Option AV)} (h : OkL L) {i : Nat} {v : AV} (hi : L[i]? = some (some v)) : okl v := h v (List.mem_of_getElem? hi)
theorem okl_v {v : AV} (h : okl v) : okv v := by
  obtain x | r | x | a := v
  · exact h
  · exact h
  · exact h.elim
  · exact h
theorem OkL.set {L : List (Option AV)} {i : Nat} {v : AV} (h : OkL L) (hv : okl v) : OkL (L.set i (some v)) := fun w hw => by
  rcases List.mem_or_eq_of_mem_set hw with q | q
  · exact h w q
  · cases q; exact hv
theorem OkM.up {μ : MU} (h : OkM μ) {f j : Nat} {v : Int} (hv : inR v) : OkM (upM μ f j v) := fun g k => by
  by_cases q : g = f ∧ k = j
  · rw [q.1, q.2, upM_at]; exact hv
  · rw [upM_ne q]; exact h g k
/-- the locals -/
def lo (b : Nat) (ls : Array Slot) (nL : Nat) (L : List (Option AV)) : Prop := ls.size = nL ∧ lv_wf ls ∧ L.length = nL ∧ ∀ (i : Nat) (v : AV), L[i]? = some (some v) → ls[i]? = some (Slot.val (cv b v))
def toL (b : Nat) (L : List (Option AV)) : List (Nat × Value) := (List.range L.length).filterMap (fun i => match L[i]? with
  | some (some v) => some (i, cv b v)
  | _ => none)
theorem toL_mem {b : Nat} {L : List (Option AV)} {i : Nat} {v : AV} (h : L[i]? = some (some v)) : (i, cv b v) ∈ toL b L := by
  refine List.mem_filterMap.mpr ⟨i, List.mem_range.mpr (List.getElem?_eq_some_iff.mp h).1, ?_⟩
  simp only [h]
theorem toL_of {b : Nat} {L : List (Option AV)} {q : Nat × Value} (h : q ∈ toL b L) : ∃ v, L[q.1]? = some (some v) ∧ q.2 = cv b v := by
  obtain ⟨i, -, hi⟩ := List.mem_filterMap.mp h
  split at hi
  · rename_i v hv
    cases hi
    exact ⟨v, hv, rfl⟩
  · cases hi
theorem lo.has {b : Nat} {ls : Array Slot} {nL : Nat} {L : List (Option AV)} (h : lo b ls nL L) : lv_has ls nL (toL b L) := by
  refine ⟨h.1, h.2.1, fun q hq => ?_⟩
  obtain ⟨v, h1, h2⟩ := toL_of hq
  rw [h2]
  exact h.2.2.2 q.1 v h1
theorem cv_cat {b : Nat} {v : AV} (h : okl v) : (cv b v).category = 1 := by
  obtain x | ⟨c, i⟩ | x | a := v
  · rfl
  · rfl
  · exact h.elim
  · rfl
theorem lo.stored {b : Nat} {ls' : Array Slot} {nL i : Nat} {L : List (Option AV)} {v : AV} (hL : OkL L) (hn : L.length = nL)
    (h : lv_has ls' nL ((i, cv b v) :: (toL b L).filter (fun q => !(q.1 == i) && !(q.1 + 1 == i && q.2.category == 2)))) : lo b ls' nL (L.set i (some v)) := by
  refine ⟨h.1, h.2.1, by rw [List.length_set]; exact hn, fun j w hj => ?_⟩
  by_cases q : j = i
  · subst q
    by_cases hl : j < L.length
    · rw [List.getElem?_set_self hl] at hj
      cases hj
      exact h.2.2 _ List.mem_cons_self
    · rw [List.getElem?_eq_none (by rw [List.length_set]; omega)] at hj
      cases hj
  · rw [List.getElem?_set_ne (Ne.symm q)] at hj
    refine h.2.2 (j, cv b w) (List.mem_cons_of_mem _ (List.mem_filter.mpr ⟨toL_mem hj, ?_⟩))
    have hc := cv_cat (b := b) (hL.at hj)
    simp [q, hc]
/-- the heap: the cells; a normal state (all references are set), or one that is being built, of a known size -/
def holds (b : Nat) (D : va_G) (K : Nat → ClassId) (μ : MU) (H : Heap) (c i : Nat) : Prop := match cellD c i with
  | .inl (ci, fds) => ∃ r : vw_C, wCl[ci]? = some r ∧ t_OB (lay b c i) (D.1 ci) r.2.2 (D.2 ci) H (vp_V (fds.map (vOf b μ)))
  | .inr (t, n, el) => H[lay b c i]? = some (arrV (K t) n (fun j => vOf b μ (el j)))
def Wd (b : Nat) (D : va_G) (K : Nat → ClassId) (μ : MU) (H : Heap) : Prop := ∀ c i, i < vdn c → lay b c i < H.size → holds b D K μ H c i
abbrev Fl (μ : MU) : Prop := ∀ f j, 100 ≤ f → μ f j = 1
def Md (z : Option Nat) (b : Nat) (μ : MU) (H : Heap) : Prop := match z with
  | none => Fl μ ∧ b + 131 ≤ H.size ∧ ∀ (q : Nat) (cell : Cell), b + 131 ≤ q → H[q]? = some cell → cell.vm.isStatics = false
  | some w => H.size = b + w
def Hp (z : Option Nat) (b : Nat) (D : va_G) (K : Nat → ClassId) (μ : MU) (H : Heap) : Prop := Wd b D K μ H ∧ Md z b μ H
abbrev Ad (b : Nat) : Nat → Prop := fun q => b ≤ q
def V (x : MC) (n k : Nat) (z : Option Nat) (pc : Nat) (L : List (Option AV)) (S : List AV) (μ : MU) : Prop := match x with
  | (p, l, e, R, s, m, args, below, meth, c, Q, nL, H0, b, D, K) => OkM μ → OkV S → OkL L → ∀ (H : Heap) (locs : List Loc) (ls : Array Slot), lo b ls nL L → Hp z b D K μ H → va_S (Ad b) H0 H locs → W p l e R s m args below meth c H locs n k Q (F0 m pc ls (S.map (cv b)))
def Ctx (x : MC) (own : String) (cc : ByteArray) (rm : Room) : Prop := match x with
  | (p, _, _, R, s, m, args, _, meth, c, _, nL, _, _, D, K) => p.tables.exec = Jvm.exec ∧ c.code = cc ∧ c.maxLocals = nL ∧ (∀ w ∈ wG, w.before args s = true) ∧ s.vm.findClass own = some m.cls ∧ va_K D wCl (tysK K) s ∧ meth.locks = false ∧ R = rm
theorem arrV_congr {cA : ClassId} {n : Nat} {f g : Nat → Value} (h : ∀ j, j < n → f j = g j) : arrV cA n f = arrV cA n g := by
  unfold arrV
  congr 2
  funext j
  exact h j.val j.isLt
theorem holds_congr {b : Nat} {D : va_G} {K : Nat → ClassId} {μ μ' : MU} {H H1 : Heap} {c i : Nat} (hv : ∀ k d, plc c i k = some d → vOf b μ' d = vOf b μ d) (hq : H1[lay b c i]? = H[lay b c i]?) (h : holds b D K μ H c i) : holds b D K μ' H1 c i := by
  unfold holds at h ⊢
  unfold plc at hv
  split at h
  · rename_i ci fds he
    simp only [he] at hv ⊢
    obtain ⟨r, h1, h2⟩ := h
    refine ⟨r, h1, ?_⟩
    have : fds.map (vOf b μ') = fds.map (vOf b μ) := List.map_congr_left fun d hd => by
      obtain ⟨k, hk⟩ := List.getElem?_of_mem hd
      exact hv k d hk
    rw [this]
    exact h2.kept hq
  · rename_i t n el he
    simp only [he] at hv ⊢
    rw [hq, h]
    congr 1
    exact arrV_congr fun j hj => (hv j (el j) (by rw [if_pos hj])).symm
theorem Wd.put {b : Nat} {D : va_G} {K : Nat → ClassId} {μ : MU} {H H1 : Heap} {c i k f j : Nat} {v : Int} {d : FD} (h : Wd b D K μ H) (hi : i < vdn c) (hk : plc c i k = some d) (hd : fdLoc d = (f, j)) (hz : H1.size = H.size) (ho : ∀ q : Nat, q ≠ lay b c i → H1[q]? = H[q]?) (hn : holds b D K (upM μ f j v) H1 c i) : Wd b D K (upM μ f j v) H1 := by
  intro c' i' hi' hs
  by_cases he : c' = c ∧ i' = i
  · rw [he.1, he.2]; exact hn
  · refine holds_congr (fun k' d' hk' => vOf_up fun q => he ?_) (ho _ fun q => he (off_inj hi' hi (by unfold lay at q; omega))) (h c' i' hi' (by omega))
    have e1 := own3_ok hi hk
    have e2 := own3_ok hi' hk'
    rw [q] at e2
    rw [hd] at e1
    have e3 := e2.symm.trans e1
    cases e3
    exact ⟨rfl, rfl⟩
theorem va_P1 {D : va_G} {cl : List vw_C} {q : Nat × va_E} {H : Heap} (h : va_at D cl q H) : va_P D cl [q] H := by
  intro k q' hk
  cases k with
  | zero => cases hk; exact h
  | succ n => cases hk
section VR
variable {x : MC} {n k : Nat} {z : Option Nat} {pc : Nat} {L : List (Option AV)} {S : List AV} {μ : MU} {own : String} {cc : ByteArray} {rm : Room}
theorem Md.lt {z : Option Nat} {b : Nat} {μ : MU} {H : Heap} {c i : Nat} (h : Md z b μ H) (hz : z = none) (hi : i < vdn c) : lay b c i < H.size := by
  subst hz
  have := h.2.1
  have := off_lt hi
  unfold lay
  omega

theorem v_iconst (hC : Ctx x own cc rm) {v : Int} (d : decode cc pc = .ok (.iconst v, 1)) (hv : inR v) (kk : V x n k z (pc + 1) L (aI v :: S) μ) : V x n k z pc L S μ := by
  obtain ⟨p, l, e, R, s, m, args, below, meth, c, Q, nL, H0, b, D, K⟩ := x
  intro hM hS hL H locs ls hlo hH hF
  obtain ⟨hx, hb, hml, hts, hown, hK, hlk, hRm⟩ := hC
  exact lv_iconst hx hb d rfl (kk hM (OkV.cons hv hS) hL H locs ls hlo hH hF)
theorem v_bipush (hC : Ctx x own cc rm) {v : Int} (d : decode cc pc = .ok (.bipush v, 2)) (hv : -128 ≤ v ∧ v ≤ 127) (kk : V x n k z (pc + 2) L (aI v :: S) μ) : V x n k z pc L S μ := by
  obtain ⟨p, l, e, R, s, m, args, below, meth, c, Q, nL, H0, b, D, K⟩ := x
  intro hM hS hL H locs ls hlo hH hF
  obtain ⟨hx, hb, hml, hts, hown, hK, hlk, hRm⟩ := hC
  exact lv_bipush hx hb d (Int8.toInt32_ofInt (by have := hv.1; exact hv.1) (by exact hv.2)) (kk hM (OkV.cons (⟨by have := hv.1; omega, by have := hv.2; omega⟩ : inR v) hS) hL H locs ls hlo hH hF)
theorem v_sipush (hC : Ctx x own cc rm) {v : Int} (d : decode cc pc = .ok (.sipush v, 3)) (hv : -32768 ≤ v ∧ v ≤ 32767) (kk : V x n k z (pc + 3) L (aI v :: S) μ) : V x n k z pc L S μ := by
  obtain ⟨p, l, e, R, s, m, args, below, meth, c, Q, nL, H0, b, D, K⟩ := x
  intro hM hS hL H locs ls hlo hH hF
  obtain ⟨hx, hb, hml, hts, hown, hK, hlk, hRm⟩ := hC
  exact lv_sipush hx hb d (Int16.toInt32_ofInt (by exact hv.1) (by exact hv.2)) (kk hM (OkV.cons (⟨by have := hv.1; omega, by have := hv.2; omega⟩ : inR v) hS) hL H locs ls hlo hH hF)
theorem v_ldc (hC : Ctx x own cc rm) {v : Int} {idx : Nat} (d : decode cc pc = .ok (.ldc idx, 2)) (hw : Jvm.Cond.constant own idx (i32 v) ∈ wG) (hv : inR v) (kk : V x n k z (pc + 2) L (aI v :: S) μ) : V x n k z pc L S μ := by
  obtain ⟨p, l, e, R, s, m, args, below, meth, c, Q, nL, H0, b, D, K⟩ := x
  intro hM hS hL H locs ls hlo hH hF
  obtain ⟨hx, hb, hml, hts, hown, hK, hlk, hRm⟩ := hC
  exact lv_ldc hx hb hown (hts _ hw) d (kk hM (OkV.cons hv hS) hL H locs ls hlo hH hF)
theorem v_iload_n (hC : Ctx x own cc rm) {y : Int} {q : Fin 4} (i : Nat) (d : decode cc pc = .ok (.iload_n q, 1)) (hi : (q : Nat) = i) (hl : L[i]? = some (some (aI y))) (kk : V x n k z (pc + 1) L (aI y :: S) μ) : V x n k z pc L S μ := by
  obtain ⟨p, l, e, R, s, m, args, below, meth, c, Q, nL, H0, b, D, K⟩ := x
  intro hM hS hL H locs ls hlo hH hF
  obtain ⟨hx, hb, hml, hts, hown, hK, hlk, hRm⟩ := hC
  exact lv_iload_n hx hb d hi (hlo.2.2.2 i _ hl) (kk hM (OkV.cons (okl_v (hL.at hl)) hS) hL H locs ls hlo hH hF)
theorem v_iload (hC : Ctx x own cc rm) {y : Int} {i : Nat} (d : decode cc pc = .ok (.iload i, 2)) (hl : L[i]? = some (some (aI y))) (kk : V x n k z (pc + 2) L (aI y :: S) μ) : V x n k z pc L S μ := by
  obtain ⟨p, l, e, R, s, m, args, below, meth, c, Q, nL, H0, b, D, K⟩ := x
  intro hM hS hL H locs ls hlo hH hF
  obtain ⟨hx, hb, hml, hts, hown, hK, hlk, hRm⟩ := hC
  exact lv_iload hx hb d (hlo.2.2.2 i _ hl) (kk hM (OkV.cons (okl_v (hL.at hl)) hS) hL H locs ls hlo hH hF)
theorem v_aload_n (hC : Ctx x own cc rm) {y1 y2 : Nat} {q : Fin 4} (i : Nat) (d : decode cc pc = .ok (.aload_n q, 1)) (hi : (q : Nat) = i) (hl : L[i]? = some (some (aR y1 y2))) (kk : V x n k z (pc + 1) L (aR y1 y2 :: S) μ) : V x n k z pc L S μ := by
  obtain ⟨p, l, e, R, s, m, args, below, meth, c, Q, nL, H0, b, D, K⟩ := x
  intro hM hS hL H locs ls hlo hH hF
  obtain ⟨hx, hb, hml, hts, hown, hK, hlk, hRm⟩ := hC
  exact lv_aload_n hx hb d hi (hlo.2.2.2 i _ hl) (kk hM (OkV.cons (okl_v (hL.at hl)) hS) hL H locs ls hlo hH hF)
theorem v_aload (hC : Ctx x own cc rm) {y1 y2 : Nat} {i : Nat} (d : decode cc pc = .ok (.aload i, 2)) (hl : L[i]? = some (some (aR y1 y2))) (kk : V x n k z (pc + 2) L (aR y1 y2 :: S) μ) : V x n k z pc L S μ := by
  obtain ⟨p, l, e, R, s, m, args, below, meth, c, Q, nL, H0, b, D, K⟩ := x
  intro hM hS hL H locs ls hlo hH hF
  obtain ⟨hx, hb, hml, hts, hown, hK, hlk, hRm⟩ := hC
  exact lv_aload hx hb d (hlo.2.2.2 i _ hl) (kk hM (OkV.cons (okl_v (hL.at hl)) hS) hL H locs ls hlo hH hF)
theorem v_aloadX_n (hC : Ctx x own cc rm) {y : Nat} {q : Fin 4} (i : Nat) (d : decode cc pc = .ok (.aload_n q, 1)) (hi : (q : Nat) = i) (hl : L[i]? = some (some (aX y))) (kk : V x n k z (pc + 1) L (aX y :: S) μ) : V x n k z pc L S μ := by
  obtain ⟨p, l, e, R, s, m, args, below, meth, c, Q, nL, H0, b, D, K⟩ := x
  intro hM hS hL H locs ls hlo hH hF
  obtain ⟨hx, hb, hml, hts, hown, hK, hlk, hRm⟩ := hC
  exact lv_aload_n hx hb d hi (hlo.2.2.2 i _ hl) (kk hM (OkV.cons (okl_v (hL.at hl)) hS) hL H locs ls hlo hH hF)
theorem v_aloadX (hC : Ctx x own cc rm) {y : Nat} {i : Nat} (d : decode cc pc = .ok (.aload i, 2)) (hl : L[i]? = some (some (aX y))) (kk : V x n k z (pc + 2) L (aX y :: S) μ) : V x n k z pc L S μ := by
  obtain ⟨p, l, e, R, s, m, args, below, meth, c, Q, nL, H0, b, D, K⟩ := x
  intro hM hS hL H locs ls hlo hH hF
  obtain ⟨hx, hb, hml, hts, hown, hK, hlk, hRm⟩ := hC
  exact lv_aload hx hb d (hlo.2.2.2 i _ hl) (kk hM (OkV.cons (okl_v (hL.at hl)) hS) hL H locs ls hlo hH hF)
theorem OkV_l {v : AV} (h : okv v) (hc : ∀ y, v ≠ aL y) : okl v := by
  obtain x | r | x | a := v
  · exact h
  · exact h
  · exact absurd rfl (hc x)
  · exact h
theorem v_istore_n (hC : Ctx x own cc rm) {y : Int} {q : Fin 4} (i : Nat) (d : decode cc pc = .ok (.istore_n q, 1)) (hi : (q : Nat) = i) (hn : i < L.length) (kk : V x n k z (pc + 1) (L.set i (some (aI y))) S μ) : V x n k z pc L (aI y :: S) μ := by
  obtain ⟨p, l, e, R, s, m, args, below, meth, c, Q, nL, H0, b, D, K⟩ := x
  intro hM hS hL H locs ls hlo hH hF
  obtain ⟨hx, hb, hml, hts, hown, hK, hlk, hRm⟩ := hC
  exact lv_istore_n hx hb d hi hlo.has (Nat.lt_of_lt_of_eq hn hlo.2.2.1) rfl (fun ls' h' => kk hM hS.tl (hL.set (OkV_l hS.hd (fun _ q => by cases q))) H locs ls' (lo.stored hL hlo.2.2.1 h') hH hF)
theorem v_istore (hC : Ctx x own cc rm) {y : Int} {i : Nat} (d : decode cc pc = .ok (.istore i, 2)) (hn : i < L.length) (kk : V x n k z (pc + 2) (L.set i (some (aI y))) S μ) : V x n k z pc L (aI y :: S) μ := by
  obtain ⟨p, l, e, R, s, m, args, below, meth, c, Q, nL, H0, b, D, K⟩ := x
  intro hM hS hL H locs ls hlo hH hF
  obtain ⟨hx, hb, hml, hts, hown, hK, hlk, hRm⟩ := hC
  exact lv_istore hx hb d hlo.has (Nat.lt_of_lt_of_eq hn hlo.2.2.1) rfl (fun ls' h' => kk hM hS.tl (hL.set (OkV_l hS.hd (fun _ q => by cases q))) H locs ls' (lo.stored hL hlo.2.2.1 h') hH hF)
theorem v_astore_n (hC : Ctx x own cc rm) {y1 y2 : Nat} {q : Fin 4} (i : Nat) (d : decode cc pc = .ok (.astore_n q, 1)) (hi : (q : Nat) = i) (hn : i < L.length) (kk : V x n k z (pc + 1) (L.set i (some (aR y1 y2))) S μ) : V x n k z pc L (aR y1 y2 :: S) μ := by
  obtain ⟨p, l, e, R, s, m, args, below, meth, c, Q, nL, H0, b, D, K⟩ := x
  intro hM hS hL H locs ls hlo hH hF
  obtain ⟨hx, hb, hml, hts, hown, hK, hlk, hRm⟩ := hC
  exact lv_astore_n hx hb d hi hlo.has (Nat.lt_of_lt_of_eq hn hlo.2.2.1) rfl (fun ls' h' => kk hM hS.tl (hL.set (OkV_l hS.hd (fun _ q => by cases q))) H locs ls' (lo.stored hL hlo.2.2.1 h') hH hF)
theorem v_astore (hC : Ctx x own cc rm) {y1 y2 : Nat} {i : Nat} (d : decode cc pc = .ok (.astore i, 2)) (hn : i < L.length) (kk : V x n k z (pc + 2) (L.set i (some (aR y1 y2))) S μ) : V x n k z pc L (aR y1 y2 :: S) μ := by
  obtain ⟨p, l, e, R, s, m, args, below, meth, c, Q, nL, H0, b, D, K⟩ := x
  intro hM hS hL H locs ls hlo hH hF
  obtain ⟨hx, hb, hml, hts, hown, hK, hlk, hRm⟩ := hC
  exact lv_astore hx hb d hlo.has (Nat.lt_of_lt_of_eq hn hlo.2.2.1) rfl (fun ls' h' => kk hM hS.tl (hL.set (OkV_l hS.hd (fun _ q => by cases q))) H locs ls' (lo.stored hL hlo.2.2.1 h') hH hF)
theorem v_astoreX_n (hC : Ctx x own cc rm) {y : Nat} {q : Fin 4} (i : Nat) (d : decode cc pc = .ok (.astore_n q, 1)) (hi : (q : Nat) = i) (hn : i < L.length) (kk : V x n k z (pc + 1) (L.set i (some (aX y))) S μ) : V x n k z pc L (aX y :: S) μ := by
  obtain ⟨p, l, e, R, s, m, args, below, meth, c, Q, nL, H0, b, D, K⟩ := x
  intro hM hS hL H locs ls hlo hH hF
  obtain ⟨hx, hb, hml, hts, hown, hK, hlk, hRm⟩ := hC
  exact lv_astore_n hx hb d hi hlo.has (Nat.lt_of_lt_of_eq hn hlo.2.2.1) rfl (fun ls' h' => kk hM hS.tl (hL.set (OkV_l hS.hd (fun _ q => by cases q))) H locs ls' (lo.stored hL hlo.2.2.1 h') hH hF)
theorem v_astoreX (hC : Ctx x own cc rm) {y : Nat} {i : Nat} (d : decode cc pc = .ok (.astore i, 2)) (hn : i < L.length) (kk : V x n k z (pc + 2) (L.set i (some (aX y))) S μ) : V x n k z pc L (aX y :: S) μ := by
  obtain ⟨p, l, e, R, s, m, args, below, meth, c, Q, nL, H0, b, D, K⟩ := x
  intro hM hS hL H locs ls hlo hH hF
  obtain ⟨hx, hb, hml, hts, hown, hK, hlk, hRm⟩ := hC
  exact lv_astore hx hb d hlo.has (Nat.lt_of_lt_of_eq hn hlo.2.2.1) rfl (fun ls' h' => kk hM hS.tl (hL.set (OkV_l hS.hd (fun _ q => by cases q))) H locs ls' (lo.stored hL hlo.2.2.1 h') hH hF)
theorem v_iinc (hC : Ctx x own cc rm) {y w : Int} {i : Nat} (d : decode cc pc = .ok (.iinc i w, 3)) (hl : L[i]? = some (some (aI y))) (hr : inR (y + w)) (kk : V x n k z (pc + 3) (L.set i (some (aI (y + w)))) S μ) : V x n k z pc L S μ := by
  obtain ⟨p, l, e, R, s, m, args, below, meth, c, Q, nL, H0, b, D, K⟩ := x
  intro hM hS hL H locs ls hlo hH hF
  obtain ⟨hx, hb, hml, hts, hown, hK, hlk, hRm⟩ := hC
  obtain ⟨q, hq⟩ := List.getElem?_of_mem (toL_mem (b := b) hl)
  exact lv_iinc hx hb d hlo.has hq (Int32.ofInt_add y w).symm (Nat.lt_of_lt_of_eq (List.getElem?_eq_some_iff.mp hl).1 hlo.2.2.1) rfl (fun ls' h' => kk hM hS (hL.set hr) H locs ls' (lo.stored hL hlo.2.2.1 h') hH hF)
theorem v_iadd (hC : Ctx x own cc rm) {y w : Int} (d : decode cc pc = .ok (.iadd, 1)) (hr : inR (y + w)) (kk : V x n k z (pc + 1) L (aI (y + w) :: S) μ) : V x n k z pc L (aI w :: aI y :: S) μ := by
  obtain ⟨p, l, e, R, s, m, args, below, meth, c, Q, nL, H0, b, D, K⟩ := x
  intro hM hS hL H locs ls hlo hH hF
  obtain ⟨hx, hb, hml, hts, hown, hK, hlk, hRm⟩ := hC
  refine lv_iadd hx hb d ?_
  have h9 := kk hM (OkV.cons hr hS.tl.tl) hL H locs ls hlo hH hF
  rw [List.map_cons, show cv b (aI (y + w)) = .int (i32 y + i32 w) from congrArg Value.int (Int32.ofInt_add y w)] at h9
  exact h9
theorem v_isub (hC : Ctx x own cc rm) {y w : Int} (d : decode cc pc = .ok (.isub, 1)) (hr : inR (y - w)) (kk : V x n k z (pc + 1) L (aI (y - w) :: S) μ) : V x n k z pc L (aI w :: aI y :: S) μ := by
  obtain ⟨p, l, e, R, s, m, args, below, meth, c, Q, nL, H0, b, D, K⟩ := x
  intro hM hS hL H locs ls hlo hH hF
  obtain ⟨hx, hb, hml, hts, hown, hK, hlk, hRm⟩ := hC
  refine lv_isub hx hb d ?_
  have h9 := kk hM (OkV.cons hr hS.tl.tl) hL H locs ls hlo hH hF
  rw [List.map_cons, show cv b (aI (y - w)) = .int (i32 y - i32 w) from congrArg Value.int (Int32.ofInt_sub y w)] at h9
  exact h9
theorem v_imul (hC : Ctx x own cc rm) {y w : Int} (d : decode cc pc = .ok (.imul, 1)) (hr : inR (y * w)) (kk : V x n k z (pc + 1) L (aI (y * w) :: S) μ) : V x n k z pc L (aI w :: aI y :: S) μ := by
  obtain ⟨p, l, e, R, s, m, args, below, meth, c, Q, nL, H0, b, D, K⟩ := x
  intro hM hS hL H locs ls hlo hH hF
  obtain ⟨hx, hb, hml, hts, hown, hK, hlk, hRm⟩ := hC
  refine lv_imul hx hb d ?_
  have h9 := kk hM (OkV.cons hr hS.tl.tl) hL H locs ls hlo hH hF
  rw [List.map_cons, show cv b (aI (y * w)) = .int (i32 y * i32 w) from congrArg Value.int (Int32.ofInt_mul y w)] at h9
  exact h9
theorem v_iand (hC : Ctx x own cc rm) {y w : Int} (d : decode cc pc = .ok (.iand, 1)) (kk : V x n k z (pc + 1) L (aI (andI y w) :: S) μ) : V x n k z pc L (aI w :: aI y :: S) μ := by
  obtain ⟨p, l, e, R, s, m, args, below, meth, c, Q, nL, H0, b, D, K⟩ := x
  intro hM hS hL H locs ls hlo hH hF
  obtain ⟨hx, hb, hml, hts, hown, hK, hlk, hRm⟩ := hC
  refine lv_iand hx hb d ?_
  have h9 := kk hM (OkV.cons (andI_R y w) hS.tl.tl) hL H locs ls hlo hH hF
  rw [List.map_cons, show cv b (aI (andI y w)) = .int (i32 y &&& i32 w) from congrArg Value.int (i32_of _)] at h9
  exact h9
theorem v_dupR (hC : Ctx x own cc rm) {y1 y2 : Nat} (d : decode cc pc = .ok (.dup, 1)) (kk : V x n k z (pc + 1) L (aR y1 y2 :: aR y1 y2 :: S) μ) : V x n k z pc L (aR y1 y2 :: S) μ := by
  obtain ⟨p, l, e, R, s, m, args, below, meth, c, Q, nL, H0, b, D, K⟩ := x
  intro hM hS hL H locs ls hlo hH hF
  obtain ⟨hx, hb, hml, hts, hown, hK, hlk, hRm⟩ := hC
  exact lv_dup hx hb d rfl (kk hM (OkV.cons hS.hd hS) hL H locs ls hlo hH hF)
theorem v_dupI (hC : Ctx x own cc rm) {y : Int} (d : decode cc pc = .ok (.dup, 1)) (kk : V x n k z (pc + 1) L (aI y :: aI y :: S) μ) : V x n k z pc L (aI y :: S) μ := by
  obtain ⟨p, l, e, R, s, m, args, below, meth, c, Q, nL, H0, b, D, K⟩ := x
  intro hM hS hL H locs ls hlo hH hF
  obtain ⟨hx, hb, hml, hts, hown, hK, hlk, hRm⟩ := hC
  exact lv_dup hx hb d rfl (kk hM (OkV.cons hS.hd hS) hL H locs ls hlo hH hF)
theorem v_dup2 (hC : Ctx x own cc rm) {y : Int} {y1 y2 : Nat} (d : decode cc pc = .ok (.dup2, 1)) (kk : V x n k z (pc + 1) L (aI y :: aR y1 y2 :: aI y :: aR y1 y2 :: S) μ) : V x n k z pc L (aI y :: aR y1 y2 :: S) μ := by
  obtain ⟨p, l, e, R, s, m, args, below, meth, c, Q, nL, H0, b, D, K⟩ := x
  intro hM hS hL H locs ls hlo hH hF
  obtain ⟨hx, hb, hml, hts, hown, hK, hlk, hRm⟩ := hC
  exact lv_dup2_11 hx hb d rfl rfl (kk hM (OkV.cons hS.hd (OkV.cons hS.tl.hd hS)) hL H locs ls hlo hH hF)
theorem v_popI (hC : Ctx x own cc rm) {y : Int} (d : decode cc pc = .ok (.pop, 1)) (kk : V x n k z (pc + 1) L S μ) : V x n k z pc L (aI y :: S) μ := by
  obtain ⟨p, l, e, R, s, m, args, below, meth, c, Q, nL, H0, b, D, K⟩ := x
  intro hM hS hL H locs ls hlo hH hF
  obtain ⟨hx, hb, hml, hts, hown, hK, hlk, hRm⟩ := hC
  exact lv_pop hx hb d rfl (kk hM hS.tl hL H locs ls hlo hH hF)
theorem v_goto (hC : Ctx x own cc rm) {o : Int} (t : Nat) (d : decode cc pc = .ok (.goto o, 3)) (ht : (pc : Int) + o = (t : Int)) (kk : V x n k z t L S μ) : V x n k z pc L S μ := by
  obtain ⟨p, l, e, R, s, m, args, below, meth, c, Q, nL, H0, b, D, K⟩ := x
  intro hM hS hL H locs ls hlo hH hF
  obtain ⟨hx, hb, hml, hts, hown, hK, hlk, hRm⟩ := hC
  exact lv_goto hx hb d ht (kk hM hS hL H locs ls hlo hH hF)
theorem v_icmp_eq (hC : Ctx x own cc rm) {y w : Int} {o : Int} (t : Nat) (d : decode cc pc = .ok (.if_icmp .eq o, 3)) (ht : (pc : Int) + o = (t : Int)) (kt : (y = w) → V x n k z t L S μ) (kf : (¬ y = w) → V x n k z (pc + 3) L S μ) : V x n k z pc L (aI w :: aI y :: S) μ := by
  obtain ⟨p, l, e, R, s, m, args, below, meth, c, Q, nL, H0, b, D, K⟩ := x
  intro hM hS hL H locs ls hlo hH hF
  obtain ⟨hx, hb, hml, hts, hown, hK, hlk, hRm⟩ := hC
  have hw : inR w := hS.hd
  have hy : inR y := hS.tl.hd
  have HS := hS.tl.tl
  exact lv_icmp_eq hx hb d ht (fun h => kt ((i32_eq hy hw).1 h) hM HS hL H locs ls hlo hH hF) (fun h => kf (fun q => h ((i32_eq hy hw).2 q)) hM HS hL H locs ls hlo hH hF)
theorem v_if_eq (hC : Ctx x own cc rm) {y : Int} {o : Int} (t : Nat) (d : decode cc pc = .ok (.ifCond .eq o, 3)) (ht : (pc : Int) + o = (t : Int)) (kt : (y = 0) → V x n k z t L S μ) (kf : (¬ y = 0) → V x n k z (pc + 3) L S μ) : V x n k z pc L (aI y :: S) μ := by
  obtain ⟨p, l, e, R, s, m, args, below, meth, c, Q, nL, H0, b, D, K⟩ := x
  intro hM hS hL H locs ls hlo hH hF
  obtain ⟨hx, hb, hml, hts, hown, hK, hlk, hRm⟩ := hC
  have hw : inR 0 := inR0
  have hy : inR y := hS.hd
  have HS := hS.tl
  exact lv_if_eq hx hb d ht (fun h => kt ((i32_eq hy hw).1 h) hM HS hL H locs ls hlo hH hF) (fun h => kf (fun q => h ((i32_eq hy hw).2 q)) hM HS hL H locs ls hlo hH hF)
theorem v_icmp_ne (hC : Ctx x own cc rm) {y w : Int} {o : Int} (t : Nat) (d : decode cc pc = .ok (.if_icmp .ne o, 3)) (ht : (pc : Int) + o = (t : Int)) (kt : (¬ y = w) → V x n k z t L S μ) (kf : (y = w) → V x n k z (pc + 3) L S μ) : V x n k z pc L (aI w :: aI y :: S) μ := by
  obtain ⟨p, l, e, R, s, m, args, below, meth, c, Q, nL, H0, b, D, K⟩ := x
  intro hM hS hL H locs ls hlo hH hF
  obtain ⟨hx, hb, hml, hts, hown, hK, hlk, hRm⟩ := hC
  have hw : inR w := hS.hd
  have hy : inR y := hS.tl.hd
  have HS := hS.tl.tl
  exact lv_icmp_ne hx hb d ht (fun h => kt (fun q => h ((i32_eq hy hw).2 q)) hM HS hL H locs ls hlo hH hF) (fun h => kf ((i32_eq hy hw).1 h) hM HS hL H locs ls hlo hH hF)
theorem v_if_ne (hC : Ctx x own cc rm) {y : Int} {o : Int} (t : Nat) (d : decode cc pc = .ok (.ifCond .ne o, 3)) (ht : (pc : Int) + o = (t : Int)) (kt : (¬ y = 0) → V x n k z t L S μ) (kf : (y = 0) → V x n k z (pc + 3) L S μ) : V x n k z pc L (aI y :: S) μ := by
  obtain ⟨p, l, e, R, s, m, args, below, meth, c, Q, nL, H0, b, D, K⟩ := x
  intro hM hS hL H locs ls hlo hH hF
  obtain ⟨hx, hb, hml, hts, hown, hK, hlk, hRm⟩ := hC
  have hw : inR 0 := inR0
  have hy : inR y := hS.hd
  have HS := hS.tl
  exact lv_if_ne hx hb d ht (fun h => kt (fun q => h ((i32_eq hy hw).2 q)) hM HS hL H locs ls hlo hH hF) (fun h => kf ((i32_eq hy hw).1 h) hM HS hL H locs ls hlo hH hF)
theorem v_icmp_lt (hC : Ctx x own cc rm) {y w : Int} {o : Int} (t : Nat) (d : decode cc pc = .ok (.if_icmp .lt o, 3)) (ht : (pc : Int) + o = (t : Int)) (kt : (y < w) → V x n k z t L S μ) (kf : (¬ y < w) → V x n k z (pc + 3) L S μ) : V x n k z pc L (aI w :: aI y :: S) μ := by
  obtain ⟨p, l, e, R, s, m, args, below, meth, c, Q, nL, H0, b, D, K⟩ := x
  intro hM hS hL H locs ls hlo hH hF
  obtain ⟨hx, hb, hml, hts, hown, hK, hlk, hRm⟩ := hC
  have hw : inR w := hS.hd
  have hy : inR y := hS.tl.hd
  have HS := hS.tl.tl
  exact lv_icmp_lt hx hb d ht (fun h => kt ((i32_lt hy hw).1 h) hM HS hL H locs ls hlo hH hF) (fun h => kf (fun q => h ((i32_lt hy hw).2 q)) hM HS hL H locs ls hlo hH hF)
theorem v_if_lt (hC : Ctx x own cc rm) {y : Int} {o : Int} (t : Nat) (d : decode cc pc = .ok (.ifCond .lt o, 3)) (ht : (pc : Int) + o = (t : Int)) (kt : (y < 0) → V x n k z t L S μ) (kf : (¬ y < 0) → V x n k z (pc + 3) L S μ) : V x n k z pc L (aI y :: S) μ := by
  obtain ⟨p, l, e, R, s, m, args, below, meth, c, Q, nL, H0, b, D, K⟩ := x
  intro hM hS hL H locs ls hlo hH hF
  obtain ⟨hx, hb, hml, hts, hown, hK, hlk, hRm⟩ := hC
  have hw : inR 0 := inR0
  have hy : inR y := hS.hd
  have HS := hS.tl
  exact lv_if_lt hx hb d ht (fun h => kt ((i32_lt hy hw).1 h) hM HS hL H locs ls hlo hH hF) (fun h => kf (fun q => h ((i32_lt hy hw).2 q)) hM HS hL H locs ls hlo hH hF)
theorem v_icmp_ge (hC : Ctx x own cc rm) {y w : Int} {o : Int} (t : Nat) (d : decode cc pc = .ok (.if_icmp .ge o, 3)) (ht : (pc : Int) + o = (t : Int)) (kt : (w ≤ y) → V x n k z t L S μ) (kf : (¬ w ≤ y) → V x n k z (pc + 3) L S μ) : V x n k z pc L (aI w :: aI y :: S) μ := by
  obtain ⟨p, l, e, R, s, m, args, below, meth, c, Q, nL, H0, b, D, K⟩ := x
  intro hM hS hL H locs ls hlo hH hF
  obtain ⟨hx, hb, hml, hts, hown, hK, hlk, hRm⟩ := hC
  have hw : inR w := hS.hd
  have hy : inR y := hS.tl.hd
  have HS := hS.tl.tl
  exact lv_icmp_ge hx hb d ht (fun h => kt ((i32_le hw hy).1 h) hM HS hL H locs ls hlo hH hF) (fun h => kf (fun q => h ((i32_le hw hy).2 q)) hM HS hL H locs ls hlo hH hF)
theorem v_if_ge (hC : Ctx x own cc rm) {y : Int} {o : Int} (t : Nat) (d : decode cc pc = .ok (.ifCond .ge o, 3)) (ht : (pc : Int) + o = (t : Int)) (kt : (0 ≤ y) → V x n k z t L S μ) (kf : (¬ 0 ≤ y) → V x n k z (pc + 3) L S μ) : V x n k z pc L (aI y :: S) μ := by
  obtain ⟨p, l, e, R, s, m, args, below, meth, c, Q, nL, H0, b, D, K⟩ := x
  intro hM hS hL H locs ls hlo hH hF
  obtain ⟨hx, hb, hml, hts, hown, hK, hlk, hRm⟩ := hC
  have hw : inR 0 := inR0
  have hy : inR y := hS.hd
  have HS := hS.tl
  exact lv_if_ge hx hb d ht (fun h => kt ((i32_le hw hy).1 h) hM HS hL H locs ls hlo hH hF) (fun h => kf (fun q => h ((i32_le hw hy).2 q)) hM HS hL H locs ls hlo hH hF)
theorem v_icmp_gt (hC : Ctx x own cc rm) {y w : Int} {o : Int} (t : Nat) (d : decode cc pc = .ok (.if_icmp .gt o, 3)) (ht : (pc : Int) + o = (t : Int)) (kt : (w < y) → V x n k z t L S μ) (kf : (¬ w < y) → V x n k z (pc + 3) L S μ) : V x n k z pc L (aI w :: aI y :: S) μ := by
  obtain ⟨p, l, e, R, s, m, args, below, meth, c, Q, nL, H0, b, D, K⟩ := x
  intro hM hS hL H locs ls hlo hH hF
  obtain ⟨hx, hb, hml, hts, hown, hK, hlk, hRm⟩ := hC
  have hw : inR w := hS.hd
  have hy : inR y := hS.tl.hd
  have HS := hS.tl.tl
  exact lv_icmp_gt hx hb d ht (fun h => kt ((i32_lt hw hy).1 h) hM HS hL H locs ls hlo hH hF) (fun h => kf (fun q => h ((i32_lt hw hy).2 q)) hM HS hL H locs ls hlo hH hF)
theorem v_if_gt (hC : Ctx x own cc rm) {y : Int} {o : Int} (t : Nat) (d : decode cc pc = .ok (.ifCond .gt o, 3)) (ht : (pc : Int) + o = (t : Int)) (kt : (0 < y) → V x n k z t L S μ) (kf : (¬ 0 < y) → V x n k z (pc + 3) L S μ) : V x n k z pc L (aI y :: S) μ := by
  obtain ⟨p, l, e, R, s, m, args, below, meth, c, Q, nL, H0, b, D, K⟩ := x
  intro hM hS hL H locs ls hlo hH hF
  obtain ⟨hx, hb, hml, hts, hown, hK, hlk, hRm⟩ := hC
  have hw : inR 0 := inR0
  have hy : inR y := hS.hd
  have HS := hS.tl
  exact lv_if_gt hx hb d ht (fun h => kt ((i32_lt hw hy).1 h) hM HS hL H locs ls hlo hH hF) (fun h => kf (fun q => h ((i32_lt hw hy).2 q)) hM HS hL H locs ls hlo hH hF)
theorem v_icmp_le (hC : Ctx x own cc rm) {y w : Int} {o : Int} (t : Nat) (d : decode cc pc = .ok (.if_icmp .le o, 3)) (ht : (pc : Int) + o = (t : Int)) (kt : (y ≤ w) → V x n k z t L S μ) (kf : (¬ y ≤ w) → V x n k z (pc + 3) L S μ) : V x n k z pc L (aI w :: aI y :: S) μ := by
  obtain ⟨p, l, e, R, s, m, args, below, meth, c, Q, nL, H0, b, D, K⟩ := x
  intro hM hS hL H locs ls hlo hH hF
  obtain ⟨hx, hb, hml, hts, hown, hK, hlk, hRm⟩ := hC
  have hw : inR w := hS.hd
  have hy : inR y := hS.tl.hd
  have HS := hS.tl.tl
  exact lv_icmp_le hx hb d ht (fun h => kt ((i32_le hy hw).1 h) hM HS hL H locs ls hlo hH hF) (fun h => kf (fun q => h ((i32_le hy hw).2 q)) hM HS hL H locs ls hlo hH hF)
theorem v_if_le (hC : Ctx x own cc rm) {y : Int} {o : Int} (t : Nat) (d : decode cc pc = .ok (.ifCond .le o, 3)) (ht : (pc : Int) + o = (t : Int)) (kt : (y ≤ 0) → V x n k z t L S μ) (kf : (¬ y ≤ 0) → V x n k z (pc + 3) L S μ) : V x n k z pc L (aI y :: S) μ := by
  obtain ⟨p, l, e, R, s, m, args, below, meth, c, Q, nL, H0, b, D, K⟩ := x
  intro hM hS hL H locs ls hlo hH hF
  obtain ⟨hx, hb, hml, hts, hown, hK, hlk, hRm⟩ := hC
  have hw : inR 0 := inR0
  have hy : inR y := hS.hd
  have HS := hS.tl
  exact lv_if_le hx hb d ht (fun h => kt ((i32_le hy hw).1 h) hM HS hL H locs ls hlo hH hF) (fun h => kf (fun q => h ((i32_le hy hw).2 q)) hM HS hL H locs ls hlo hH hF)
theorem v_tsw (hC : Ctx x own cc rm) {dflt lo' hi : Int} {offs : Array Int} {len : Nat} {y : Int} (d : decode cc pc = .ok (.tableswitch dflt lo' hi offs, len)) (td : Nat) (htd : (pc : Int) + dflt = (td : Int)) (tg : Nat → Nat) (htg : ∀ j, j < offs.size → ∃ o, offs[j]? = some o ∧ (pc : Int) + o = (tg j : Int)) (hsz : (offs.size : Int) = hi - lo' + 1)
    (kd : (y < lo' ∨ hi < y) → V x n k z td L S μ) (kk : ∀ j : Nat, j < offs.size → y = lo' + (j : Int) → V x n k z (tg j) L S μ) : V x n k z pc L (aI y :: S) μ := by
  obtain ⟨p, l, e, R, s, m, args, below, meth, c, Q, nL, H0, b, D, K⟩ := x
  intro hM hS hL H locs ls hlo hH hF
  obtain ⟨hx, hb, hml, hts, hown, hK, hlk, hRm⟩ := hC
  have hy : inR y := hS.hd
  by_cases h1 : y < lo' ∨ hi < y
  · exact lv_tableOut hx hb d (by rw [i32_toInt hy]; exact h1) htd (kd h1 hM hS.tl hL H locs ls hlo hH hF)
  · obtain ⟨o, ho, hto⟩ := htg (y - lo').toNat (by omega)
    refine lv_tableIn hx hb d (by rw [i32_toInt hy]; omega) (by rw [i32_toInt hy]; omega) (by rw [i32_toInt hy]; exact ho) hto (kk (y - lo').toNat (by omega) (by omega) hM hS.tl hL H locs ls hlo hH hF)
end VR
