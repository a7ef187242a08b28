/-! Contracts of constructors. -/
def AO3 (U : State) : Prop := va_AO "SeatOffice$School" U ∧ va_AO "SeatOffice$Kind" U ∧ va_AO "SeatOffice$Pupil" U
theorem AO3.moved {u U : State} (hvm : u.vm.Alike U.vm) (h : AO3 u) : AO3 U := ⟨h.1.moved hvm, h.2.1.moved hvm, h.2.2.moved hvm⟩
def A3x (x : MC) : Prop := match x with
  | (_, _, _, _, s, _, _, _, _, _, _, _, _, _, _, _) => AO3 s
theorem A3x.school {x : MC} (h : A3x x) : Ax x "SeatOffice$School" := by
  obtain ⟨p, l, e, R, s, m, args, below, meth, c0, Q, nL, H0, b, D, K⟩ := x
  exact h.1
theorem A3x.kind {x : MC} (h : A3x x) : Ax x "SeatOffice$Kind" := by
  obtain ⟨p, l, e, R, s, m, args, below, meth, c0, Q, nL, H0, b, D, K⟩ := x
  exact h.2.1
theorem A3x.pupil {x : MC} (h : A3x x) : Ax x "SeatOffice$Pupil" := by
  obtain ⟨p, l, e, R, s, m, args, below, meth, c0, Q, nL, H0, b, D, K⟩ := x
  exact h.2.2
def PCA (b : Nat) (D : va_G) (K : Nat → ClassId) (z : Option Nat) (as : List AV) (μ : MU) : Array Value → State → Prop := fun a U => PC b D K z as μ a U ∧ AO3 U
theorem PCA.blind {b : Nat} {D : va_G} {K : Nat → ClassId} {z : Option Nat} {as : List AV} {μ : MU} : FrameBlind (PCA b D K z as μ) := fun a U g mk q => ⟨PC.blind a U g mk q.1, AO3.moved (u := U) (U := U.calling g mk a) (Vm.Alike.refl U.vm) q.2⟩
def CTA (y : MethodName) (cc : ByteArray) (maxL : Nat) (rm : Room) (z z' : Option Nat) (as : List AV) (μ : MU) (post : MU → Prop) (mc ms : Nat) : Prop := ∀ (l : Launch) (b : Nat) (D : va_G) (K : Nat → ClassId), Met l y (Cond.code y cc maxL none :: wG) rm (PCA b D K z as μ) (QR b D K z' (pV post)) mc ms (Ad b)
theorem met_ofA {l : Launch} {y : MethodName} {rm : Room} {cc : ByteArray} {maxL : Nat} {b : Nat} {D : va_G} {K : Nat → ClassId} {z z' : Option Nat} {as : List AV} {μ : MU} {post : MU → Prop} {mc ms : Nat} (hy : plainName y.cls = true) (hy1 : y.name = "<init>") (hlen : as.length ≤ maxL)
    (h : ∀ x : MC, Ctx x y.cls cc rm → Ix x → A3x x → Rt x z' (pV post) mc ms none → OkM μ → OkL (as.map some) → V x 0 0 z 0 (as.map some ++ List.replicate (maxL - as.length) none) [] μ) : Met l y (Cond.code y cc maxL none :: wG) rm (PCA b D K z as μ) (QR b D K z' (pV post)) mc ms (Ad b) := by
  refine Met.ofW (cc := cc) (maxL := maxL) (ret := none) hy rfl ?_
  intro p e s m args below meth c s₁ B hml hv
  obtain ⟨⟨rfl, hM, hA, hH, hK⟩, hAO⟩ := hv
  have hts0 := atoms_spec (ws := Cond.code y cc maxL none :: wG) B.pre
  have hts : ∀ w ∈ wG, w.before ((as.map (cv b)).toArray) s = true := fun w hw => hts0 w (List.mem_cons_of_mem _ hw)
  have hown : s.vm.findClass y.cls = some m.cls := findClass_of_methodNamed B.named
  have hnm : meth.name = "<init>" := ((name_of_methodNamed B.named (Stand.of_body B).method).1).trans hy1
  have hV := h (p, l, e, rm, s, m, (as.map (cv b)).toArray, below, meth, c, MQ below (QR b D K z' (pV post)) (as.map (cv b)).toArray s mc ms (Ad b), maxL, s.heap, b, D, K) ⟨B.exec, B.bytes, hml, hts, hown, hK, B.notSynchronized, rfl⟩ hnm hAO ⟨fun _ h => h, B.returns, rfl⟩ hM hA
  have hcat : ∀ v ∈ as.map (cv b), v.category = 1 := fun v hv => by
    obtain ⟨w, hw1, rfl⟩ := List.mem_map.mp hv
    exact cv_cat (hA w (List.mem_map.mpr ⟨w, hw1, rfl⟩))
  have hsl : lg_sl (as.map (cv b)) = (as.map (cv b)).map Slot.val := lg_sl_cat1 hcat
  have hle := lv_entry (as.map (cv b)) (n := maxL) (by rw [hsl]; simpa using hlen)
  rw [lg_entry_eq]
  generalize (lg_sl (as.map (cv b)) ++ List.replicate (maxL - (lg_sl (as.map (cv b))).length) Slot.unset).toArray = ls at hle ⊢
  refine hV hM (fun v hv => by cases hv) (fun v hv => ?_) s.heap [] ls ⟨hle.1, hle.2.1, by simp; omega, fun i v hi => ?_⟩ hH va_S.rf
  · rcases List.mem_append.mp hv with q | q
    · exact hA v q
    · have := List.eq_of_mem_replicate q
      cases this
  · refine hle.2.2 (i, cv b v) (lv_args_at hcat ?_)
    by_cases hia : i < as.length
    · rw [List.getElem?_append_left (by simpa using hia), List.getElem?_map] at hi
      rw [List.getElem?_map]
      cases hq : as[i]? with
      | none => rw [hq] at hi; cases hi
      | some w => rw [hq] at hi; cases hi; rfl
    · rw [List.getElem?_append_right (by simpa using Nat.not_lt.mp hia)] at hi
      have := List.eq_of_mem_replicate (List.mem_of_getElem? hi)
      cases this
section VA
variable {x : MC} {n k w : Nat} {pc : Nat} {L : List (Option AV)} {S : List AV} {μ : MU} {own : String} {cc : ByteArray} {rm : Room}
theorem v_callA {z z' : Option Nat} (hC : Ctx x own cc rm) (hA3 : A3x x) {c i idx na maxL mc ms : Nat} {y : MethodName} {bytes : ByteArray} {rmc : Room} {as : List AV} {post : MU → Prop}
    (hCT : CTA y bytes maxL rmc z z' (aR c i :: as) μ post mc ms) (cw : CI x own idx y bytes maxL rmc mc ms na) (hna : as.length = na) (hnl : ∀ v, v ∈ as → okv v → okl v) (hR1 : n + mc ≤ rm.cells) (hR2 : k + ms ≤ rm.slots) (hst : (S.map (fun v => (cv 0 v).category)).sum ≤ 8) (d : decode cc pc = .ok (.invokespecial idx, 3))
    (kk : ∀ (μ' : MU), post μ' → V x (n + mc) (k + ms) z' (pc + 3) L S μ') : V x n k z pc L (as.reverse ++ aR c i :: S) μ := by
  obtain ⟨p, l, e, R, s, m, args, below, meth, c0, Q, nL, H0, b, D, K⟩ := x
  intro hM hS hL H locs ls hlo hH hF
  obtain ⟨hx, hb, hml, hts, hown, hK, hlk, hRm⟩ := hC
  subst hRm
  have hokl : OkL ((aR c i :: as).map some) := by
    intro v hv
    rcases List.mem_cons.mp hv with q | q
    · cases q; trivial
    · exact okl_list hS hnl v q
  have hrun := va_runI (p := p) (l := l) (e := e) (R := R) (s := s) (m := m) (args := args) (below := below) (meth := meth) (c := c0) (H := H) (locs := locs) (cells := n) (slots := k) (b := lay b c i) (As := as.map (cv b)) (rest := S.map (cv b)) (g := F0 m pc ls ((as.reverse ++ aR c i :: S).map (cv b))) ⟨hx, hb, hml, hown, hts⟩ (hCT l b D K) cw
    ⟨PCA.blind, fun U hU hW => ⟨⟨rfl, hM, hokl, by rw [hU]; exact hH, va_K.moved hW.alike hK⟩, AO3.moved hW.alike hA3⟩⟩ rfl (by rw [List.length_map]; exact hna) hlo.1 (by simp [cv]) (lv_room (cat_sum hst)) d ⟨hR1, hR2⟩
  refine w_call hrun hF fun r μ' H1 locs1 hy hM1 hp1 hH1 hF1 => ?_
  obtain ⟨rfl, hp2⟩ := hp1
  exact kk μ' hp2 hM1 (fun v hv => hS v (List.mem_append_right _ (List.mem_cons_of_mem _ hv))) hL H1 locs1 ls hlo hH1 hF1
end VA
