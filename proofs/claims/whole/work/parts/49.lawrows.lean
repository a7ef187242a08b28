/-! The law's rows: its script, its wrappers, its end. -/
section RSW
variable {p : Program} {l : Launch} {e : Env} {R : Room} {s : State} {m : MethodId} {args : Array Value} {below : List Frame} {meth : Method} {c : Code} {H : Heap} {locs : List Loc} {cells slots : Nat}
theorem runSW {y : MethodName} {ws : List Jvm.Cond} {rm : Room} {Pc : Array Value → State → Prop} {Qc : Array Value → State → Outcome → State → Prop} {mc ms n index maxL nL : Nat} {free : Addr → Prop} {own : String} {bytes cc : ByteArray} {ret : Option FieldType} {hh : List (Nat × Nat × Nat × Nat)} {As rest : List Value} {g : JFrame}
    (hx : p.tables.exec = Jvm.exec) (hb : c.code = cc) (hml : c.maxLocals = nL) (hown : s.vm.findClass own = some m.cls) (hM : Met l y ws rm Pc Qc mc ms free) (hrc : rm.cells = mc) (hrs : rm.slots = ms) (hfr : rm.frames + 1 ≤ R.frames) (hlo : 8 + (maxL + 11) + rm.locals ≤ R.locals) (hws : ∀ w ∈ ws, ∀ (a' : Array Value) (U : State), s.WarmedH U.vm → w.before a' U = true) (hcw : Cond.codeWith y bytes maxL ret hh ∈ ws)
    (hlink : (Cond.methodLink own index y).before args s = true) (hstat : (Cond.static y).before args s = true) (hini : (Cond.initialized y.cls).before args s = true) (hcode : (Cond.codeWith y bytes maxL ret hh).before args s = true) (hy : y.cls ≠ "java/lang/invoke/MethodHandle" ∧ y.cls ≠ "java/lang/invoke/VarHandle") (hlen : ∀ sig, parseMethodDescriptor y.desc = some sig → n = sig.parameters.length)
    (hbl : FrameBlind Pc) (hp : ∀ U : State, U.heap = H → s.WarmedH U.vm → Pc As.toArray U) (hg : g.method = m) (hn : As.length = n) (hsize : g.locals.size = nL) (hstack : g.stack = As.reverse ++ rest) (hW : 2 * g.monitorRoom + (rest.map fun v => v.category).sum ≤ 8) (hdg : decode cc g.pc = .ok (.invokestatic index, 3)) (hf : cells + mc ≤ R.cells ∧ slots + ms ≤ R.slots) :
    va_Run p l e R s m args below meth c H locs cells slots mc ms g rest (Qc As.toArray) free := by
  have hK : Back l R p e below s args y 3 8 (PreOf R mc ms Pc) (PostOf Qc mc ms free) := va_backW (hh := hh) (bytes := bytes) (maxL := maxL) (ret := ret) hM hbl hrc hrs hfr hlo hws hcw (fun a' U hW => word_at hW (Or.inl (by first | rfl | simp [Cond.onTables, Cond.keeps, Cond.steady])) hini)
  obtain ⟨mk, methM, cM, hnamed, hmethM, -, -, -, -, -, -, hsigM⟩ := Cond.codeWith_spec hcode
  have hstatic : methM.isStatic = true := Cond.static_spec hnamed hmethM hstat
  obtain ⟨kP, hkP, -⟩ := className_of_methodNamed hnamed
  have hinitP : kP.init = .initialized := Cond.initialized_spec (findClass_of_methodNamed hnamed) hkP hini
  intro T hT X
  obtain ⟨vm₁, X₁, hstep₁⟩ := X.invokestatic hx hown hlink hnamed hmethM hstatic hkP hinitP hy (g := g) hg (argsL := As) (rest := rest) (hn.trans (hlen _ hsigM)) hstack (by rw [hb]; exact hdg)
  obtain ⟨v, B, X', hpost, hsteps⟩ := hK m meth c ⟨T.setVm vm₁, locs, cells, slots⟩ { g with stack := rest } (.invokestatic index) mk As.toArray X₁ hg (hsize.trans hml.symm) (by rw [hb]; exact hdg) hW (X₁.named hnamed) ⟨hf.1, hf.2, hp (T.setVm vm₁) hT X₁.warmed⟩
  obtain ⟨U', l2, c2, s2⟩ := B
  obtain ⟨g', mk', t, L, e1, e2, hq, h1, hL, h2, h3⟩ := hpost
  dsimp only [Pt.U, Pt.locs, Pt.cells, Pt.slots] at X' e1 e2 h1 h2 h3 hsteps
  subst h1; subst h2; subst h3
  exact ⟨v, (T.setVm vm₁).calling g' mk' As.toArray, t, U', L, hT, X', hL, e1, e2, hq, fun target h => hstep₁ _ fun acts => by rw [doInvoke_state]; exact hsteps.trans h⟩
end RSW
/-- what the law's frame knows: its script, the words, its end -/
def Lx (x : MC) (a N : Nat) (xs : Nat → Int32) : Prop := match x with
  | (_, l, _, _, s, _, args, below, meth, _, Q, _, H0, b, _, _) => va_X a N xs s H0 ∧ a < b ∧ N ≤ 2000000000 ∧ TW s ∧ l.stackTraces = false ∧ H0 = s.heap ∧ b = s.heap.size ∧ meth.sig.returnType = ret ∧ args = #[Value.ref a] ∧ Q = lw_Z below #[Value.ref a] s
theorem i32_nat (N : Nat) : Int32.ofNat N = i32 (N : Int) := Int32.ofInt_eq_ofNat.symm
section VLW
variable {x : MC} {n k : Nat} {z : Option Nat} {pc : Nat} {L : List (Option AV)} {S : List AV} {μ : MU} {own : String} {cc : ByteArray} {rm : Room} {a N : Nat} {xs : Nat → Int32}
theorem Lx.nn {x : MC} (h : Lx x a N xs) : N ≤ 2000000000 := by
  obtain ⟨p, l, e, R, s, m, args, below, meth, c0, Q, nL, H0, b, D, K⟩ := x
  exact h.2.2.1
theorem v_sld (hC : Ctx x own cc rm) (hX : Lx x a N xs) {y : Int} (d : decode cc pc = .ok (.iaload, 1)) (hy : 0 ≤ y ∧ y < (N : Int)) (kk : V x n k z (pc + 1) L (aI (xs y.toNat).toInt :: S) μ) : V x n k z pc L (aI y :: aX a :: S) μ := by
  obtain ⟨p, l, e, R, s, m, args, below, meth, c0, Q, nL, H0, b, D, K⟩ := x
  intro hM hS hL H locs ls hlo hH hF
  obtain ⟨hx, hb, hml, hts, hown, hK, hlk, hRm⟩ := hC
  obtain ⟨h1, h2, h3, h4, h5, h6, h7, h8, h9⟩ := hX
  have hyR : inR y := hS.hd
  have hab : a < H0.size := by rw [h6, ← h7]; exact h2
  refine va_sld hx hb h1 hab (fun q => Nat.lt_irrefl _ (Nat.lt_of_lt_of_le h2 q)) hF (i := i32 y) (fun q => ?_) d ?_
  · rw [i32_clamp hyR] at q
    rcases q with q | q
    · have := (i32_lt hyR inR0).1 q; omega
    · omega
  · have h10 := kk hM (OkV.cons (inR_of _) hS.tl.tl) hL H locs ls hlo hH hF
    rw [List.map_cons, show cv b (aI (xs y.toNat).toInt) = .int (xs (i32 y).toNatClampNeg) from by rw [i32_clamp hyR]; exact congrArg Value.int (i32_of _)] at h10
    exact h10
theorem v_slen (hC : Ctx x own cc rm) (hX : Lx x a N xs) (d : decode cc pc = .ok (.arraylength, 1)) (kk : V x n k z (pc + 1) L (aI (N : Int) :: S) μ) : V x n k z pc L (aX a :: S) μ := by
  obtain ⟨p, l, e, R, s, m, args, below, meth, c0, Q, nL, H0, b, D, K⟩ := x
  intro hM hS hL H locs ls hlo hH hF
  obtain ⟨hx, hb, hml, hts, hown, hK, hlk, hRm⟩ := hC
  obtain ⟨h1, h2, h3, h4, h5, h6, h7, h8, h9⟩ := hX
  have hab : a < H0.size := by rw [h6, ← h7]; exact h2
  refine va_slen hx hb h1 hab (fun q => Nat.lt_irrefl _ (Nat.lt_of_lt_of_le h2 q)) hF d ?_
  have h10 := kk hM (OkV.cons (⟨by omega, by omega⟩ : inR (N : Int)) hS.tl) hL H locs ls hlo hH hF
  rw [List.map_cons, show cv b (aI (N : Int)) = .int (Int32.ofNat N) from congrArg Value.int (i32_nat N).symm] at h10
  exact h10
/-- a wrapper is called -/
theorem v_callW (hC : Ctx x own cc rm) (hX : Lx x a N xs) {idx maxL na : Nat} {y : MethodName} {bytes : ByteArray} {rows : List (Nat × Nat × Nat × Nat)} {rmc : Room} {as : List AV} {post : Int → MU → Prop}
    (hCT : CTW y bytes maxL rows rmc as μ post) (h1 : Cond.methodLink own idx y ∈ wG) (h2 : Cond.static y ∈ wG) (h4 : Cond.initialized y.cls ∈ wG) (h5 : Cond.codeWith y bytes maxL (some .int) rows ∈ wG) (hd : y.cls ≠ "java/lang/invoke/MethodHandle" ∧ y.cls ≠ "java/lang/invoke/VarHandle" ∧ (parseMethodDescriptor y.desc).map (fun d => d.parameters.length) = some na) (hrc : rmc.cells = 1 ∧ rmc.slots = 6) (hRf : rmc.frames + 1 ≤ rm.frames ∧ 8 + (maxL + 11) + rmc.locals ≤ rm.locals)
    (hna : as.length = na) (hnl : ∀ v, v ∈ as → okv v → okl v) (hR1 : n + 1 ≤ rm.cells) (hR2 : k + 6 ≤ rm.slots) (hst : (S.map (fun v => (cv 0 v).category)).sum ≤ 8) (d : decode cc pc = .ok (.invokestatic idx, 3))
    (kk : ∀ (r : Int) (μ' : MU), post r μ' → V x (n + 1) (k + 6) none (pc + 3) L (aI r :: S) μ') : V x n k none pc L (as.reverse ++ S) μ := by
  obtain ⟨p, l, e, R, s, m, args, below, meth, c0, Q, nL, H0, b, D, K⟩ := x
  intro hM hS hL H locs ls hlo hH hF
  obtain ⟨hx, hb, hml, hts, hown, hK, hlk, hRm⟩ := hC
  obtain ⟨g1, g2, g3, hTW, hst9, g6, g7, g8, g9⟩ := hX
  subst hRm
  have hSK : ∀ U : State, U.heap = H → SK s U := fun U hU q cell h1 h2 => by
    have hlt : q < s.heap.size := (Array.getElem?_eq_some_iff.mp h1).1
    rw [hU]
    have h3 := hF.2.1 q (by rw [g6]; exact hlt) (fun h => by have : b ≤ q := h; omega)
    rw [h3, g6]
    exact h1
  have hrun := runSW (p := p) (l := l) (e := e) (R := R) (s := s) (m := m) (args := args) (below := below) (meth := meth) (c := c0) (H := H) (locs := locs) (cells := n) (slots := k) (As := as.map (cv b)) (rest := S.map (cv b)) (g := F0 m pc ls ((as.reverse ++ S).map (cv b))) hx hb hml hown (hCT l hst9 b D K) hrc.1 hrc.2 hRf.1 hRf.2 (pay_in hts (wG_in (wG_cons h5))) List.mem_cons_self (hts _ h1) (hts _ h2) (hts _ h4) (hts _ h5) ⟨hd.1, hd.2.1⟩ (fun sig h => by
      have h9 := hd.2.2
      rw [h] at h9
      exact (Option.some.inj h9).symm) PCT.blind (fun U hU hW => ⟨⟨rfl, hM, okl_list hS hnl, by rw [hU]; exact hH, va_K.moved hW.alike hK⟩, hTW.moved hW.alike (hSK U hU)⟩) rfl (by rw [List.length_map]; exact hna) hlo.1 (by simp) (lv_room (cat_sum hst)) d ⟨hR1, hR2⟩
  refine w_call hrun hF fun r μ' H1 locs1 hy hM1 hp1 hH1 hF1 => ?_
  obtain ⟨w, rfl, hp2⟩ := hp1
  exact kk w μ' hp2 hM1 (OkV.cons (hy w rfl) (fun v hv => hS v (List.mem_append_right _ hv))) hL H1 locs1 ls hlo hH1 hF1
/-- all is built: from now on normal -/
theorem v_norm (h : Fl μ) (kk : V x n k none pc L S μ) : V x n k (some 131) pc L S μ := by
  obtain ⟨p, l, e, R, s, m, args, below, meth, c0, Q, nL, H0, b, D, K⟩ := x
  intro hM hS hL H locs ls hlo hH hF
  have hsz : H.size = b + 131 := hH.2
  refine kk hM hS hL H locs ls hlo ⟨hH.1, h, by omega, fun q cell hq hc => ?_⟩ hF
  have := (Array.getElem?_eq_some_iff.mp hc).1
  omega
theorem v_lend (hC : Ctx x own code room_1) (hX : Lx x a N xs) (d : decode code pc = .ok (.ireturn, 1)) (hn : n ≤ 651598) (hk : k ≤ 7141310) : V x n k z pc L [aI 1] μ := by
  obtain ⟨p, l, e, R, s, m, args, below, meth, c0, Q, nL, H0, b, D, K⟩ := x
  intro hM hS hL H locs ls hlo hH hF
  obtain ⟨hx, hb, hml, hts, hown, hK, hlk, hRm⟩ := hC
  obtain ⟨g1, g2, g3, hTW, hst9, g6, g7, g8, g9, g10⟩ := hX
  subst hRm
  subst g9
  subst g10
  refine va_forget (fun q hq => by have h9 := hF.2.2 q hq; rw [← g7]; exact h9) ?_
  refine W.widen (k := 651598) (n := 7141310) hn hk ?_
  exact lw_ret hx hb g8 hlk d
end VLW
