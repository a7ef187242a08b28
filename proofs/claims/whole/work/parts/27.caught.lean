/-! Calling what may throw: back with an answer, or with an exception on its way. -/
section RT
variable {p : Program} {l : Launch} {e : Env} {R : Room} {s : State} {m : MethodId} {args : Array Value} {below : List Frame} {meth : Method} {c : Code} {H : Heap} {locs : List Loc} {cells slots : Nat}
theorem runT {y : MethodName} {ws : List Jvm.Cond} {rm : Room} {Pc : Array Value → State → Prop} {Qc : Array Value → State → Outcome → State → Prop} {mc ms n index maxL : Nat} {free : Addr → Prop} {own C : String} {bytes : ByteArray} {ret : Option FieldType} {b : Addr} {As rest : List Value} {g : JFrame} {T : State}
    (hx : p.tables.exec = Jvm.exec) (hM : MetT l y ws rm Pc Qc mc ms free) (cw : CallW R s args own C index y bytes maxL ret ws rm mc ms n) (hp : PreV s H C b Pc As) (hQo : ∀ a st o t, Qc a st o t → (∃ v, o = .returned v) ∨ ∃ z, o = .threw z) (hown : s.vm.findClass own = some m.cls)
    (hg : g.method = m) (hn : As.length = n) (hsize : g.locals.size = c.maxLocals) (hstack : g.stack = As.reverse ++ .ref b :: rest) (hW : 2 * g.monitorRoom + (rest.map fun v => v.category).sum ≤ 8) (hdg : decode c.code g.pc = .ok (.invokevirtual index, 3)) (hf : cells + mc ≤ R.cells ∧ slots + ms ≤ R.slots)
    (hT : T.heap = H) (X : Stand p l e R s m args below meth c T locs cells slots) :
    ∃ (o : Outcome) (st₀ t : State) (L : List Loc) (T' : State), st₀.heap = H ∧ Stand p l e R s m args below meth c T' (locs ++ L) (cells + mc) (slots + ms) ∧ (∀ q ∈ L, free q.base) ∧ T'.heap = t.heap ∧ T'.vm = t.vm ∧ Qc (Value.ref b :: As).toArray st₀ o t ∧
      ((∃ v, o = .returned v ∧ ∀ target, Steps p.tables e below (T'.setTop { g with pc := g.pc + 3, stack := v.toList ++ rest }) target → Steps p.tables e below (T.setTop g) target) ∨
       (∃ a, o = .threw a ∧ Steps p.tables e below (T.setTop g) ((T'.setTop { g with stack := rest }).pushFrame (.throwing a)))) := by
  obtain ⟨⟨hrc, hrs, hfr, hlo, hws, hcw, hcode, hini, hy, hlen, hlink⟩, hinst, hsel⟩ := cw
  obtain ⟨hbl, ⟨cellB, hcell, hobj, hcls⟩, hPc⟩ := hp
  subst hg
  obtain ⟨mk, methM, hnamed, hmethM, hstM, habM⟩ := Cond.instanceMethod_spec hinst
  obtain ⟨methM', cM, hmM', -, -, -, -, -, -, hsigM⟩ := Cond.code_spec hnamed hcode
  cases hmethM.symm.trans hmM'
  obtain ⟨c2, r2, m2, q1, q2, q3, q4, kP, hkP, hkPi⟩ := Cond.selects_spec hsel
  cases hcls.symm.trans q1
  cases (State.methodFound?_of_named hnamed hy).symm.trans q2
  cases hnamed.symm.trans q3
  have hselP : selectMethod e.platform s.vm cellB.cls mk = .method mk := by rw [Launch.admits_selectMethod X.admits]; exact q4
  obtain ⟨vm₁, X₁, hstep₁⟩ := X.invokevirtual hx hown hlink hnamed hmethM hstM hkP hkPi hy (a := b) (cell := cellB) (by rw [hT]; exact hcell) (fun z h => by rw [h] at hobj; cases hobj) hselP hmethM habM hkP hkPi (g := g) rfl (argsL := As) (rest := rest) (hn.trans (hlen _ hsigM)) hstack hdg
  have hnm : (T.setVm vm₁).methodNamed? y = some mk := X₁.named hnamed
  have h2 : (Cond.code y bytes maxL ret).before (Value.ref b :: As).toArray (T.setVm vm₁) = true := hws _ hcw _ _ X₁.warmed
  obtain ⟨methY, cY, hmY, hcY, -, hlY, -, -, -, -⟩ := Cond.code_spec hnm h2
  obtain ⟨kY, hkY, -⟩ := className_of_methodNamed hnm
  have h3 : (Cond.initialized y.cls).before (Value.ref b :: As).toArray (T.setVm vm₁) = true := word_at X₁.warmed (Or.inl (by first | rfl | simp [Cond.onTables, Cond.keeps, Cond.steady])) hini
  have hinitY : kY.init = .initialized := Cond.initialized_spec (findClass_of_methodNamed hnm) hkY h3
  have hAt : At (T.setVm vm₁) ({ g with stack := rest } : JFrame).method c below := X₁.here
  have happ : (headSpec ws rm).appliesLoose y e.platform ((T.setVm vm₁).calling { g with stack := rest } mk (Value.ref b :: As).toArray) = true :=
    Spec.appliesLoose_calling (g := { g with stack := rest }) hAt hdg hnm hkY hinitY (X₁.room_calling (g := { g with stack := rest }) (R' := rm) hsize hmY hcY hfr (by
      have hW' : 2 * ({ g with stack := rest } : JFrame).monitorRoom + (rest.map fun v => v.category).sum ≤ 8 := hW
      show 2 * ({ g with stack := rest } : JFrame).monitorRoom + (rest.map fun v => v.category).sum + (cY.maxLocals + 11) + rm.locals ≤ R.locals
      rw [hlY]; omega) (by rw [hrc]; exact hf.1) (by rw [hrs]; exact hf.2)) (atoms_intro fun w hw => hws w hw _ _ X₁.warmed)
  obtain ⟨mid, hmid⟩ := hAt.above
  have hfrm : ((T.setVm vm₁).setTop { g with stack := rest }).frames = (.java { g with stack := rest } :: mid) ++ below := by rw [State.frames_setTop' _ hAt.top, hmid]; rfl
  obtain ⟨o, s₂, hsteps, -, hend, hq⟩ := Steps.callFree hM p X.admits X.cas X.clock (acts := []) hfrm happ (hbl _ _ _ _ (hPc (T.setVm vm₁) hT X₁.warmed)) trivial
  rw [State.frames_setTop' _ hAt.top, X₁.tail] at hend
  obtain ⟨hQ, L, ⟨hWL, hsm⟩, hL⟩ := hq
  rcases hQo _ _ _ _ hQ with ⟨v, rfl⟩ | ⟨z, rfl⟩
  · obtain ⟨T', XT, -, -, ht⟩ := X₁.outOf (g := { g with stack := rest }) rfl hdg hend hWL hsm
    refine ⟨.returned v, (T.setVm vm₁).calling { g with stack := rest } mk (Value.ref b :: As).toArray, s₂, L, T', hT, XT, hL, by rw [ht]; rfl, by rw [ht]; rfl, hQ, Or.inl ⟨v, rfl, fun target h => hstep₁ _ fun acts => ?_⟩⟩
    rw [doInvoke_state]
    rw [ht] at hsteps
    exact hsteps.trans h
  · obtain ⟨T', XT, -, -, ht⟩ := X₁.outOfThrown (g := { g with stack := rest }) rfl hend hWL hsm
    refine ⟨.threw z, (T.setVm vm₁).calling { g with stack := rest } mk (Value.ref b :: As).toArray, s₂, L, T', hT, XT, hL, by rw [ht]; rfl, by rw [ht]; rfl, hQ, Or.inr ⟨z, rfl, hstep₁ _ fun acts => ?_⟩⟩
    rw [doInvoke_state]
    rw [ht] at hsteps
    exact hsteps
end RT
/-- what a frame that catches knows -/
def Wx (x : MC) (rows : List (Nat × Nat × Nat × Nat)) : Prop := match x with
  | (_, l, _, _, s, _, _, _, _, c, _, _, H0, b, _, _) => TW s ∧ NSb b s.heap ∧ l.stackTraces = false ∧ c.exceptionTable.toList.map (fun h => (h.startPc, h.endPc, h.handlerPc, h.catchType)) = rows ∧ H0 = s.heap
/-- the rows send w, thrown at pc, to h -/
def Cat (own : String) (rows : List (Nat × Nat × Nat × Nat)) (pc w h : Nat) : Prop := ∃ (pre : List (Nat × Nat × Nat × Nat)) (r : Nat × Nat × Nat × Nat) (rest : List (Nat × Nat × Nat × Nat)), rows = pre ++ r :: rest ∧ r.2.2.1 = h ∧ r.1 ≤ pc ∧ pc < r.2.1 ∧ r.2.2.2 ≠ 0 ∧ Cond.classLink own r.2.2.2 (exN w) ∈ wG ∧ ∀ q ∈ pre, q.2.2.2 ≠ 0 ∧ w = 1 ∧ Cond.classLink own q.2.2.2 (exN 0) ∈ wG
theorem insIA : Cond.instantiable (exN 0) 6 ∈ wG := by decide +kernel
theorem insIS : Cond.instantiable (exN 1) 6 ∈ wG := by decide +kernel
section VCT
variable {x : MC} {n k : Nat} {pc : Nat} {L : List (Option AV)} {S : List AV} {μ : MU} {own : String} {cc : ByteArray} {rm : Room}
theorem v_callT (hC : Ctx x own cc rm) {rows : List (Nat × Nat × Nat × Nat)} (hX : Wx x rows) {idx maxL na : Nat} {y : MethodName} {bytes : ByteArray} {ret : Option FieldType} {rmc : Room} {as : List AV} {post : Int → MU → Prop} {tp : Nat → MU → Prop} (h : Nat → Nat)
    (hCT : CTT y bytes maxL ret rmc (aR 0 0 :: as) μ post tp) (cw : CW x own RX3 idx y bytes maxL ret rmc 1 6 na) (hna : as.length = na) (hnl : ∀ v, v ∈ as → okv v → okl v) (hR1 : n + 1 ≤ rm.cells) (hR2 : k + 6 ≤ rm.slots) (hst : (S.map (fun v => (cv 0 v).category)).sum ≤ 8) (d : decode cc pc = .ok (.invokevirtual idx, 3)) (hcat : ∀ w μ', tp w μ' → w < 2 → Cat own rows pc w (h w))
    (kk : ∀ (r : Int) (μ' : MU), post r μ' → V x (n + 1) (k + 6) none (pc + 3) L (aI r :: S) μ') (kt : ∀ (w : Nat) (μ' : MU) (a : Nat), tp w μ' → V x (n + 1) (k + 6) none (h w) L [aX a] μ') : V x n k none pc L (as.reverse ++ aR 0 0 :: S) μ := by
  obtain ⟨p, l, e, R, s, m, args, below, meth, c0, Q, nL, H0, b, D, K⟩ := x
  intro hM hS hL H locs ls hlo hH hF
  obtain ⟨hx, hb, hml, hts, hown, hK, hlk, hRm⟩ := hC
  obtain ⟨hTW, hNS, hst9, hrows, hH0⟩ := hX
  subst hRm
  subst hH0
  have hi : 0 < vdn 0 := by decide
  have hcd : cellD 0 0 = .inl (3, _) := rfl
  obtain ⟨r0, hr0, cellB, g1, g2, g3, -⟩ := (holds_obj hcd).1 (hH.at hi pres0).2
  have hokl : OkL ((aR 0 0 :: as).map some) := by
    intro v hv
    rcases List.mem_cons.mp hv with q | q
    · cases q; trivial
    · exact okl_list hS hnl v q
  intro T hT X
  have hSK : ∀ U : State, U.heap = H → SK s U := fun U hU a cell h1 h2 => by
    have hlt : a < s.heap.size := (Array.getElem?_eq_some_iff.mp h1).1
    have hb9 : ¬ Ad b a := fun h => by rw [hNS a cell h h1] at h2; cases h2
    rw [hU]
    exact (hF.2.1 a hlt hb9).trans h1
  obtain ⟨o, st₀, t, L9, T', e0, XT, hL9, e1, e2, ⟨hq, hz, hkeep⟩, hgo⟩ := runT (C := RX3) (b := lay b 0 0) (As := as.map (cv b)) (rest := S.map (cv b)) (g := F0 m pc ls ((as.reverse ++ aR 0 0 :: S).map (cv b))) hx (hCT l hst9 b D K) cw
    ⟨PCT.blind, ⟨cellB, g1, by rw [g3]; rfl, by rw [g2]; exact (hK.1 3 _ rfl).2.1⟩, fun U hU hW => ⟨⟨rfl, hM, hokl, by rw [hU]; exact hH, va_K.moved hW.alike hK⟩, hTW.moved hW.alike (hSK U hU)⟩⟩
    (fun a st o t hq => hq.1.elim (fun ⟨r, _, h1, _⟩ => Or.inl ⟨_, h1⟩) (fun ⟨_, _, a, _, h1, _⟩ => Or.inr ⟨a, h1⟩)) hown rfl (by rw [List.length_map]; exact hna) (by rw [hml]; exact hlo.1) (by simp [F0, cv]) (lv_room (cat_sum hst)) (by rw [hb]; exact d) ⟨hR1, hR2⟩ hT X
  rw [e0] at hz hkeep
  have hF1 : va_S (Ad b) s.heap T'.heap (locs ++ L9) := ⟨Nat.le_trans hF.1 (by rw [e1]; exact hz), fun q h1 h2 => by rw [e1, hkeep q (Nat.lt_of_lt_of_le h1 hF.1) h2]; exact hF.2.1 q h1 h2, fun q hq => by
    rcases List.mem_append.mp hq with h | h
    · exact hF.2.2 q h
    · exact hL9 q h⟩
  rcases hq with ⟨r, μ', rfl, hy, hM1, ⟨y9, rfl, hp1⟩, hH1, -⟩ | ⟨w, μ', a, ce, rfl, hw2, hM1, hp1, hH1, -, hce, hnst, hfc⟩
  · obtain ⟨v, hv, hst1⟩ | ⟨a, ha, -⟩ := hgo
    · cases hv
      obtain ⟨t2, a1, b1⟩ := kk y9 μ' hp1 hM1 (OkV.cons (hy y9 rfl) (fun v hv => hS v (List.mem_append_right _ (List.mem_cons_of_mem _ hv)))) hL T'.heap (locs ++ L9) ls hlo (by rw [e1]; exact hH1) hF1 T' rfl XT
      exact ⟨t2, hst1 t2 a1, b1⟩
    · cases ha
  · obtain ⟨v, hv, -⟩ | ⟨a', ha, hst1⟩ := hgo
    · cases hv
    · cases ha
      obtain ⟨pre, rr, rest, er, eh, h1, h2, h3, h4, h5⟩ := hcat w μ' hp1 hw2
      rw [er] at hrows
      obtain ⟨l1, l2, es, em1, em2⟩ := List.map_eq_append_iff.mp hrows
      obtain ⟨xr, l3, es2, em3, em4⟩ := List.map_eq_cons_iff.mp em2
      have hpl : e.platform.magicAccessors = ({} : Platform).magicAccessors := by rw [X.admits.platform]
      have hfc' : s.vm.findClass (exN w) = some ce.cls := by rw [← XT.warmed.alike.findClass, e2]; exact hfc
      have hks : ∃ k, s.vm.classes[ce.cls]? = some k := by
        have hins : Cond.instantiable (exN w) 6 ∈ wG := by
          rcases (by omega : w = 0 ∨ w = 1) with rfl | rfl
          · exact insIA
          · exact insIS
        obtain ⟨c1, kX, hc1, hk, -⟩ := Cond.instantiable_spec (hts _ hins)
        cases hc1.symm.trans hfc'
        exact ⟨kX, hk⟩
      have hcst : (Cond.castable (exN w) (exN w)).before args s = true := by
        rcases (by omega : w = 0 ∨ w = 1) with rfl | rfl <;> exact hTW args _ (by simp [wT])
      have hcatch : RowCatches e.platform s m.cls ce.cls xr := by
        have ec : xr.catchType = rr.2.2.2 := by rw [← em3]
        obtain ⟨c', hc', hcl⟩ := Cond.classLink_spec hown (hts _ h4) e.platform hpl
        obtain ⟨c3, c4, hc3, hc4, hasg⟩ := Cond.castable_spec hcst
        cases hc3.symm.trans hfc'
        cases hc4.symm.trans hc'
        exact Or.inr ⟨by rw [ec]; exact h3, _, by rw [ec]; exact hcl, hasg⟩
      obtain ⟨vm', XV, st⟩ := XT.thenCaughtThrough a (g := { F0 m pc ls ((as.reverse ++ aR 0 0 :: S).map (cv b)) with stack := S.map (cv b) }) rfl hst1 (by rw [e1]; exact hce) hnst hks l1 xr l3 (by rw [es, es2]) (fun y hy9 => by
        obtain ⟨g5, g6, g7⟩ := h5 (y.startPc, y.endPc, y.handlerPc, y.catchType) (by rw [← em1]; exact List.mem_map.mpr ⟨y, hy9, rfl⟩)
        subst g6
        exact RowPassed.of_words hpl hown g5 (hts _ g7) hfc' (hTW args _ (by simp [wT]))) (by
        have e5 : xr.startPc = rr.1 := by rw [← em3]
        have e6 : xr.endPc = rr.2.1 := by rw [← em3]
        show (decide (xr.startPc ≤ pc) && decide (pc < xr.endPc)) = true
        rw [e5, e6]
        simp [h1, h2]) hcatch
      have e7 : xr.handlerPc = h w := by rw [← eh, ← em3]
      rw [e7] at st
      obtain ⟨t2, a1, b1⟩ := kt w μ' a hp1 hM1 (OkV.cons trivial (fun v hv => by cases hv)) hL T'.heap (locs ++ L9) ls hlo (by rw [e1]; exact hH1) hF1 (T'.setVm vm') rfl XV
      exact ⟨t2, st.trans a1, b1⟩
end VCT
