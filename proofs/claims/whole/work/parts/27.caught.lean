/-! Calling what may throw: back with an answer, or with an exception on its way. -/
section RT
variable {p : Program} {l : Launch} {e : Env} {R : Room} {s : State} {m : MethodId} {args : Array Value} {below : List Frame} {meth : Method} {c : Code} {H : Heap} {locs : List Loc} {cells slots : Nat}
theorem runT {y : MethodName} {ws : List Jvm.Cond} {rm : Room} {Pc : Array Value → State → Prop} {Qc : Array Value → State → Outcome → State → Prop} {mc ms n index maxL : Nat} {free : Addr → Prop} {own C : String} {bytes : ByteArray} {ret : Option FieldType} {b : Addr} {As rest : List Value} {g : JFrame} {T : State}
    (hx : p.tables.exec = Jvm.exec) (hM : MetT l y ws rm Pc Qc mc ms free) (cw : CallW R s args own C index y bytes maxL ret ws rm mc ms n) (hp : PreV s H C b Pc As) (hQo : ∀ a st o t, Qc a st o t → (∃ v, o = .returned v) ∨ ∃ z, o = .threw z) (hown : s.vm.findClass own = some m.cls)
    (hg : g.method = m) (hn : As.length = n) (hsize : g.locals.size = c.maxLocals) (hstack : g.stack = As.reverse ++ .ref b :: rest) (hW : 2 * g.monitorRoom + (rest.map fun v => v.category).sum ≤ 8) (hdg : decode c.code g.pc = .ok (.invokevirtual index, 3)) (hf : cells + mc ≤ R.cells ∧ slots + ms ≤ R.slots)
    (hT : T.heap = H) (X : Stand p l e R s m args below meth c T locs cells slots) :
    ∃ (o : Outcome) (st₀ t : State) (L : List Loc) (T' : State), st₀.heap = H ∧ Stand p l e R s m args below meth c T' (locs ++ L) (cells + mc) (slots + ms) ∧ (∀ q ∈ L, free q.base) ∧ T'.heap = t.heap ∧ T'.vm = t.vm ∧ Qc (Value.ref b :: As).toArray st₀ o t ∧
      ((∃ v, o = .returned v ∧ ∀ target, Steps p.tables e below (T'.setTop { g with pc := g.pc + 3, stack := v.toList ++ rest }) target → Steps p.tables e below (T.setTop g) target) ∨
       (∃ a, o = .threw a ∧ Steps p.tables e below (T.setTop g) ((T'.setTop { g with stack := rest }).pushFrame (.throwing a)))) := by
  obtain ⟨⟨hrc, hrs, hfr, hlo, hws, hcw, hcode, hini, hy, hlen, hlink⟩, hinst, hsel⟩ := cw
  obtain ⟨hbl, ⟨cellB, hcell, hobj, hcls⟩, hPc⟩ := hp
  subst hg
  obtain ⟨mk, methM, hnamed, hmethM, hstM, habM⟩ := Cond.instanceMethod_spec hinst
  obtain ⟨methM', cM, hmM', -, -, -, -, -, -, hsigM⟩ := Cond.code_spec hnamed hcode
  cases hmethM.symm.trans hmM'
  obtain ⟨c2, r2, m2, q1, q2, q3, q4, kP, hkP, hkPi⟩ := Cond.selects_spec hsel
  cases hcls.symm.trans q1
  cases (State.methodFound?_of_named hnamed hy).symm.trans q2
  cases hnamed.symm.trans q3
  have hselP : selectMethod e.platform s.vm cellB.cls mk = .method mk := by rw [Launch.admits_selectMethod X.admits]; exact q4
  obtain ⟨vm₁, X₁, hstep₁⟩ := X.invokevirtual hx hown hlink hnamed hmethM hstM hkP hkPi hy (a := b) (cell := cellB) (by rw [hT]; exact hcell) (fun z h => by rw [h] at hobj; cases hobj) hselP hmethM habM hkP hkPi (g := g) rfl (argsL := As) (rest := rest) (hn.trans (hlen _ hsigM)) hstack hdg
  have hnm : (T.setVm vm₁).methodNamed? y = some mk := X₁.named hnamed
  have h2 : (Cond.code y bytes maxL ret).before (Value.ref b :: As).toArray (T.setVm vm₁) = true := hws _ hcw _ _ X₁.warmed
  obtain ⟨methY, cY, hmY, hcY, -, hlY, -, -, -, -⟩ := Cond.code_spec hnm h2
  obtain ⟨kY, hkY, -⟩ := className_of_methodNamed hnm
  have h3 : (Cond.initialized y.cls).before (Value.ref b :: As).toArray (T.setVm vm₁) = true := word_at X₁.warmed (Or.inl (by first | rfl | simp [Cond.onTables, Cond.keeps, Cond.steady])) hini
  have hinitY : kY.init = .initialized := Cond.initialized_spec (findClass_of_methodNamed hnm) hkY h3
  have hAt : At (T.setVm vm₁) ({ g with stack := rest } : JFrame).method c below := X₁.here
  have happ : (headSpec ws rm).appliesLoose y e.platform ((T.setVm vm₁).calling { g with stack := rest } mk (Value.ref b :: As).toArray) = true :=
    Spec.appliesLoose_calling (g := { g with stack := rest }) hAt hdg hnm hkY hinitY (X₁.room_calling (g := { g with stack := rest }) (R' := rm) hsize hmY hcY hfr (by
      have hW' : 2 * ({ g with stack := rest } : JFrame).monitorRoom + (rest.map fun v => v.category).sum ≤ 8 := hW
      show 2 * ({ g with stack := rest } : JFrame).monitorRoom + (rest.map fun v => v.category).sum + (cY.maxLocals + 11) + rm.locals ≤ R.locals
      rw [hlY]; omega) (by rw [hrc]; exact hf.1) (by rw [hrs]; exact hf.2)) (atoms_intro fun w hw => hws w hw _ _ X₁.warmed)
  obtain ⟨mid, hmid⟩ := hAt.above
  have hfrm : ((T.setVm vm₁).setTop { g with stack := rest }).frames = (.java { g with stack := rest } :: mid) ++ below := by rw [State.frames_setTop' _ hAt.top, hmid]; rfl
  obtain ⟨o, s₂, hsteps, -, hend, hq⟩ := Steps.callFree hM p X.admits X.cas X.clock (acts := []) hfrm happ (hbl _ _ _ _ (hPc (T.setVm vm₁) hT X₁.warmed)) trivial
  rw [State.frames_setTop' _ hAt.top, X₁.tail] at hend
  obtain ⟨hQ, L, ⟨hWL, hsm⟩, hL⟩ := hq
  rcases hQo _ _ _ _ hQ with ⟨v, rfl⟩ | ⟨z, rfl⟩
  · obtain ⟨T', XT, -, -, ht⟩ := X₁.outOf (g := { g with stack := rest }) rfl hdg hend hWL hsm
    refine ⟨.returned v, (T.setVm vm₁).calling { g with stack := rest } mk (Value.ref b :: As).toArray, s₂, L, T', hT, XT, hL, by rw [ht]; rfl, by rw [ht]; rfl, hQ, Or.inl ⟨v, rfl, fun target h => hstep₁ _ fun acts => ?_⟩⟩
    rw [doInvoke_state]
    rw [ht] at hsteps
    exact hsteps.trans h
  · obtain ⟨T', XT, -, -, ht⟩ := X₁.outOfThrown (g := { g with stack := rest }) rfl hend hWL hsm
    refine ⟨.threw z, (T.setVm vm₁).calling { g with stack := rest } mk (Value.ref b :: As).toArray, s₂, L, T', hT, XT, hL, by rw [ht]; rfl, by rw [ht]; rfl, hQ, Or.inr ⟨z, rfl, hstep₁ _ fun acts => ?_⟩⟩
    rw [doInvoke_state]
    rw [ht] at hsteps
    exact hsteps
end RT
