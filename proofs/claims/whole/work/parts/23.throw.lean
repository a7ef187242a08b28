/-! Throwing: words that look at more than the tables, a walk begun anew in its middle, the row, the contract. -/
def exN : Nat → String
  | 0 => "java/lang/IllegalArgumentException"
  | _ => "java/lang/IllegalStateException"
def exUp : List String := ["java/lang/RuntimeException", "java/lang/Exception"]
def wT : List Jvm.Cond := [.laysStatic Bundle.tN "UNASSIGNED_STACK" Bundle.steD, .laysStatic Bundle.tN "SUPPRESSED_SENTINEL" Bundle.listD, .declares (Bundle.init0 "java/lang/RuntimeException"), .declares (Bundle.init0 "java/lang/Exception"), .declares (Bundle.init0 Bundle.tN), .castable (exN 0) (exN 0), .castable (exN 1) (exN 1), .isRef (.static Bundle.tN "UNASSIGNED_STACK" Bundle.steD), .isRef (.static Bundle.tN "SUPPRESSED_SENTINEL" Bundle.listD)]
def TW (U : State) : Prop := ∀ (a : Array Value) (w : Jvm.Cond), w ∈ wT → w.before a U = true
/-- the cells of statics stay -/
def SK (s U : State) : Prop := ∀ (a : Nat) (cell : Cell), s.heap[a]? = some cell → cell.vm.isStatics = true → U.heap[a]? = some cell
theorem lays_moved {s U : State} {args args' : Array Value} {O f d : String} (hvm : s.vm.Alike U.vm) (hk : SK s U) (h : (Cond.laysStatic O f d).before args s = true) : (Cond.laysStatic O f d).before args' U = true := by
  obtain ⟨c, k, i, fd, a, cell, hc, hf, hst, hsta, hcell, hiss, hcls, hlt, hty⟩ := Cond.laysStatic_spec h
  obtain ⟨k', hf', he⟩ := State.fieldFound?_setVm hvm hf
  have hf2 : U.fieldFound? O f d = some (c, k', i, fd) := hf'
  have hc2 : U.vm.findClass O = some c := by rw [hvm.findClass]; exact hc
  have hs2 : k'.statics = some a := by rw [he]; exact hsta
  have ht2 : k'.staticTypes[fd.slot]? = some fd.type := by rw [he]; exact hty
  have hcell2 := hk a cell hcell hiss
  simp [Cond.before, Cond.holds, Cond.value, hc2, hf2, hst, hs2, hcell2, hiss, hcls, hlt, ht2]
theorem isref_moved {s U : State} {args args' : Array Value} {O f d : String} (hvm : s.vm.Alike U.vm) (hk : SK s U) (hl : (Cond.laysStatic O f d).before args s = true) (h : (Cond.isRef (.static O f d)).before args s = true) : (Cond.isRef (.static O f d)).before args' U = true := by
  obtain ⟨c, k, i, fd, a, cell, hc, hf, hst, hsta, hcell, hiss, hcls, hlt, hty⟩ := Cond.laysStatic_spec hl
  obtain ⟨k', hf', he⟩ := State.fieldFound?_setVm hvm hf
  have hf2 : U.fieldFound? O f d = some (c, k', i, fd) := hf'
  have hs2 : k'.statics = some a := by rw [he]; exact hsta
  have hcell2 := hk a cell hcell hiss
  have hv : cell.slots[fd.slot]? = some cell.slots[fd.slot] := Array.getElem?_eq_getElem hlt
  have e1 : (Term.static O f d).eval args s none [] s = some cell.slots[fd.slot] := by simp [Term.eval, State.fieldNamed?, hf, hst, hsta, hcell, hiss]
  have e2 : (Term.static O f d).eval args' U none [] U = some cell.slots[fd.slot] := by simp [Term.eval, State.fieldNamed?, hf2, hst, hs2, hcell2, hiss]
  simp only [Cond.before, Cond.holds, Cond.value, e1, e2] at h ⊢
  exact h
theorem TW.moved {s U : State} (h : TW s) (hvm : s.vm.Alike U.vm) (hk : SK s U) : TW U := by
  intro a w hw
  have h0 := h a w hw
  simp only [wT, List.mem_cons, List.not_mem_nil, or_false] at hw
  rcases hw with rfl | rfl | rfl | rfl | rfl | rfl | rfl | rfl | rfl
  · exact lays_moved hvm hk h0
  · exact lays_moved hvm hk h0
  · exact Cond.faceAtom_setVm hvm _ rfl h0
  · exact Cond.faceAtom_setVm hvm _ rfl h0
  · exact Cond.faceAtom_setVm hvm _ rfl h0
  · exact Cond.faceAtom_setVm hvm _ rfl h0
  · exact Cond.faceAtom_setVm hvm _ rfl h0
  · exact isref_moved hvm hk (h a (.laysStatic Bundle.tN "UNASSIGNED_STACK" Bundle.steD) (by simp [wT])) h0
  · exact isref_moved hvm hk (h a (.laysStatic Bundle.tN "SUPPRESSED_SENTINEL" Bundle.listD) (by simp [wT])) h0
/-- no statics from b on -/
def NSb (b : Nat) (H : Heap) : Prop := ∀ (q : Nat) (cell : Cell), b ≤ q → H[q]? = some cell → cell.vm.isStatics = false
set_option maxRecDepth 100000 in
theorem off_sur_all : ((List.range 131).all fun w => decide ((offInv w).2 < vdn (offInv w).1 ∧ off (offInv w).1 (offInv w).2 = w)) = true := by decide +kernel
theorem off_sur {w : Nat} (h : w < 131) : (offInv w).2 < vdn (offInv w).1 ∧ off (offInv w).1 (offInv w).2 = w := of_decide_eq_true (List.all_eq_true.mp off_sur_all w (List.mem_range.mpr h))
theorem holds_vm {b : Nat} {D : va_G} {K : Nat → ClassId} {μ : MU} {H : Heap} {c i : Nat} (h : holds b D K μ H c i) {cell : Cell} (hc : H[lay b c i]? = some cell) : cell.vm.isStatics = false := by
  unfold holds at h
  split at h
  · obtain ⟨r, -, cell', h1, -, h3, -⟩ := h
    cases hc.symm.trans h1
    rw [h3]; rfl
  · cases hc.symm.trans h
    rfl
theorem Hp.ns {b : Nat} {D : va_G} {K : Nat → ClassId} {μ : MU} {H : Heap} (h : Hp none b D K μ H) : NSb b H := by
  intro q cell hq hc
  by_cases hw : q < b + 131
  · have h1 := off_sur (w := q - b) (by omega)
    have e : lay b (offInv (q - b)).1 (offInv (q - b)).2 = q := by unfold lay; omega
    have hl : q < H.size := (Array.getElem?_eq_some_iff.mp hc).1
    exact holds_vm (h.1 _ _ h1.1 (by rw [e]; exact hl)) (by rw [e]; exact hc)
  · exact h.2.2.2 q cell (by omega) hc
/-- a walk begun anew in its middle: its start's heap is the present one -/
def anew (s T : State) : State := { s with heap := T.heap, slotsUsed := T.slotsUsed }
theorem Stand_anew {p : Program} {l : Launch} {e : Env} {R R' : Room} {s : State} {m : MethodId} {args : Array Value} {below : List Frame} {meth : Method} {c : Code} {T : State} {locs : List Loc} {cells slots : Nat} (X : Stand p l e R s m args below meth c T locs cells slots) (h1 : R'.frames = R.frames) (h2 : R'.locals = R.locals) (h3 : cells + R'.cells ≤ R.cells) (h4 : slots + R'.slots ≤ R.slots) : Stand p l e R' (anew s T) m args below meth c T [] 0 0 := by
  have hr := X.room
  have hz := X.heapSize
  have hu := X.used
  have hb : (anew s T).slotsTrue = true := X.book
  refine ⟨X.admits, X.cas, X.clock, X.frames, ?_, X.hears, X.method, X.code, X.here, X.tail, X.warmed, X.limits, X.bytes, X.same.1, Nat.le_refl _, Nat.le_refl _, ?_, ?_, fun a c hc => ⟨c, hc, rfl, rfl, fun _ _ => rfl⟩⟩
  · simp only [State.hasRoom, Bool.and_eq_true, decide_eq_true_eq] at hr ⊢
    obtain ⟨⟨⟨⟨r1, r2⟩, r3⟩, r4⟩, -⟩ := hr
    refine ⟨⟨⟨⟨?_, ?_⟩, ?_⟩, ?_⟩, hb⟩
    · rw [h2]; exact r1
    · rw [h1, h2]; exact r2
    · show T.heap.size + R'.cells ≤ _
      omega
    · show T.slotsUsed + R'.slots ≤ _
      omega
  · show T.slotsUsed = T.slotsUsed + ((T.heap.toList.drop T.heap.size).map (fun x => x.slots.size)).sum
    rw [show (T.heap.toList.drop T.heap.size) = [] from List.drop_eq_nil_of_le (by simp)]
    rfl
  · show ((T.heap.toList.drop T.heap.size).map (fun x => x.slots.size)).sum ≤ 0
    rw [show (T.heap.toList.drop T.heap.size) = [] from List.drop_eq_nil_of_le (by simp)]
    exact Nat.le_refl _
/-- what a method may end in: an answer, or one of two exceptions -/
def QT (b : Nat) (D : va_G) (K : Nat → ClassId) (post : Option Int → MU → Prop) (tp : Nat → MU → Prop) : Array Value → State → Outcome → State → Prop := fun _ st oc t =>
  ((∃ (r : Option Int) (μ' : MU), oc = .returned (r.map (fun y => .int (i32 y))) ∧ (∀ y, r = some y → inR y) ∧ OkM μ' ∧ post r μ' ∧ Hp none b D K μ' t.heap ∧ va_K D wCl (tysK K) t) ∨
   (∃ (w : Nat) (μ' : MU) (a : Nat) (ce : Cell), oc = .threw a ∧ w < 2 ∧ OkM μ' ∧ tp w μ' ∧ Hp none b D K μ' t.heap ∧ va_K D wCl (tysK K) t ∧ t.heap[a]? = some ce ∧ ce.vm.isStatics = false ∧ t.vm.findClass (exN w) = some ce.cls)) ∧ va_F (Ad b) st t
def MQT (below : List Frame) (Qc : Array Value → State → Outcome → State → Prop) (args : Array Value) (s : State) (mc ms : Nat) (free : Addr → Prop) (t : State) : Prop := ∃ o, t.status = .running ∧ Ended t below o ∧ Qc args s o t ∧ ∃ L, (s.WarmedH t.vm ∧ s.sameButNew ({ t with vm := s.vm } : State) L mc ms) ∧ ∀ q ∈ L, free q.base
def MetT (l : Launch) (y : MethodName) (ws : List Jvm.Cond) (rm : Room) (Pc : Array Value → State → Prop) (Qc : Array Value → State → Outcome → State → Prop) (mc ms : Nat) (free : Addr → Prop) : Prop :=
  MetFree l y (headSpec ws rm) Pc (fun _ _ _ _ _ => True) (fun a st o t => Qc a st o t ∧ ∃ L, (st.WarmedH t.vm ∧ st.sameButNew ({ t with vm := st.vm } : State) L mc ms) ∧ ∀ q ∈ L, free q.base)
/-- what a frame that may throw knows, and owes -/
def Tx (x : MC) : Prop := match x with
  | (_, l, _, _, s, _, _, _, _, c, _, _, H0, b, _, _) => TW s ∧ NSb b s.heap ∧ l.stackTraces = false ∧ c.exceptionTable.isEmpty = true ∧ H0 = s.heap
def RtT (x : MC) (post : Option Int → MU → Prop) (tp : Nat → MU → Prop) (ret : Option FieldType) : Prop := match x with
  | (_, _, _, _, s, _, args, below, meth, _, Q, _, H0, b, D, K) => (∀ t, MQT below (QT b D K post tp) args s 1 6 (Ad b) t → Q t) ∧ meth.sig.returnType = ret ∧ H0 = s.heap
theorem RtT.ret {x : MC} {post : Option Int → MU → Prop} {tp : Nat → MU → Prop} {ret : Option FieldType} (h : RtT x post tp ret) : Rt x none post 1 6 ret := by
  obtain ⟨p, l, e, R, s, m, args, below, meth, c0, Q, nL, H0, b, D, K⟩ := x
  obtain ⟨h1, h2, h3⟩ := h
  refine ⟨fun t ht => h1 t ?_, h2, h3⟩
  obtain ⟨o, a1, a2, ⟨a3, a4⟩, L, ⟨-, a5, a6⟩, a7⟩ := ht
  exact ⟨o, a1, a2, ⟨Or.inl a3, a4⟩, L, ⟨a5, a6⟩, a7⟩
theorem same_nil {s U : State} {k n : Nat} (h : s.sameButNew U [] k n) {q : Nat} (hq : q < s.heap.size) : U.heap[q]? = s.heap[q]? := by
  obtain ⟨c, hc⟩ : ∃ c, s.heap[q]? = some c := ⟨s.heap[q], Array.getElem?_eq_getElem hq⟩
  obtain ⟨c', h1, h2, h3, h4⟩ := h.2.2.2.2.2 q c hc
  rw [h1, hc, h2]
  have : c'.slots = c.slots := Array.ext_getElem? fun i => h4 i (fun h => by cases h)
  rw [this]
