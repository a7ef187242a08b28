/-! Throwing: words that look at more than the tables, a walk begun anew in its middle, the row, the contract. -/
def exN : Nat → String
  | 0 => "java/lang/IllegalArgumentException"
  | _ => "java/lang/IllegalStateException"
def exUp : List String := ["java/lang/RuntimeException", "java/lang/Exception"]
def wT : List Jvm.Cond := [.laysStatic Bundle.tN "UNASSIGNED_STACK" Bundle.steD, .laysStatic Bundle.tN "SUPPRESSED_SENTINEL" Bundle.listD, .declares (Bundle.init0 "java/lang/RuntimeException"), .declares (Bundle.init0 "java/lang/Exception"), .declares (Bundle.init0 Bundle.tN), .castable (exN 0) (exN 0), .castable (exN 1) (exN 1), .isRef (.static Bundle.tN "UNASSIGNED_STACK" Bundle.steD), .isRef (.static Bundle.tN "SUPPRESSED_SENTINEL" Bundle.listD), .not (.castable (exN 1) (exN 0))]
def TW (U : State) : Prop := ∀ (a : Array Value) (w : Jvm.Cond), w ∈ wT → w.before a U = true
/-- the cells of statics stay -/
def SK (s U : State) : Prop := ∀ (a : Nat) (cell : Cell), s.heap[a]? = some cell → cell.vm.isStatics = true → U.heap[a]? = some cell
theorem lays_moved {s U : State} {args args' : Array Value} {O f d : String} (hvm : s.vm.Alike U.vm) (hk : SK s U) (h : (Cond.laysStatic O f d).before args s = true) : (Cond.laysStatic O f d).before args' U = true := by
  obtain ⟨c, k, i, fd, a, cell, hc, hf, hst, hsta, hcell, hiss, hcls, hlt, hty⟩ := Cond.laysStatic_spec h
  obtain ⟨k', hf', he⟩ := State.fieldFound?_setVm hvm hf
  have hf2 : U.fieldFound? O f d = some (c, k', i, fd) := hf'
  have hc2 : U.vm.findClass O = some c := by rw [hvm.findClass]; exact hc
  have hs2 : k'.statics = some a := by rw [he]; exact hsta
  have ht2 : k'.staticTypes[fd.slot]? = some fd.type := by rw [he]; exact hty
  have hcell2 := hk a cell hcell hiss
  simp [Cond.before, Cond.holds, Cond.value, hc2, hf2, hst, hs2, hcell2, hiss, hcls, hlt, ht2]
theorem isref_moved {s U : State} {args args' : Array Value} {O f d : String} (hvm : s.vm.Alike U.vm) (hk : SK s U) (hl : (Cond.laysStatic O f d).before args s = true) (h : (Cond.isRef (.static O f d)).before args s = true) : (Cond.isRef (.static O f d)).before args' U = true := by
  obtain ⟨c, k, i, fd, a, cell, hc, hf, hst, hsta, hcell, hiss, hcls, hlt, hty⟩ := Cond.laysStatic_spec hl
  obtain ⟨k', hf', he⟩ := State.fieldFound?_setVm hvm hf
  have hf2 : U.fieldFound? O f d = some (c, k', i, fd) := hf'
  have hs2 : k'.statics = some a := by rw [he]; exact hsta
  have hcell2 := hk a cell hcell hiss
  have hv : cell.slots[fd.slot]? = some cell.slots[fd.slot] := Array.getElem?_eq_getElem hlt
  have e1 : (Term.static O f d).eval args s none [] s = some cell.slots[fd.slot] := by simp [Term.eval, State.fieldNamed?, hf, hst, hsta, hcell, hiss]
  have e2 : (Term.static O f d).eval args' U none [] U = some cell.slots[fd.slot] := by simp [Term.eval, State.fieldNamed?, hf2, hst, hs2, hcell2, hiss]
  simp only [Cond.before, Cond.holds, Cond.value, e1, e2] at h ⊢
  exact h
theorem TW.moved {s U : State} (h : TW s) (hvm : s.vm.Alike U.vm) (hk : SK s U) : TW U := by
  intro a w hw
  have h0 := h a w hw
  simp only [wT, List.mem_cons, List.not_mem_nil, or_false] at hw
  rcases hw with rfl | rfl | rfl | rfl | rfl | rfl | rfl | rfl | rfl | rfl
  · exact lays_moved hvm hk h0
  · exact lays_moved hvm hk h0
  · exact Cond.faceAtom_setVm hvm _ rfl h0
  · exact Cond.faceAtom_setVm hvm _ rfl h0
  · exact Cond.faceAtom_setVm hvm _ rfl h0
  · exact Cond.faceAtom_setVm hvm _ rfl h0
  · exact Cond.faceAtom_setVm hvm _ rfl h0
  · exact isref_moved hvm hk (h a (.laysStatic Bundle.tN "UNASSIGNED_STACK" Bundle.steD) (by simp [wT])) h0
  · exact isref_moved hvm hk (h a (.laysStatic Bundle.tN "SUPPRESSED_SENTINEL" Bundle.listD) (by simp [wT])) h0
  · exact Cond.notCastable_moved (T := U) hvm h0
/-- no statics from b on -/
def NSb (b : Nat) (H : Heap) : Prop := ∀ (q : Nat) (cell : Cell), b ≤ q → H[q]? = some cell → cell.vm.isStatics = false
set_option maxRecDepth 100000 in
theorem off_sur_all : ((List.range 131).all fun w => decide ((offInv w).2 < vdn (offInv w).1 ∧ off (offInv w).1 (offInv w).2 = w)) = true := by decide +kernel
theorem off_sur {w : Nat} (h : w < 131) : (offInv w).2 < vdn (offInv w).1 ∧ off (offInv w).1 (offInv w).2 = w := of_decide_eq_true (List.all_eq_true.mp off_sur_all w (List.mem_range.mpr h))
theorem holds_vm {b : Nat} {D : va_G} {K : Nat → ClassId} {μ : MU} {H : Heap} {c i : Nat} (h : holds b D K μ H c i) {cell : Cell} (hc : H[lay b c i]? = some cell) : cell.vm.isStatics = false := by
  unfold holds at h
  split at h
  · obtain ⟨r, -, cell', h1, -, h3, -⟩ := h
    cases hc.symm.trans h1
    rw [h3]; rfl
  · cases hc.symm.trans h
    rfl
theorem Hp.ns {b : Nat} {D : va_G} {K : Nat → ClassId} {μ : MU} {H : Heap} (h : Hp none b D K μ H) : NSb b H := by
  intro q cell hq hc
  by_cases hw : q < b + 131
  · have h1 := off_sur (w := q - b) (by omega)
    have e : lay b (offInv (q - b)).1 (offInv (q - b)).2 = q := by unfold lay; omega
    have hl : q < H.size := (Array.getElem?_eq_some_iff.mp hc).1
    exact holds_vm (h.1 _ _ h1.1 (by rw [e]; exact hl)) (by rw [e]; exact hc)
  · exact h.2.2.2 q cell (by omega) hc
/-- a walk begun anew in its middle: its start's heap is the present one -/
def anew (s T : State) : State := { s with heap := T.heap, slotsUsed := T.slotsUsed }
theorem Stand_anew {p : Program} {l : Launch} {e : Env} {R R' : Room} {s : State} {m : MethodId} {args : Array Value} {below : List Frame} {meth : Method} {c : Code} {T : State} {locs : List Loc} {cells slots : Nat} (X : Stand p l e R s m args below meth c T locs cells slots) (h1 : R'.frames = R.frames) (h2 : R'.locals = R.locals) (h3 : cells + R'.cells ≤ R.cells) (h4 : slots + R'.slots ≤ R.slots) : Stand p l e R' (anew s T) m args below meth c T [] 0 0 := by
  have hr := X.room
  have hz := X.heapSize
  have hu := X.used
  have hb : (anew s T).slotsTrue = true := X.book
  refine ⟨X.admits, X.cas, X.clock, X.frames, ?_, X.hears, X.method, X.code, X.here, X.tail, X.warmed, X.limits, X.bytes, X.same.1, Nat.le_refl _, Nat.le_refl _, ?_, ?_, fun a c hc => ⟨c, hc, rfl, rfl, fun _ _ => rfl⟩⟩
  · simp only [State.hasRoom, Bool.and_eq_true, decide_eq_true_eq] at hr ⊢
    obtain ⟨⟨⟨⟨r1, r2⟩, r3⟩, r4⟩, -⟩ := hr
    refine ⟨⟨⟨⟨?_, ?_⟩, ?_⟩, ?_⟩, hb⟩
    · rw [h2]; exact r1
    · rw [h1, h2]; exact r2
    · show T.heap.size + R'.cells ≤ _
      omega
    · show T.slotsUsed + R'.slots ≤ _
      omega
  · show T.slotsUsed = T.slotsUsed + ((T.heap.toList.drop T.heap.size).map (fun x => x.slots.size)).sum
    rw [show (T.heap.toList.drop T.heap.size) = [] from List.drop_eq_nil_of_le (by simp)]
    rfl
  · show ((T.heap.toList.drop T.heap.size).map (fun x => x.slots.size)).sum ≤ 0
    rw [show (T.heap.toList.drop T.heap.size) = [] from List.drop_eq_nil_of_le (by simp)]
    exact Nat.le_refl _
/-- what a method may end in: an answer, or one of two exceptions -/
def QT (b : Nat) (D : va_G) (K : Nat → ClassId) (post : Option Int → MU → Prop) (tp : Nat → MU → Prop) : Array Value → State → Outcome → State → Prop := fun _ st oc t =>
  ((∃ (r : Option Int) (μ' : MU), oc = .returned (r.map (fun y => .int (i32 y))) ∧ (∀ y, r = some y → inR y) ∧ OkM μ' ∧ post r μ' ∧ Hp none b D K μ' t.heap ∧ va_K D wCl (tysK K) t) ∨
   (∃ (w : Nat) (μ' : MU) (a : Nat) (ce : Cell), oc = .threw a ∧ w < 2 ∧ OkM μ' ∧ tp w μ' ∧ Hp none b D K μ' t.heap ∧ va_K D wCl (tysK K) t ∧ t.heap[a]? = some ce ∧ ce.vm.isStatics = false ∧ t.vm.findClass (exN w) = some ce.cls)) ∧ va_F (Ad b) st t
def MQT (below : List Frame) (Qc : Array Value → State → Outcome → State → Prop) (args : Array Value) (s : State) (mc ms : Nat) (free : Addr → Prop) (t : State) : Prop := ∃ o, t.status = .running ∧ Ended t below o ∧ Qc args s o t ∧ ∃ L, (s.WarmedH t.vm ∧ s.sameButNew ({ t with vm := s.vm } : State) L mc ms) ∧ ∀ q ∈ L, free q.base
def MetT (l : Launch) (y : MethodName) (ws : List Jvm.Cond) (rm : Room) (Pc : Array Value → State → Prop) (Qc : Array Value → State → Outcome → State → Prop) (mc ms : Nat) (free : Addr → Prop) : Prop :=
  MetFree l y (headSpec ws rm) Pc (fun _ _ _ _ _ => True) (fun a st o t => Qc a st o t ∧ ∃ L, (st.WarmedH t.vm ∧ st.sameButNew ({ t with vm := st.vm } : State) L mc ms) ∧ ∀ q ∈ L, free q.base)
/-- what a frame that may throw knows, and owes -/
def Tx (x : MC) : Prop := match x with
  | (_, l, _, _, s, _, _, _, _, c, _, _, H0, b, _, _) => TW s ∧ NSb b s.heap ∧ l.stackTraces = false ∧ c.exceptionTable.isEmpty = true ∧ H0 = s.heap
def RtT (x : MC) (post : Option Int → MU → Prop) (tp : Nat → MU → Prop) (ret : Option FieldType) : Prop := match x with
  | (_, _, _, _, s, _, args, below, meth, _, Q, _, H0, b, D, K) => (∀ t, MQT below (QT b D K post tp) args s 1 6 (Ad b) t → Q t) ∧ meth.sig.returnType = ret ∧ H0 = s.heap
theorem RtT.ret {x : MC} {post : Option Int → MU → Prop} {tp : Nat → MU → Prop} {ret : Option FieldType} (h : RtT x post tp ret) : Rt x none post 1 6 ret := by
  obtain ⟨p, l, e, R, s, m, args, below, meth, c0, Q, nL, H0, b, D, K⟩ := x
  obtain ⟨h1, h2, h3⟩ := h
  refine ⟨fun t ht => h1 t ?_, h2, h3⟩
  obtain ⟨o, a1, a2, ⟨a3, a4⟩, L, ⟨-, a5, a6⟩, a7⟩ := ht
  exact ⟨o, a1, a2, ⟨Or.inl a3, a4⟩, L, ⟨a5, a6⟩, a7⟩
theorem same_nil {s U : State} {k n : Nat} (h : s.sameButNew U [] k n) {q : Nat} (hq : q < s.heap.size) : U.heap[q]? = s.heap[q]? := by
  obtain ⟨c, hc⟩ : ∃ c, s.heap[q]? = some c := ⟨s.heap[q], Array.getElem?_eq_getElem hq⟩
  obtain ⟨c', h1, h2, h3, h4⟩ := h.2.2.2.2.2 q c hc
  rw [h1, hc, h2]
  have : c'.slots = c.slots := Array.ext_getElem? fun i => h4 i (fun h => by cases h)
  rw [this]
section VT
variable {x : MC} {pc : Nat} {L : List (Option AV)} {μ : MU} {own : String} {cc : ByteArray} {rm : Room}
theorem exFit {w : Nat} (h : w < 2) : Bundle.fit (exN w) = true := by
  rcases (by omega : w = 0 ∨ w = 1) with rfl | rfl <;> decide +kernel
set_option maxHeartbeats 1000000 in
/-- new, dup, the constructor, athrow: out of the method -/
theorem v_throw (hC : Ctx x own cc rm) (hT : Tx x) {post : Option Int → MU → Prop} {tp : Nat → MU → Prop} {ret : Option FieldType} (hR : RtT x post tp ret) {idx ic : Nat} (w : Nat) (hw2 : w < 2) (dN : decode cc pc = .ok (.new idx, 3)) (dD : decode cc (pc + 3) = .ok (.dup, 1)) (dI : decode cc (pc + 4) = .ok (.invokespecial ic, 3)) (dA : decode cc (pc + 7) = .ok (.athrow, 1))
    (hcl : Cond.classLink own idx (exN w) ∈ wG) (hin : Cond.initialized (exN w) ∈ wG) (hat : ∀ a ∈ Bundle.ownAtoms0 own ic (exN w) exUp, a ∈ wG ∨ a ∈ wT) (hrf : 5 < rm.frames) (hrc : 1 ≤ rm.cells) (hrs : 6 ≤ rm.slots) (hrl : 100 ≤ rm.locals) (hp : tp w μ) : V x 0 0 none pc L [] μ := by
  obtain ⟨p, l, e, R, s, m, args, below, meth, c0, Q, nL, H0, b, D, K⟩ := x
  intro hM hS hL H locs ls hlo hH hF
  obtain ⟨hx, hb, hml, hts, hown, hK, hlk, hRm⟩ := hC
  obtain ⟨hTW, hNS, hst, hex, hH0⟩ := hT
  obtain ⟨hQ, hr, -⟩ := hR
  subst hRm
  subst hH0
  intro T hTh X
  subst hTh
  have hgd : ∀ w9 ∈ wG, w9.before args (anew s T) = true := fun w9 hw => word_at (s := s) (U := anew s T) (State.WarmedH.refl s) (good_of_word (List.mem_filter.mp hw).2) (hts w9 hw)
  have hTW' : TW (anew s T) := hTW.moved (Vm.Alike.refl s.vm) (fun a cell h1 h2 => by
    have hlt : a < s.heap.size := (Array.getElem?_eq_some_iff.mp h1).1
    have hb9 : ¬ Ad b a := fun h => by rw [hNS a cell h h1] at h2; cases h2
    exact (hF.2.1 a hlt hb9).trans h1)
  have hatb : ∀ a ∈ Bundle.ownAtoms0 own ic (exN w) exUp, a.before args (anew s T) = true := fun a ha => (hat a ha).elim (hgd a) (hTW' args a)
  have htr : e.platform.stackTraces = false := by rw [X.admits.platform]; exact hst
  have X' : Stand p l e R (anew s T) m args below meth c0 T [] 0 0 := Stand_anew X rfl rfl (by omega) (by omega)
  obtain ⟨vm₁, cX, kX, hfX, hkX, -, -, X₁, st1⟩ := X'.newCold hx (own := own) (C := exN w) (index := idx) (n := 6) hown (hgd _ hcl) (hatb (.instantiable (exN w) 6) (by simp [Bundle.ownAtoms0])) (hgd _ hin) (g := F0 m pc ls []) rfl (by rw [hb]; exact dN) (by omega) (by omega)
  have hdup : W p l e R (anew s T) m args below meth c0 ((T.setVm vm₁).pushCell { cls := cX, slots := kX.instanceTypes.map defaultValue, vm := .none }).heap [] (0 + 1) (0 + 6) (fun U => U.status = .running ∧ Ended U below (.threw T.heap.size) ∧ (anew s T).WarmedH U.vm ∧ (anew s T).sameButNew ({ U with vm := (anew s T).vm } : State) [] 1 6 ∧ ∃ ce, U.heap[T.heap.size]? = some ce ∧ ce.vm = .none ∧ s.vm.findClass (exN w) = some ce.cls) (F0 m (pc + 3) ls [.ref T.heap.size]) := by
    refine lv_dup hx hb dD rfl ?_
    intro T2 hT2 X2
    obtain ⟨U, hsteps, hrun, hend, hW, hsame, ce, hce, KK⟩ := X2.ctorThrow0 hx htr (own := own) (cls := exN w) (names := exUp) (ic := ic) hown (exFit hw2) (by decide +kernel) hatb (fun y hy => by cases hy) hfX hkX (a := T.heap.size) (by rw [hT2]; exact State.heap_pushCell_size _ _) (Nat.le_refl _)
      (g := F0 m (pc + 3 + 1) ls [.ref T.heap.size, .ref T.heap.size]) rfl (by rw [hml]; exact hlo.1) rfl rfl (rest := []) rfl (by rw [hb]; exact dI) (by rw [hb]; exact dA) (covers_of_empty hex _) (by show 2 + 3 < R.frames; omega) (by show 2 * 0 + (1 + 0) + (13 * (2 + 1) + 41) ≤ R.locals; omega) hlk
    exact ⟨U, hsteps, hrun, hend, hW, hsame, ce, hce, KK.vm, KK.cls⟩
  obtain ⟨U, hsteps, hrun, hend, hW, hsame, ce, hce, hv, hc9⟩ := hdup _ rfl X₁
  refine ⟨U, st1 U hsteps, hQ U ⟨.threw T.heap.size, hrun, hend, ?_, locs, ⟨hW, ?_⟩, hF.2.2⟩⟩
  · have hag : ∀ q, q < T.heap.size → U.heap[q]? = T.heap[q]? := fun q hq => same_nil hsame hq
    have hz1 : T.heap.size ≤ U.heap.size := hsame.2.1
    have hz2 : U.heap.size ≤ T.heap.size + 1 := hsame.2.2.1
    refine ⟨Or.inr ⟨w, μ, T.heap.size, ce, rfl, hw2, hM, hp, ⟨fun c i hi hl => ?_, hH.2.1, Nat.le_trans hH.2.2.1 hz1, fun q cell hq hc => ?_⟩, va_K.moved hW.alike hK, hce, by rw [hv]; rfl, by rw [hW.alike.findClass]; exact hc9⟩, Nat.le_trans hF.1 hz1, fun q h1 h2 => (hag q (Nat.lt_of_lt_of_le h1 hF.1)).trans (hF.2.1 q h1 h2)⟩
    · have hlt := Md.lt hH.2 rfl hi
      exact holds_congr (fun _ _ _ => rfl) (hag _ hlt) (hH.1 c i hi hlt)
    · by_cases hq2 : q < T.heap.size
      · exact hH.2.2.2 q cell hq (by rw [← hag q hq2]; exact hc)
      · have hq3 : q < U.heap.size := (Array.getElem?_eq_some_iff.mp hc).1
        have hq4 : q = T.heap.size := by omega
        rw [hq4] at hc
        cases hc.symm.trans hce
        rw [hv]; rfl
  · have hB : (T.setVm s.vm).sameButNew ({ U with vm := s.vm } : State) [] 1 6 := by
      refine ⟨?_, hsame.2⟩
      have h1 := hsame.1
      have h2 := congrArg (fun z : State => z.setFrames U.frames) X.same.1
      have h3 : (T.setVm s.vm).setFrames U.frames = { s.setFrames U.frames with heap := T.heap, slotsUsed := T.slotsUsed } := by
        refine h2.trans ?_
        show ({ (s.setFrames (T.setVm s.vm).frames).setFrames U.frames with heap := T.heap, slotsUsed := T.slotsUsed } : State) = _
        rw [State.setFrames_setFrames]
      refine h1.trans ?_
      show _ = ({ (T.setVm s.vm).setFrames U.frames with heap := U.heap, slotsUsed := U.slotsUsed } : State)
      rw [h3]
      rfl
    have h9 := X.same.trans hB
    rw [List.append_nil, Nat.zero_add, Nat.zero_add] at h9
    exact h9
end VT
theorem atIA : ∀ a ∈ Bundle.ownAtoms0 RX3 49 (exN 0) exUp, a ∈ wG ∨ a ∈ wT := by decide +kernel
theorem atIS : ∀ a ∈ Bundle.ownAtoms0 RX3 42 (exN 1) exUp, a ∈ wG ∨ a ∈ wT := by decide +kernel
theorem clIA : Cond.classLink RX3 47 (exN 0) ∈ wG := by decide +kernel
theorem clIS : Cond.classLink RX3 40 (exN 1) ∈ wG := by decide +kernel
theorem iniIA : Cond.initialized (exN 0) ∈ wG := by decide +kernel
theorem iniIS : Cond.initialized (exN 1) ∈ wG := by decide +kernel
def PCT (b : Nat) (D : va_G) (K : Nat → ClassId) (as : List AV) (μ : MU) : Array Value → State → Prop := fun a U => PC b D K none as μ a U ∧ TW U
theorem PCT.blind {b : Nat} {D : va_G} {K : Nat → ClassId} {as : List AV} {μ : MU} : FrameBlind (PCT b D K as μ) := fun a U g mk q => ⟨PC.blind a U g mk q.1, TW.moved (U := U.calling g mk a) q.2 (Vm.Alike.refl U.vm) (fun _ _ h _ => h)⟩
/-- the contract of a method that may throw, out of its walk -/
theorem met_ofT {l : Launch} (hl : l.stackTraces = false) {y : MethodName} {rm : Room} {cc : ByteArray} {maxL : Nat} {ret : Option FieldType} {b : Nat} {D : va_G} {K : Nat → ClassId} {as : List AV} {μ : MU} {post : Option Int → MU → Prop} {tp : Nat → MU → Prop} (hy : plainName y.cls = true) (hlen : as.length ≤ maxL)
    (h : ∀ x : MC, Ctx x y.cls cc rm → Tx x → RtT x post tp ret → OkM μ → OkL (as.map some) → V x 0 0 none 0 (as.map some ++ List.replicate (maxL - as.length) none) [] μ) : MetT l y (Cond.code y cc maxL ret :: wG) rm (PCT b D K as μ) (QT b D K post tp) 1 6 (Ad b) := by
  refine MetFree.of_bodyS (code := cc) (maxLocals := maxL) (ret := ret) hy ?_ ?_
  · intro args s m h9 hn
    obtain ⟨meth, c, h1, h2, h3, h4, h5, h6, -, -⟩ := Cond.code_spec hn (atoms_spec (ws := Cond.code y cc maxL ret :: wG) h9 _ List.mem_cons_self)
    exact ⟨meth, c, h1, h2, h3, h4, h5, h6⟩
  · intro p e s m args below meth c s₁ B hml hv _
    have hh0 : s₁.heap = s.heap := by rw [B.state]; rfl
    obtain ⟨⟨rfl, hM, hA, hH, hK⟩, hTW⟩ := hv
    have hts0 := atoms_spec (ws := Cond.code y cc maxL ret :: wG) B.pre
    have hts : ∀ w ∈ wG, w.before ((as.map (cv b)).toArray) s = true := fun w hw => hts0 w (List.mem_cons_of_mem _ hw)
    have hown : s.vm.findClass y.cls = some m.cls := findClass_of_methodNamed B.named
    have hV := h (p, l, e, rm, s, m, (as.map (cv b)).toArray, below, meth, c, MQT below (QT b D K post tp) (as.map (cv b)).toArray s 1 6 (Ad b), maxL, s.heap, b, D, K) ⟨B.exec, B.bytes, hml, hts, hown, hK, B.notSynchronized, rfl⟩ ⟨hTW, hH.ns, hl, B.noHandlers (hts0 _ List.mem_cons_self), rfl⟩ ⟨fun _ h => h, B.returns, rfl⟩ hM hA
    have hcat : ∀ v ∈ as.map (cv b), v.category = 1 := fun v hv => by
      obtain ⟨w, hw1, rfl⟩ := List.mem_map.mp hv
      exact cv_cat (hA w (List.mem_map.mpr ⟨w, hw1, rfl⟩))
    have hsl : lg_sl (as.map (cv b)) = (as.map (cv b)).map Slot.val := lg_sl_cat1 hcat
    have hle := lv_entry (as.map (cv b)) (n := maxL) (by rw [hsl]; simpa using hlen)
    have hW : W p l e rm s m (as.map (cv b)).toArray below meth c s.heap [] 0 0 (MQT below (QT b D K post tp) (as.map (cv b)).toArray s 1 6 (Ad b)) (entryFrame m (as.map (cv b)).toArray maxL) := by
      rw [lg_entry_eq]
      generalize (lg_sl (as.map (cv b)) ++ List.replicate (maxL - (lg_sl (as.map (cv b))).length) Slot.unset).toArray = ls at hle ⊢
      refine hV hM (fun v hv => by cases hv) (fun v hv => ?_) s.heap [] ls ⟨hle.1, hle.2.1, by simp; omega, fun i v hi => ?_⟩ hH va_S.rf
      · rcases List.mem_append.mp hv with q | q
        · exact hA v q
        · have := List.eq_of_mem_replicate q
          cases this
      · refine hle.2.2 (i, cv b v) (lv_args_at hcat ?_)
        by_cases hia : i < as.length
        · rw [List.getElem?_append_left (by simpa using hia), List.getElem?_map] at hi
          rw [List.getElem?_map]
          cases hq : as[i]? with
          | none => rw [hq] at hi; cases hi
          | some w => rw [hq] at hi; cases hi; rfl
        · rw [List.getElem?_append_right (by simpa using Nat.not_lt.mp hia)] at hi
          have := List.eq_of_mem_replicate (List.mem_of_getElem? hi)
          cases this
    obtain ⟨t, a1, o, b1, b2, b3, b4⟩ := hW s₁ hh0 (Stand.of_body B)
    exact ⟨t, o, a1, b1, b2, b3, b4⟩
def CTT (y : MethodName) (cc : ByteArray) (maxL : Nat) (ret : Option FieldType) (rm : Room) (as : List AV) (μ : MU) (post : Int → MU → Prop) (tp : Nat → MU → Prop) : Prop := ∀ (l : Launch), l.stackTraces = false → ∀ (b : Nat) (D : va_G) (K : Nat → ClassId), MetT l y (Cond.code y cc maxL ret :: wG) rm (PCT b D K as μ) (QT b D K (pI post) tp) 1 6 (Ad b)
section VTR
variable {x : MC} {pc : Nat} {L : List (Option AV)} {μ : MU} {own : String} {cc : ByteArray} {rm : Room}
theorem v_iretT (hC : Ctx x own cc rm) {post : Option Int → MU → Prop} {tp : Nat → MU → Prop} {r : Int} (hR : RtT x post tp (some .int)) (d : decode cc pc = .ok (.ireturn, 1)) (hp : post (some r) μ) : V x 0 0 none pc L [aI r] μ := v_zret hC hR.ret (Nat.zero_le _) (Nat.zero_le _) d rfl hp
theorem v_bretT (hC : Ctx x own cc rm) {post : Option Int → MU → Prop} {tp : Nat → MU → Prop} {r : Int} (hR : RtT x post tp (some .boolean)) (d : decode cc pc = .ok (.ireturn, 1)) (hv : r = 0 ∨ r = 1) (hp : post (some r) μ) : V x 0 0 none pc L [aI r] μ := v_zret hC hR.ret (Nat.zero_le _) (Nat.zero_le _) d (bool_n hv).1 hp
end VTR
