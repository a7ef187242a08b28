/-! The law from its entry. -/
theorem lw_TW {s : State} {b : Nat} (hts : ∀ w ∈ lw_tbl, w.before #[Value.ref b] s = true) (hgv : (Jvm.Cond.and given_1 narrow_1).before #[Value.ref b] s = true) : TW s := by
  intro a w hw
  have hs := flat_of_before _ hgv
  have k1 : SK s s := fun _ _ h _ => h
  have l1 : (Cond.laysStatic Bundle.tN "UNASSIGNED_STACK" Bundle.steD).before #[Value.ref b] s = true := hts _ (by decide +kernel)
  have l2 : (Cond.laysStatic Bundle.tN "SUPPRESSED_SENTINEL" Bundle.listD).before #[Value.ref b] s = true := hts _ (by decide +kernel)
  simp only [wT, List.mem_cons, List.not_mem_nil, or_false] at hw
  rcases hw with rfl | rfl | rfl | rfl | rfl | rfl | rfl | rfl | rfl | rfl
  · exact lays_moved (Vm.Alike.refl s.vm) k1 l1
  · exact lays_moved (Vm.Alike.refl s.vm) k1 l2
  · exact hts (.declares (Bundle.init0 "java/lang/RuntimeException")) (by decide +kernel)
  · exact hts (.declares (Bundle.init0 "java/lang/Exception")) (by decide +kernel)
  · exact hts (.declares (Bundle.init0 Bundle.tN)) (by decide +kernel)
  · exact hts (.castable (exN 0) (exN 0)) (by decide +kernel)
  · exact hts (.castable (exN 1) (exN 1)) (by decide +kernel)
  · exact isref_moved (Vm.Alike.refl s.vm) k1 l1 (hs (.isRef (.static Bundle.tN "UNASSIGNED_STACK" Bundle.steD)) (by decide +kernel))
  · exact isref_moved (Vm.Alike.refl s.vm) k1 l2 (hs (.isRef (.static Bundle.tN "SUPPRESSED_SENTINEL" Bundle.listD)) (by decide +kernel))
  · exact hs (.not (.castable (exN 1) (exN 0))) (by decide +kernel)
theorem lw_ra {s : State} {C : String} (h : va_AO C s) : ∃ cA : ClassId, ArrOfT s cA (.object C) ∧ va_RA s cA (.object C) := by
  obtain ⟨comp, c, k, h1, h2, h3, h4, h5⟩ := Cond.arrayOver_spec h
  exact ⟨c, fun N z => ⟨(fun k h => by cases h), k, h3, comp, h4⟩, k, comp, h3, h4, h1, h5⟩
theorem lw_pa {s : State} {args : Array Value} {ty : FieldType} (hp : ∀ C, ty ≠ .object C) (h : (Cond.arrayClass ty).before args s = true) : ∃ cA : ClassId, ArrOfT s cA ty ∧ va_RA s cA ty := by
  obtain ⟨c, k, comp, h1, h2, h3⟩ := Cond.arrayClass_spec h
  refine ⟨c, fun N z => ⟨(fun k h => by cases h), k, h2, comp, h3⟩, ?_⟩
  unfold va_RA
  cases ty with
  | object C => exact absurd rfl (hp C)
  | _ => exact h1
theorem lw_K {s : State} {b : Nat} (htw : ∀ w ∈ wG, w.before #[Value.ref b] s = true) (hA : AO3 s) : ∃ (D : va_G) (K : Nat → ClassId), va_K D wCl (tysK K) s := by
  obtain ⟨c0, i0, k0⟩ := u_known (C := RX0) (T := TX0) (N := 3) (n := 3) htw inX0 (htw (.instantiable RX0 3) (by decide +kernel))
  obtain ⟨c1, i1, k1⟩ := u_known (C := RX1) (T := TX1) (N := 10) (n := 10) htw inX1 (htw (.instantiable RX1 10) (by decide +kernel))
  obtain ⟨c2, i2, k2⟩ := u_known (C := RX2) (T := TX2) (N := 2) (n := 2) htw inX2 (htw (.instantiable RX2 2) (by decide +kernel))
  obtain ⟨c3, i3, k3⟩ := u_known (C := RX3) (T := TX3) (N := 8) (n := 8) htw inX3 (htw (.instantiable RX3 8) (by decide +kernel))
  obtain ⟨c4, i4, k4⟩ := u_known (C := RX4) (T := TX4) (N := 20) (n := 20) htw inX4 (htw (.instantiable RX4 20) (by decide +kernel))
  obtain ⟨a0, A0⟩ := lw_pa (ty := .int) (fun C h => by cases h) (htw (.arrayClass .int) (by decide +kernel))
  obtain ⟨a1, A1⟩ := lw_pa (ty := .boolean) (fun C h => by cases h) (htw (.arrayClass .boolean) (by decide +kernel))
  obtain ⟨a2, A2⟩ := lw_pa (ty := .long) (fun C h => by cases h) (htw (.arrayClass .long) (by decide +kernel))
  obtain ⟨a3, A3⟩ := lw_ra hA.1
  obtain ⟨a4, A4⟩ := lw_ra hA.2.1
  obtain ⟨a5, A5⟩ := lw_ra hA.2.2
  refine ⟨(fun k => if k = 0 then c0 else if k = 1 then c1 else if k = 2 then c2 else if k = 3 then c3 else c4, fun k => if k = 0 then i0 else if k = 1 then i1 else if k = 2 then i2 else if k = 3 then i3 else i4), (fun k => if k = 0 then a0 else if k = 1 then a1 else if k = 2 then a2 else if k = 3 then a3 else if k = 4 then a4 else a5), fun k q hq => ?_, fun k q hq => ?_⟩
  · match k, hq with
    | 0, hq => cases hq; exact k0
    | 1, hq => cases hq; exact k1
    | 2, hq => cases hq; exact k2
    | 3, hq => cases hq; exact k3
    | 4, hq => cases hq; exact k4
    | k + 5, hq => simp [wCl] at hq
  · match k, hq with
    | 0, hq => cases hq; exact A0
    | 1, hq => cases hq; exact A1
    | 2, hq => cases hq; exact A2
    | 3, hq => cases hq; exact A3
    | 4, hq => cases hq; exact A4
    | 5, hq => cases hq; exact A5
    | k + 6, hq => simp [tysK] at hq
/-- from the entry, for every script of at most 3072 ints, the law comes to its end with true -/
theorem whole_start {p : Program} {e : Env} {s : State} {m : MethodId} {below : List Frame} {meth : Method} {c : Code} (l : Launch) (hst9 : l.stackTraces = false) {b L : Nat} {xs : Nat → Int32} (hL : L ≤ 3072) (C0 : lw_At p s m meth c b L xs) : W p l e room_1 s m #[Value.ref b] below meth c s.heap [] 0 0 (lw_Z below #[Value.ref b] s) (entryFrame m ([Value.ref b] : List Value).toArray 7) := by
  obtain ⟨hx, hb, hr, hml, hown, hts, hX, hbl, hlk, hgv⟩ := C0
  have htw : ∀ w ∈ wG, w.before #[Value.ref b] s = true := fun w hw => hts w (List.mem_filter.mp hw).1
  have hA : AO3 s := ⟨hts (.arrayOver (.object "SeatOffice$School")) (by decide +kernel), hts (.arrayOver (.object "SeatOffice$Kind")) (by decide +kernel), hts (.arrayOver (.object "SeatOffice$Pupil")) (by decide +kernel)⟩
  obtain ⟨D, K, hK⟩ := lw_K htw hA
  have hV := lw_begin (x := (p, l, e, room_1, s, m, #[Value.ref b], below, meth, c, lw_Z below #[Value.ref b] s, 7, s.heap, s.heap.size, D, K)) (a := b) (N := L) (xs := xs) ⟨hx, hb, hml, htw, hown, hK, hlk, rfl⟩ hA ⟨hX, hbl, by omega, lw_TW hts hgv, hst9, rfl, rfl, hr, rfl, rfl⟩ hL
  have hcat : ∀ v ∈ ([Value.ref b] : List Value), v.category = 1 := fun v hv => by rw [List.mem_singleton.mp hv]; rfl
  have hsl : lg_sl [Value.ref b] = ([Value.ref b] : List Value).map Slot.val := lg_sl_cat1 hcat
  have hle := lv_entry [Value.ref b] (n := 7) (by rw [hsl]; exact Nat.le_of_ble_eq_true rfl)
  rw [lg_entry_eq]
  generalize (lg_sl [Value.ref b] ++ List.replicate (7 - (lg_sl [Value.ref b]).length) Slot.unset).toArray = ls at hle ⊢
  refine hV (fun f j => ?_) (fun v hv => by cases hv) (fun v hv => ?_) s.heap [] ls ⟨hle.1, hle.2.1, rfl, fun i v hi => ?_⟩ ⟨fun c i hi hl => ?_, rfl⟩ va_S.rf
  · rcases mu0_ok f j with h | h <;> rw [h] <;> exact ⟨by decide, by decide⟩
  · simp only [List.mem_cons, List.not_mem_nil, or_false, Option.some.injEq, reduceCtorEq] at hv
    rw [hv]; trivial
  · match i, hi with
    | 0, hi => cases hi; exact hle.2.2 (0, .ref b) (lv_args_at hcat rfl)
    | 1, hi => cases hi
    | 2, hi => cases hi
    | 3, hi => cases hi
    | 4, hi => cases hi
    | 5, hi => cases hi
    | 6, hi => cases hi
    | i + 7, hi => cases hi
  · have h9 : s.heap.size + off c i < s.heap.size := hl
    omega
