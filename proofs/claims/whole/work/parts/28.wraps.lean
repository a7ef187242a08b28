/-! The law's eight wrappers: each calls, writes the answer down, or tells which exception came. -/
def CTW (y : MethodName) (cc : ByteArray) (maxL : Nat) (rows : List (Nat × Nat × Nat × Nat)) (rm : Room) (as : List AV) (μ : MU) (post : Int → MU → Prop) : Prop := ∀ (l : Launch), l.stackTraces = false → ∀ (b : Nat) (D : va_G) (K : Nat → ClassId), Met l y (Cond.codeWith y cc maxL (some .int) rows :: wG) rm (PCT b D K as μ) (QR b D K none (pI post)) 1 6 (Ad b)
theorem met_ofW {l : Launch} (hl : l.stackTraces = false) {y : MethodName} {rm : Room} {cc : ByteArray} {maxL : Nat} {ret : Option FieldType} {rows : List (Nat × Nat × Nat × Nat)} {b : Nat} {D : va_G} {K : Nat → ClassId} {as : List AV} {μ : MU} {post : Option Int → MU → Prop} (hy : plainName y.cls = true) (hlen : as.length ≤ maxL)
    (h : ∀ x : MC, Ctx x y.cls cc rm → Wx x rows → Rt x none post 1 6 ret → OkM μ → OkL (as.map some) → V x 0 0 none 0 (as.map some ++ List.replicate (maxL - as.length) none) [] μ) : Met l y (Cond.codeWith y cc maxL ret rows :: wG) rm (PCT b D K as μ) (QR b D K none post) 1 6 (Ad b) := by
  refine va_MetW (cc := cc) (maxL := maxL) (ret := ret) (hh := rows) hy rfl ?_
  intro p e s m args below meth c s₁ B hml hv
  obtain ⟨⟨rfl, hM, hA, hH, hK⟩, hTW⟩ := hv
  have hts0 := atoms_spec (ws := Cond.codeWith y cc maxL ret rows :: wG) B.pre
  have hts : ∀ w ∈ wG, w.before ((as.map (cv b)).toArray) s = true := fun w hw => hts0 w (List.mem_cons_of_mem _ hw)
  have hown : s.vm.findClass y.cls = some m.cls := findClass_of_methodNamed B.named
  have hrows : c.exceptionTable.toList.map (fun h => (h.startPc, h.endPc, h.handlerPc, h.catchType)) = rows := by
    obtain ⟨m9, meth9, c9, hn9, h1, h2, -, -, h5, -⟩ := Cond.codeWith_spec (hts0 _ List.mem_cons_self)
    cases B.named.symm.trans hn9
    have X := Stand.of_body B
    cases X.method.symm.trans h1
    cases X.code.symm.trans h2
    exact h5
  have hV := h (p, l, e, rm, s, m, (as.map (cv b)).toArray, below, meth, c, MQ below (QR b D K none post) (as.map (cv b)).toArray s 1 6 (Ad b), maxL, s.heap, b, D, K) ⟨B.exec, B.bytes, hml, hts, hown, hK, B.notSynchronized, rfl⟩ ⟨hTW, hH.ns, hl, hrows, rfl⟩ ⟨fun _ h => h, B.returns, rfl⟩ hM hA
  have hcat : ∀ v ∈ as.map (cv b), v.category = 1 := fun v hv => by
    obtain ⟨w, hw1, rfl⟩ := List.mem_map.mp hv
    exact cv_cat (hA w (List.mem_map.mpr ⟨w, hw1, rfl⟩))
  have hsl : lg_sl (as.map (cv b)) = (as.map (cv b)).map Slot.val := lg_sl_cat1 hcat
  have hle := lv_entry (as.map (cv b)) (n := maxL) (by rw [hsl]; simpa using hlen)
  rw [lg_entry_eq]
  generalize (lg_sl (as.map (cv b)) ++ List.replicate (maxL - (lg_sl (as.map (cv b))).length) Slot.unset).toArray = ls at hle ⊢
  refine hV hM (fun v hv => by cases hv) (fun v hv => ?_) s.heap [] ls ⟨hle.1, hle.2.1, by simp; omega, fun i v hi => ?_⟩ hH va_S.rf
  · rcases List.mem_append.mp hv with q | q
    · exact hA v q
    · have := List.eq_of_mem_replicate q
      cases this
  · refine hle.2.2 (i, cv b v) (lv_args_at hcat ?_)
    by_cases hia : i < as.length
    · rw [List.getElem?_append_left (by simpa using hia), List.getElem?_map] at hi
      rw [List.getElem?_map]
      cases hq : as[i]? with
      | none => rw [hq] at hi; cases hi
      | some w => rw [hq] at hi; cases hi; rfl
    · rw [List.getElem?_append_right (by simpa using Nat.not_lt.mp hia)] at hi
      have := List.eq_of_mem_replicate (List.mem_of_getElem? hi)
      cases this
abbrev RX5 : String := "SeatOfficeLaw"
theorem lkIA : Cond.classLink RX5 19 (exN 0) ∈ wG := by decide +kernel
theorem lkIS : Cond.classLink RX5 13 (exN 1) ∈ wG := by decide +kernel
/-- the answer is written down, or the exception's number comes -/
abbrev wrP (post : Int → MU → Prop) (tp : Nat → MU → Prop) (f : Nat → Int) : Int → MU → Prop := fun r μ' => (r = 0 ∧ ∃ (r1 : Int) (μ1 : MU), post r1 μ1 ∧ upM μ1 40 0 r1 = μ') ∨ ∃ w, r = f w ∧ w < 2 ∧ tp w μ'
theorem nl0 : ∀ v, v ∈ ([] : List AV) → okv v → okl v := fun v hv => by cases hv
theorem nlI {as : List Int} : ∀ v, v ∈ as.map aI → okv v → okl v := fun v hv h => by
  obtain ⟨y, -, rfl⟩ := List.mem_map.mp hv
  exact h
section VCN
variable {x : MC} {n k : Nat} {pc : Nat} {L : List (Option AV)} {S : List AV} {μ : MU} {own : String} {cc : ByteArray} {rm : Room}
theorem v_tsm {own : String} {e h1 : Nat} {pc w : Nat} (hpc : pc < e) (hl : Cond.classLink own 13 (exN 1) ∈ wG) (hw : w = 1) : Cat own [(0, e, h1, 13)] pc w h1 := ⟨[], _, [], rfl, rfl, Nat.zero_le _, hpc, (by show (13 : Nat) ≠ 0; decide), by rw [hw]; exact hl, fun q hq => by cases hq⟩
theorem v_tam {own : String} {e h1 : Nat} {pc w : Nat} (hpc : pc < e) (hl : Cond.classLink own 19 (exN 0) ∈ wG) (hw : w = 0) : Cat own [(0, e, h1, 19)] pc w h1 := ⟨[], _, [], rfl, rfl, Nat.zero_le _, hpc, (by show (19 : Nat) ≠ 0; decide), by rw [hw]; exact hl, fun q hq => by cases hq⟩
theorem v_tbm {own : String} {e h0 h1 : Nat} {pc w : Nat} (hpc : pc < e) (hl : Cond.classLink own 19 (exN 0) ∈ wG) (hl1 : Cond.classLink own 13 (exN 1) ∈ wG) (hw : w < 2) : Cat own [(0, e, h0, 19), (0, e, h1, 13)] pc w (if w = 0 then h0 else h1) := by
  rcases (by omega : w = 0 ∨ w = 1) with rfl | rfl
  · exact ⟨[], _, _, rfl, rfl, Nat.zero_le _, hpc, (by show (19 : Nat) ≠ 0; decide), hl, fun q hq => by cases hq⟩
  · exact ⟨[(0, e, h0, 19)], _, [], rfl, rfl, Nat.zero_le _, hpc, (by show (13 : Nat) ≠ 0; decide), hl1, fun q hq => by rw [List.mem_singleton.mp hq]; exact ⟨by show (19 : Nat) ≠ 0; decide, rfl, hl⟩⟩
end VCN
abbrev cX5_school : ByteArray := method_3_code
def yX5_school : MethodName := ⟨RX5, "school", "(LSeatOffice;[J)I"⟩
abbrev rmX5_school : Room := { frames := 7, cells := 1, slots := 6, locals := 120 }
theorem dX5_school_0 : decode cX5_school 0 = .ok (.aload_n 1, 1) := by decide +kernel
theorem dX5_school_1 : decode cX5_school 1 = .ok (.iconst 0, 1) := by decide +kernel
theorem dX5_school_2 : decode cX5_school 2 = .ok (.aload_n 0, 1) := by decide +kernel
theorem dX5_school_3 : decode cX5_school 3 = .ok (.invokevirtual 7, 3) := by decide +kernel
theorem dX5_school_6 : decode cX5_school 6 = .ok (.i2l, 1) := by decide +kernel
theorem dX5_school_7 : decode cX5_school 7 = .ok (.lastore, 1) := by decide +kernel
theorem dX5_school_8 : decode cX5_school 8 = .ok (.goto 6, 3) := by decide +kernel
theorem dX5_school_11 : decode cX5_school 11 = .ok (.astore_n 2, 1) := by decide +kernel
theorem dX5_school_12 : decode cX5_school 12 = .ok (.iconst 1, 1) := by decide +kernel
theorem dX5_school_13 : decode cX5_school 13 = .ok (.ireturn, 1) := by decide +kernel
theorem dX5_school_14 : decode cX5_school 14 = .ok (.iconst 0, 1) := by decide +kernel
theorem dX5_school_15 : decode cX5_school 15 = .ok (.ireturn, 1) := by decide +kernel
set_option maxRecDepth 100000 in
set_option maxHeartbeats 4000000 in
theorem cX5_school_ok  {μ : MU} {post : Int → MU → Prop} {tp : Nat → MU → Prop} (hc : CTT yX3_school cX3_school 1 (some .int) rmX3_school [aR 0 0] μ post tp) (ht : ∀ w μ9, tp w μ9 → w = 1) : CTW yX5_school cX5_school 3 [(0, 8, 11, 13)] rmX5_school [aR 0 0, aR 29 0] μ (wrP post tp (fun _ => 1)) := by
  intro l9 hl9 b9 D9 K9
  refine met_ofW hl9 (by decide) (Nat.le_of_ble_eq_true rfl) (fun x hC hX hR hM hA => ?_)
  have hC : Ctx x RX5 cX5_school rmX5_school := hC
  refine v_aload_n hC 1 dX5_school_0 rfl rfl ?_
  refine v_iconst hC dX5_school_1 ⟨by decide, by decide⟩ ?_
  refine v_aload_n hC 0 dX5_school_2 rfl rfl ?_
  refine v_callT (na := 0) (as := []) (S := [aI 0, aR 29 0]) hC hX (fun _ => 11) hc (cw_V (rmc := rmX3_school) (na := 0) hC (by decide +kernel) (by decide +kernel) (by decide +kernel) (by decide +kernel) (by decide +kernel) (by decide) ⟨(Nat.le_of_ble_eq_true rfl), (Nat.le_of_ble_eq_true rfl)⟩) rfl nl0 (Nat.le_of_ble_eq_true rfl) (Nat.le_of_ble_eq_true rfl) (Nat.le_of_ble_eq_true rfl) dX5_school_3 (fun w μ9 hw h2 => v_tsm (by decide) lkIS (ht w μ9 hw)) (fun r1 μ1 hp => ?_) (fun w μ1 a hp => ?_)
  · refine v_i2l hC dX5_school_6 ?_
    refine v_last hC dX5_school_7 rfl ?_
    refine v_goto hC 14 dX5_school_8 rfl ?_
    refine v_iconst hC dX5_school_14 ⟨by decide, by decide⟩ ?_
    exact v_zret hC hR (Nat.le_refl _) (Nat.le_refl _) dX5_school_15 rfl ⟨_, rfl, Or.inl ⟨rfl, r1, μ1, hp, rfl⟩⟩
  · have hw9 := ht w μ1 hp
    show V x _ _ none 11 _ _ _
    refine v_astoreX_n hC 2 dX5_school_11 rfl (Nat.le_of_ble_eq_true rfl) ?_
    refine v_iconst hC dX5_school_12 ⟨by decide, by decide⟩ ?_
    exact v_zret hC hR (Nat.le_refl _) (Nat.le_refl _) dX5_school_13 rfl ⟨_, rfl, Or.inr ⟨w, rfl, by omega, hp⟩⟩
abbrev cX5_run : ByteArray := method_7_code
def yX5_run : MethodName := ⟨RX5, "run", "(LSeatOffice;[J)I"⟩
abbrev rmX5_run : Room := { frames := 7, cells := 1, slots := 6, locals := 168 }
theorem dX5_run_0 : decode cX5_run 0 = .ok (.aload_n 1, 1) := by decide +kernel
theorem dX5_run_1 : decode cX5_run 1 = .ok (.iconst 0, 1) := by decide +kernel
theorem dX5_run_2 : decode cX5_run 2 = .ok (.aload_n 0, 1) := by decide +kernel
theorem dX5_run_3 : decode cX5_run 3 = .ok (.invokevirtual 29, 3) := by decide +kernel
theorem dX5_run_6 : decode cX5_run 6 = .ok (.i2l, 1) := by decide +kernel
theorem dX5_run_7 : decode cX5_run 7 = .ok (.lastore, 1) := by decide +kernel
theorem dX5_run_8 : decode cX5_run 8 = .ok (.goto 6, 3) := by decide +kernel
theorem dX5_run_11 : decode cX5_run 11 = .ok (.astore_n 2, 1) := by decide +kernel
theorem dX5_run_12 : decode cX5_run 12 = .ok (.iconst 1, 1) := by decide +kernel
theorem dX5_run_13 : decode cX5_run 13 = .ok (.ireturn, 1) := by decide +kernel
theorem dX5_run_14 : decode cX5_run 14 = .ok (.iconst 0, 1) := by decide +kernel
theorem dX5_run_15 : decode cX5_run 15 = .ok (.ireturn, 1) := by decide +kernel
set_option maxRecDepth 100000 in
set_option maxHeartbeats 4000000 in
theorem cX5_run_ok  {μ : MU} {post : Int → MU → Prop} {tp : Nat → MU → Prop} (hc : CTT yX3_run cX3_run 3 (some .int) rmX3_run [aR 0 0] μ post tp) (ht : ∀ w μ9, tp w μ9 → w = 1) : CTW yX5_run cX5_run 3 [(0, 8, 11, 13)] rmX5_run [aR 0 0, aR 29 0] μ (wrP post tp (fun _ => 1)) := by
  intro l9 hl9 b9 D9 K9
  refine met_ofW hl9 (by decide) (Nat.le_of_ble_eq_true rfl) (fun x hC hX hR hM hA => ?_)
  have hC : Ctx x RX5 cX5_run rmX5_run := hC
  refine v_aload_n hC 1 dX5_run_0 rfl rfl ?_
  refine v_iconst hC dX5_run_1 ⟨by decide, by decide⟩ ?_
  refine v_aload_n hC 0 dX5_run_2 rfl rfl ?_
  refine v_callT (na := 0) (as := []) (S := [aI 0, aR 29 0]) hC hX (fun _ => 11) hc (cw_V (rmc := rmX3_run) (na := 0) hC (by decide +kernel) (by decide +kernel) (by decide +kernel) (by decide +kernel) (by decide +kernel) (by decide) ⟨(Nat.le_of_ble_eq_true rfl), (Nat.le_of_ble_eq_true rfl)⟩) rfl nl0 (Nat.le_of_ble_eq_true rfl) (Nat.le_of_ble_eq_true rfl) (Nat.le_of_ble_eq_true rfl) dX5_run_3 (fun w μ9 hw h2 => v_tsm (by decide) lkIS (ht w μ9 hw)) (fun r1 μ1 hp => ?_) (fun w μ1 a hp => ?_)
  · refine v_i2l hC dX5_run_6 ?_
    refine v_last hC dX5_run_7 rfl ?_
    refine v_goto hC 14 dX5_run_8 rfl ?_
    refine v_iconst hC dX5_run_14 ⟨by decide, by decide⟩ ?_
    exact v_zret hC hR (Nat.le_refl _) (Nat.le_refl _) dX5_run_15 rfl ⟨_, rfl, Or.inl ⟨rfl, r1, μ1, hp, rfl⟩⟩
  · have hw9 := ht w μ1 hp
    show V x _ _ none 11 _ _ _
    refine v_astoreX_n hC 2 dX5_run_11 rfl (Nat.le_of_ble_eq_true rfl) ?_
    refine v_iconst hC dX5_run_12 ⟨by decide, by decide⟩ ?_
    exact v_zret hC hR (Nat.le_refl _) (Nat.le_refl _) dX5_run_13 rfl ⟨_, rfl, Or.inr ⟨w, rfl, by omega, hp⟩⟩
abbrev cX5_chain : ByteArray := method_8_code
def yX5_chain : MethodName := ⟨RX5, "chain", "(LSeatOffice;[J)I"⟩
abbrev rmX5_chain : Room := { frames := 7, cells := 1, slots := 6, locals := 135 }
theorem dX5_chain_0 : decode cX5_chain 0 = .ok (.aload_n 1, 1) := by decide +kernel
theorem dX5_chain_1 : decode cX5_chain 1 = .ok (.iconst 0, 1) := by decide +kernel
theorem dX5_chain_2 : decode cX5_chain 2 = .ok (.aload_n 0, 1) := by decide +kernel
theorem dX5_chain_3 : decode cX5_chain 3 = .ok (.invokevirtual 32, 3) := by decide +kernel
theorem dX5_chain_6 : decode cX5_chain 6 = .ok (.i2l, 1) := by decide +kernel
theorem dX5_chain_7 : decode cX5_chain 7 = .ok (.lastore, 1) := by decide +kernel
theorem dX5_chain_8 : decode cX5_chain 8 = .ok (.goto 6, 3) := by decide +kernel
theorem dX5_chain_11 : decode cX5_chain 11 = .ok (.astore_n 2, 1) := by decide +kernel
theorem dX5_chain_12 : decode cX5_chain 12 = .ok (.iconst 1, 1) := by decide +kernel
theorem dX5_chain_13 : decode cX5_chain 13 = .ok (.ireturn, 1) := by decide +kernel
theorem dX5_chain_14 : decode cX5_chain 14 = .ok (.iconst 0, 1) := by decide +kernel
theorem dX5_chain_15 : decode cX5_chain 15 = .ok (.ireturn, 1) := by decide +kernel
set_option maxRecDepth 100000 in
set_option maxHeartbeats 4000000 in
theorem cX5_chain_ok  {μ : MU} {post : Int → MU → Prop} {tp : Nat → MU → Prop} (hc : CTT yX3_chain cX3_chain 2 (some .int) rmX3_chain [aR 0 0] μ post tp) (ht : ∀ w μ9, tp w μ9 → w = 1) : CTW yX5_chain cX5_chain 3 [(0, 8, 11, 13)] rmX5_chain [aR 0 0, aR 29 0] μ (wrP post tp (fun _ => 1)) := by
  intro l9 hl9 b9 D9 K9
  refine met_ofW hl9 (by decide) (Nat.le_of_ble_eq_true rfl) (fun x hC hX hR hM hA => ?_)
  have hC : Ctx x RX5 cX5_chain rmX5_chain := hC
  refine v_aload_n hC 1 dX5_chain_0 rfl rfl ?_
  refine v_iconst hC dX5_chain_1 ⟨by decide, by decide⟩ ?_
  refine v_aload_n hC 0 dX5_chain_2 rfl rfl ?_
  refine v_callT (na := 0) (as := []) (S := [aI 0, aR 29 0]) hC hX (fun _ => 11) hc (cw_V (rmc := rmX3_chain) (na := 0) hC (by decide +kernel) (by decide +kernel) (by decide +kernel) (by decide +kernel) (by decide +kernel) (by decide) ⟨(Nat.le_of_ble_eq_true rfl), (Nat.le_of_ble_eq_true rfl)⟩) rfl nl0 (Nat.le_of_ble_eq_true rfl) (Nat.le_of_ble_eq_true rfl) (Nat.le_of_ble_eq_true rfl) dX5_chain_3 (fun w μ9 hw h2 => v_tsm (by decide) lkIS (ht w μ9 hw)) (fun r1 μ1 hp => ?_) (fun w μ1 a hp => ?_)
  · refine v_i2l hC dX5_chain_6 ?_
    refine v_last hC dX5_chain_7 rfl ?_
    refine v_goto hC 14 dX5_chain_8 rfl ?_
    refine v_iconst hC dX5_chain_14 ⟨by decide, by decide⟩ ?_
    exact v_zret hC hR (Nat.le_refl _) (Nat.le_refl _) dX5_chain_15 rfl ⟨_, rfl, Or.inl ⟨rfl, r1, μ1, hp, rfl⟩⟩
  · have hw9 := ht w μ1 hp
    show V x _ _ none 11 _ _ _
    refine v_astoreX_n hC 2 dX5_chain_11 rfl (Nat.le_of_ble_eq_true rfl) ?_
    refine v_iconst hC dX5_chain_12 ⟨by decide, by decide⟩ ?_
    exact v_zret hC hR (Nat.le_refl _) (Nat.le_refl _) dX5_chain_13 rfl ⟨_, rfl, Or.inr ⟨w, rfl, by omega, hp⟩⟩
abbrev cX5_kind : ByteArray := method_4_code
def yX5_kind : MethodName := ⟨RX5, "kind", "(LSeatOffice;IIIII[J)I"⟩
abbrev rmX5_kind : Room := { frames := 7, cells := 1, slots := 6, locals := 127 }
theorem dX5_kind_0 : decode cX5_kind 0 = .ok (.aload 6, 2) := by decide +kernel
theorem dX5_kind_2 : decode cX5_kind 2 = .ok (.iconst 0, 1) := by decide +kernel
theorem dX5_kind_3 : decode cX5_kind 3 = .ok (.aload_n 0, 1) := by decide +kernel
theorem dX5_kind_4 : decode cX5_kind 4 = .ok (.iload_n 1, 1) := by decide +kernel
theorem dX5_kind_5 : decode cX5_kind 5 = .ok (.iload_n 2, 1) := by decide +kernel
theorem dX5_kind_6 : decode cX5_kind 6 = .ok (.iload_n 3, 1) := by decide +kernel
theorem dX5_kind_7 : decode cX5_kind 7 = .ok (.iload 4, 2) := by decide +kernel
theorem dX5_kind_9 : decode cX5_kind 9 = .ok (.iload 5, 2) := by decide +kernel
theorem dX5_kind_11 : decode cX5_kind 11 = .ok (.invokevirtual 15, 3) := by decide +kernel
theorem dX5_kind_14 : decode cX5_kind 14 = .ok (.i2l, 1) := by decide +kernel
theorem dX5_kind_15 : decode cX5_kind 15 = .ok (.lastore, 1) := by decide +kernel
theorem dX5_kind_16 : decode cX5_kind 16 = .ok (.goto 11, 3) := by decide +kernel
theorem dX5_kind_19 : decode cX5_kind 19 = .ok (.astore 7, 2) := by decide +kernel
theorem dX5_kind_21 : decode cX5_kind 21 = .ok (.iconst 1, 1) := by decide +kernel
theorem dX5_kind_22 : decode cX5_kind 22 = .ok (.ireturn, 1) := by decide +kernel
theorem dX5_kind_23 : decode cX5_kind 23 = .ok (.astore 7, 2) := by decide +kernel
theorem dX5_kind_25 : decode cX5_kind 25 = .ok (.iconst 2, 1) := by decide +kernel
theorem dX5_kind_26 : decode cX5_kind 26 = .ok (.ireturn, 1) := by decide +kernel
theorem dX5_kind_27 : decode cX5_kind 27 = .ok (.iconst 0, 1) := by decide +kernel
theorem dX5_kind_28 : decode cX5_kind 28 = .ok (.ireturn, 1) := by decide +kernel
set_option maxRecDepth 100000 in
set_option maxHeartbeats 4000000 in
theorem cX5_kind_ok (y1 y2 y3 y4 y5 : Int) {μ : MU} {post : Int → MU → Prop} {tp : Nat → MU → Prop} (hc : CTT yX3_kind cX3_kind 8 (some .int) rmX3_kind [aR 0 0, aI y1, aI y2, aI y3, aI y4, aI y5] μ post tp) (ht : ∀ w μ9, tp w μ9 → w < 2) : CTW yX5_kind cX5_kind 8 [(0, 16, 19, 19), (0, 16, 23, 13)] rmX5_kind [aR 0 0, aI y1, aI y2, aI y3, aI y4, aI y5, aR 29 0] μ (wrP post tp (fun w => if w = 0 then 1 else 2)) := by
  intro l9 hl9 b9 D9 K9
  refine met_ofW hl9 (by decide) (Nat.le_of_ble_eq_true rfl) (fun x hC hX hR hM hA => ?_)
  have hC : Ctx x RX5 cX5_kind rmX5_kind := hC
  refine v_aload hC dX5_kind_0 rfl ?_
  refine v_iconst hC dX5_kind_2 ⟨by decide, by decide⟩ ?_
  refine v_aload_n hC 0 dX5_kind_3 rfl rfl ?_
  refine v_iload_n hC 1 dX5_kind_4 rfl rfl ?_
  refine v_iload_n hC 2 dX5_kind_5 rfl rfl ?_
  refine v_iload_n hC 3 dX5_kind_6 rfl rfl ?_
  refine v_iload hC dX5_kind_7 rfl ?_
  refine v_iload hC dX5_kind_9 rfl ?_
  refine v_callT (na := 5) (as := [aI y1, aI y2, aI y3, aI y4, aI y5]) (S := [aI 0, aR 29 0]) hC hX (fun w => if w = 0 then 19 else 23) hc (cw_V (rmc := rmX3_kind) (na := 5) hC (by decide +kernel) (by decide +kernel) (by decide +kernel) (by decide +kernel) (by decide +kernel) (by decide) ⟨(Nat.le_of_ble_eq_true rfl), (Nat.le_of_ble_eq_true rfl)⟩) rfl (nlI (as := [y1, y2, y3, y4, y5])) (Nat.le_of_ble_eq_true rfl) (Nat.le_of_ble_eq_true rfl) (Nat.le_of_ble_eq_true rfl) dX5_kind_11 (fun w μ9 hw h2 => v_tbm (by decide) lkIA lkIS h2) (fun r1 μ1 hp => ?_) (fun w μ1 a hp => ?_)
  · refine v_i2l hC dX5_kind_14 ?_
    refine v_last hC dX5_kind_15 rfl ?_
    refine v_goto hC 27 dX5_kind_16 rfl ?_
    refine v_iconst hC dX5_kind_27 ⟨by decide, by decide⟩ ?_
    exact v_zret hC hR (Nat.le_refl _) (Nat.le_refl _) dX5_kind_28 rfl ⟨_, rfl, Or.inl ⟨rfl, r1, μ1, hp, rfl⟩⟩
  · rcases (by have := ht w μ1 hp; omega : w = 0 ∨ w = 1) with rfl | rfl
    · show V x _ _ none 19 _ _ _
      refine v_astoreX hC dX5_kind_19 (Nat.le_of_ble_eq_true rfl) ?_
      refine v_iconst hC dX5_kind_21 ⟨by decide, by decide⟩ ?_
      exact v_zret hC hR (Nat.le_refl _) (Nat.le_refl _) dX5_kind_22 rfl ⟨_, rfl, Or.inr ⟨0, rfl, by omega, hp⟩⟩
    · show V x _ _ none 23 _ _ _
      refine v_astoreX hC dX5_kind_23 (Nat.le_of_ble_eq_true rfl) ?_
      refine v_iconst hC dX5_kind_25 ⟨by decide, by decide⟩ ?_
      exact v_zret hC hR (Nat.le_refl _) (Nat.le_refl _) dX5_kind_26 rfl ⟨_, rfl, Or.inr ⟨1, rfl, by omega, hp⟩⟩
abbrev cX5_pupil : ByteArray := method_5_code
def yX5_pupil : MethodName := ⟨RX5, "pupil", "(LSeatOffice;IZ[J)I"⟩
abbrev rmX5_pupil : Room := { frames := 7, cells := 1, slots := 6, locals := 123 }
theorem dX5_pupil_0 : decode cX5_pupil 0 = .ok (.aload_n 3, 1) := by decide +kernel
theorem dX5_pupil_1 : decode cX5_pupil 1 = .ok (.iconst 0, 1) := by decide +kernel
theorem dX5_pupil_2 : decode cX5_pupil 2 = .ok (.aload_n 0, 1) := by decide +kernel
theorem dX5_pupil_3 : decode cX5_pupil 3 = .ok (.iload_n 1, 1) := by decide +kernel
theorem dX5_pupil_4 : decode cX5_pupil 4 = .ok (.iload_n 2, 1) := by decide +kernel
theorem dX5_pupil_5 : decode cX5_pupil 5 = .ok (.invokevirtual 21, 3) := by decide +kernel
theorem dX5_pupil_8 : decode cX5_pupil 8 = .ok (.i2l, 1) := by decide +kernel
theorem dX5_pupil_9 : decode cX5_pupil 9 = .ok (.lastore, 1) := by decide +kernel
theorem dX5_pupil_10 : decode cX5_pupil 10 = .ok (.goto 11, 3) := by decide +kernel
theorem dX5_pupil_13 : decode cX5_pupil 13 = .ok (.astore 4, 2) := by decide +kernel
theorem dX5_pupil_15 : decode cX5_pupil 15 = .ok (.iconst 1, 1) := by decide +kernel
theorem dX5_pupil_16 : decode cX5_pupil 16 = .ok (.ireturn, 1) := by decide +kernel
theorem dX5_pupil_17 : decode cX5_pupil 17 = .ok (.astore 4, 2) := by decide +kernel
theorem dX5_pupil_19 : decode cX5_pupil 19 = .ok (.iconst 2, 1) := by decide +kernel
theorem dX5_pupil_20 : decode cX5_pupil 20 = .ok (.ireturn, 1) := by decide +kernel
theorem dX5_pupil_21 : decode cX5_pupil 21 = .ok (.iconst 0, 1) := by decide +kernel
theorem dX5_pupil_22 : decode cX5_pupil 22 = .ok (.ireturn, 1) := by decide +kernel
set_option maxRecDepth 100000 in
set_option maxHeartbeats 4000000 in
theorem cX5_pupil_ok (y1 y2 : Int) {μ : MU} {post : Int → MU → Prop} {tp : Nat → MU → Prop} (hc : CTT yX3_pupil cX3_pupil 4 (some .int) rmX3_pupil [aR 0 0, aI y1, aI y2] μ post tp) (ht : ∀ w μ9, tp w μ9 → w < 2) : CTW yX5_pupil cX5_pupil 5 [(0, 10, 13, 19), (0, 10, 17, 13)] rmX5_pupil [aR 0 0, aI y1, aI y2, aR 29 0] μ (wrP post tp (fun w => if w = 0 then 1 else 2)) := by
  intro l9 hl9 b9 D9 K9
  refine met_ofW hl9 (by decide) (Nat.le_of_ble_eq_true rfl) (fun x hC hX hR hM hA => ?_)
  have hC : Ctx x RX5 cX5_pupil rmX5_pupil := hC
  refine v_aload_n hC 3 dX5_pupil_0 rfl rfl ?_
  refine v_iconst hC dX5_pupil_1 ⟨by decide, by decide⟩ ?_
  refine v_aload_n hC 0 dX5_pupil_2 rfl rfl ?_
  refine v_iload_n hC 1 dX5_pupil_3 rfl rfl ?_
  refine v_iload_n hC 2 dX5_pupil_4 rfl rfl ?_
  refine v_callT (na := 2) (as := [aI y1, aI y2]) (S := [aI 0, aR 29 0]) hC hX (fun w => if w = 0 then 13 else 17) hc (cw_V (rmc := rmX3_pupil) (na := 2) hC (by decide +kernel) (by decide +kernel) (by decide +kernel) (by decide +kernel) (by decide +kernel) (by decide) ⟨(Nat.le_of_ble_eq_true rfl), (Nat.le_of_ble_eq_true rfl)⟩) rfl (nlI (as := [y1, y2])) (Nat.le_of_ble_eq_true rfl) (Nat.le_of_ble_eq_true rfl) (Nat.le_of_ble_eq_true rfl) dX5_pupil_5 (fun w μ9 hw h2 => v_tbm (by decide) lkIA lkIS h2) (fun r1 μ1 hp => ?_) (fun w μ1 a hp => ?_)
  · refine v_i2l hC dX5_pupil_8 ?_
    refine v_last hC dX5_pupil_9 rfl ?_
    refine v_goto hC 21 dX5_pupil_10 rfl ?_
    refine v_iconst hC dX5_pupil_21 ⟨by decide, by decide⟩ ?_
    exact v_zret hC hR (Nat.le_refl _) (Nat.le_refl _) dX5_pupil_22 rfl ⟨_, rfl, Or.inl ⟨rfl, r1, μ1, hp, rfl⟩⟩
  · rcases (by have := ht w μ1 hp; omega : w = 0 ∨ w = 1) with rfl | rfl
    · show V x _ _ none 13 _ _ _
      refine v_astoreX hC dX5_pupil_13 (Nat.le_of_ble_eq_true rfl) ?_
      refine v_iconst hC dX5_pupil_15 ⟨by decide, by decide⟩ ?_
      exact v_zret hC hR (Nat.le_refl _) (Nat.le_refl _) dX5_pupil_16 rfl ⟨_, rfl, Or.inr ⟨0, rfl, by omega, hp⟩⟩
    · show V x _ _ none 17 _ _ _
      refine v_astoreX hC dX5_pupil_17 (Nat.le_of_ble_eq_true rfl) ?_
      refine v_iconst hC dX5_pupil_19 ⟨by decide, by decide⟩ ?_
      exact v_zret hC hR (Nat.le_refl _) (Nat.le_refl _) dX5_pupil_20 rfl ⟨_, rfl, Or.inr ⟨1, rfl, by omega, hp⟩⟩
abbrev cX5_wish : ByteArray := method_6_code
def yX5_wish : MethodName := ⟨RX5, "wish", "(LSeatOffice;II[J)I"⟩
abbrev rmX5_wish : Room := { frames := 7, cells := 1, slots := 6, locals := 123 }
theorem dX5_wish_0 : decode cX5_wish 0 = .ok (.aload_n 3, 1) := by decide +kernel
theorem dX5_wish_1 : decode cX5_wish 1 = .ok (.iconst 0, 1) := by decide +kernel
theorem dX5_wish_2 : decode cX5_wish 2 = .ok (.aload_n 0, 1) := by decide +kernel
theorem dX5_wish_3 : decode cX5_wish 3 = .ok (.iload_n 1, 1) := by decide +kernel
theorem dX5_wish_4 : decode cX5_wish 4 = .ok (.iload_n 2, 1) := by decide +kernel
theorem dX5_wish_5 : decode cX5_wish 5 = .ok (.invokevirtual 25, 3) := by decide +kernel
theorem dX5_wish_8 : decode cX5_wish 8 = .ok (.i2l, 1) := by decide +kernel
theorem dX5_wish_9 : decode cX5_wish 9 = .ok (.lastore, 1) := by decide +kernel
theorem dX5_wish_10 : decode cX5_wish 10 = .ok (.goto 11, 3) := by decide +kernel
theorem dX5_wish_13 : decode cX5_wish 13 = .ok (.astore 4, 2) := by decide +kernel
theorem dX5_wish_15 : decode cX5_wish 15 = .ok (.iconst 1, 1) := by decide +kernel
theorem dX5_wish_16 : decode cX5_wish 16 = .ok (.ireturn, 1) := by decide +kernel
theorem dX5_wish_17 : decode cX5_wish 17 = .ok (.astore 4, 2) := by decide +kernel
theorem dX5_wish_19 : decode cX5_wish 19 = .ok (.iconst 2, 1) := by decide +kernel
theorem dX5_wish_20 : decode cX5_wish 20 = .ok (.ireturn, 1) := by decide +kernel
theorem dX5_wish_21 : decode cX5_wish 21 = .ok (.iconst 0, 1) := by decide +kernel
theorem dX5_wish_22 : decode cX5_wish 22 = .ok (.ireturn, 1) := by decide +kernel
set_option maxRecDepth 100000 in
set_option maxHeartbeats 4000000 in
theorem cX5_wish_ok (y1 y2 : Int) {μ : MU} {post : Int → MU → Prop} {tp : Nat → MU → Prop} (hc : CTT yX3_wish cX3_wish 4 (some .int) rmX3_wish [aR 0 0, aI y1, aI y2] μ post tp) (ht : ∀ w μ9, tp w μ9 → w < 2) : CTW yX5_wish cX5_wish 5 [(0, 10, 13, 19), (0, 10, 17, 13)] rmX5_wish [aR 0 0, aI y1, aI y2, aR 29 0] μ (wrP post tp (fun w => if w = 0 then 1 else 2)) := by
  intro l9 hl9 b9 D9 K9
  refine met_ofW hl9 (by decide) (Nat.le_of_ble_eq_true rfl) (fun x hC hX hR hM hA => ?_)
  have hC : Ctx x RX5 cX5_wish rmX5_wish := hC
  refine v_aload_n hC 3 dX5_wish_0 rfl rfl ?_
  refine v_iconst hC dX5_wish_1 ⟨by decide, by decide⟩ ?_
  refine v_aload_n hC 0 dX5_wish_2 rfl rfl ?_
  refine v_iload_n hC 1 dX5_wish_3 rfl rfl ?_
  refine v_iload_n hC 2 dX5_wish_4 rfl rfl ?_
  refine v_callT (na := 2) (as := [aI y1, aI y2]) (S := [aI 0, aR 29 0]) hC hX (fun w => if w = 0 then 13 else 17) hc (cw_V (rmc := rmX3_wish) (na := 2) hC (by decide +kernel) (by decide +kernel) (by decide +kernel) (by decide +kernel) (by decide +kernel) (by decide) ⟨(Nat.le_of_ble_eq_true rfl), (Nat.le_of_ble_eq_true rfl)⟩) rfl (nlI (as := [y1, y2])) (Nat.le_of_ble_eq_true rfl) (Nat.le_of_ble_eq_true rfl) (Nat.le_of_ble_eq_true rfl) dX5_wish_5 (fun w μ9 hw h2 => v_tbm (by decide) lkIA lkIS h2) (fun r1 μ1 hp => ?_) (fun w μ1 a hp => ?_)
  · refine v_i2l hC dX5_wish_8 ?_
    refine v_last hC dX5_wish_9 rfl ?_
    refine v_goto hC 21 dX5_wish_10 rfl ?_
    refine v_iconst hC dX5_wish_21 ⟨by decide, by decide⟩ ?_
    exact v_zret hC hR (Nat.le_refl _) (Nat.le_refl _) dX5_wish_22 rfl ⟨_, rfl, Or.inl ⟨rfl, r1, μ1, hp, rfl⟩⟩
  · rcases (by have := ht w μ1 hp; omega : w = 0 ∨ w = 1) with rfl | rfl
    · show V x _ _ none 13 _ _ _
      refine v_astoreX hC dX5_wish_13 (Nat.le_of_ble_eq_true rfl) ?_
      refine v_iconst hC dX5_wish_15 ⟨by decide, by decide⟩ ?_
      exact v_zret hC hR (Nat.le_refl _) (Nat.le_refl _) dX5_wish_16 rfl ⟨_, rfl, Or.inr ⟨0, rfl, by omega, hp⟩⟩
    · show V x _ _ none 17 _ _ _
      refine v_astoreX hC dX5_wish_17 (Nat.le_of_ble_eq_true rfl) ?_
      refine v_iconst hC dX5_wish_19 ⟨by decide, by decide⟩ ?_
      exact v_zret hC hR (Nat.le_refl _) (Nat.le_refl _) dX5_wish_20 rfl ⟨_, rfl, Or.inr ⟨1, rfl, by omega, hp⟩⟩
abbrev cX5_over : ByteArray := method_9_code
def yX5_over : MethodName := ⟨RX5, "over", "(LSeatOffice;II[J)I"⟩
abbrev rmX5_over : Room := { frames := 7, cells := 1, slots := 6, locals := 123 }
theorem dX5_over_0 : decode cX5_over 0 = .ok (.aload_n 3, 1) := by decide +kernel
theorem dX5_over_1 : decode cX5_over 1 = .ok (.iconst 0, 1) := by decide +kernel
theorem dX5_over_2 : decode cX5_over 2 = .ok (.aload_n 0, 1) := by decide +kernel
theorem dX5_over_3 : decode cX5_over 3 = .ok (.iload_n 1, 1) := by decide +kernel
theorem dX5_over_4 : decode cX5_over 4 = .ok (.iload_n 2, 1) := by decide +kernel
theorem dX5_over_5 : decode cX5_over 5 = .ok (.invokevirtual 35, 3) := by decide +kernel
theorem dX5_over_8 : decode cX5_over 8 = .ok (.ifCond .eq 7, 3) := by decide +kernel
theorem dX5_over_11 : decode cX5_over 11 = .ok (.lconst 1, 1) := by decide +kernel
theorem dX5_over_12 : decode cX5_over 12 = .ok (.goto 4, 3) := by decide +kernel
theorem dX5_over_15 : decode cX5_over 15 = .ok (.lconst 0, 1) := by decide +kernel
theorem dX5_over_16 : decode cX5_over 16 = .ok (.lastore, 1) := by decide +kernel
theorem dX5_over_17 : decode cX5_over 17 = .ok (.goto 11, 3) := by decide +kernel
theorem dX5_over_20 : decode cX5_over 20 = .ok (.astore 4, 2) := by decide +kernel
theorem dX5_over_22 : decode cX5_over 22 = .ok (.iconst 1, 1) := by decide +kernel
theorem dX5_over_23 : decode cX5_over 23 = .ok (.ireturn, 1) := by decide +kernel
theorem dX5_over_24 : decode cX5_over 24 = .ok (.astore 4, 2) := by decide +kernel
theorem dX5_over_26 : decode cX5_over 26 = .ok (.iconst 2, 1) := by decide +kernel
theorem dX5_over_27 : decode cX5_over 27 = .ok (.ireturn, 1) := by decide +kernel
theorem dX5_over_28 : decode cX5_over 28 = .ok (.iconst 0, 1) := by decide +kernel
theorem dX5_over_29 : decode cX5_over 29 = .ok (.ireturn, 1) := by decide +kernel
set_option maxRecDepth 100000 in
set_option maxHeartbeats 4000000 in
theorem cX5_over_ok (y1 y2 : Int) {μ : MU} {post : Int → MU → Prop} {tp : Nat → MU → Prop} (hb : ∀ r μ9, post r μ9 → r = 0 ∨ r = 1) (hc : CTT yX3_over cX3_over 4 (some .boolean) rmX3_over [aR 0 0, aI y1, aI y2] μ post tp) (ht : ∀ w μ9, tp w μ9 → w < 2) : CTW yX5_over cX5_over 5 [(0, 17, 20, 19), (0, 17, 24, 13)] rmX5_over [aR 0 0, aI y1, aI y2, aR 29 0] μ (wrP post tp (fun w => if w = 0 then 1 else 2)) := by
  intro l9 hl9 b9 D9 K9
  refine met_ofW hl9 (by decide) (Nat.le_of_ble_eq_true rfl) (fun x hC hX hR hM hA => ?_)
  have hC : Ctx x RX5 cX5_over rmX5_over := hC
  refine v_aload_n hC 3 dX5_over_0 rfl rfl ?_
  refine v_iconst hC dX5_over_1 ⟨by decide, by decide⟩ ?_
  refine v_aload_n hC 0 dX5_over_2 rfl rfl ?_
  refine v_iload_n hC 1 dX5_over_3 rfl rfl ?_
  refine v_iload_n hC 2 dX5_over_4 rfl rfl ?_
  refine v_callT (na := 2) (as := [aI y1, aI y2]) (S := [aI 0, aR 29 0]) hC hX (fun w => if w = 0 then 20 else 24) hc (cw_V (rmc := rmX3_over) (na := 2) hC (by decide +kernel) (by decide +kernel) (by decide +kernel) (by decide +kernel) (by decide +kernel) (by decide) ⟨(Nat.le_of_ble_eq_true rfl), (Nat.le_of_ble_eq_true rfl)⟩) rfl (nlI (as := [y1, y2])) (Nat.le_of_ble_eq_true rfl) (Nat.le_of_ble_eq_true rfl) (Nat.le_of_ble_eq_true rfl) dX5_over_5 (fun w μ9 hw h2 => v_tbm (by decide) lkIA lkIS h2) (fun r1 μ1 hp => ?_) (fun w μ1 a hp => ?_)
  · refine v_if_eq hC 15 dX5_over_8 rfl (fun h8 => ?_) (fun h8 => ?_)
    · refine v_lconst hC dX5_over_15 (y := 0) rfl ?_
      refine v_last hC dX5_over_16 rfl ?_
      refine v_goto hC 28 dX5_over_17 rfl ?_
      refine v_iconst hC dX5_over_28 ⟨by decide, by decide⟩ ?_
      exact v_zret hC hR (Nat.le_refl _) (Nat.le_refl _) dX5_over_29 rfl ⟨_, rfl, Or.inl ⟨rfl, r1, μ1, hp, by rw [h8]⟩⟩
    · refine v_lconst hC dX5_over_11 (y := 1) rfl ?_
      refine v_goto hC 16 dX5_over_12 rfl ?_
      refine v_last hC dX5_over_16 rfl ?_
      refine v_goto hC 28 dX5_over_17 rfl ?_
      refine v_iconst hC dX5_over_28 ⟨by decide, by decide⟩ ?_
      exact v_zret hC hR (Nat.le_refl _) (Nat.le_refl _) dX5_over_29 rfl ⟨_, rfl, Or.inl ⟨rfl, r1, μ1, hp, by rw [(hb r1 μ1 hp).resolve_left h8]⟩⟩
  · rcases (by have := ht w μ1 hp; omega : w = 0 ∨ w = 1) with rfl | rfl
    · show V x _ _ none 20 _ _ _
      refine v_astoreX hC dX5_over_20 (Nat.le_of_ble_eq_true rfl) ?_
      refine v_iconst hC dX5_over_22 ⟨by decide, by decide⟩ ?_
      exact v_zret hC hR (Nat.le_refl _) (Nat.le_refl _) dX5_over_23 rfl ⟨_, rfl, Or.inr ⟨0, rfl, by omega, hp⟩⟩
    · show V x _ _ none 24 _ _ _
      refine v_astoreX hC dX5_over_24 (Nat.le_of_ble_eq_true rfl) ?_
      refine v_iconst hC dX5_over_26 ⟨by decide, by decide⟩ ?_
      exact v_zret hC hR (Nat.le_refl _) (Nat.le_refl _) dX5_over_27 rfl ⟨_, rfl, Or.inr ⟨1, rfl, by omega, hp⟩⟩
abbrev cX5_envies : ByteArray := method_10_code
def yX5_envies : MethodName := ⟨RX5, "envies", "(LSeatOffice;II[J)I"⟩
abbrev rmX5_envies : Room := { frames := 7, cells := 1, slots := 6, locals := 125 }
theorem dX5_envies_0 : decode cX5_envies 0 = .ok (.aload_n 3, 1) := by decide +kernel
theorem dX5_envies_1 : decode cX5_envies 1 = .ok (.iconst 0, 1) := by decide +kernel
theorem dX5_envies_2 : decode cX5_envies 2 = .ok (.aload_n 0, 1) := by decide +kernel
theorem dX5_envies_3 : decode cX5_envies 3 = .ok (.iload_n 1, 1) := by decide +kernel
theorem dX5_envies_4 : decode cX5_envies 4 = .ok (.iload_n 2, 1) := by decide +kernel
theorem dX5_envies_5 : decode cX5_envies 5 = .ok (.invokevirtual 39, 3) := by decide +kernel
theorem dX5_envies_8 : decode cX5_envies 8 = .ok (.ifCond .eq 7, 3) := by decide +kernel
theorem dX5_envies_11 : decode cX5_envies 11 = .ok (.lconst 1, 1) := by decide +kernel
theorem dX5_envies_12 : decode cX5_envies 12 = .ok (.goto 4, 3) := by decide +kernel
theorem dX5_envies_15 : decode cX5_envies 15 = .ok (.lconst 0, 1) := by decide +kernel
theorem dX5_envies_16 : decode cX5_envies 16 = .ok (.lastore, 1) := by decide +kernel
theorem dX5_envies_17 : decode cX5_envies 17 = .ok (.goto 7, 3) := by decide +kernel
theorem dX5_envies_20 : decode cX5_envies 20 = .ok (.astore 4, 2) := by decide +kernel
theorem dX5_envies_22 : decode cX5_envies 22 = .ok (.iconst 1, 1) := by decide +kernel
theorem dX5_envies_23 : decode cX5_envies 23 = .ok (.ireturn, 1) := by decide +kernel
theorem dX5_envies_24 : decode cX5_envies 24 = .ok (.iconst 0, 1) := by decide +kernel
theorem dX5_envies_25 : decode cX5_envies 25 = .ok (.ireturn, 1) := by decide +kernel
set_option maxRecDepth 100000 in
set_option maxHeartbeats 4000000 in
theorem cX5_envies_ok (y1 y2 : Int) {μ : MU} {post : Int → MU → Prop} {tp : Nat → MU → Prop} (hb : ∀ r μ9, post r μ9 → r = 0 ∨ r = 1) (hc : CTT yX3_envies cX3_envies 6 (some .boolean) rmX3_envies [aR 0 0, aI y1, aI y2] μ post tp) (ht : ∀ w μ9, tp w μ9 → w = 0) : CTW yX5_envies cX5_envies 5 [(0, 17, 20, 19)] rmX5_envies [aR 0 0, aI y1, aI y2, aR 29 0] μ (wrP post tp (fun _ => 1)) := by
  intro l9 hl9 b9 D9 K9
  refine met_ofW hl9 (by decide) (Nat.le_of_ble_eq_true rfl) (fun x hC hX hR hM hA => ?_)
  have hC : Ctx x RX5 cX5_envies rmX5_envies := hC
  refine v_aload_n hC 3 dX5_envies_0 rfl rfl ?_
  refine v_iconst hC dX5_envies_1 ⟨by decide, by decide⟩ ?_
  refine v_aload_n hC 0 dX5_envies_2 rfl rfl ?_
  refine v_iload_n hC 1 dX5_envies_3 rfl rfl ?_
  refine v_iload_n hC 2 dX5_envies_4 rfl rfl ?_
  refine v_callT (na := 2) (as := [aI y1, aI y2]) (S := [aI 0, aR 29 0]) hC hX (fun _ => 20) hc (cw_V (rmc := rmX3_envies) (na := 2) hC (by decide +kernel) (by decide +kernel) (by decide +kernel) (by decide +kernel) (by decide +kernel) (by decide) ⟨(Nat.le_of_ble_eq_true rfl), (Nat.le_of_ble_eq_true rfl)⟩) rfl (nlI (as := [y1, y2])) (Nat.le_of_ble_eq_true rfl) (Nat.le_of_ble_eq_true rfl) (Nat.le_of_ble_eq_true rfl) dX5_envies_5 (fun w μ9 hw h2 => v_tam (by decide) lkIA (ht w μ9 hw)) (fun r1 μ1 hp => ?_) (fun w μ1 a hp => ?_)
  · refine v_if_eq hC 15 dX5_envies_8 rfl (fun h8 => ?_) (fun h8 => ?_)
    · refine v_lconst hC dX5_envies_15 (y := 0) rfl ?_
      refine v_last hC dX5_envies_16 rfl ?_
      refine v_goto hC 24 dX5_envies_17 rfl ?_
      refine v_iconst hC dX5_envies_24 ⟨by decide, by decide⟩ ?_
      exact v_zret hC hR (Nat.le_refl _) (Nat.le_refl _) dX5_envies_25 rfl ⟨_, rfl, Or.inl ⟨rfl, r1, μ1, hp, by rw [h8]⟩⟩
    · refine v_lconst hC dX5_envies_11 (y := 1) rfl ?_
      refine v_goto hC 16 dX5_envies_12 rfl ?_
      refine v_last hC dX5_envies_16 rfl ?_
      refine v_goto hC 24 dX5_envies_17 rfl ?_
      refine v_iconst hC dX5_envies_24 ⟨by decide, by decide⟩ ?_
      exact v_zret hC hR (Nat.le_refl _) (Nat.le_refl _) dX5_envies_25 rfl ⟨_, rfl, Or.inl ⟨rfl, r1, μ1, hp, by rw [(hb r1 μ1 hp).resolve_left h8]⟩⟩
  · have hw9 := ht w μ1 hp
    show V x _ _ none 20 _ _ _
    refine v_astoreX hC dX5_envies_20 (Nat.le_of_ble_eq_true rfl) ?_
    refine v_iconst hC dX5_envies_22 ⟨by decide, by decide⟩ ?_
    exact v_zret hC hR (Nat.le_refl _) (Nat.le_refl _) dX5_envies_23 rfl ⟨_, rfl, Or.inr ⟨w, rfl, by omega, hp⟩⟩
