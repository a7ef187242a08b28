-- ===== PART A: goes FIRST, ahead of the names: the tables' words, and 'selects' of the private methods out of them =====
/-- a private method of a class that the tables say can be made, by its rows of tables_1 -/
def lw_okq (q : MethodName × Nat) : Prop := (q.1.cls ≠ "java/lang/invoke/MethodHandle" ∧ q.1.cls ≠ "java/lang/invoke/VarHandle") ∧ Cond.instantiable q.1.cls q.2 ∈ tables_1 ∧ Cond.privateMethod q.1 ∈ tables_1 ∧ Cond.instanceMethod q.1 ∈ tables_1
theorem lw_p0 : lw_okq (⟨"SeatOffice", "isPupil", "(I)Z"⟩, 8) := ⟨⟨by decide +kernel, by decide +kernel⟩, List.mem_of_getElem? (i := 12) (by decide +kernel), List.mem_of_getElem? (i := 128) (by decide +kernel), List.mem_of_getElem? (i := 129) (by decide +kernel)⟩
theorem lw_p1 : lw_okq (⟨"SeatOffice", "isSchool", "(I)Z"⟩, 8) := ⟨⟨by decide +kernel, by decide +kernel⟩, List.mem_of_getElem? (i := 12) (by decide +kernel), List.mem_of_getElem? (i := 132) (by decide +kernel), List.mem_of_getElem? (i := 133) (by decide +kernel)⟩
theorem lw_p2 : lw_okq (⟨"SeatOffice", "countHolders", "(II)I"⟩, 8) := ⟨⟨by decide +kernel, by decide +kernel⟩, List.mem_of_getElem? (i := 12) (by decide +kernel), List.mem_of_getElem? (i := 191) (by decide +kernel), List.mem_of_getElem? (i := 192) (by decide +kernel)⟩
theorem lw_p3 : lw_okq (⟨"SeatOffice", "lastHolder", "(II)I"⟩, 8) := ⟨⟨by decide +kernel, by decide +kernel⟩, List.mem_of_getElem? (i := 12) (by decide +kernel), List.mem_of_getElem? (i := 199) (by decide +kernel), List.mem_of_getElem? (i := 200) (by decide +kernel)⟩
theorem lw_p4 : lw_okq (⟨"SeatOffice", "standing", "(III)I"⟩, 8) := ⟨⟨by decide +kernel, by decide +kernel⟩, List.mem_of_getElem? (i := 12) (by decide +kernel), List.mem_of_getElem? (i := 203) (by decide +kernel), List.mem_of_getElem? (i := 204) (by decide +kernel)⟩
theorem lw_p5 : lw_okq (⟨"SeatOffice", "blocks", "(II)Z"⟩, 8) := ⟨⟨by decide +kernel, by decide +kernel⟩, List.mem_of_getElem? (i := 12) (by decide +kernel), List.mem_of_getElem? (i := 216) (by decide +kernel), List.mem_of_getElem? (i := 217) (by decide +kernel)⟩
theorem lw_p6 : lw_okq (⟨"SeatOffice", "choose", "(II)V"⟩, 8) := ⟨⟨by decide +kernel, by decide +kernel⟩, List.mem_of_getElem? (i := 12) (by decide +kernel), List.mem_of_getElem? (i := 228) (by decide +kernel), List.mem_of_getElem? (i := 229) (by decide +kernel)⟩
theorem lw_p7 : lw_okq (⟨"SeatOffice", "takeFromPool", "(II)V"⟩, 8) := ⟨⟨by decide +kernel, by decide +kernel⟩, List.mem_of_getElem? (i := 12) (by decide +kernel), List.mem_of_getElem? (i := 236) (by decide +kernel), List.mem_of_getElem? (i := 237) (by decide +kernel)⟩
theorem lw_p8 : lw_okq (⟨"SeatOffice", "firstInPool", "(II)I"⟩, 8) := ⟨⟨by decide +kernel, by decide +kernel⟩, List.mem_of_getElem? (i := 12) (by decide +kernel), List.mem_of_getElem? (i := 240) (by decide +kernel), List.mem_of_getElem? (i := 241) (by decide +kernel)⟩
theorem lw_p9 : lw_okq (⟨"SeatOffice", "countAsks", "()I"⟩, 8) := ⟨⟨by decide +kernel, by decide +kernel⟩, List.mem_of_getElem? (i := 12) (by decide +kernel), List.mem_of_getElem? (i := 258) (by decide +kernel), List.mem_of_getElem? (i := 259) (by decide +kernel)⟩
theorem lw_p10 : lw_okq (⟨"SeatOffice", "countPlaced", "()I"⟩, 8) := ⟨⟨by decide +kernel, by decide +kernel⟩, List.mem_of_getElem? (i := 12) (by decide +kernel), List.mem_of_getElem? (i := 262) (by decide +kernel), List.mem_of_getElem? (i := 263) (by decide +kernel)⟩
theorem lw_p11 : lw_okq (⟨"java/lang/Throwable", "fillInStackTrace", "(I)Ljava/lang/Throwable;"⟩, 6) := ⟨⟨by decide +kernel, by decide +kernel⟩, List.mem_of_getElem? (i := 312) (by decide +kernel), List.mem_of_getElem? (i := 310) (by decide +kernel), List.mem_of_getElem? (i := 311) (by decide +kernel)⟩
theorem lw_p12 : lw_okq (⟨"SeatOffice", "nextAsker", "()I"⟩, 8) := ⟨⟨by decide +kernel, by decide +kernel⟩, List.mem_of_getElem? (i := 12) (by decide +kernel), List.mem_of_getElem? (i := 385) (by decide +kernel), List.mem_of_getElem? (i := 386) (by decide +kernel)⟩
theorem lw_p13 : lw_okq (⟨"SeatOffice", "askNext", "(I)V"⟩, 8) := ⟨⟨by decide +kernel, by decide +kernel⟩, List.mem_of_getElem? (i := 12) (by decide +kernel), List.mem_of_getElem? (i := 389) (by decide +kernel), List.mem_of_getElem? (i := 390) (by decide +kernel)⟩
theorem lw_p14 : lw_okq (⟨"SeatOffice", "moveOne", "()Z"⟩, 8) := ⟨⟨by decide +kernel, by decide +kernel⟩, List.mem_of_getElem? (i := 12) (by decide +kernel), List.mem_of_getElem? (i := 402) (by decide +kernel), List.mem_of_getElem? (i := 403) (by decide +kernel)⟩
theorem lw_p15 : lw_okq (⟨"SeatOffice", "firstWaiting", "(II)I"⟩, 8) := ⟨⟨by decide +kernel, by decide +kernel⟩, List.mem_of_getElem? (i := 12) (by decide +kernel), List.mem_of_getElem? (i := 406) (by decide +kernel), List.mem_of_getElem? (i := 407) (by decide +kernel)⟩
def lw_privs_1 : List (MethodName × Nat) := [(⟨"SeatOffice", "isPupil", "(I)Z"⟩, 8), (⟨"SeatOffice", "isSchool", "(I)Z"⟩, 8), (⟨"SeatOffice", "countHolders", "(II)I"⟩, 8), (⟨"SeatOffice", "lastHolder", "(II)I"⟩, 8), (⟨"SeatOffice", "standing", "(III)I"⟩, 8), (⟨"SeatOffice", "blocks", "(II)Z"⟩, 8), (⟨"SeatOffice", "choose", "(II)V"⟩, 8), (⟨"SeatOffice", "takeFromPool", "(II)V"⟩, 8), (⟨"SeatOffice", "firstInPool", "(II)I"⟩, 8), (⟨"SeatOffice", "countAsks", "()I"⟩, 8), (⟨"SeatOffice", "countPlaced", "()I"⟩, 8), (⟨"java/lang/Throwable", "fillInStackTrace", "(I)Ljava/lang/Throwable;"⟩, 6), (⟨"SeatOffice", "nextAsker", "()I"⟩, 8), (⟨"SeatOffice", "askNext", "(I)V"⟩, 8), (⟨"SeatOffice", "moveOne", "()Z"⟩, 8), (⟨"SeatOffice", "firstWaiting", "(II)I"⟩, 8)]
theorem lw_r1 : ∀ q ∈ lw_privs_1, lw_okq q := List.forall_mem_cons.mpr ⟨lw_p0, List.forall_mem_cons.mpr ⟨lw_p1, List.forall_mem_cons.mpr ⟨lw_p2, List.forall_mem_cons.mpr ⟨lw_p3, List.forall_mem_cons.mpr ⟨lw_p4, List.forall_mem_cons.mpr ⟨lw_p5, List.forall_mem_cons.mpr ⟨lw_p6, List.forall_mem_cons.mpr ⟨lw_p7, List.forall_mem_cons.mpr ⟨lw_p8, List.forall_mem_cons.mpr ⟨lw_p9, List.forall_mem_cons.mpr ⟨lw_p10, List.forall_mem_cons.mpr ⟨lw_p11, List.forall_mem_cons.mpr ⟨lw_p12, List.forall_mem_cons.mpr ⟨lw_p13, List.forall_mem_cons.mpr ⟨lw_p14, List.forall_mem_cons.mpr ⟨lw_p15, fun _ h => absurd h List.not_mem_nil⟩⟩⟩⟩⟩⟩⟩⟩⟩⟩⟩⟩⟩⟩⟩⟩
theorem lw_p16 : lw_okq (⟨"SeatOfficeModel", "isSchool", "(I)Z"⟩, 20) := ⟨⟨by decide +kernel, by decide +kernel⟩, List.mem_of_getElem? (i := 429) (by decide +kernel), List.mem_of_getElem? (i := 509) (by decide +kernel), List.mem_of_getElem? (i := 510) (by decide +kernel)⟩
theorem lw_p17 : lw_okq (⟨"SeatOfficeModel", "isPupil", "(I)Z"⟩, 20) := ⟨⟨by decide +kernel, by decide +kernel⟩, List.mem_of_getElem? (i := 429) (by decide +kernel), List.mem_of_getElem? (i := 521) (by decide +kernel), List.mem_of_getElem? (i := 522) (by decide +kernel)⟩
theorem lw_p18 : lw_okq (⟨"SeatOfficeModel", "place", "(II)I"⟩, 20) := ⟨⟨by decide +kernel, by decide +kernel⟩, List.mem_of_getElem? (i := 429) (by decide +kernel), List.mem_of_getElem? (i := 525) (by decide +kernel), List.mem_of_getElem? (i := 526) (by decide +kernel)⟩
theorem lw_p19 : lw_okq (⟨"SeatOfficeModel", "ask", "(I)V"⟩, 20) := ⟨⟨by decide +kernel, by decide +kernel⟩, List.mem_of_getElem? (i := 429) (by decide +kernel), List.mem_of_getElem? (i := 537) (by decide +kernel), List.mem_of_getElem? (i := 538) (by decide +kernel)⟩
theorem lw_p20 : lw_okq (⟨"SeatOfficeModel", "choose", "(I)V"⟩, 20) := ⟨⟨by decide +kernel, by decide +kernel⟩, List.mem_of_getElem? (i := 429) (by decide +kernel), List.mem_of_getElem? (i := 541) (by decide +kernel), List.mem_of_getElem? (i := 542) (by decide +kernel)⟩
theorem lw_p21 : lw_okq (⟨"SeatOfficeModel", "eligible", "(III)Z"⟩, 20) := ⟨⟨by decide +kernel, by decide +kernel⟩, List.mem_of_getElem? (i := 429) (by decide +kernel), List.mem_of_getElem? (i := 545) (by decide +kernel), List.mem_of_getElem? (i := 546) (by decide +kernel)⟩
theorem lw_p22 : lw_okq (⟨"SeatOfficeModel", "band", "(III)I"⟩, 20) := ⟨⟨by decide +kernel, by decide +kernel⟩, List.mem_of_getElem? (i := 429) (by decide +kernel), List.mem_of_getElem? (i := 549) (by decide +kernel), List.mem_of_getElem? (i := 550) (by decide +kernel)⟩
theorem lw_p23 : lw_okq (⟨"SeatOfficeModel", "rank", "(III)I"⟩, 20) := ⟨⟨by decide +kernel, by decide +kernel⟩, List.mem_of_getElem? (i := 429) (by decide +kernel), List.mem_of_getElem? (i := 553) (by decide +kernel), List.mem_of_getElem? (i := 554) (by decide +kernel)⟩
theorem lw_p24 : lw_okq (⟨"SeatOfficeModel", "placed", "()I"⟩, 20) := ⟨⟨by decide +kernel, by decide +kernel⟩, List.mem_of_getElem? (i := 429) (by decide +kernel), List.mem_of_getElem? (i := 558) (by decide +kernel), List.mem_of_getElem? (i := 559) (by decide +kernel)⟩
theorem lw_p25 : lw_okq (⟨"SeatOfficeModel", "give", "(I)V"⟩, 20) := ⟨⟨by decide +kernel, by decide +kernel⟩, List.mem_of_getElem? (i := 429) (by decide +kernel), List.mem_of_getElem? (i := 566) (by decide +kernel), List.mem_of_getElem? (i := 567) (by decide +kernel)⟩
theorem lw_p26 : lw_okq (⟨"SeatOfficeModel", "move", "()Z"⟩, 20) := ⟨⟨by decide +kernel, by decide +kernel⟩, List.mem_of_getElem? (i := 429) (by decide +kernel), List.mem_of_getElem? (i := 578) (by decide +kernel), List.mem_of_getElem? (i := 579) (by decide +kernel)⟩
theorem lw_p27 : lw_okq (⟨"SeatOfficeModel", "holders", "(II)I"⟩, 20) := ⟨⟨by decide +kernel, by decide +kernel⟩, List.mem_of_getElem? (i := 429) (by decide +kernel), List.mem_of_getElem? (i := 582) (by decide +kernel), List.mem_of_getElem? (i := 583) (by decide +kernel)⟩
theorem lw_p28 : lw_okq (⟨"SeatOfficeModel", "waits", "(II)Z"⟩, 20) := ⟨⟨by decide +kernel, by decide +kernel⟩, List.mem_of_getElem? (i := 429) (by decide +kernel), List.mem_of_getElem? (i := 586) (by decide +kernel), List.mem_of_getElem? (i := 587) (by decide +kernel)⟩
theorem lw_p29 : lw_okq (⟨"SeatOfficeModel", "own", "(I)I"⟩, 20) := ⟨⟨by decide +kernel, by decide +kernel⟩, List.mem_of_getElem? (i := 429) (by decide +kernel), List.mem_of_getElem? (i := 590) (by decide +kernel), List.mem_of_getElem? (i := 591) (by decide +kernel)⟩
theorem lw_p30 : lw_okq (⟨"SeatOfficeModel", "blocks", "(II)Z"⟩, 20) := ⟨⟨by decide +kernel, by decide +kernel⟩, List.mem_of_getElem? (i := 429) (by decide +kernel), List.mem_of_getElem? (i := 614) (by decide +kernel), List.mem_of_getElem? (i := 615) (by decide +kernel)⟩
def lw_privs_2 : List (MethodName × Nat) := [(⟨"SeatOfficeModel", "isSchool", "(I)Z"⟩, 20), (⟨"SeatOfficeModel", "isPupil", "(I)Z"⟩, 20), (⟨"SeatOfficeModel", "place", "(II)I"⟩, 20), (⟨"SeatOfficeModel", "ask", "(I)V"⟩, 20), (⟨"SeatOfficeModel", "choose", "(I)V"⟩, 20), (⟨"SeatOfficeModel", "eligible", "(III)Z"⟩, 20), (⟨"SeatOfficeModel", "band", "(III)I"⟩, 20), (⟨"SeatOfficeModel", "rank", "(III)I"⟩, 20), (⟨"SeatOfficeModel", "placed", "()I"⟩, 20), (⟨"SeatOfficeModel", "give", "(I)V"⟩, 20), (⟨"SeatOfficeModel", "move", "()Z"⟩, 20), (⟨"SeatOfficeModel", "holders", "(II)I"⟩, 20), (⟨"SeatOfficeModel", "waits", "(II)Z"⟩, 20), (⟨"SeatOfficeModel", "own", "(I)I"⟩, 20), (⟨"SeatOfficeModel", "blocks", "(II)Z"⟩, 20)]
theorem lw_r2 : ∀ q ∈ lw_privs_2, lw_okq q := List.forall_mem_cons.mpr ⟨lw_p16, List.forall_mem_cons.mpr ⟨lw_p17, List.forall_mem_cons.mpr ⟨lw_p18, List.forall_mem_cons.mpr ⟨lw_p19, List.forall_mem_cons.mpr ⟨lw_p20, List.forall_mem_cons.mpr ⟨lw_p21, List.forall_mem_cons.mpr ⟨lw_p22, List.forall_mem_cons.mpr ⟨lw_p23, List.forall_mem_cons.mpr ⟨lw_p24, List.forall_mem_cons.mpr ⟨lw_p25, List.forall_mem_cons.mpr ⟨lw_p26, List.forall_mem_cons.mpr ⟨lw_p27, List.forall_mem_cons.mpr ⟨lw_p28, List.forall_mem_cons.mpr ⟨lw_p29, List.forall_mem_cons.mpr ⟨lw_p30, fun _ h => absurd h List.not_mem_nil⟩⟩⟩⟩⟩⟩⟩⟩⟩⟩⟩⟩⟩⟩⟩
def lw_privs : List (MethodName × Nat) := lw_privs_1 ++ (lw_privs_2)
def lw_tbl : List Cond := k2_sels lw_privs ++ tables_1
theorem lw_privs_ok : ∀ q ∈ lw_privs, lw_okq q := by
  show ∀ q ∈ lw_privs_1 ++ (lw_privs_2), lw_okq q
  exact List.forall_mem_append.mpr ⟨lw_r1, lw_r2⟩
/-! names: made by a program of mine out of the listing and the tables -/
def RX0 : String := "SeatOffice$Kind"
def TX0 : u_T := fun k => match k with
  | 0 => ("SeatOffice$Kind", "bands", "[I", true)
  | 1 => ("SeatOffice$Kind", "bandCount", "I", false)
  | _ => ("SeatOffice$Kind", "seats", "I", false)
def tyX0 : Nat → FieldType := fun k => match k with
  | 0 => .array .int
  | 1 => .int
  | _ => .int
theorem nmX0 : ∀ a, a < 3 → ∀ b, b < 3 → a ≠ b → (TX0 a).2.1 ≠ (TX0 b).2.1 := by decide +kernel
theorem tyX0_ok : ∀ k, k < 3 → parseFieldDescriptor (TX0 k).2.2.1 = some (tyX0 k) := by decide +kernel
def RX1 : String := "SeatOffice$Pupil"
def TX1 : u_T := fun k => match k with
  | 0 => ("SeatOffice$Pupil", "list", "[I", true)
  | 1 => ("SeatOffice$Pupil", "listed", "I", false)
  | 2 => ("SeatOffice$Pupil", "numbers", "[I", true)
  | 3 => ("SeatOffice$Pupil", "flags", "I", false)
  | 4 => ("SeatOffice$Pupil", "late", "Z", false)
  | 5 => ("SeatOffice$Pupil", "school", "I", false)
  | 6 => ("SeatOffice$Pupil", "kind", "I", false)
  | 7 => ("SeatOffice$Pupil", "asked", "I", false)
  | 8 => ("SeatOffice$Pupil", "answered", "I", false)
  | _ => ("SeatOffice$Pupil", "stays", "I", false)
def tyX1 : Nat → FieldType := fun k => match k with
  | 0 => .array .int
  | 1 => .int
  | 2 => .array .int
  | 3 => .int
  | 4 => .boolean
  | 5 => .int
  | 6 => .int
  | 7 => .int
  | 8 => .int
  | _ => .int
theorem nmX1 : ∀ a, a < 10 → ∀ b, b < 10 → a ≠ b → (TX1 a).2.1 ≠ (TX1 b).2.1 := by decide +kernel
theorem tyX1_ok : ∀ k, k < 10 → parseFieldDescriptor (TX1 k).2.2.1 = some (tyX1 k) := by decide +kernel
def RX2 : String := "SeatOffice$School"
def TX2 : u_T := fun k => match k with
  | 0 => ("SeatOffice$School", "kinds", "[LSeatOffice$Kind;", true)
  | _ => ("SeatOffice$School", "kindCount", "I", false)
def tyX2 : Nat → FieldType := fun k => match k with
  | 0 => .array (.object "SeatOffice$Kind")
  | _ => .int
theorem nmX2 : ∀ a, a < 2 → ∀ b, b < 2 → a ≠ b → (TX2 a).2.1 ≠ (TX2 b).2.1 := by decide +kernel
theorem tyX2_ok : ∀ k, k < 2 → parseFieldDescriptor (TX2 k).2.2.1 = some (tyX2 k) := by decide +kernel
def RX3 : String := "SeatOffice"
def TX3 : u_T := fun k => match k with
  | 0 => ("SeatOffice", "schools", "[LSeatOffice$School;", true)
  | 1 => ("SeatOffice", "pupils", "[LSeatOffice$Pupil;", true)
  | 2 => ("SeatOffice", "schoolCount", "I", false)
  | 3 => ("SeatOffice", "pupilCount", "I", false)
  | 4 => ("SeatOffice", "roundWas", "Z", false)
  | 5 => ("SeatOffice", "pool", "[I", true)
  | 6 => ("SeatOffice", "poolSize", "I", false)
  | _ => ("SeatOffice", "taker", "[I", true)
def tyX3 : Nat → FieldType := fun k => match k with
  | 0 => .array (.object "SeatOffice$School")
  | 1 => .array (.object "SeatOffice$Pupil")
  | 2 => .int
  | 3 => .int
  | 4 => .boolean
  | 5 => .array .int
  | 6 => .int
  | _ => .array .int
theorem nmX3 : ∀ a, a < 8 → ∀ b, b < 8 → a ≠ b → (TX3 a).2.1 ≠ (TX3 b).2.1 := by decide +kernel
theorem tyX3_ok : ∀ k, k < 8 → parseFieldDescriptor (TX3 k).2.2.1 = some (tyX3 k) := by decide +kernel
def RX4 : String := "SeatOfficeModel"
def TX4 : u_T := fun k => match k with
  | 0 => ("SeatOfficeModel", "thrown", "I", false)
  | 1 => ("SeatOfficeModel", "ran", "Z", false)
  | 2 => ("SeatOfficeModel", "schools", "I", false)
  | 3 => ("SeatOfficeModel", "kinds", "[I", true)
  | 4 => ("SeatOfficeModel", "seats", "[I", true)
  | 5 => ("SeatOfficeModel", "bands", "[I", true)
  | 6 => ("SeatOfficeModel", "pupils", "I", false)
  | 7 => ("SeatOfficeModel", "flags", "[I", true)
  | 8 => ("SeatOfficeModel", "late", "[Z", true)
  | 9 => ("SeatOfficeModel", "many", "[I", true)
  | 10 => ("SeatOfficeModel", "wishes", "[I", true)
  | 11 => ("SeatOfficeModel", "number", "[I", true)
  | 12 => ("SeatOfficeModel", "asked", "[I", true)
  | 13 => ("SeatOfficeModel", "school", "[I", true)
  | 14 => ("SeatOfficeModel", "kind", "[I", true)
  | 15 => ("SeatOfficeModel", "answer", "[I", true)
  | 16 => ("SeatOfficeModel", "answered", "[Z", true)
  | 17 => ("SeatOfficeModel", "stays", "[I", true)
  | 18 => ("SeatOfficeModel", "offers", "[Z", true)
  | _ => ("SeatOfficeModel", "taken", "[I", true)
def tyX4 : Nat → FieldType := fun k => match k with
  | 0 => .int
  | 1 => .boolean
  | 2 => .int
  | 3 => .array .int
  | 4 => .array .int
  | 5 => .array .int
  | 6 => .int
  | 7 => .array .int
  | 8 => .array .boolean
  | 9 => .array .int
  | 10 => .array .int
  | 11 => .array .int
  | 12 => .array .int
  | 13 => .array .int
  | 14 => .array .int
  | 15 => .array .int
  | 16 => .array .boolean
  | 17 => .array .int
  | 18 => .array .boolean
  | _ => .array .int
theorem nmX4 : ∀ a, a < 20 → ∀ b, b < 20 → a ≠ b → (TX4 a).2.1 ≠ (TX4 b).2.1 := by decide +kernel
theorem tyX4_ok : ∀ k, k < 20 → parseFieldDescriptor (TX4 k).2.2.1 = some (tyX4 k) := by decide +kernel
def RL : String := "SeatOfficeLaw"
abbrev wCl : List vw_C := [(RX0, TX0, 3), (RX1, TX1, 10), (RX2, TX2, 2), (RX3, TX3, 8), (RX4, TX4, 20)]
abbrev ciK : Nat := 0
abbrev ciP : Nat := 1
abbrev ciS : Nat := 2
abbrev ciO : Nat := 3
abbrev ciM : Nat := 4
/-- the tables' words that hold at every call -/
def wG : List Cond := lw_tbl.filter goodWord
theorem wG_of {w : Cond} {i : Nat} (h : tables_1[i]? = some w) (hg : goodWord w = true) : w ∈ wG := List.mem_filter.mpr ⟨List.mem_append_right _ (List.mem_of_getElem? h), hg⟩
theorem wG_sel {q : MethodName × Nat} {i : Nat} (h : lw_privs[i]? = some q) : Cond.selects q.1.cls q.1 q.1 ∈ wG := List.mem_filter.mpr ⟨List.mem_append_left _ (List.mem_map.mpr ⟨q, List.mem_of_getElem? h, rfl⟩), rfl⟩
abbrev cX3_init : ByteArray := prog_1_method_1_code
def yX3_init : MethodName := ⟨RX3, "<init>", "()V"⟩
abbrev cX2_init : ByteArray := prog_4_method_1_code
def yX2_init : MethodName := ⟨RX2, "<init>", "()V"⟩
abbrev cX0_init : ByteArray := prog_2_method_1_code
def yX0_init : MethodName := ⟨RX0, "<init>", "()V"⟩
abbrev cX1_init : ByteArray := prog_3_method_1_code
def yX1_init : MethodName := ⟨RX1, "<init>", "(I)V"⟩
abbrev cX3_draw : ByteArray := prog_1_method_6_code
def yX3_draw : MethodName := ⟨RX3, "draw", "(III)Z"⟩
abbrev cX3_isPupil : ByteArray := prog_1_method_20_code
def yX3_isPupil : MethodName := ⟨RX3, "isPupil", "(I)Z"⟩
abbrev cX3_isSchool : ByteArray := prog_1_method_19_code
def yX3_isSchool : MethodName := ⟨RX3, "isSchool", "(I)Z"⟩
abbrev cX3_answer : ByteArray := prog_1_method_8_code
def yX3_answer : MethodName := ⟨RX3, "answer", "(II)Z"⟩
abbrev cX1_hasLeft : ByteArray := prog_3_method_4_code
def yX1_hasLeft : MethodName := ⟨RX1, "hasLeft", "()Z"⟩
abbrev cX1_accept : ByteArray := prog_3_method_12_code
def yX1_accept : MethodName := ⟨RX1, "accept", "()Z"⟩
abbrev cX1_mayAnswer : ByteArray := prog_3_method_11_code
def yX1_mayAnswer : MethodName := ⟨RX1, "mayAnswer", "()Z"⟩
abbrev cX1_isPlaced : ByteArray := prog_3_method_3_code
def yX1_isPlaced : MethodName := ⟨RX1, "isPlaced", "()Z"⟩
abbrev cX1_decline : ByteArray := prog_3_method_13_code
def yX1_decline : MethodName := ⟨RX1, "decline", "()Z"⟩
abbrev cX1_giveUpSeat : ByteArray := prog_3_method_10_code
def yX1_giveUpSeat : MethodName := ⟨RX1, "giveUpSeat", "()V"⟩
abbrev cX1_sitAt : ByteArray := prog_3_method_9_code
def yX1_sitAt : MethodName := ⟨RX1, "sitAt", "(II)V"⟩
abbrev cX1_leave : ByteArray := prog_3_method_14_code
def yX1_leave : MethodName := ⟨RX1, "leave", "()V"⟩
abbrev cX3_stay : ByteArray := prog_1_method_9_code
def yX3_stay : MethodName := ⟨RX3, "stay", "(II)Z"⟩
abbrev cX3_appeal : ByteArray := prog_1_method_11_code
def yX3_appeal : MethodName := ⟨RX3, "appeal", "(II)Z"⟩
abbrev cX3_areFlags : ByteArray := prog_1_method_21_code
def yX3_areFlags : MethodName := ⟨RX3, "areFlags", "(I)Z"⟩
abbrev cX3_seat : ByteArray := prog_1_method_13_code
def yX3_seat : MethodName := ⟨RX3, "seat", "(II)I"⟩
abbrev cX3_held : ByteArray := prog_1_method_14_code
def yX3_held : MethodName := ⟨RX3, "held", "(III)I"⟩
abbrev cX3_countHolders : ByteArray := prog_1_method_24_code
def yX3_countHolders : MethodName := ⟨RX3, "countHolders", "(II)I"⟩
abbrev cX1_holds : ByteArray := prog_3_method_5_code
def yX1_holds : MethodName := ⟨RX1, "holds", "(II)Z"⟩
abbrev cX3_lastHolder : ByteArray := prog_1_method_25_code
def yX3_lastHolder : MethodName := ⟨RX3, "lastHolder", "(II)I"⟩
abbrev cX3_standing : ByteArray := prog_1_method_26_code
def yX3_standing : MethodName := ⟨RX3, "standing", "(III)I"⟩
abbrev cX0_bandOf : ByteArray := prog_2_method_3_code
def yX0_bandOf : MethodName := ⟨RX0, "bandOf", "(I)I"⟩
abbrev cX3_blocking : ByteArray := prog_1_method_15_code
def yX3_blocking : MethodName := ⟨RX3, "blocking", "(I)I"⟩
abbrev cX3_blocks : ByteArray := prog_1_method_34_code
def yX3_blocks : MethodName := ⟨RX3, "blocks", "(II)Z"⟩
abbrev cX1_prefers : ByteArray := prog_3_method_7_code
def yX1_prefers : MethodName := ⟨RX1, "prefers", "(I)Z"⟩
abbrev cX1_placeOf : ByteArray := prog_3_method_2_code
def yX1_placeOf : MethodName := ⟨RX1, "placeOf", "(I)I"⟩
abbrev cX3_choose : ByteArray := prog_1_method_29_code
def yX3_choose : MethodName := ⟨RX3, "choose", "(II)V"⟩
abbrev cX1_holdsAnyKind : ByteArray := prog_3_method_6_code
def yX1_holdsAnyKind : MethodName := ⟨RX1, "holdsAnyKind", "(I)Z"⟩
abbrev cX3_takeFromPool : ByteArray := prog_1_method_30_code
def yX3_takeFromPool : MethodName := ⟨RX3, "takeFromPool", "(II)V"⟩
abbrev cX3_firstInPool : ByteArray := prog_1_method_31_code
def yX3_firstInPool : MethodName := ⟨RX3, "firstInPool", "(II)I"⟩
abbrev cX3_why : ByteArray := prog_1_method_17_code
def yX3_why : MethodName := ⟨RX3, "why", "(II)I"⟩
abbrev cX2_admits : ByteArray := prog_4_method_2_code
def yX2_admits : MethodName := ⟨RX2, "admits", "(I)Z"⟩
abbrev cX3_look : ByteArray := prog_1_method_18_code
def yX3_look : MethodName := ⟨RX3, "look", "(I)I"⟩
abbrev cX3_countAsks : ByteArray := prog_1_method_23_code
def yX3_countAsks : MethodName := ⟨RX3, "countAsks", "()I"⟩
abbrev cX3_countPlaced : ByteArray := prog_1_method_22_code
def yX3_countPlaced : MethodName := ⟨RX3, "countPlaced", "()I"⟩
abbrev cL_school : ByteArray := method_3_code
def yL_school : MethodName := ⟨RL, "school", "(LSeatOffice;[J)I"⟩
abbrev cX3_school : ByteArray := prog_1_method_2_code
def yX3_school : MethodName := ⟨RX3, "school", "()I"⟩
abbrev cL_kind : ByteArray := method_4_code
def yL_kind : MethodName := ⟨RL, "kind", "(LSeatOffice;IIIII[J)I"⟩
abbrev cX3_kind : ByteArray := prog_1_method_3_code
def yX3_kind : MethodName := ⟨RX3, "kind", "(IIIII)I"⟩
abbrev cX0_setBands : ByteArray := prog_2_method_2_code
def yX0_setBands : MethodName := ⟨RX0, "setBands", "(III)V"⟩
abbrev cL_pupil : ByteArray := method_5_code
def yL_pupil : MethodName := ⟨RL, "pupil", "(LSeatOffice;IZ[J)I"⟩
abbrev cX3_pupil : ByteArray := prog_1_method_4_code
def yX3_pupil : MethodName := ⟨RX3, "pupil", "(IZ)I"⟩
abbrev cL_wish : ByteArray := method_6_code
def yL_wish : MethodName := ⟨RL, "wish", "(LSeatOffice;II[J)I"⟩
abbrev cX3_wish : ByteArray := prog_1_method_5_code
def yX3_wish : MethodName := ⟨RX3, "wish", "(II)I"⟩
abbrev cL_run : ByteArray := method_7_code
def yL_run : MethodName := ⟨RL, "run", "(LSeatOffice;[J)I"⟩
abbrev cX3_run : ByteArray := prog_1_method_7_code
def yX3_run : MethodName := ⟨RX3, "run", "()I"⟩
abbrev cX3_nextAsker : ByteArray := prog_1_method_27_code
def yX3_nextAsker : MethodName := ⟨RX3, "nextAsker", "()I"⟩
abbrev cX3_askNext : ByteArray := prog_1_method_28_code
def yX3_askNext : MethodName := ⟨RX3, "askNext", "(I)V"⟩
abbrev cL_chain : ByteArray := method_8_code
def yL_chain : MethodName := ⟨RL, "chain", "(LSeatOffice;[J)I"⟩
abbrev cX3_chain : ByteArray := prog_1_method_10_code
def yX3_chain : MethodName := ⟨RX3, "chain", "()I"⟩
abbrev cX3_moveOne : ByteArray := prog_1_method_32_code
def yX3_moveOne : MethodName := ⟨RX3, "moveOne", "()Z"⟩
abbrev cX3_firstWaiting : ByteArray := prog_1_method_33_code
def yX3_firstWaiting : MethodName := ⟨RX3, "firstWaiting", "(II)I"⟩
abbrev cX1_waitsFor : ByteArray := prog_3_method_8_code
def yX1_waitsFor : MethodName := ⟨RX1, "waitsFor", "(I)Z"⟩
abbrev cL_over : ByteArray := method_9_code
def yL_over : MethodName := ⟨RL, "over", "(LSeatOffice;II[J)I"⟩
abbrev cX3_over : ByteArray := prog_1_method_12_code
def yX3_over : MethodName := ⟨RX3, "over", "(II)Z"⟩
abbrev cL_envies : ByteArray := method_10_code
def yL_envies : MethodName := ⟨RL, "envies", "(LSeatOffice;II[J)I"⟩
abbrev cX3_envies : ByteArray := prog_1_method_16_code
def yX3_envies : MethodName := ⟨RX3, "envies", "(II)Z"⟩
abbrev cX4_init : ByteArray := prog_6_method_1_code
def yX4_init : MethodName := ⟨RX4, "<init>", "()V"⟩
abbrev cX4_thrown : ByteArray := prog_6_method_2_code
def yX4_thrown : MethodName := ⟨RX4, "thrown", "()I"⟩
abbrev cX4_school : ByteArray := prog_6_method_5_code
def yX4_school : MethodName := ⟨RX4, "school", "()I"⟩
abbrev cX4_kind : ByteArray := prog_6_method_6_code
def yX4_kind : MethodName := ⟨RX4, "kind", "(IIIII)I"⟩
abbrev cX4_isSchool : ByteArray := prog_6_method_3_code
def yX4_isSchool : MethodName := ⟨RX4, "isSchool", "(I)Z"⟩
abbrev cX4_pupil : ByteArray := prog_6_method_7_code
def yX4_pupil : MethodName := ⟨RX4, "pupil", "(IZ)I"⟩
abbrev cX4_wish : ByteArray := prog_6_method_9_code
def yX4_wish : MethodName := ⟨RX4, "wish", "(II)I"⟩
abbrev cX4_isPupil : ByteArray := prog_6_method_4_code
def yX4_isPupil : MethodName := ⟨RX4, "isPupil", "(I)Z"⟩
abbrev cX4_place : ByteArray := prog_6_method_8_code
def yX4_place : MethodName := ⟨RX4, "place", "(II)I"⟩
abbrev cX4_draw : ByteArray := prog_6_method_10_code
def yX4_draw : MethodName := ⟨RX4, "draw", "(III)Z"⟩
abbrev cX4_run : ByteArray := prog_6_method_16_code
def yX4_run : MethodName := ⟨RX4, "run", "()I"⟩
abbrev cX4_ask : ByteArray := prog_6_method_15_code
def yX4_ask : MethodName := ⟨RX4, "ask", "(I)V"⟩
abbrev cX4_choose : ByteArray := prog_6_method_14_code
def yX4_choose : MethodName := ⟨RX4, "choose", "(I)V"⟩
abbrev cX4_eligible : ByteArray := prog_6_method_12_code
def yX4_eligible : MethodName := ⟨RX4, "eligible", "(III)Z"⟩
abbrev cX4_band : ByteArray := prog_6_method_11_code
def yX4_band : MethodName := ⟨RX4, "band", "(III)I"⟩
abbrev cX4_rank : ByteArray := prog_6_method_13_code
def yX4_rank : MethodName := ⟨RX4, "rank", "(III)I"⟩
abbrev cX4_placed : ByteArray := prog_6_method_17_code
def yX4_placed : MethodName := ⟨RX4, "placed", "()I"⟩
abbrev cX4_answer : ByteArray := prog_6_method_19_code
def yX4_answer : MethodName := ⟨RX4, "answer", "(II)Z"⟩
abbrev cX4_give : ByteArray := prog_6_method_18_code
def yX4_give : MethodName := ⟨RX4, "give", "(I)V"⟩
abbrev cX4_stay : ByteArray := prog_6_method_20_code
def yX4_stay : MethodName := ⟨RX4, "stay", "(II)Z"⟩
abbrev cX4_chain : ByteArray := prog_6_method_25_code
def yX4_chain : MethodName := ⟨RX4, "chain", "()I"⟩
abbrev cX4_move : ByteArray := prog_6_method_24_code
def yX4_move : MethodName := ⟨RX4, "move", "()Z"⟩
abbrev cX4_holders : ByteArray := prog_6_method_23_code
def yX4_holders : MethodName := ⟨RX4, "holders", "(II)I"⟩
abbrev cX4_waits : ByteArray := prog_6_method_22_code
def yX4_waits : MethodName := ⟨RX4, "waits", "(II)Z"⟩
abbrev cX4_own : ByteArray := prog_6_method_21_code
def yX4_own : MethodName := ⟨RX4, "own", "(I)I"⟩
abbrev cX4_appeal : ByteArray := prog_6_method_26_code
def yX4_appeal : MethodName := ⟨RX4, "appeal", "(II)Z"⟩
abbrev cX4_over : ByteArray := prog_6_method_27_code
def yX4_over : MethodName := ⟨RX4, "over", "(II)Z"⟩
abbrev cX4_seat : ByteArray := prog_6_method_28_code
def yX4_seat : MethodName := ⟨RX4, "seat", "(II)I"⟩
abbrev cX4_held : ByteArray := prog_6_method_29_code
def yX4_held : MethodName := ⟨RX4, "held", "(III)I"⟩
abbrev cX4_blocking : ByteArray := prog_6_method_31_code
def yX4_blocking : MethodName := ⟨RX4, "blocking", "(I)I"⟩
abbrev cX4_blocks : ByteArray := prog_6_method_30_code
def yX4_blocks : MethodName := ⟨RX4, "blocks", "(II)Z"⟩
abbrev cX4_envies : ByteArray := prog_6_method_32_code
def yX4_envies : MethodName := ⟨RX4, "envies", "(II)Z"⟩
abbrev cX4_why : ByteArray := prog_6_method_33_code
def yX4_why : MethodName := ⟨RX4, "why", "(II)I"⟩
abbrev cX4_look : ByteArray := prog_6_method_34_code
def yX4_look : MethodName := ⟨RX4, "look", "(I)I"⟩
abbrev cL_law : ByteArray := code
def yL_law : MethodName := ⟨RL, "law", "([I)Z"⟩
