section
-- ===== PART A: goes FIRST, ahead of the names: the tables' words, and 'selects' of the private methods out of them =====
/-- a private method of a class that the tables say can be made, by its rows of tables_1 -/
def lw_okq (q : MethodName × Nat) : Prop := (q.1.cls ≠ "java/lang/invoke/MethodHandle" ∧ q.1.cls ≠ "java/lang/invoke/VarHandle") ∧ Cond.instantiable q.1.cls q.2 ∈ tables_1 ∧ Cond.privateMethod q.1 ∈ tables_1 ∧ Cond.instanceMethod q.1 ∈ tables_1
theorem lw_p0 : lw_okq (⟨"SeatOffice", "isPupil", "(I)Z"⟩, 8) := ⟨⟨by decide +kernel, by decide +kernel⟩, List.mem_of_getElem? (i := 12) (by decide +kernel), List.mem_of_getElem? (i := 128) (by decide +kernel), List.mem_of_getElem? (i := 129) (by decide +kernel)⟩
theorem lw_p1 : lw_okq (⟨"SeatOffice", "isSchool", "(I)Z"⟩, 8) := ⟨⟨by decide +kernel, by decide +kernel⟩, List.mem_of_getElem? (i := 12) (by decide +kernel), List.mem_of_getElem? (i := 132) (by decide +kernel), List.mem_of_getElem? (i := 133) (by decide +kernel)⟩
theorem lw_p2 : lw_okq (⟨"SeatOffice", "countHolders", "(II)I"⟩, 8) := ⟨⟨by decide +kernel, by decide +kernel⟩, List.mem_of_getElem? (i := 12) (by decide +kernel), List.mem_of_getElem? (i := 191) (by decide +kernel), List.mem_of_getElem? (i := 192) (by decide +kernel)⟩
theorem lw_p3 : lw_okq (⟨"SeatOffice", "lastHolder", "(II)I"⟩, 8) := ⟨⟨by decide +kernel, by decide +kernel⟩, List.mem_of_getElem? (i := 12) (by decide +kernel), List.mem_of_getElem? (i := 199) (by decide +kernel), List.mem_of_getElem? (i := 200) (by decide +kernel)⟩
theorem lw_p4 : lw_okq (⟨"SeatOffice", "standing", "(III)I"⟩, 8) := ⟨⟨by decide +kernel, by decide +kernel⟩, List.mem_of_getElem? (i := 12) (by decide +kernel), List.mem_of_getElem? (i := 203) (by decide +kernel), List.mem_of_getElem? (i := 204) (by decide +kernel)⟩
theorem lw_p5 : lw_okq (⟨"SeatOffice", "blocks", "(II)Z"⟩, 8) := ⟨⟨by decide +kernel, by decide +kernel⟩, List.mem_of_getElem? (i := 12) (by decide +kernel), List.mem_of_getElem? (i := 216) (by decide +kernel), List.mem_of_getElem? (i := 217) (by decide +kernel)⟩
theorem lw_p6 : lw_okq (⟨"SeatOffice", "choose", "(II)V"⟩, 8) := ⟨⟨by decide +kernel, by decide +kernel⟩, List.mem_of_getElem? (i := 12) (by decide +kernel), List.mem_of_getElem? (i := 228) (by decide +kernel), List.mem_of_getElem? (i := 229) (by decide +kernel)⟩
theorem lw_p7 : lw_okq (⟨"SeatOffice", "takeFromPool", "(II)V"⟩, 8) := ⟨⟨by decide +kernel, by decide +kernel⟩, List.mem_of_getElem? (i := 12) (by decide +kernel), List.mem_of_getElem? (i := 236) (by decide +kernel), List.mem_of_getElem? (i := 237) (by decide +kernel)⟩
theorem lw_p8 : lw_okq (⟨"SeatOffice", "firstInPool", "(II)I"⟩, 8) := ⟨⟨by decide +kernel, by decide +kernel⟩, List.mem_of_getElem? (i := 12) (by decide +kernel), List.mem_of_getElem? (i := 240) (by decide +kernel), List.mem_of_getElem? (i := 241) (by decide +kernel)⟩
theorem lw_p9 : lw_okq (⟨"SeatOffice", "countAsks", "()I"⟩, 8) := ⟨⟨by decide +kernel, by decide +kernel⟩, List.mem_of_getElem? (i := 12) (by decide +kernel), List.mem_of_getElem? (i := 258) (by decide +kernel), List.mem_of_getElem? (i := 259) (by decide +kernel)⟩
theorem lw_p10 : lw_okq (⟨"SeatOffice", "countPlaced", "()I"⟩, 8) := ⟨⟨by decide +kernel, by decide +kernel⟩, List.mem_of_getElem? (i := 12) (by decide +kernel), List.mem_of_getElem? (i := 262) (by decide +kernel), List.mem_of_getElem? (i := 263) (by decide +kernel)⟩
theorem lw_p11 : lw_okq (⟨"java/lang/Throwable", "fillInStackTrace", "(I)Ljava/lang/Throwable;"⟩, 6) := ⟨⟨by decide +kernel, by decide +kernel⟩, List.mem_of_getElem? (i := 312) (by decide +kernel), List.mem_of_getElem? (i := 310) (by decide +kernel), List.mem_of_getElem? (i := 311) (by decide +kernel)⟩
theorem lw_p12 : lw_okq (⟨"SeatOffice", "nextAsker", "()I"⟩, 8) := ⟨⟨by decide +kernel, by decide +kernel⟩, List.mem_of_getElem? (i := 12) (by decide +kernel), List.mem_of_getElem? (i := 385) (by decide +kernel), List.mem_of_getElem? (i := 386) (by decide +kernel)⟩
theorem lw_p13 : lw_okq (⟨"SeatOffice", "askNext", "(I)V"⟩, 8) := ⟨⟨by decide +kernel, by decide +kernel⟩, List.mem_of_getElem? (i := 12) (by decide +kernel), List.mem_of_getElem? (i := 389) (by decide +kernel), List.mem_of_getElem? (i := 390) (by decide +kernel)⟩
theorem lw_p14 : lw_okq (⟨"SeatOffice", "moveOne", "()Z"⟩, 8) := ⟨⟨by decide +kernel, by decide +kernel⟩, List.mem_of_getElem? (i := 12) (by decide +kernel), List.mem_of_getElem? (i := 402) (by decide +kernel), List.mem_of_getElem? (i := 403) (by decide +kernel)⟩
theorem lw_p15 : lw_okq (⟨"SeatOffice", "firstWaiting", "(II)I"⟩, 8) := ⟨⟨by decide +kernel, by decide +kernel⟩, List.mem_of_getElem? (i := 12) (by decide +kernel), List.mem_of_getElem? (i := 406) (by decide +kernel), List.mem_of_getElem? (i := 407) (by decide +kernel)⟩
def lw_privs_1 : List (MethodName × Nat) := [(⟨"SeatOffice", "isPupil", "(I)Z"⟩, 8), (⟨"SeatOffice", "isSchool", "(I)Z"⟩, 8), (⟨"SeatOffice", "countHolders", "(II)I"⟩, 8), (⟨"SeatOffice", "lastHolder", "(II)I"⟩, 8), (⟨"SeatOffice", "standing", "(III)I"⟩, 8), (⟨"SeatOffice", "blocks", "(II)Z"⟩, 8), (⟨"SeatOffice", "choose", "(II)V"⟩, 8), (⟨"SeatOffice", "takeFromPool", "(II)V"⟩, 8), (⟨"SeatOffice", "firstInPool", "(II)I"⟩, 8), (⟨"SeatOffice", "countAsks", "()I"⟩, 8), (⟨"SeatOffice", "countPlaced", "()I"⟩, 8), (⟨"java/lang/Throwable", "fillInStackTrace", "(I)Ljava/lang/Throwable;"⟩, 6), (⟨"SeatOffice", "nextAsker", "()I"⟩, 8), (⟨"SeatOffice", "askNext", "(I)V"⟩, 8), (⟨"SeatOffice", "moveOne", "()Z"⟩, 8), (⟨"SeatOffice", "firstWaiting", "(II)I"⟩, 8)]
theorem lw_r1 : ∀ q ∈ lw_privs_1, lw_okq q := List.forall_mem_cons.mpr ⟨lw_p0, List.forall_mem_cons.mpr ⟨lw_p1, List.forall_mem_cons.mpr ⟨lw_p2, List.forall_mem_cons.mpr ⟨lw_p3, List.forall_mem_cons.mpr ⟨lw_p4, List.forall_mem_cons.mpr ⟨lw_p5, List.forall_mem_cons.mpr ⟨lw_p6, List.forall_mem_cons.mpr ⟨lw_p7, List.forall_mem_cons.mpr ⟨lw_p8, List.forall_mem_cons.mpr ⟨lw_p9, List.forall_mem_cons.mpr ⟨lw_p10, List.forall_mem_cons.mpr ⟨lw_p11, List.forall_mem_cons.mpr ⟨lw_p12, List.forall_mem_cons.mpr ⟨lw_p13, List.forall_mem_cons.mpr ⟨lw_p14, List.forall_mem_cons.mpr ⟨lw_p15, fun _ h => absurd h List.not_mem_nil⟩⟩⟩⟩⟩⟩⟩⟩⟩⟩⟩⟩⟩⟩⟩⟩
theorem lw_p16 : lw_okq (⟨"SeatOfficeModel", "isSchool", "(I)Z"⟩, 20) := ⟨⟨by decide +kernel, by decide +kernel⟩, List.mem_of_getElem? (i := 429) (by decide +kernel), List.mem_of_getElem? (i := 509) (by decide +kernel), List.mem_of_getElem? (i := 510) (by decide +kernel)⟩
theorem lw_p17 : lw_okq (⟨"SeatOfficeModel", "isPupil", "(I)Z"⟩, 20) := ⟨⟨by decide +kernel, by decide +kernel⟩, List.mem_of_getElem? (i := 429) (by decide +kernel), List.mem_of_getElem? (i := 521) (by decide +kernel), List.mem_of_getElem? (i := 522) (by decide +kernel)⟩
theorem lw_p18 : lw_okq (⟨"SeatOfficeModel", "place", "(II)I"⟩, 20) := ⟨⟨by decide +kernel, by decide +kernel⟩, List.mem_of_getElem? (i := 429) (by decide +kernel), List.mem_of_getElem? (i := 525) (by decide +kernel), List.mem_of_getElem? (i := 526) (by decide +kernel)⟩
theorem lw_p19 : lw_okq (⟨"SeatOfficeModel", "ask", "(I)V"⟩, 20) := ⟨⟨by decide +kernel, by decide +kernel⟩, List.mem_of_getElem? (i := 429) (by decide +kernel), List.mem_of_getElem? (i := 537) (by decide +kernel), List.mem_of_getElem? (i := 538) (by decide +kernel)⟩
theorem lw_p20 : lw_okq (⟨"SeatOfficeModel", "choose", "(I)V"⟩, 20) := ⟨⟨by decide +kernel, by decide +kernel⟩, List.mem_of_getElem? (i := 429) (by decide +kernel), List.mem_of_getElem? (i := 541) (by decide +kernel), List.mem_of_getElem? (i := 542) (by decide +kernel)⟩
theorem lw_p21 : lw_okq (⟨"SeatOfficeModel", "eligible", "(III)Z"⟩, 20) := ⟨⟨by decide +kernel, by decide +kernel⟩, List.mem_of_getElem? (i := 429) (by decide +kernel), List.mem_of_getElem? (i := 545) (by decide +kernel), List.mem_of_getElem? (i := 546) (by decide +kernel)⟩
theorem lw_p22 : lw_okq (⟨"SeatOfficeModel", "band", "(III)I"⟩, 20) := ⟨⟨by decide +kernel, by decide +kernel⟩, List.mem_of_getElem? (i := 429) (by decide +kernel), List.mem_of_getElem? (i := 549) (by decide +kernel), List.mem_of_getElem? (i := 550) (by decide +kernel)⟩
theorem lw_p23 : lw_okq (⟨"SeatOfficeModel", "rank", "(III)I"⟩, 20) := ⟨⟨by decide +kernel, by decide +kernel⟩, List.mem_of_getElem? (i := 429) (by decide +kernel), List.mem_of_getElem? (i := 553) (by decide +kernel), List.mem_of_getElem? (i := 554) (by decide +kernel)⟩
theorem lw_p24 : lw_okq (⟨"SeatOfficeModel", "placed", "()I"⟩, 20) := ⟨⟨by decide +kernel, by decide +kernel⟩, List.mem_of_getElem? (i := 429) (by decide +kernel), List.mem_of_getElem? (i := 558) (by decide +kernel), List.mem_of_getElem? (i := 559) (by decide +kernel)⟩
theorem lw_p25 : lw_okq (⟨"SeatOfficeModel", "give", "(I)V"⟩, 20) := ⟨⟨by decide +kernel, by decide +kernel⟩, List.mem_of_getElem? (i := 429) (by decide +kernel), List.mem_of_getElem? (i := 566) (by decide +kernel), List.mem_of_getElem? (i := 567) (by decide +kernel)⟩
theorem lw_p26 : lw_okq (⟨"SeatOfficeModel", "move", "()Z"⟩, 20) := ⟨⟨by decide +kernel, by decide +kernel⟩, List.mem_of_getElem? (i := 429) (by decide +kernel), List.mem_of_getElem? (i := 578) (by decide +kernel), List.mem_of_getElem? (i := 579) (by decide +kernel)⟩
theorem lw_p27 : lw_okq (⟨"SeatOfficeModel", "holders", "(II)I"⟩, 20) := ⟨⟨by decide +kernel, by decide +kernel⟩, List.mem_of_getElem? (i := 429) (by decide +kernel), List.mem_of_getElem? (i := 582) (by decide +kernel), List.mem_of_getElem? (i := 583) (by decide +kernel)⟩
theorem lw_p28 : lw_okq (⟨"SeatOfficeModel", "waits", "(II)Z"⟩, 20) := ⟨⟨by decide +kernel, by decide +kernel⟩, List.mem_of_getElem? (i := 429) (by decide +kernel), List.mem_of_getElem? (i := 586) (by decide +kernel), List.mem_of_getElem? (i := 587) (by decide +kernel)⟩
theorem lw_p29 : lw_okq (⟨"SeatOfficeModel", "own", "(I)I"⟩, 20) := ⟨⟨by decide +kernel, by decide +kernel⟩, List.mem_of_getElem? (i := 429) (by decide +kernel), List.mem_of_getElem? (i := 590) (by decide +kernel), List.mem_of_getElem? (i := 591) (by decide +kernel)⟩
theorem lw_p30 : lw_okq (⟨"SeatOfficeModel", "blocks", "(II)Z"⟩, 20) := ⟨⟨by decide +kernel, by decide +kernel⟩, List.mem_of_getElem? (i := 429) (by decide +kernel), List.mem_of_getElem? (i := 614) (by decide +kernel), List.mem_of_getElem? (i := 615) (by decide +kernel)⟩
def lw_privs_2 : List (MethodName × Nat) := [(⟨"SeatOfficeModel", "isSchool", "(I)Z"⟩, 20), (⟨"SeatOfficeModel", "isPupil", "(I)Z"⟩, 20), (⟨"SeatOfficeModel", "place", "(II)I"⟩, 20), (⟨"SeatOfficeModel", "ask", "(I)V"⟩, 20), (⟨"SeatOfficeModel", "choose", "(I)V"⟩, 20), (⟨"SeatOfficeModel", "eligible", "(III)Z"⟩, 20), (⟨"SeatOfficeModel", "band", "(III)I"⟩, 20), (⟨"SeatOfficeModel", "rank", "(III)I"⟩, 20), (⟨"SeatOfficeModel", "placed", "()I"⟩, 20), (⟨"SeatOfficeModel", "give", "(I)V"⟩, 20), (⟨"SeatOfficeModel", "move", "()Z"⟩, 20), (⟨"SeatOfficeModel", "holders", "(II)I"⟩, 20), (⟨"SeatOfficeModel", "waits", "(II)Z"⟩, 20), (⟨"SeatOfficeModel", "own", "(I)I"⟩, 20), (⟨"SeatOfficeModel", "blocks", "(II)Z"⟩, 20)]
theorem lw_r2 : ∀ q ∈ lw_privs_2, lw_okq q := List.forall_mem_cons.mpr ⟨lw_p16, List.forall_mem_cons.mpr ⟨lw_p17, List.forall_mem_cons.mpr ⟨lw_p18, List.forall_mem_cons.mpr ⟨lw_p19, List.forall_mem_cons.mpr ⟨lw_p20, List.forall_mem_cons.mpr ⟨lw_p21, List.forall_mem_cons.mpr ⟨lw_p22, List.forall_mem_cons.mpr ⟨lw_p23, List.forall_mem_cons.mpr ⟨lw_p24, List.forall_mem_cons.mpr ⟨lw_p25, List.forall_mem_cons.mpr ⟨lw_p26, List.forall_mem_cons.mpr ⟨lw_p27, List.forall_mem_cons.mpr ⟨lw_p28, List.forall_mem_cons.mpr ⟨lw_p29, List.forall_mem_cons.mpr ⟨lw_p30, fun _ h => absurd h List.not_mem_nil⟩⟩⟩⟩⟩⟩⟩⟩⟩⟩⟩⟩⟩⟩⟩
def lw_privs : List (MethodName × Nat) := lw_privs_1 ++ (lw_privs_2)
def lw_tbl : List Cond := k2_sels lw_privs ++ tables_1
theorem lw_privs_ok : ∀ q ∈ lw_privs, lw_okq q := by
  show ∀ q ∈ lw_privs_1 ++ (lw_privs_2), lw_okq q
  exact List.forall_mem_append.mpr ⟨lw_r1, lw_r2⟩
/-! names: made by a program of mine out of the listing and the tables -/
def RX0 : String := "SeatOffice$Kind"
def TX0 : u_T := fun k => match k with
  | 0 => ("SeatOffice$Kind", "bands", "[I", true)
  | 1 => ("SeatOffice$Kind", "bandCount", "I", false)
  | _ => ("SeatOffice$Kind", "seats", "I", false)
def tyX0 : Nat → FieldType := fun k => match k with
  | 0 => .array .int
  | 1 => .int
  | _ => .int
theorem nmX0 : ∀ a, a < 3 → ∀ b, b < 3 → a ≠ b → (TX0 a).2.1 ≠ (TX0 b).2.1 := by decide +kernel
theorem tyX0_ok : ∀ k, k < 3 → parseFieldDescriptor (TX0 k).2.2.1 = some (tyX0 k) := by decide +kernel
def RX1 : String := "SeatOffice$Pupil"
def TX1 : u_T := fun k => match k with
  | 0 => ("SeatOffice$Pupil", "list", "[I", true)
  | 1 => ("SeatOffice$Pupil", "listed", "I", false)
  | 2 => ("SeatOffice$Pupil", "numbers", "[I", true)
  | 3 => ("SeatOffice$Pupil", "flags", "I", false)
  | 4 => ("SeatOffice$Pupil", "late", "Z", false)
  | 5 => ("SeatOffice$Pupil", "school", "I", false)
  | 6 => ("SeatOffice$Pupil", "kind", "I", false)
  | 7 => ("SeatOffice$Pupil", "asked", "I", false)
  | 8 => ("SeatOffice$Pupil", "answered", "I", false)
  | _ => ("SeatOffice$Pupil", "stays", "I", false)
def tyX1 : Nat → FieldType := fun k => match k with
  | 0 => .array .int
  | 1 => .int
  | 2 => .array .int
  | 3 => .int
  | 4 => .boolean
  | 5 => .int
  | 6 => .int
  | 7 => .int
  | 8 => .int
  | _ => .int
theorem nmX1 : ∀ a, a < 10 → ∀ b, b < 10 → a ≠ b → (TX1 a).2.1 ≠ (TX1 b).2.1 := by decide +kernel
theorem tyX1_ok : ∀ k, k < 10 → parseFieldDescriptor (TX1 k).2.2.1 = some (tyX1 k) := by decide +kernel
def RX2 : String := "SeatOffice$School"
def TX2 : u_T := fun k => match k with
  | 0 => ("SeatOffice$School", "kinds", "[LSeatOffice$Kind;", true)
  | _ => ("SeatOffice$School", "kindCount", "I", false)
def tyX2 : Nat → FieldType := fun k => match k with
  | 0 => .array (.object "SeatOffice$Kind")
  | _ => .int
theorem nmX2 : ∀ a, a < 2 → ∀ b, b < 2 → a ≠ b → (TX2 a).2.1 ≠ (TX2 b).2.1 := by decide +kernel
theorem tyX2_ok : ∀ k, k < 2 → parseFieldDescriptor (TX2 k).2.2.1 = some (tyX2 k) := by decide +kernel
def RX3 : String := "SeatOffice"
def TX3 : u_T := fun k => match k with
  | 0 => ("SeatOffice", "schools", "[LSeatOffice$School;", true)
  | 1 => ("SeatOffice", "pupils", "[LSeatOffice$Pupil;", true)
  | 2 => ("SeatOffice", "schoolCount", "I", false)
  | 3 => ("SeatOffice", "pupilCount", "I", false)
  | 4 => ("SeatOffice", "roundWas", "Z", false)
  | 5 => ("SeatOffice", "pool", "[I", true)
  | 6 => ("SeatOffice", "poolSize", "I", false)
  | _ => ("SeatOffice", "taker", "[I", true)
def tyX3 : Nat → FieldType := fun k => match k with
  | 0 => .array (.object "SeatOffice$School")
  | 1 => .array (.object "SeatOffice$Pupil")
  | 2 => .int
  | 3 => .int
  | 4 => .boolean
  | 5 => .array .int
  | 6 => .int
  | _ => .array .int
theorem nmX3 : ∀ a, a < 8 → ∀ b, b < 8 → a ≠ b → (TX3 a).2.1 ≠ (TX3 b).2.1 := by decide +kernel
theorem tyX3_ok : ∀ k, k < 8 → parseFieldDescriptor (TX3 k).2.2.1 = some (tyX3 k) := by decide +kernel
def RX4 : String := "SeatOfficeModel"
def TX4 : u_T := fun k => match k with
  | 0 => ("SeatOfficeModel", "thrown", "I", false)
  | 1 => ("SeatOfficeModel", "ran", "Z", false)
  | 2 => ("SeatOfficeModel", "schools", "I", false)
  | 3 => ("SeatOfficeModel", "kinds", "[I", true)
  | 4 => ("SeatOfficeModel", "seats", "[I", true)
  | 5 => ("SeatOfficeModel", "bands", "[I", true)
  | 6 => ("SeatOfficeModel", "pupils", "I", false)
  | 7 => ("SeatOfficeModel", "flags", "[I", true)
  | 8 => ("SeatOfficeModel", "late", "[Z", true)
  | 9 => ("SeatOfficeModel", "many", "[I", true)
  | 10 => ("SeatOfficeModel", "wishes", "[I", true)
  | 11 => ("SeatOfficeModel", "number", "[I", true)
  | 12 => ("SeatOfficeModel", "asked", "[I", true)
  | 13 => ("SeatOfficeModel", "school", "[I", true)
  | 14 => ("SeatOfficeModel", "kind", "[I", true)
  | 15 => ("SeatOfficeModel", "answer", "[I", true)
  | 16 => ("SeatOfficeModel", "answered", "[Z", true)
  | 17 => ("SeatOfficeModel", "stays", "[I", true)
  | 18 => ("SeatOfficeModel", "offers", "[Z", true)
  | _ => ("SeatOfficeModel", "taken", "[I", true)
def tyX4 : Nat → FieldType := fun k => match k with
  | 0 => .int
  | 1 => .boolean
  | 2 => .int
  | 3 => .array .int
  | 4 => .array .int
  | 5 => .array .int
  | 6 => .int
  | 7 => .array .int
  | 8 => .array .boolean
  | 9 => .array .int
  | 10 => .array .int
  | 11 => .array .int
  | 12 => .array .int
  | 13 => .array .int
  | 14 => .array .int
  | 15 => .array .int
  | 16 => .array .boolean
  | 17 => .array .int
  | 18 => .array .boolean
  | _ => .array .int
theorem nmX4 : ∀ a, a < 20 → ∀ b, b < 20 → a ≠ b → (TX4 a).2.1 ≠ (TX4 b).2.1 := by decide +kernel
theorem tyX4_ok : ∀ k, k < 20 → parseFieldDescriptor (TX4 k).2.2.1 = some (tyX4 k) := by decide +kernel
def RL : String := "SeatOfficeLaw"
abbrev wCl : List vw_C := [(RX0, TX0, 3), (RX1, TX1, 10), (RX2, TX2, 2), (RX3, TX3, 8), (RX4, TX4, 20)]
abbrev ciK : Nat := 0
abbrev ciP : Nat := 1
abbrev ciS : Nat := 2
abbrev ciO : Nat := 3
abbrev ciM : Nat := 4
/-- the tables' words that hold at every call -/
def wG : List Cond := lw_tbl.filter goodWord
theorem wG_of {w : Cond} {i : Nat} (h : tables_1[i]? = some w) (hg : goodWord w = true) : w ∈ wG := List.mem_filter.mpr ⟨List.mem_append_right _ (List.mem_of_getElem? h), hg⟩
theorem wG_sel {q : MethodName × Nat} {i : Nat} (h : lw_privs[i]? = some q) : Cond.selects q.1.cls q.1 q.1 ∈ wG := List.mem_filter.mpr ⟨List.mem_append_left _ (List.mem_map.mpr ⟨q, List.mem_of_getElem? h, rfl⟩), rfl⟩
abbrev cX3_init : ByteArray := prog_1_method_1_code
def yX3_init : MethodName := ⟨RX3, "<init>", "()V"⟩
abbrev cX2_init : ByteArray := prog_4_method_1_code
def yX2_init : MethodName := ⟨RX2, "<init>", "()V"⟩
abbrev cX0_init : ByteArray := prog_2_method_1_code
def yX0_init : MethodName := ⟨RX0, "<init>", "()V"⟩
abbrev cX1_init : ByteArray := prog_3_method_1_code
def yX1_init : MethodName := ⟨RX1, "<init>", "(I)V"⟩
abbrev cX3_draw : ByteArray := prog_1_method_6_code
def yX3_draw : MethodName := ⟨RX3, "draw", "(III)Z"⟩
abbrev cX3_isPupil : ByteArray := prog_1_method_20_code
def yX3_isPupil : MethodName := ⟨RX3, "isPupil", "(I)Z"⟩
abbrev cX3_isSchool : ByteArray := prog_1_method_19_code
def yX3_isSchool : MethodName := ⟨RX3, "isSchool", "(I)Z"⟩
abbrev cX3_answer : ByteArray := prog_1_method_8_code
def yX3_answer : MethodName := ⟨RX3, "answer", "(II)Z"⟩
abbrev cX1_hasLeft : ByteArray := prog_3_method_4_code
def yX1_hasLeft : MethodName := ⟨RX1, "hasLeft", "()Z"⟩
abbrev cX1_accept : ByteArray := prog_3_method_12_code
def yX1_accept : MethodName := ⟨RX1, "accept", "()Z"⟩
abbrev cX1_mayAnswer : ByteArray := prog_3_method_11_code
def yX1_mayAnswer : MethodName := ⟨RX1, "mayAnswer", "()Z"⟩
abbrev cX1_isPlaced : ByteArray := prog_3_method_3_code
def yX1_isPlaced : MethodName := ⟨RX1, "isPlaced", "()Z"⟩
abbrev cX1_decline : ByteArray := prog_3_method_13_code
def yX1_decline : MethodName := ⟨RX1, "decline", "()Z"⟩
abbrev cX1_giveUpSeat : ByteArray := prog_3_method_10_code
def yX1_giveUpSeat : MethodName := ⟨RX1, "giveUpSeat", "()V"⟩
abbrev cX1_sitAt : ByteArray := prog_3_method_9_code
def yX1_sitAt : MethodName := ⟨RX1, "sitAt", "(II)V"⟩
abbrev cX1_leave : ByteArray := prog_3_method_14_code
def yX1_leave : MethodName := ⟨RX1, "leave", "()V"⟩
abbrev cX3_stay : ByteArray := prog_1_method_9_code
def yX3_stay : MethodName := ⟨RX3, "stay", "(II)Z"⟩
abbrev cX3_appeal : ByteArray := prog_1_method_11_code
def yX3_appeal : MethodName := ⟨RX3, "appeal", "(II)Z"⟩
abbrev cX3_areFlags : ByteArray := prog_1_method_21_code
def yX3_areFlags : MethodName := ⟨RX3, "areFlags", "(I)Z"⟩
abbrev cX3_seat : ByteArray := prog_1_method_13_code
def yX3_seat : MethodName := ⟨RX3, "seat", "(II)I"⟩
abbrev cX3_held : ByteArray := prog_1_method_14_code
def yX3_held : MethodName := ⟨RX3, "held", "(III)I"⟩
abbrev cX3_countHolders : ByteArray := prog_1_method_24_code
def yX3_countHolders : MethodName := ⟨RX3, "countHolders", "(II)I"⟩
abbrev cX1_holds : ByteArray := prog_3_method_5_code
def yX1_holds : MethodName := ⟨RX1, "holds", "(II)Z"⟩
abbrev cX3_lastHolder : ByteArray := prog_1_method_25_code
def yX3_lastHolder : MethodName := ⟨RX3, "lastHolder", "(II)I"⟩
abbrev cX3_standing : ByteArray := prog_1_method_26_code
def yX3_standing : MethodName := ⟨RX3, "standing", "(III)I"⟩
abbrev cX0_bandOf : ByteArray := prog_2_method_3_code
def yX0_bandOf : MethodName := ⟨RX0, "bandOf", "(I)I"⟩
abbrev cX3_blocking : ByteArray := prog_1_method_15_code
def yX3_blocking : MethodName := ⟨RX3, "blocking", "(I)I"⟩
abbrev cX3_blocks : ByteArray := prog_1_method_34_code
def yX3_blocks : MethodName := ⟨RX3, "blocks", "(II)Z"⟩
abbrev cX1_prefers : ByteArray := prog_3_method_7_code
def yX1_prefers : MethodName := ⟨RX1, "prefers", "(I)Z"⟩
abbrev cX1_placeOf : ByteArray := prog_3_method_2_code
def yX1_placeOf : MethodName := ⟨RX1, "placeOf", "(I)I"⟩
abbrev cX3_choose : ByteArray := prog_1_method_29_code
def yX3_choose : MethodName := ⟨RX3, "choose", "(II)V"⟩
abbrev cX1_holdsAnyKind : ByteArray := prog_3_method_6_code
def yX1_holdsAnyKind : MethodName := ⟨RX1, "holdsAnyKind", "(I)Z"⟩
abbrev cX3_takeFromPool : ByteArray := prog_1_method_30_code
def yX3_takeFromPool : MethodName := ⟨RX3, "takeFromPool", "(II)V"⟩
abbrev cX3_firstInPool : ByteArray := prog_1_method_31_code
def yX3_firstInPool : MethodName := ⟨RX3, "firstInPool", "(II)I"⟩
abbrev cX3_why : ByteArray := prog_1_method_17_code
def yX3_why : MethodName := ⟨RX3, "why", "(II)I"⟩
abbrev cX2_admits : ByteArray := prog_4_method_2_code
def yX2_admits : MethodName := ⟨RX2, "admits", "(I)Z"⟩
abbrev cX3_look : ByteArray := prog_1_method_18_code
def yX3_look : MethodName := ⟨RX3, "look", "(I)I"⟩
abbrev cX3_countAsks : ByteArray := prog_1_method_23_code
def yX3_countAsks : MethodName := ⟨RX3, "countAsks", "()I"⟩
abbrev cX3_countPlaced : ByteArray := prog_1_method_22_code
def yX3_countPlaced : MethodName := ⟨RX3, "countPlaced", "()I"⟩
abbrev cL_school : ByteArray := method_3_code
def yL_school : MethodName := ⟨RL, "school", "(LSeatOffice;[J)I"⟩
abbrev cX3_school : ByteArray := prog_1_method_2_code
def yX3_school : MethodName := ⟨RX3, "school", "()I"⟩
abbrev cL_kind : ByteArray := method_4_code
def yL_kind : MethodName := ⟨RL, "kind", "(LSeatOffice;IIIII[J)I"⟩
abbrev cX3_kind : ByteArray := prog_1_method_3_code
def yX3_kind : MethodName := ⟨RX3, "kind", "(IIIII)I"⟩
abbrev cX0_setBands : ByteArray := prog_2_method_2_code
def yX0_setBands : MethodName := ⟨RX0, "setBands", "(III)V"⟩
abbrev cL_pupil : ByteArray := method_5_code
def yL_pupil : MethodName := ⟨RL, "pupil", "(LSeatOffice;IZ[J)I"⟩
abbrev cX3_pupil : ByteArray := prog_1_method_4_code
def yX3_pupil : MethodName := ⟨RX3, "pupil", "(IZ)I"⟩
abbrev cL_wish : ByteArray := method_6_code
def yL_wish : MethodName := ⟨RL, "wish", "(LSeatOffice;II[J)I"⟩
abbrev cX3_wish : ByteArray := prog_1_method_5_code
def yX3_wish : MethodName := ⟨RX3, "wish", "(II)I"⟩
abbrev cL_run : ByteArray := method_7_code
def yL_run : MethodName := ⟨RL, "run", "(LSeatOffice;[J)I"⟩
abbrev cX3_run : ByteArray := prog_1_method_7_code
def yX3_run : MethodName := ⟨RX3, "run", "()I"⟩
abbrev cX3_nextAsker : ByteArray := prog_1_method_27_code
def yX3_nextAsker : MethodName := ⟨RX3, "nextAsker", "()I"⟩
abbrev cX3_askNext : ByteArray := prog_1_method_28_code
def yX3_askNext : MethodName := ⟨RX3, "askNext", "(I)V"⟩
abbrev cL_chain : ByteArray := method_8_code
def yL_chain : MethodName := ⟨RL, "chain", "(LSeatOffice;[J)I"⟩
abbrev cX3_chain : ByteArray := prog_1_method_10_code
def yX3_chain : MethodName := ⟨RX3, "chain", "()I"⟩
abbrev cX3_moveOne : ByteArray := prog_1_method_32_code
def yX3_moveOne : MethodName := ⟨RX3, "moveOne", "()Z"⟩
abbrev cX3_firstWaiting : ByteArray := prog_1_method_33_code
def yX3_firstWaiting : MethodName := ⟨RX3, "firstWaiting", "(II)I"⟩
abbrev cX1_waitsFor : ByteArray := prog_3_method_8_code
def yX1_waitsFor : MethodName := ⟨RX1, "waitsFor", "(I)Z"⟩
abbrev cL_over : ByteArray := method_9_code
def yL_over : MethodName := ⟨RL, "over", "(LSeatOffice;II[J)I"⟩
abbrev cX3_over : ByteArray := prog_1_method_12_code
def yX3_over : MethodName := ⟨RX3, "over", "(II)Z"⟩
abbrev cL_envies : ByteArray := method_10_code
def yL_envies : MethodName := ⟨RL, "envies", "(LSeatOffice;II[J)I"⟩
abbrev cX3_envies : ByteArray := prog_1_method_16_code
def yX3_envies : MethodName := ⟨RX3, "envies", "(II)Z"⟩
abbrev cX4_init : ByteArray := prog_6_method_1_code
def yX4_init : MethodName := ⟨RX4, "<init>", "()V"⟩
abbrev cX4_thrown : ByteArray := prog_6_method_2_code
def yX4_thrown : MethodName := ⟨RX4, "thrown", "()I"⟩
abbrev cX4_school : ByteArray := prog_6_method_5_code
def yX4_school : MethodName := ⟨RX4, "school", "()I"⟩
abbrev cX4_kind : ByteArray := prog_6_method_6_code
def yX4_kind : MethodName := ⟨RX4, "kind", "(IIIII)I"⟩
abbrev cX4_isSchool : ByteArray := prog_6_method_3_code
def yX4_isSchool : MethodName := ⟨RX4, "isSchool", "(I)Z"⟩
abbrev cX4_pupil : ByteArray := prog_6_method_7_code
def yX4_pupil : MethodName := ⟨RX4, "pupil", "(IZ)I"⟩
abbrev cX4_wish : ByteArray := prog_6_method_9_code
def yX4_wish : MethodName := ⟨RX4, "wish", "(II)I"⟩
abbrev cX4_isPupil : ByteArray := prog_6_method_4_code
def yX4_isPupil : MethodName := ⟨RX4, "isPupil", "(I)Z"⟩
abbrev cX4_place : ByteArray := prog_6_method_8_code
def yX4_place : MethodName := ⟨RX4, "place", "(II)I"⟩
abbrev cX4_draw : ByteArray := prog_6_method_10_code
def yX4_draw : MethodName := ⟨RX4, "draw", "(III)Z"⟩
abbrev cX4_run : ByteArray := prog_6_method_16_code
def yX4_run : MethodName := ⟨RX4, "run", "()I"⟩
abbrev cX4_ask : ByteArray := prog_6_method_15_code
def yX4_ask : MethodName := ⟨RX4, "ask", "(I)V"⟩
abbrev cX4_choose : ByteArray := prog_6_method_14_code
def yX4_choose : MethodName := ⟨RX4, "choose", "(I)V"⟩
abbrev cX4_eligible : ByteArray := prog_6_method_12_code
def yX4_eligible : MethodName := ⟨RX4, "eligible", "(III)Z"⟩
abbrev cX4_band : ByteArray := prog_6_method_11_code
def yX4_band : MethodName := ⟨RX4, "band", "(III)I"⟩
abbrev cX4_rank : ByteArray := prog_6_method_13_code
def yX4_rank : MethodName := ⟨RX4, "rank", "(III)I"⟩
abbrev cX4_placed : ByteArray := prog_6_method_17_code
def yX4_placed : MethodName := ⟨RX4, "placed", "()I"⟩
abbrev cX4_answer : ByteArray := prog_6_method_19_code
def yX4_answer : MethodName := ⟨RX4, "answer", "(II)Z"⟩
abbrev cX4_give : ByteArray := prog_6_method_18_code
def yX4_give : MethodName := ⟨RX4, "give", "(I)V"⟩
abbrev cX4_stay : ByteArray := prog_6_method_20_code
def yX4_stay : MethodName := ⟨RX4, "stay", "(II)Z"⟩
abbrev cX4_chain : ByteArray := prog_6_method_25_code
def yX4_chain : MethodName := ⟨RX4, "chain", "()I"⟩
abbrev cX4_move : ByteArray := prog_6_method_24_code
def yX4_move : MethodName := ⟨RX4, "move", "()Z"⟩
abbrev cX4_holders : ByteArray := prog_6_method_23_code
def yX4_holders : MethodName := ⟨RX4, "holders", "(II)I"⟩
abbrev cX4_waits : ByteArray := prog_6_method_22_code
def yX4_waits : MethodName := ⟨RX4, "waits", "(II)Z"⟩
abbrev cX4_own : ByteArray := prog_6_method_21_code
def yX4_own : MethodName := ⟨RX4, "own", "(I)I"⟩
abbrev cX4_appeal : ByteArray := prog_6_method_26_code
def yX4_appeal : MethodName := ⟨RX4, "appeal", "(II)Z"⟩
abbrev cX4_over : ByteArray := prog_6_method_27_code
def yX4_over : MethodName := ⟨RX4, "over", "(II)Z"⟩
abbrev cX4_seat : ByteArray := prog_6_method_28_code
def yX4_seat : MethodName := ⟨RX4, "seat", "(II)I"⟩
abbrev cX4_held : ByteArray := prog_6_method_29_code
def yX4_held : MethodName := ⟨RX4, "held", "(III)I"⟩
abbrev cX4_blocking : ByteArray := prog_6_method_31_code
def yX4_blocking : MethodName := ⟨RX4, "blocking", "(I)I"⟩
abbrev cX4_blocks : ByteArray := prog_6_method_30_code
def yX4_blocks : MethodName := ⟨RX4, "blocks", "(II)Z"⟩
abbrev cX4_envies : ByteArray := prog_6_method_32_code
def yX4_envies : MethodName := ⟨RX4, "envies", "(II)Z"⟩
abbrev cX4_why : ByteArray := prog_6_method_33_code
def yX4_why : MethodName := ⟨RX4, "why", "(II)I"⟩
abbrev cX4_look : ByteArray := prog_6_method_34_code
def yX4_look : MethodName := ⟨RX4, "look", "(I)I"⟩
abbrev cL_law : ByteArray := code
def yL_law : MethodName := ⟨RL, "law", "([I)Z"⟩
end
section
/-! decode rows, made by a program of mine -/
theorem dX3_init_0 : decode cX3_init 0 = .ok (.aload_n 0, 1) := by decide +kernel
theorem dX3_init_1 : decode cX3_init 1 = .ok (.invokespecial 3, 3) := by decide +kernel
theorem dX3_init_4 : decode cX3_init 4 = .ok (.aload_n 0, 1) := by decide +kernel
theorem dX3_init_5 : decode cX3_init 5 = .ok (.bipush 6, 2) := by decide +kernel
theorem dX3_init_7 : decode cX3_init 7 = .ok (.anewarray 9, 3) := by decide +kernel
theorem dX3_init_10 : decode cX3_init 10 = .ok (.putfield 11, 3) := by decide +kernel
theorem dX3_init_13 : decode cX3_init 13 = .ok (.iconst 0, 1) := by decide +kernel
theorem dX3_init_14 : decode cX3_init 14 = .ok (.istore_n 1, 1) := by decide +kernel
theorem dX3_init_15 : decode cX3_init 15 = .ok (.iload_n 1, 1) := by decide +kernel
theorem dX3_init_16 : decode cX3_init 16 = .ok (.bipush 6, 2) := by decide +kernel
theorem dX3_init_18 : decode cX3_init 18 = .ok (.if_icmp .ge 22, 3) := by decide +kernel
theorem dX3_init_21 : decode cX3_init 21 = .ok (.aload_n 0, 1) := by decide +kernel
theorem dX3_init_22 : decode cX3_init 22 = .ok (.getfield 11, 3) := by decide +kernel
theorem dX3_init_25 : decode cX3_init 25 = .ok (.iload_n 1, 1) := by decide +kernel
theorem dX3_init_26 : decode cX3_init 26 = .ok (.new 9, 3) := by decide +kernel
theorem dX3_init_29 : decode cX3_init 29 = .ok (.dup, 1) := by decide +kernel
theorem dX3_init_30 : decode cX3_init 30 = .ok (.invokespecial 15, 3) := by decide +kernel
theorem dX3_init_33 : decode cX3_init 33 = .ok (.aastore, 1) := by decide +kernel
theorem dX3_init_34 : decode cX3_init 34 = .ok (.iinc 1 1, 3) := by decide +kernel
theorem dX3_init_37 : decode cX3_init 37 = .ok (.goto (-22), 3) := by decide +kernel
theorem dX3_init_40 : decode cX3_init 40 = .ok (.aload_n 0, 1) := by decide +kernel
theorem dX3_init_41 : decode cX3_init 41 = .ok (.bipush 20, 2) := by decide +kernel
theorem dX3_init_43 : decode cX3_init 43 = .ok (.anewarray 16, 3) := by decide +kernel
theorem dX3_init_46 : decode cX3_init 46 = .ok (.putfield 18, 3) := by decide +kernel
theorem dX3_init_49 : decode cX3_init 49 = .ok (.iconst 0, 1) := by decide +kernel
theorem dX3_init_50 : decode cX3_init 50 = .ok (.istore_n 1, 1) := by decide +kernel
theorem dX3_init_51 : decode cX3_init 51 = .ok (.iload_n 1, 1) := by decide +kernel
theorem dX3_init_52 : decode cX3_init 52 = .ok (.bipush 20, 2) := by decide +kernel
theorem dX3_init_54 : decode cX3_init 54 = .ok (.if_icmp .ge 23, 3) := by decide +kernel
theorem dX3_init_57 : decode cX3_init 57 = .ok (.aload_n 0, 1) := by decide +kernel
theorem dX3_init_58 : decode cX3_init 58 = .ok (.getfield 18, 3) := by decide +kernel
theorem dX3_init_61 : decode cX3_init 61 = .ok (.iload_n 1, 1) := by decide +kernel
theorem dX3_init_62 : decode cX3_init 62 = .ok (.new 16, 3) := by decide +kernel
theorem dX3_init_65 : decode cX3_init 65 = .ok (.dup, 1) := by decide +kernel
theorem dX3_init_66 : decode cX3_init 66 = .ok (.iload_n 1, 1) := by decide +kernel
theorem dX3_init_67 : decode cX3_init 67 = .ok (.invokespecial 22, 3) := by decide +kernel
theorem dX3_init_70 : decode cX3_init 70 = .ok (.aastore, 1) := by decide +kernel
theorem dX3_init_71 : decode cX3_init 71 = .ok (.iinc 1 1, 3) := by decide +kernel
theorem dX3_init_74 : decode cX3_init 74 = .ok (.goto (-23), 3) := by decide +kernel
theorem dX3_init_77 : decode cX3_init 77 = .ok (.aload_n 0, 1) := by decide +kernel
theorem dX3_init_78 : decode cX3_init 78 = .ok (.bipush 20, 2) := by decide +kernel
theorem dX3_init_80 : decode cX3_init 80 = .ok (.newarray .int, 2) := by decide +kernel
theorem dX3_init_82 : decode cX3_init 82 = .ok (.putfield 25, 3) := by decide +kernel
theorem dX3_init_85 : decode cX3_init 85 = .ok (.aload_n 0, 1) := by decide +kernel
theorem dX3_init_86 : decode cX3_init 86 = .ok (.bipush 20, 2) := by decide +kernel
theorem dX3_init_88 : decode cX3_init 88 = .ok (.newarray .int, 2) := by decide +kernel
theorem dX3_init_90 : decode cX3_init 90 = .ok (.putfield 29, 3) := by decide +kernel
theorem dX3_init_93 : decode cX3_init 93 = .ok (.return_, 1) := by decide +kernel
theorem dX2_init_0 : decode cX2_init 0 = .ok (.aload_n 0, 1) := by decide +kernel
theorem dX2_init_1 : decode cX2_init 1 = .ok (.invokespecial 3, 3) := by decide +kernel
theorem dX2_init_4 : decode cX2_init 4 = .ok (.aload_n 0, 1) := by decide +kernel
theorem dX2_init_5 : decode cX2_init 5 = .ok (.iconst 3, 1) := by decide +kernel
theorem dX2_init_6 : decode cX2_init 6 = .ok (.anewarray 9, 3) := by decide +kernel
theorem dX2_init_9 : decode cX2_init 9 = .ok (.putfield 11, 3) := by decide +kernel
theorem dX2_init_12 : decode cX2_init 12 = .ok (.iconst 0, 1) := by decide +kernel
theorem dX2_init_13 : decode cX2_init 13 = .ok (.istore_n 1, 1) := by decide +kernel
theorem dX2_init_14 : decode cX2_init 14 = .ok (.iload_n 1, 1) := by decide +kernel
theorem dX2_init_15 : decode cX2_init 15 = .ok (.iconst 3, 1) := by decide +kernel
theorem dX2_init_16 : decode cX2_init 16 = .ok (.if_icmp .ge 22, 3) := by decide +kernel
theorem dX2_init_19 : decode cX2_init 19 = .ok (.aload_n 0, 1) := by decide +kernel
theorem dX2_init_20 : decode cX2_init 20 = .ok (.getfield 11, 3) := by decide +kernel
theorem dX2_init_23 : decode cX2_init 23 = .ok (.iload_n 1, 1) := by decide +kernel
theorem dX2_init_24 : decode cX2_init 24 = .ok (.new 9, 3) := by decide +kernel
theorem dX2_init_27 : decode cX2_init 27 = .ok (.dup, 1) := by decide +kernel
theorem dX2_init_28 : decode cX2_init 28 = .ok (.invokespecial 17, 3) := by decide +kernel
theorem dX2_init_31 : decode cX2_init 31 = .ok (.aastore, 1) := by decide +kernel
theorem dX2_init_32 : decode cX2_init 32 = .ok (.iinc 1 1, 3) := by decide +kernel
theorem dX2_init_35 : decode cX2_init 35 = .ok (.goto (-21), 3) := by decide +kernel
theorem dX2_init_38 : decode cX2_init 38 = .ok (.return_, 1) := by decide +kernel
theorem dX0_init_0 : decode cX0_init 0 = .ok (.aload_n 0, 1) := by decide +kernel
theorem dX0_init_1 : decode cX0_init 1 = .ok (.invokespecial 3, 3) := by decide +kernel
theorem dX0_init_4 : decode cX0_init 4 = .ok (.aload_n 0, 1) := by decide +kernel
theorem dX0_init_5 : decode cX0_init 5 = .ok (.iconst 3, 1) := by decide +kernel
theorem dX0_init_6 : decode cX0_init 6 = .ok (.newarray .int, 2) := by decide +kernel
theorem dX0_init_8 : decode cX0_init 8 = .ok (.putfield 9, 3) := by decide +kernel
theorem dX0_init_11 : decode cX0_init 11 = .ok (.return_, 1) := by decide +kernel
theorem dX1_init_0 : decode cX1_init 0 = .ok (.aload_n 0, 1) := by decide +kernel
theorem dX1_init_1 : decode cX1_init 1 = .ok (.invokespecial 3, 3) := by decide +kernel
theorem dX1_init_4 : decode cX1_init 4 = .ok (.aload_n 0, 1) := by decide +kernel
theorem dX1_init_5 : decode cX1_init 5 = .ok (.iconst 4, 1) := by decide +kernel
theorem dX1_init_6 : decode cX1_init 6 = .ok (.newarray .int, 2) := by decide +kernel
theorem dX1_init_8 : decode cX1_init 8 = .ok (.putfield 9, 3) := by decide +kernel
theorem dX1_init_11 : decode cX1_init 11 = .ok (.aload_n 0, 1) := by decide +kernel
theorem dX1_init_12 : decode cX1_init 12 = .ok (.bipush 6, 2) := by decide +kernel
theorem dX1_init_14 : decode cX1_init 14 = .ok (.newarray .int, 2) := by decide +kernel
theorem dX1_init_16 : decode cX1_init 16 = .ok (.putfield 15, 3) := by decide +kernel
theorem dX1_init_19 : decode cX1_init 19 = .ok (.iconst 0, 1) := by decide +kernel
theorem dX1_init_20 : decode cX1_init 20 = .ok (.istore_n 2, 1) := by decide +kernel
theorem dX1_init_21 : decode cX1_init 21 = .ok (.iload_n 2, 1) := by decide +kernel
theorem dX1_init_22 : decode cX1_init 22 = .ok (.bipush 6, 2) := by decide +kernel
theorem dX1_init_24 : decode cX1_init 24 = .ok (.if_icmp .ge 20, 3) := by decide +kernel
theorem dX1_init_27 : decode cX1_init 27 = .ok (.aload_n 0, 1) := by decide +kernel
theorem dX1_init_28 : decode cX1_init 28 = .ok (.getfield 15, 3) := by decide +kernel
theorem dX1_init_31 : decode cX1_init 31 = .ok (.iload_n 2, 1) := by decide +kernel
theorem dX1_init_32 : decode cX1_init 32 = .ok (.sipush 1000, 3) := by decide +kernel
theorem dX1_init_35 : decode cX1_init 35 = .ok (.iload_n 1, 1) := by decide +kernel
theorem dX1_init_36 : decode cX1_init 36 = .ok (.iadd, 1) := by decide +kernel
theorem dX1_init_37 : decode cX1_init 37 = .ok (.iastore, 1) := by decide +kernel
theorem dX1_init_38 : decode cX1_init 38 = .ok (.iinc 2 1, 3) := by decide +kernel
theorem dX1_init_41 : decode cX1_init 41 = .ok (.goto (-20), 3) := by decide +kernel
theorem dX1_init_44 : decode cX1_init 44 = .ok (.aload_n 0, 1) := by decide +kernel
theorem dX1_init_45 : decode cX1_init 45 = .ok (.iconst (-1), 1) := by decide +kernel
theorem dX1_init_46 : decode cX1_init 46 = .ok (.putfield 18, 3) := by decide +kernel
theorem dX1_init_49 : decode cX1_init 49 = .ok (.aload_n 0, 1) := by decide +kernel
theorem dX1_init_50 : decode cX1_init 50 = .ok (.iconst (-1), 1) := by decide +kernel
theorem dX1_init_51 : decode cX1_init 51 = .ok (.putfield 22, 3) := by decide +kernel
theorem dX1_init_54 : decode cX1_init 54 = .ok (.aload_n 0, 1) := by decide +kernel
theorem dX1_init_55 : decode cX1_init 55 = .ok (.iconst 0, 1) := by decide +kernel
theorem dX1_init_56 : decode cX1_init 56 = .ok (.putfield 25, 3) := by decide +kernel
theorem dX1_init_59 : decode cX1_init 59 = .ok (.return_, 1) := by decide +kernel
theorem dX3_draw_0 : decode cX3_draw 0 = .ok (.aload_n 0, 1) := by decide +kernel
theorem dX3_draw_1 : decode cX3_draw 1 = .ok (.iload_n 1, 1) := by decide +kernel
theorem dX3_draw_2 : decode cX3_draw 2 = .ok (.invokevirtual 78, 3) := by decide +kernel
theorem dX3_draw_5 : decode cX3_draw 5 = .ok (.ifCond .eq 29, 3) := by decide +kernel
theorem dX3_draw_8 : decode cX3_draw 8 = .ok (.aload_n 0, 1) := by decide +kernel
theorem dX3_draw_9 : decode cX3_draw 9 = .ok (.iload_n 2, 1) := by decide +kernel
theorem dX3_draw_10 : decode cX3_draw 10 = .ok (.invokevirtual 43, 3) := by decide +kernel
theorem dX3_draw_13 : decode cX3_draw 13 = .ok (.ifCond .eq 21, 3) := by decide +kernel
theorem dX3_draw_16 : decode cX3_draw 16 = .ok (.iload_n 3, 1) := by decide +kernel
theorem dX3_draw_17 : decode cX3_draw 17 = .ok (.ifCond .lt 17, 3) := by decide +kernel
theorem dX3_draw_20 : decode cX3_draw 20 = .ok (.iload_n 3, 1) := by decide +kernel
theorem dX3_draw_21 : decode cX3_draw 21 = .ok (.sipush 999, 3) := by decide +kernel
theorem dX3_draw_24 : decode cX3_draw 24 = .ok (.if_icmp .gt 10, 3) := by decide +kernel
theorem dX3_draw_27 : decode cX3_draw 27 = .ok (.aload_n 0, 1) := by decide +kernel
theorem dX3_draw_28 : decode cX3_draw 28 = .ok (.getfield 32, 3) := by decide +kernel
theorem dX3_draw_31 : decode cX3_draw 31 = .ok (.ifCond .eq 5, 3) := by decide +kernel
theorem dX3_draw_34 : decode cX3_draw 34 = .ok (.iconst 0, 1) := by decide +kernel
theorem dX3_draw_35 : decode cX3_draw 35 = .ok (.ireturn, 1) := by decide +kernel
theorem dX3_draw_36 : decode cX3_draw 36 = .ok (.iconst 0, 1) := by decide +kernel
theorem dX3_draw_37 : decode cX3_draw 37 = .ok (.istore 4, 2) := by decide +kernel
theorem dX3_draw_39 : decode cX3_draw 39 = .ok (.iload 4, 2) := by decide +kernel
theorem dX3_draw_41 : decode cX3_draw 41 = .ok (.aload_n 0, 1) := by decide +kernel
theorem dX3_draw_42 : decode cX3_draw 42 = .ok (.getfield 69, 3) := by decide +kernel
theorem dX3_draw_45 : decode cX3_draw 45 = .ok (.if_icmp .ge 33, 3) := by decide +kernel
theorem dX3_draw_48 : decode cX3_draw 48 = .ok (.iload 4, 2) := by decide +kernel
theorem dX3_draw_50 : decode cX3_draw 50 = .ok (.iload_n 1, 1) := by decide +kernel
theorem dX3_draw_51 : decode cX3_draw 51 = .ok (.if_icmp .eq 21, 3) := by decide +kernel
theorem dX3_draw_54 : decode cX3_draw 54 = .ok (.aload_n 0, 1) := by decide +kernel
theorem dX3_draw_55 : decode cX3_draw 55 = .ok (.getfield 18, 3) := by decide +kernel
theorem dX3_draw_58 : decode cX3_draw 58 = .ok (.iload 4, 2) := by decide +kernel
theorem dX3_draw_60 : decode cX3_draw 60 = .ok (.aaload, 1) := by decide +kernel
theorem dX3_draw_61 : decode cX3_draw 61 = .ok (.getfield 91, 3) := by decide +kernel
theorem dX3_draw_64 : decode cX3_draw 64 = .ok (.iload_n 2, 1) := by decide +kernel
theorem dX3_draw_65 : decode cX3_draw 65 = .ok (.iaload, 1) := by decide +kernel
theorem dX3_draw_66 : decode cX3_draw 66 = .ok (.iload_n 3, 1) := by decide +kernel
theorem dX3_draw_67 : decode cX3_draw 67 = .ok (.if_icmp .ne 5, 3) := by decide +kernel
theorem dX3_draw_70 : decode cX3_draw 70 = .ok (.iconst 0, 1) := by decide +kernel
theorem dX3_draw_71 : decode cX3_draw 71 = .ok (.ireturn, 1) := by decide +kernel
theorem dX3_draw_72 : decode cX3_draw 72 = .ok (.iinc 4 1, 3) := by decide +kernel
theorem dX3_draw_75 : decode cX3_draw 75 = .ok (.goto (-36), 3) := by decide +kernel
theorem dX3_draw_78 : decode cX3_draw 78 = .ok (.aload_n 0, 1) := by decide +kernel
theorem dX3_draw_79 : decode cX3_draw 79 = .ok (.getfield 18, 3) := by decide +kernel
theorem dX3_draw_82 : decode cX3_draw 82 = .ok (.iload_n 1, 1) := by decide +kernel
theorem dX3_draw_83 : decode cX3_draw 83 = .ok (.aaload, 1) := by decide +kernel
theorem dX3_draw_84 : decode cX3_draw 84 = .ok (.getfield 91, 3) := by decide +kernel
theorem dX3_draw_87 : decode cX3_draw 87 = .ok (.iload_n 2, 1) := by decide +kernel
theorem dX3_draw_88 : decode cX3_draw 88 = .ok (.iload_n 3, 1) := by decide +kernel
theorem dX3_draw_89 : decode cX3_draw 89 = .ok (.iastore, 1) := by decide +kernel
theorem dX3_draw_90 : decode cX3_draw 90 = .ok (.iconst 1, 1) := by decide +kernel
theorem dX3_draw_91 : decode cX3_draw 91 = .ok (.ireturn, 1) := by decide +kernel
theorem dX3_isPupil_0 : decode cX3_isPupil 0 = .ok (.iload_n 1, 1) := by decide +kernel
theorem dX3_isPupil_1 : decode cX3_isPupil 1 = .ok (.ifCond .lt 15, 3) := by decide +kernel
theorem dX3_isPupil_4 : decode cX3_isPupil 4 = .ok (.iload_n 1, 1) := by decide +kernel
theorem dX3_isPupil_5 : decode cX3_isPupil 5 = .ok (.aload_n 0, 1) := by decide +kernel
theorem dX3_isPupil_6 : decode cX3_isPupil 6 = .ok (.getfield 69, 3) := by decide +kernel
theorem dX3_isPupil_9 : decode cX3_isPupil 9 = .ok (.if_icmp .ge 7, 3) := by decide +kernel
theorem dX3_isPupil_12 : decode cX3_isPupil 12 = .ok (.iconst 1, 1) := by decide +kernel
theorem dX3_isPupil_13 : decode cX3_isPupil 13 = .ok (.goto 4, 3) := by decide +kernel
theorem dX3_isPupil_16 : decode cX3_isPupil 16 = .ok (.iconst 0, 1) := by decide +kernel
theorem dX3_isPupil_17 : decode cX3_isPupil 17 = .ok (.ireturn, 1) := by decide +kernel
theorem dX3_isSchool_0 : decode cX3_isSchool 0 = .ok (.iload_n 1, 1) := by decide +kernel
theorem dX3_isSchool_1 : decode cX3_isSchool 1 = .ok (.ifCond .lt 15, 3) := by decide +kernel
theorem dX3_isSchool_4 : decode cX3_isSchool 4 = .ok (.iload_n 1, 1) := by decide +kernel
theorem dX3_isSchool_5 : decode cX3_isSchool 5 = .ok (.aload_n 0, 1) := by decide +kernel
theorem dX3_isSchool_6 : decode cX3_isSchool 6 = .ok (.getfield 36, 3) := by decide +kernel
theorem dX3_isSchool_9 : decode cX3_isSchool 9 = .ok (.if_icmp .ge 7, 3) := by decide +kernel
theorem dX3_isSchool_12 : decode cX3_isSchool 12 = .ok (.iconst 1, 1) := by decide +kernel
theorem dX3_isSchool_13 : decode cX3_isSchool 13 = .ok (.goto 4, 3) := by decide +kernel
theorem dX3_isSchool_16 : decode cX3_isSchool 16 = .ok (.iconst 0, 1) := by decide +kernel
theorem dX3_isSchool_17 : decode cX3_isSchool 17 = .ok (.ireturn, 1) := by decide +kernel
theorem dX3_answer_0 : decode cX3_answer 0 = .ok (.aload_n 0, 1) := by decide +kernel
theorem dX3_answer_1 : decode cX3_answer 1 = .ok (.iload_n 1, 1) := by decide +kernel
theorem dX3_answer_2 : decode cX3_answer 2 = .ok (.invokevirtual 78, 3) := by decide +kernel
theorem dX3_answer_5 : decode cX3_answer 5 = .ok (.ifCond .eq 22, 3) := by decide +kernel
theorem dX3_answer_8 : decode cX3_answer 8 = .ok (.aload_n 0, 1) := by decide +kernel
theorem dX3_answer_9 : decode cX3_answer 9 = .ok (.getfield 32, 3) := by decide +kernel
theorem dX3_answer_12 : decode cX3_answer 12 = .ok (.ifCond .eq 15, 3) := by decide +kernel
theorem dX3_answer_15 : decode cX3_answer 15 = .ok (.aload_n 0, 1) := by decide +kernel
theorem dX3_answer_16 : decode cX3_answer 16 = .ok (.getfield 18, 3) := by decide +kernel
theorem dX3_answer_19 : decode cX3_answer 19 = .ok (.iload_n 1, 1) := by decide +kernel
theorem dX3_answer_20 : decode cX3_answer 20 = .ok (.aaload, 1) := by decide +kernel
theorem dX3_answer_21 : decode cX3_answer 21 = .ok (.invokevirtual 104, 3) := by decide +kernel
theorem dX3_answer_24 : decode cX3_answer 24 = .ok (.ifCond .eq 5, 3) := by decide +kernel
theorem dX3_answer_27 : decode cX3_answer 27 = .ok (.iconst 0, 1) := by decide +kernel
theorem dX3_answer_28 : decode cX3_answer 28 = .ok (.ireturn, 1) := by decide +kernel
theorem dX3_answer_29 : decode cX3_answer 29 = .ok (.aload_n 0, 1) := by decide +kernel
theorem dX3_answer_30 : decode cX3_answer 30 = .ok (.getfield 18, 3) := by decide +kernel
theorem dX3_answer_33 : decode cX3_answer 33 = .ok (.iload_n 1, 1) := by decide +kernel
theorem dX3_answer_34 : decode cX3_answer 34 = .ok (.aaload, 1) := by decide +kernel
theorem dX3_answer_35 : decode cX3_answer 35 = .ok (.astore_n 3, 1) := by decide +kernel
theorem dX3_answer_36 : decode cX3_answer 36 = .ok (.iload_n 2, 1) := by decide +kernel
theorem dX3_answer_37 : decode cX3_answer 37 = .ok (.tableswitch 43 0 2 #[27, 32, 37], 27) := by decide +kernel
theorem dX3_answer_64 : decode cX3_answer 64 = .ok (.aload_n 3, 1) := by decide +kernel
theorem dX3_answer_65 : decode cX3_answer 65 = .ok (.invokevirtual 108, 3) := by decide +kernel
theorem dX3_answer_68 : decode cX3_answer 68 = .ok (.ireturn, 1) := by decide +kernel
theorem dX3_answer_69 : decode cX3_answer 69 = .ok (.aload_n 3, 1) := by decide +kernel
theorem dX3_answer_70 : decode cX3_answer 70 = .ok (.invokevirtual 111, 3) := by decide +kernel
theorem dX3_answer_73 : decode cX3_answer 73 = .ok (.ireturn, 1) := by decide +kernel
theorem dX3_answer_74 : decode cX3_answer 74 = .ok (.aload_n 3, 1) := by decide +kernel
theorem dX3_answer_75 : decode cX3_answer 75 = .ok (.invokevirtual 114, 3) := by decide +kernel
theorem dX3_answer_78 : decode cX3_answer 78 = .ok (.iconst 1, 1) := by decide +kernel
theorem dX3_answer_79 : decode cX3_answer 79 = .ok (.ireturn, 1) := by decide +kernel
theorem dX3_answer_80 : decode cX3_answer 80 = .ok (.iconst 0, 1) := by decide +kernel
theorem dX3_answer_81 : decode cX3_answer 81 = .ok (.ireturn, 1) := by decide +kernel
theorem dX1_hasLeft_0 : decode cX1_hasLeft 0 = .ok (.aload_n 0, 1) := by decide +kernel
theorem dX1_hasLeft_1 : decode cX1_hasLeft 1 = .ok (.getfield 25, 3) := by decide +kernel
theorem dX1_hasLeft_4 : decode cX1_hasLeft 4 = .ok (.iconst 3, 1) := by decide +kernel
theorem dX1_hasLeft_5 : decode cX1_hasLeft 5 = .ok (.if_icmp .ne 7, 3) := by decide +kernel
theorem dX1_hasLeft_8 : decode cX1_hasLeft 8 = .ok (.iconst 1, 1) := by decide +kernel
theorem dX1_hasLeft_9 : decode cX1_hasLeft 9 = .ok (.goto 4, 3) := by decide +kernel
theorem dX1_hasLeft_12 : decode cX1_hasLeft 12 = .ok (.iconst 0, 1) := by decide +kernel
theorem dX1_hasLeft_13 : decode cX1_hasLeft 13 = .ok (.ireturn, 1) := by decide +kernel
theorem dX1_accept_0 : decode cX1_accept 0 = .ok (.aload_n 0, 1) := by decide +kernel
theorem dX1_accept_1 : decode cX1_accept 1 = .ok (.invokevirtual 50, 3) := by decide +kernel
theorem dX1_accept_4 : decode cX1_accept 4 = .ok (.ifCond .ne 5, 3) := by decide +kernel
theorem dX1_accept_7 : decode cX1_accept 7 = .ok (.iconst 0, 1) := by decide +kernel
theorem dX1_accept_8 : decode cX1_accept 8 = .ok (.ireturn, 1) := by decide +kernel
theorem dX1_accept_9 : decode cX1_accept 9 = .ok (.aload_n 0, 1) := by decide +kernel
theorem dX1_accept_10 : decode cX1_accept 10 = .ok (.iconst 1, 1) := by decide +kernel
theorem dX1_accept_11 : decode cX1_accept 11 = .ok (.putfield 25, 3) := by decide +kernel
theorem dX1_accept_14 : decode cX1_accept 14 = .ok (.iconst 1, 1) := by decide +kernel
theorem dX1_accept_15 : decode cX1_accept 15 = .ok (.ireturn, 1) := by decide +kernel
theorem dX1_mayAnswer_0 : decode cX1_mayAnswer 0 = .ok (.aload_n 0, 1) := by decide +kernel
theorem dX1_mayAnswer_1 : decode cX1_mayAnswer 1 = .ok (.getfield 25, 3) := by decide +kernel
theorem dX1_mayAnswer_4 : decode cX1_mayAnswer 4 = .ok (.ifCond .ne 14, 3) := by decide +kernel
theorem dX1_mayAnswer_7 : decode cX1_mayAnswer 7 = .ok (.aload_n 0, 1) := by decide +kernel
theorem dX1_mayAnswer_8 : decode cX1_mayAnswer 8 = .ok (.invokevirtual 35, 3) := by decide +kernel
theorem dX1_mayAnswer_11 : decode cX1_mayAnswer 11 = .ok (.ifCond .eq 7, 3) := by decide +kernel
theorem dX1_mayAnswer_14 : decode cX1_mayAnswer 14 = .ok (.iconst 1, 1) := by decide +kernel
theorem dX1_mayAnswer_15 : decode cX1_mayAnswer 15 = .ok (.goto 4, 3) := by decide +kernel
theorem dX1_mayAnswer_18 : decode cX1_mayAnswer 18 = .ok (.iconst 0, 1) := by decide +kernel
theorem dX1_mayAnswer_19 : decode cX1_mayAnswer 19 = .ok (.ireturn, 1) := by decide +kernel
theorem dX1_isPlaced_0 : decode cX1_isPlaced 0 = .ok (.aload_n 0, 1) := by decide +kernel
theorem dX1_isPlaced_1 : decode cX1_isPlaced 1 = .ok (.getfield 18, 3) := by decide +kernel
theorem dX1_isPlaced_4 : decode cX1_isPlaced 4 = .ok (.iconst (-1), 1) := by decide +kernel
theorem dX1_isPlaced_5 : decode cX1_isPlaced 5 = .ok (.if_icmp .eq 7, 3) := by decide +kernel
theorem dX1_isPlaced_8 : decode cX1_isPlaced 8 = .ok (.iconst 1, 1) := by decide +kernel
theorem dX1_isPlaced_9 : decode cX1_isPlaced 9 = .ok (.goto 4, 3) := by decide +kernel
theorem dX1_isPlaced_12 : decode cX1_isPlaced 12 = .ok (.iconst 0, 1) := by decide +kernel
theorem dX1_isPlaced_13 : decode cX1_isPlaced 13 = .ok (.ireturn, 1) := by decide +kernel
theorem dX1_decline_0 : decode cX1_decline 0 = .ok (.aload_n 0, 1) := by decide +kernel
theorem dX1_decline_1 : decode cX1_decline 1 = .ok (.invokevirtual 50, 3) := by decide +kernel
theorem dX1_decline_4 : decode cX1_decline 4 = .ok (.ifCond .ne 5, 3) := by decide +kernel
theorem dX1_decline_7 : decode cX1_decline 7 = .ok (.iconst 0, 1) := by decide +kernel
theorem dX1_decline_8 : decode cX1_decline 8 = .ok (.ireturn, 1) := by decide +kernel
theorem dX1_decline_9 : decode cX1_decline 9 = .ok (.aload_n 0, 1) := by decide +kernel
theorem dX1_decline_10 : decode cX1_decline 10 = .ok (.iconst 2, 1) := by decide +kernel
theorem dX1_decline_11 : decode cX1_decline 11 = .ok (.putfield 25, 3) := by decide +kernel
theorem dX1_decline_14 : decode cX1_decline 14 = .ok (.aload_n 0, 1) := by decide +kernel
theorem dX1_decline_15 : decode cX1_decline 15 = .ok (.invokevirtual 53, 3) := by decide +kernel
theorem dX1_decline_18 : decode cX1_decline 18 = .ok (.aload_n 0, 1) := by decide +kernel
theorem dX1_decline_19 : decode cX1_decline 19 = .ok (.iconst 0, 1) := by decide +kernel
theorem dX1_decline_20 : decode cX1_decline 20 = .ok (.putfield 43, 3) := by decide +kernel
theorem dX1_decline_23 : decode cX1_decline 23 = .ok (.iconst 1, 1) := by decide +kernel
theorem dX1_decline_24 : decode cX1_decline 24 = .ok (.ireturn, 1) := by decide +kernel
theorem dX1_giveUpSeat_0 : decode cX1_giveUpSeat 0 = .ok (.aload_n 0, 1) := by decide +kernel
theorem dX1_giveUpSeat_1 : decode cX1_giveUpSeat 1 = .ok (.iconst (-1), 1) := by decide +kernel
theorem dX1_giveUpSeat_2 : decode cX1_giveUpSeat 2 = .ok (.iconst (-1), 1) := by decide +kernel
theorem dX1_giveUpSeat_3 : decode cX1_giveUpSeat 3 = .ok (.invokevirtual 46, 3) := by decide +kernel
theorem dX1_giveUpSeat_6 : decode cX1_giveUpSeat 6 = .ok (.return_, 1) := by decide +kernel
theorem dX1_sitAt_0 : decode cX1_sitAt 0 = .ok (.aload_n 0, 1) := by decide +kernel
theorem dX1_sitAt_1 : decode cX1_sitAt 1 = .ok (.iload_n 1, 1) := by decide +kernel
theorem dX1_sitAt_2 : decode cX1_sitAt 2 = .ok (.putfield 18, 3) := by decide +kernel
theorem dX1_sitAt_5 : decode cX1_sitAt 5 = .ok (.aload_n 0, 1) := by decide +kernel
theorem dX1_sitAt_6 : decode cX1_sitAt 6 = .ok (.iload_n 2, 1) := by decide +kernel
theorem dX1_sitAt_7 : decode cX1_sitAt 7 = .ok (.putfield 22, 3) := by decide +kernel
theorem dX1_sitAt_10 : decode cX1_sitAt 10 = .ok (.return_, 1) := by decide +kernel
theorem dX1_leave_0 : decode cX1_leave 0 = .ok (.aload_n 0, 1) := by decide +kernel
theorem dX1_leave_1 : decode cX1_leave 1 = .ok (.iconst 3, 1) := by decide +kernel
theorem dX1_leave_2 : decode cX1_leave 2 = .ok (.putfield 25, 3) := by decide +kernel
theorem dX1_leave_5 : decode cX1_leave 5 = .ok (.aload_n 0, 1) := by decide +kernel
theorem dX1_leave_6 : decode cX1_leave 6 = .ok (.invokevirtual 53, 3) := by decide +kernel
theorem dX1_leave_9 : decode cX1_leave 9 = .ok (.aload_n 0, 1) := by decide +kernel
theorem dX1_leave_10 : decode cX1_leave 10 = .ok (.iconst 0, 1) := by decide +kernel
theorem dX1_leave_11 : decode cX1_leave 11 = .ok (.putfield 43, 3) := by decide +kernel
theorem dX1_leave_14 : decode cX1_leave 14 = .ok (.return_, 1) := by decide +kernel
theorem dX3_stay_0 : decode cX3_stay 0 = .ok (.aload_n 0, 1) := by decide +kernel
theorem dX3_stay_1 : decode cX3_stay 1 = .ok (.iload_n 1, 1) := by decide +kernel
theorem dX3_stay_2 : decode cX3_stay 2 = .ok (.invokevirtual 78, 3) := by decide +kernel
theorem dX3_stay_5 : decode cX3_stay 5 = .ok (.ifCond .eq 31, 3) := by decide +kernel
theorem dX3_stay_8 : decode cX3_stay 8 = .ok (.iload_n 2, 1) := by decide +kernel
theorem dX3_stay_9 : decode cX3_stay 9 = .ok (.ifCond .lt 27, 3) := by decide +kernel
theorem dX3_stay_12 : decode cX3_stay 12 = .ok (.iload_n 2, 1) := by decide +kernel
theorem dX3_stay_13 : decode cX3_stay 13 = .ok (.iconst 4, 1) := by decide +kernel
theorem dX3_stay_14 : decode cX3_stay 14 = .ok (.if_icmp .gt 22, 3) := by decide +kernel
theorem dX3_stay_17 : decode cX3_stay 17 = .ok (.aload_n 0, 1) := by decide +kernel
theorem dX3_stay_18 : decode cX3_stay 18 = .ok (.getfield 32, 3) := by decide +kernel
theorem dX3_stay_21 : decode cX3_stay 21 = .ok (.ifCond .eq 15, 3) := by decide +kernel
theorem dX3_stay_24 : decode cX3_stay 24 = .ok (.aload_n 0, 1) := by decide +kernel
theorem dX3_stay_25 : decode cX3_stay 25 = .ok (.getfield 18, 3) := by decide +kernel
theorem dX3_stay_28 : decode cX3_stay 28 = .ok (.iload_n 1, 1) := by decide +kernel
theorem dX3_stay_29 : decode cX3_stay 29 = .ok (.aaload, 1) := by decide +kernel
theorem dX3_stay_30 : decode cX3_stay 30 = .ok (.invokevirtual 104, 3) := by decide +kernel
theorem dX3_stay_33 : decode cX3_stay 33 = .ok (.ifCond .eq 5, 3) := by decide +kernel
theorem dX3_stay_36 : decode cX3_stay 36 = .ok (.iconst 0, 1) := by decide +kernel
theorem dX3_stay_37 : decode cX3_stay 37 = .ok (.ireturn, 1) := by decide +kernel
theorem dX3_stay_38 : decode cX3_stay 38 = .ok (.aload_n 0, 1) := by decide +kernel
theorem dX3_stay_39 : decode cX3_stay 39 = .ok (.getfield 18, 3) := by decide +kernel
theorem dX3_stay_42 : decode cX3_stay 42 = .ok (.iload_n 1, 1) := by decide +kernel
theorem dX3_stay_43 : decode cX3_stay 43 = .ok (.aaload, 1) := by decide +kernel
theorem dX3_stay_44 : decode cX3_stay 44 = .ok (.iload_n 2, 1) := by decide +kernel
theorem dX3_stay_45 : decode cX3_stay 45 = .ok (.putfield 117, 3) := by decide +kernel
theorem dX3_stay_48 : decode cX3_stay 48 = .ok (.iconst 1, 1) := by decide +kernel
theorem dX3_stay_49 : decode cX3_stay 49 = .ok (.ireturn, 1) := by decide +kernel
theorem dX3_appeal_0 : decode cX3_appeal 0 = .ok (.aload_n 0, 1) := by decide +kernel
theorem dX3_appeal_1 : decode cX3_appeal 1 = .ok (.iload_n 1, 1) := by decide +kernel
theorem dX3_appeal_2 : decode cX3_appeal 2 = .ok (.invokevirtual 78, 3) := by decide +kernel
theorem dX3_appeal_5 : decode cX3_appeal 5 = .ok (.ifCond .eq 10, 3) := by decide +kernel
theorem dX3_appeal_8 : decode cX3_appeal 8 = .ok (.iload_n 2, 1) := by decide +kernel
theorem dX3_appeal_9 : decode cX3_appeal 9 = .ok (.invokestatic 66, 3) := by decide +kernel
theorem dX3_appeal_12 : decode cX3_appeal 12 = .ok (.ifCond .ne 5, 3) := by decide +kernel
theorem dX3_appeal_15 : decode cX3_appeal 15 = .ok (.iconst 0, 1) := by decide +kernel
theorem dX3_appeal_16 : decode cX3_appeal 16 = .ok (.ireturn, 1) := by decide +kernel
theorem dX3_appeal_17 : decode cX3_appeal 17 = .ok (.aload_n 0, 1) := by decide +kernel
theorem dX3_appeal_18 : decode cX3_appeal 18 = .ok (.getfield 18, 3) := by decide +kernel
theorem dX3_appeal_21 : decode cX3_appeal 21 = .ok (.iload_n 1, 1) := by decide +kernel
theorem dX3_appeal_22 : decode cX3_appeal 22 = .ok (.aaload, 1) := by decide +kernel
theorem dX3_appeal_23 : decode cX3_appeal 23 = .ok (.iload_n 2, 1) := by decide +kernel
theorem dX3_appeal_24 : decode cX3_appeal 24 = .ok (.putfield 72, 3) := by decide +kernel
theorem dX3_appeal_27 : decode cX3_appeal 27 = .ok (.iconst 1, 1) := by decide +kernel
theorem dX3_appeal_28 : decode cX3_appeal 28 = .ok (.ireturn, 1) := by decide +kernel
theorem dX3_areFlags_0 : decode cX3_areFlags 0 = .ok (.iload_n 0, 1) := by decide +kernel
theorem dX3_areFlags_1 : decode cX3_areFlags 1 = .ok (.ifCond .lt 13, 3) := by decide +kernel
theorem dX3_areFlags_4 : decode cX3_areFlags 4 = .ok (.iload_n 0, 1) := by decide +kernel
theorem dX3_areFlags_5 : decode cX3_areFlags 5 = .ok (.bipush 15, 2) := by decide +kernel
theorem dX3_areFlags_7 : decode cX3_areFlags 7 = .ok (.if_icmp .gt 7, 3) := by decide +kernel
theorem dX3_areFlags_10 : decode cX3_areFlags 10 = .ok (.iconst 1, 1) := by decide +kernel
theorem dX3_areFlags_11 : decode cX3_areFlags 11 = .ok (.goto 4, 3) := by decide +kernel
theorem dX3_areFlags_14 : decode cX3_areFlags 14 = .ok (.iconst 0, 1) := by decide +kernel
theorem dX3_areFlags_15 : decode cX3_areFlags 15 = .ok (.ireturn, 1) := by decide +kernel
theorem dX3_seat_0 : decode cX3_seat 0 = .ok (.aload_n 0, 1) := by decide +kernel
theorem dX3_seat_1 : decode cX3_seat 1 = .ok (.iload_n 1, 1) := by decide +kernel
theorem dX3_seat_2 : decode cX3_seat 2 = .ok (.invokevirtual 78, 3) := by decide +kernel
theorem dX3_seat_5 : decode cX3_seat 5 = .ok (.ifCond .ne 5, 3) := by decide +kernel
theorem dX3_seat_8 : decode cX3_seat 8 = .ok (.iconst (-1), 1) := by decide +kernel
theorem dX3_seat_9 : decode cX3_seat 9 = .ok (.ireturn, 1) := by decide +kernel
theorem dX3_seat_10 : decode cX3_seat 10 = .ok (.aload_n 0, 1) := by decide +kernel
theorem dX3_seat_11 : decode cX3_seat 11 = .ok (.getfield 18, 3) := by decide +kernel
theorem dX3_seat_14 : decode cX3_seat 14 = .ok (.iload_n 1, 1) := by decide +kernel
theorem dX3_seat_15 : decode cX3_seat 15 = .ok (.aaload, 1) := by decide +kernel
theorem dX3_seat_16 : decode cX3_seat 16 = .ok (.astore_n 3, 1) := by decide +kernel
theorem dX3_seat_17 : decode cX3_seat 17 = .ok (.iload_n 2, 1) := by decide +kernel
theorem dX3_seat_18 : decode cX3_seat 18 = .ok (.tableswitch 68 0 5 #[38, 43, 48, 53, 58, 63], 38) := by decide +kernel
theorem dX3_seat_56 : decode cX3_seat 56 = .ok (.aload_n 3, 1) := by decide +kernel
theorem dX3_seat_57 : decode cX3_seat 57 = .ok (.getfield 123, 3) := by decide +kernel
theorem dX3_seat_60 : decode cX3_seat 60 = .ok (.ireturn, 1) := by decide +kernel
theorem dX3_seat_61 : decode cX3_seat 61 = .ok (.aload_n 3, 1) := by decide +kernel
theorem dX3_seat_62 : decode cX3_seat 62 = .ok (.getfield 130, 3) := by decide +kernel
theorem dX3_seat_65 : decode cX3_seat 65 = .ok (.ireturn, 1) := by decide +kernel
theorem dX3_seat_66 : decode cX3_seat 66 = .ok (.aload_n 3, 1) := by decide +kernel
theorem dX3_seat_67 : decode cX3_seat 67 = .ok (.getfield 133, 3) := by decide +kernel
theorem dX3_seat_70 : decode cX3_seat 70 = .ok (.ireturn, 1) := by decide +kernel
theorem dX3_seat_71 : decode cX3_seat 71 = .ok (.aload_n 3, 1) := by decide +kernel
theorem dX3_seat_72 : decode cX3_seat 72 = .ok (.getfield 136, 3) := by decide +kernel
theorem dX3_seat_75 : decode cX3_seat 75 = .ok (.ireturn, 1) := by decide +kernel
theorem dX3_seat_76 : decode cX3_seat 76 = .ok (.aload_n 3, 1) := by decide +kernel
theorem dX3_seat_77 : decode cX3_seat 77 = .ok (.getfield 117, 3) := by decide +kernel
theorem dX3_seat_80 : decode cX3_seat 80 = .ok (.ireturn, 1) := by decide +kernel
theorem dX3_seat_81 : decode cX3_seat 81 = .ok (.aload_n 3, 1) := by decide +kernel
theorem dX3_seat_82 : decode cX3_seat 82 = .ok (.getfield 72, 3) := by decide +kernel
theorem dX3_seat_85 : decode cX3_seat 85 = .ok (.ireturn, 1) := by decide +kernel
theorem dX3_seat_86 : decode cX3_seat 86 = .ok (.iconst (-1), 1) := by decide +kernel
theorem dX3_seat_87 : decode cX3_seat 87 = .ok (.ireturn, 1) := by decide +kernel
theorem dX3_held_0 : decode cX3_held 0 = .ok (.aload_n 0, 1) := by decide +kernel
theorem dX3_held_1 : decode cX3_held 1 = .ok (.iload_n 1, 1) := by decide +kernel
theorem dX3_held_2 : decode cX3_held 2 = .ok (.invokevirtual 43, 3) := by decide +kernel
theorem dX3_held_5 : decode cX3_held 5 = .ok (.ifCond .eq 20, 3) := by decide +kernel
theorem dX3_held_8 : decode cX3_held 8 = .ok (.iload_n 2, 1) := by decide +kernel
theorem dX3_held_9 : decode cX3_held 9 = .ok (.ifCond .lt 16, 3) := by decide +kernel
theorem dX3_held_12 : decode cX3_held 12 = .ok (.iload_n 2, 1) := by decide +kernel
theorem dX3_held_13 : decode cX3_held 13 = .ok (.aload_n 0, 1) := by decide +kernel
theorem dX3_held_14 : decode cX3_held 14 = .ok (.getfield 11, 3) := by decide +kernel
theorem dX3_held_17 : decode cX3_held 17 = .ok (.iload_n 1, 1) := by decide +kernel
theorem dX3_held_18 : decode cX3_held 18 = .ok (.aaload, 1) := by decide +kernel
theorem dX3_held_19 : decode cX3_held 19 = .ok (.getfield 50, 3) := by decide +kernel
theorem dX3_held_22 : decode cX3_held 22 = .ok (.if_icmp .lt 5, 3) := by decide +kernel
theorem dX3_held_25 : decode cX3_held 25 = .ok (.iconst (-1), 1) := by decide +kernel
theorem dX3_held_26 : decode cX3_held 26 = .ok (.ireturn, 1) := by decide +kernel
theorem dX3_held_27 : decode cX3_held 27 = .ok (.iload_n 3, 1) := by decide +kernel
theorem dX3_held_28 : decode cX3_held 28 = .ok (.tableswitch 57 0 2 #[28, 43, 50], 28) := by decide +kernel
theorem dX3_held_56 : decode cX3_held 56 = .ok (.aload_n 0, 1) := by decide +kernel
theorem dX3_held_57 : decode cX3_held 57 = .ok (.getfield 11, 3) := by decide +kernel
theorem dX3_held_60 : decode cX3_held 60 = .ok (.iload_n 1, 1) := by decide +kernel
theorem dX3_held_61 : decode cX3_held 61 = .ok (.aaload, 1) := by decide +kernel
theorem dX3_held_62 : decode cX3_held 62 = .ok (.getfield 53, 3) := by decide +kernel
theorem dX3_held_65 : decode cX3_held 65 = .ok (.iload_n 2, 1) := by decide +kernel
theorem dX3_held_66 : decode cX3_held 66 = .ok (.aaload, 1) := by decide +kernel
theorem dX3_held_67 : decode cX3_held 67 = .ok (.getfield 57, 3) := by decide +kernel
theorem dX3_held_70 : decode cX3_held 70 = .ok (.ireturn, 1) := by decide +kernel
theorem dX3_held_71 : decode cX3_held 71 = .ok (.aload_n 0, 1) := by decide +kernel
theorem dX3_held_72 : decode cX3_held 72 = .ok (.iload_n 1, 1) := by decide +kernel
theorem dX3_held_73 : decode cX3_held 73 = .ok (.iload_n 2, 1) := by decide +kernel
theorem dX3_held_74 : decode cX3_held 74 = .ok (.invokevirtual 139, 3) := by decide +kernel
theorem dX3_held_77 : decode cX3_held 77 = .ok (.ireturn, 1) := by decide +kernel
theorem dX3_held_78 : decode cX3_held 78 = .ok (.aload_n 0, 1) := by decide +kernel
theorem dX3_held_79 : decode cX3_held 79 = .ok (.iload_n 1, 1) := by decide +kernel
theorem dX3_held_80 : decode cX3_held 80 = .ok (.iload_n 2, 1) := by decide +kernel
theorem dX3_held_81 : decode cX3_held 81 = .ok (.invokevirtual 143, 3) := by decide +kernel
theorem dX3_held_84 : decode cX3_held 84 = .ok (.ireturn, 1) := by decide +kernel
theorem dX3_held_85 : decode cX3_held 85 = .ok (.iconst (-1), 1) := by decide +kernel
theorem dX3_held_86 : decode cX3_held 86 = .ok (.ireturn, 1) := by decide +kernel
theorem dX3_countHolders_0 : decode cX3_countHolders 0 = .ok (.iconst 0, 1) := by decide +kernel
theorem dX3_countHolders_1 : decode cX3_countHolders 1 = .ok (.istore_n 3, 1) := by decide +kernel
theorem dX3_countHolders_2 : decode cX3_countHolders 2 = .ok (.iconst 0, 1) := by decide +kernel
theorem dX3_countHolders_3 : decode cX3_countHolders 3 = .ok (.istore 4, 2) := by decide +kernel
theorem dX3_countHolders_5 : decode cX3_countHolders 5 = .ok (.iload 4, 2) := by decide +kernel
theorem dX3_countHolders_7 : decode cX3_countHolders 7 = .ok (.aload_n 0, 1) := by decide +kernel
theorem dX3_countHolders_8 : decode cX3_countHolders 8 = .ok (.getfield 69, 3) := by decide +kernel
theorem dX3_countHolders_11 : decode cX3_countHolders 11 = .ok (.if_icmp .ge 27, 3) := by decide +kernel
theorem dX3_countHolders_14 : decode cX3_countHolders 14 = .ok (.aload_n 0, 1) := by decide +kernel
theorem dX3_countHolders_15 : decode cX3_countHolders 15 = .ok (.getfield 18, 3) := by decide +kernel
theorem dX3_countHolders_18 : decode cX3_countHolders 18 = .ok (.iload 4, 2) := by decide +kernel
theorem dX3_countHolders_20 : decode cX3_countHolders 20 = .ok (.aaload, 1) := by decide +kernel
theorem dX3_countHolders_21 : decode cX3_countHolders 21 = .ok (.iload_n 1, 1) := by decide +kernel
theorem dX3_countHolders_22 : decode cX3_countHolders 22 = .ok (.iload_n 2, 1) := by decide +kernel
theorem dX3_countHolders_23 : decode cX3_countHolders 23 = .ok (.invokevirtual 167, 3) := by decide +kernel
theorem dX3_countHolders_26 : decode cX3_countHolders 26 = .ok (.ifCond .eq 6, 3) := by decide +kernel
theorem dX3_countHolders_29 : decode cX3_countHolders 29 = .ok (.iinc 3 1, 3) := by decide +kernel
theorem dX3_countHolders_32 : decode cX3_countHolders 32 = .ok (.iinc 4 1, 3) := by decide +kernel
theorem dX3_countHolders_35 : decode cX3_countHolders 35 = .ok (.goto (-30), 3) := by decide +kernel
theorem dX3_countHolders_38 : decode cX3_countHolders 38 = .ok (.iload_n 3, 1) := by decide +kernel
theorem dX3_countHolders_39 : decode cX3_countHolders 39 = .ok (.ireturn, 1) := by decide +kernel
theorem dX1_holds_0 : decode cX1_holds 0 = .ok (.aload_n 0, 1) := by decide +kernel
theorem dX1_holds_1 : decode cX1_holds 1 = .ok (.getfield 18, 3) := by decide +kernel
theorem dX1_holds_4 : decode cX1_holds 4 = .ok (.iload_n 1, 1) := by decide +kernel
theorem dX1_holds_5 : decode cX1_holds 5 = .ok (.if_icmp .ne 15, 3) := by decide +kernel
theorem dX1_holds_8 : decode cX1_holds 8 = .ok (.aload_n 0, 1) := by decide +kernel
theorem dX1_holds_9 : decode cX1_holds 9 = .ok (.getfield 22, 3) := by decide +kernel
theorem dX1_holds_12 : decode cX1_holds 12 = .ok (.iload_n 2, 1) := by decide +kernel
theorem dX1_holds_13 : decode cX1_holds 13 = .ok (.if_icmp .ne 7, 3) := by decide +kernel
theorem dX1_holds_16 : decode cX1_holds 16 = .ok (.iconst 1, 1) := by decide +kernel
theorem dX1_holds_17 : decode cX1_holds 17 = .ok (.goto 4, 3) := by decide +kernel
theorem dX1_holds_20 : decode cX1_holds 20 = .ok (.iconst 0, 1) := by decide +kernel
theorem dX1_holds_21 : decode cX1_holds 21 = .ok (.ireturn, 1) := by decide +kernel
theorem dX3_lastHolder_0 : decode cX3_lastHolder 0 = .ok (.iconst (-1), 1) := by decide +kernel
theorem dX3_lastHolder_1 : decode cX3_lastHolder 1 = .ok (.istore_n 3, 1) := by decide +kernel
theorem dX3_lastHolder_2 : decode cX3_lastHolder 2 = .ok (.iconst (-1), 1) := by decide +kernel
theorem dX3_lastHolder_3 : decode cX3_lastHolder 3 = .ok (.istore 4, 2) := by decide +kernel
theorem dX3_lastHolder_5 : decode cX3_lastHolder 5 = .ok (.iconst 0, 1) := by decide +kernel
theorem dX3_lastHolder_6 : decode cX3_lastHolder 6 = .ok (.istore 5, 2) := by decide +kernel
theorem dX3_lastHolder_8 : decode cX3_lastHolder 8 = .ok (.iload 5, 2) := by decide +kernel
theorem dX3_lastHolder_10 : decode cX3_lastHolder 10 = .ok (.aload_n 0, 1) := by decide +kernel
theorem dX3_lastHolder_11 : decode cX3_lastHolder 11 = .ok (.getfield 69, 3) := by decide +kernel
theorem dX3_lastHolder_14 : decode cX3_lastHolder 14 = .ok (.if_icmp .ge 48, 3) := by decide +kernel
theorem dX3_lastHolder_17 : decode cX3_lastHolder 17 = .ok (.aload_n 0, 1) := by decide +kernel
theorem dX3_lastHolder_18 : decode cX3_lastHolder 18 = .ok (.getfield 18, 3) := by decide +kernel
theorem dX3_lastHolder_21 : decode cX3_lastHolder 21 = .ok (.iload 5, 2) := by decide +kernel
theorem dX3_lastHolder_23 : decode cX3_lastHolder 23 = .ok (.aaload, 1) := by decide +kernel
theorem dX3_lastHolder_24 : decode cX3_lastHolder 24 = .ok (.iload_n 1, 1) := by decide +kernel
theorem dX3_lastHolder_25 : decode cX3_lastHolder 25 = .ok (.iload_n 2, 1) := by decide +kernel
theorem dX3_lastHolder_26 : decode cX3_lastHolder 26 = .ok (.invokevirtual 167, 3) := by decide +kernel
theorem dX3_lastHolder_29 : decode cX3_lastHolder 29 = .ok (.ifCond .eq 27, 3) := by decide +kernel
theorem dX3_lastHolder_32 : decode cX3_lastHolder 32 = .ok (.aload_n 0, 1) := by decide +kernel
theorem dX3_lastHolder_33 : decode cX3_lastHolder 33 = .ok (.iload 5, 2) := by decide +kernel
theorem dX3_lastHolder_35 : decode cX3_lastHolder 35 = .ok (.iload_n 1, 1) := by decide +kernel
theorem dX3_lastHolder_36 : decode cX3_lastHolder 36 = .ok (.iload_n 2, 1) := by decide +kernel
theorem dX3_lastHolder_37 : decode cX3_lastHolder 37 = .ok (.invokevirtual 153, 3) := by decide +kernel
theorem dX3_lastHolder_40 : decode cX3_lastHolder 40 = .ok (.istore 6, 2) := by decide +kernel
theorem dX3_lastHolder_42 : decode cX3_lastHolder 42 = .ok (.iload 6, 2) := by decide +kernel
theorem dX3_lastHolder_44 : decode cX3_lastHolder 44 = .ok (.iload 4, 2) := by decide +kernel
theorem dX3_lastHolder_46 : decode cX3_lastHolder 46 = .ok (.if_icmp .le 10, 3) := by decide +kernel
theorem dX3_lastHolder_49 : decode cX3_lastHolder 49 = .ok (.iload 5, 2) := by decide +kernel
theorem dX3_lastHolder_51 : decode cX3_lastHolder 51 = .ok (.istore_n 3, 1) := by decide +kernel
theorem dX3_lastHolder_52 : decode cX3_lastHolder 52 = .ok (.iload 6, 2) := by decide +kernel
theorem dX3_lastHolder_54 : decode cX3_lastHolder 54 = .ok (.istore 4, 2) := by decide +kernel
theorem dX3_lastHolder_56 : decode cX3_lastHolder 56 = .ok (.iinc 5 1, 3) := by decide +kernel
theorem dX3_lastHolder_59 : decode cX3_lastHolder 59 = .ok (.goto (-51), 3) := by decide +kernel
theorem dX3_lastHolder_62 : decode cX3_lastHolder 62 = .ok (.iload_n 3, 1) := by decide +kernel
theorem dX3_lastHolder_63 : decode cX3_lastHolder 63 = .ok (.ireturn, 1) := by decide +kernel
theorem dX3_standing_0 : decode cX3_standing 0 = .ok (.aload_n 0, 1) := by decide +kernel
theorem dX3_standing_1 : decode cX3_standing 1 = .ok (.getfield 18, 3) := by decide +kernel
theorem dX3_standing_4 : decode cX3_standing 4 = .ok (.iload_n 1, 1) := by decide +kernel
theorem dX3_standing_5 : decode cX3_standing 5 = .ok (.aaload, 1) := by decide +kernel
theorem dX3_standing_6 : decode cX3_standing 6 = .ok (.astore 4, 2) := by decide +kernel
theorem dX3_standing_8 : decode cX3_standing 8 = .ok (.aload_n 0, 1) := by decide +kernel
theorem dX3_standing_9 : decode cX3_standing 9 = .ok (.getfield 11, 3) := by decide +kernel
theorem dX3_standing_12 : decode cX3_standing 12 = .ok (.iload_n 2, 1) := by decide +kernel
theorem dX3_standing_13 : decode cX3_standing 13 = .ok (.aaload, 1) := by decide +kernel
theorem dX3_standing_14 : decode cX3_standing 14 = .ok (.getfield 53, 3) := by decide +kernel
theorem dX3_standing_17 : decode cX3_standing 17 = .ok (.iload_n 3, 1) := by decide +kernel
theorem dX3_standing_18 : decode cX3_standing 18 = .ok (.aaload, 1) := by decide +kernel
theorem dX3_standing_19 : decode cX3_standing 19 = .ok (.aload 4, 2) := by decide +kernel
theorem dX3_standing_21 : decode cX3_standing 21 = .ok (.getfield 72, 3) := by decide +kernel
theorem dX3_standing_24 : decode cX3_standing 24 = .ok (.invokevirtual 170, 3) := by decide +kernel
theorem dX3_standing_27 : decode cX3_standing 27 = .ok (.istore 5, 2) := by decide +kernel
theorem dX3_standing_29 : decode cX3_standing 29 = .ok (.iload 5, 2) := by decide +kernel
theorem dX3_standing_31 : decode cX3_standing 31 = .ok (.iconst (-1), 1) := by decide +kernel
theorem dX3_standing_32 : decode cX3_standing 32 = .ok (.if_icmp .ne 8, 3) := by decide +kernel
theorem dX3_standing_35 : decode cX3_standing 35 = .ok (.ldc 157, 2) := by decide +kernel
theorem dX3_standing_37 : decode cX3_standing 37 = .ok (.iload_n 1, 1) := by decide +kernel
theorem dX3_standing_38 : decode cX3_standing 38 = .ok (.iadd, 1) := by decide +kernel
theorem dX3_standing_39 : decode cX3_standing 39 = .ok (.ireturn, 1) := by decide +kernel
theorem dX3_standing_40 : decode cX3_standing 40 = .ok (.aload 4, 2) := by decide +kernel
theorem dX3_standing_42 : decode cX3_standing 42 = .ok (.getfield 75, 3) := by decide +kernel
theorem dX3_standing_45 : decode cX3_standing 45 = .ok (.ifCond .eq 10, 3) := by decide +kernel
theorem dX3_standing_48 : decode cX3_standing 48 = .ok (.iconst 3, 1) := by decide +kernel
theorem dX3_standing_49 : decode cX3_standing 49 = .ok (.iload 5, 2) := by decide +kernel
theorem dX3_standing_51 : decode cX3_standing 51 = .ok (.iadd, 1) := by decide +kernel
theorem dX3_standing_52 : decode cX3_standing 52 = .ok (.goto 5, 3) := by decide +kernel
theorem dX3_standing_55 : decode cX3_standing 55 = .ok (.iload 5, 2) := by decide +kernel
theorem dX3_standing_57 : decode cX3_standing 57 = .ok (.istore 6, 2) := by decide +kernel
theorem dX3_standing_59 : decode cX3_standing 59 = .ok (.iload 6, 2) := by decide +kernel
theorem dX3_standing_61 : decode cX3_standing 61 = .ok (.sipush 2000, 3) := by decide +kernel
theorem dX3_standing_64 : decode cX3_standing 64 = .ok (.imul, 1) := by decide +kernel
theorem dX3_standing_65 : decode cX3_standing 65 = .ok (.aload 4, 2) := by decide +kernel
theorem dX3_standing_67 : decode cX3_standing 67 = .ok (.getfield 91, 3) := by decide +kernel
theorem dX3_standing_70 : decode cX3_standing 70 = .ok (.iload_n 2, 1) := by decide +kernel
theorem dX3_standing_71 : decode cX3_standing 71 = .ok (.iaload, 1) := by decide +kernel
theorem dX3_standing_72 : decode cX3_standing 72 = .ok (.iadd, 1) := by decide +kernel
theorem dX3_standing_73 : decode cX3_standing 73 = .ok (.ireturn, 1) := by decide +kernel
theorem dX0_bandOf_0 : decode cX0_bandOf 0 = .ok (.iconst 0, 1) := by decide +kernel
theorem dX0_bandOf_1 : decode cX0_bandOf 1 = .ok (.istore_n 2, 1) := by decide +kernel
theorem dX0_bandOf_2 : decode cX0_bandOf 2 = .ok (.iload_n 2, 1) := by decide +kernel
theorem dX0_bandOf_3 : decode cX0_bandOf 3 = .ok (.aload_n 0, 1) := by decide +kernel
theorem dX0_bandOf_4 : decode cX0_bandOf 4 = .ok (.getfield 15, 3) := by decide +kernel
theorem dX0_bandOf_7 : decode cX0_bandOf 7 = .ok (.if_icmp .ge 28, 3) := by decide +kernel
theorem dX0_bandOf_10 : decode cX0_bandOf 10 = .ok (.iload_n 1, 1) := by decide +kernel
theorem dX0_bandOf_11 : decode cX0_bandOf 11 = .ok (.aload_n 0, 1) := by decide +kernel
theorem dX0_bandOf_12 : decode cX0_bandOf 12 = .ok (.getfield 9, 3) := by decide +kernel
theorem dX0_bandOf_15 : decode cX0_bandOf 15 = .ok (.iload_n 2, 1) := by decide +kernel
theorem dX0_bandOf_16 : decode cX0_bandOf 16 = .ok (.iaload, 1) := by decide +kernel
theorem dX0_bandOf_17 : decode cX0_bandOf 17 = .ok (.iand, 1) := by decide +kernel
theorem dX0_bandOf_18 : decode cX0_bandOf 18 = .ok (.aload_n 0, 1) := by decide +kernel
theorem dX0_bandOf_19 : decode cX0_bandOf 19 = .ok (.getfield 9, 3) := by decide +kernel
theorem dX0_bandOf_22 : decode cX0_bandOf 22 = .ok (.iload_n 2, 1) := by decide +kernel
theorem dX0_bandOf_23 : decode cX0_bandOf 23 = .ok (.iaload, 1) := by decide +kernel
theorem dX0_bandOf_24 : decode cX0_bandOf 24 = .ok (.if_icmp .ne 5, 3) := by decide +kernel
theorem dX0_bandOf_27 : decode cX0_bandOf 27 = .ok (.iload_n 2, 1) := by decide +kernel
theorem dX0_bandOf_28 : decode cX0_bandOf 28 = .ok (.ireturn, 1) := by decide +kernel
theorem dX0_bandOf_29 : decode cX0_bandOf 29 = .ok (.iinc 2 1, 3) := by decide +kernel
theorem dX0_bandOf_32 : decode cX0_bandOf 32 = .ok (.goto (-30), 3) := by decide +kernel
theorem dX0_bandOf_35 : decode cX0_bandOf 35 = .ok (.iconst (-1), 1) := by decide +kernel
theorem dX0_bandOf_36 : decode cX0_bandOf 36 = .ok (.ireturn, 1) := by decide +kernel
theorem dX3_blocking_0 : decode cX3_blocking 0 = .ok (.aload_n 0, 1) := by decide +kernel
theorem dX3_blocking_1 : decode cX3_blocking 1 = .ok (.getfield 32, 3) := by decide +kernel
theorem dX3_blocking_4 : decode cX3_blocking 4 = .ok (.ifCond .ne 5, 3) := by decide +kernel
theorem dX3_blocking_7 : decode cX3_blocking 7 = .ok (.iconst (-1), 1) := by decide +kernel
theorem dX3_blocking_8 : decode cX3_blocking 8 = .ok (.ireturn, 1) := by decide +kernel
theorem dX3_blocking_9 : decode cX3_blocking 9 = .ok (.iconst 0, 1) := by decide +kernel
theorem dX3_blocking_10 : decode cX3_blocking 10 = .ok (.istore_n 2, 1) := by decide +kernel
theorem dX3_blocking_11 : decode cX3_blocking 11 = .ok (.iconst 0, 1) := by decide +kernel
theorem dX3_blocking_12 : decode cX3_blocking 12 = .ok (.istore_n 3, 1) := by decide +kernel
theorem dX3_blocking_13 : decode cX3_blocking 13 = .ok (.iload_n 3, 1) := by decide +kernel
theorem dX3_blocking_14 : decode cX3_blocking 14 = .ok (.aload_n 0, 1) := by decide +kernel
theorem dX3_blocking_15 : decode cX3_blocking 15 = .ok (.getfield 69, 3) := by decide +kernel
theorem dX3_blocking_18 : decode cX3_blocking 18 = .ok (.if_icmp .ge 72, 3) := by decide +kernel
theorem dX3_blocking_21 : decode cX3_blocking 21 = .ok (.aload_n 0, 1) := by decide +kernel
theorem dX3_blocking_22 : decode cX3_blocking 22 = .ok (.getfield 18, 3) := by decide +kernel
theorem dX3_blocking_25 : decode cX3_blocking 25 = .ok (.iload_n 3, 1) := by decide +kernel
theorem dX3_blocking_26 : decode cX3_blocking 26 = .ok (.aaload, 1) := by decide +kernel
theorem dX3_blocking_27 : decode cX3_blocking 27 = .ok (.astore 4, 2) := by decide +kernel
theorem dX3_blocking_29 : decode cX3_blocking 29 = .ok (.iconst 0, 1) := by decide +kernel
theorem dX3_blocking_30 : decode cX3_blocking 30 = .ok (.istore 5, 2) := by decide +kernel
theorem dX3_blocking_32 : decode cX3_blocking 32 = .ok (.iload 5, 2) := by decide +kernel
theorem dX3_blocking_34 : decode cX3_blocking 34 = .ok (.aload 4, 2) := by decide +kernel
theorem dX3_blocking_36 : decode cX3_blocking 36 = .ok (.getfield 85, 3) := by decide +kernel
theorem dX3_blocking_39 : decode cX3_blocking 39 = .ok (.if_icmp .ge 45, 3) := by decide +kernel
theorem dX3_blocking_42 : decode cX3_blocking 42 = .ok (.aload 4, 2) := by decide +kernel
theorem dX3_blocking_44 : decode cX3_blocking 44 = .ok (.getfield 88, 3) := by decide +kernel
theorem dX3_blocking_47 : decode cX3_blocking 47 = .ok (.iload 5, 2) := by decide +kernel
theorem dX3_blocking_49 : decode cX3_blocking 49 = .ok (.iaload, 1) := by decide +kernel
theorem dX3_blocking_50 : decode cX3_blocking 50 = .ok (.istore 6, 2) := by decide +kernel
theorem dX3_blocking_52 : decode cX3_blocking 52 = .ok (.aload_n 0, 1) := by decide +kernel
theorem dX3_blocking_53 : decode cX3_blocking 53 = .ok (.iload_n 3, 1) := by decide +kernel
theorem dX3_blocking_54 : decode cX3_blocking 54 = .ok (.iload 6, 2) := by decide +kernel
theorem dX3_blocking_56 : decode cX3_blocking 56 = .ok (.invokevirtual 146, 3) := by decide +kernel
theorem dX3_blocking_59 : decode cX3_blocking 59 = .ok (.ifCond .eq 19, 3) := by decide +kernel
theorem dX3_blocking_62 : decode cX3_blocking 62 = .ok (.iload_n 2, 1) := by decide +kernel
theorem dX3_blocking_63 : decode cX3_blocking 63 = .ok (.iload_n 1, 1) := by decide +kernel
theorem dX3_blocking_64 : decode cX3_blocking 64 = .ok (.if_icmp .ne 11, 3) := by decide +kernel
theorem dX3_blocking_67 : decode cX3_blocking 67 = .ok (.bipush 8, 2) := by decide +kernel
theorem dX3_blocking_69 : decode cX3_blocking 69 = .ok (.iload_n 3, 1) := by decide +kernel
theorem dX3_blocking_70 : decode cX3_blocking 70 = .ok (.imul, 1) := by decide +kernel
theorem dX3_blocking_71 : decode cX3_blocking 71 = .ok (.iload 6, 2) := by decide +kernel
theorem dX3_blocking_73 : decode cX3_blocking 73 = .ok (.iadd, 1) := by decide +kernel
theorem dX3_blocking_74 : decode cX3_blocking 74 = .ok (.ireturn, 1) := by decide +kernel
theorem dX3_blocking_75 : decode cX3_blocking 75 = .ok (.iinc 2 1, 3) := by decide +kernel
theorem dX3_blocking_78 : decode cX3_blocking 78 = .ok (.iinc 5 1, 3) := by decide +kernel
theorem dX3_blocking_81 : decode cX3_blocking 81 = .ok (.goto (-49), 3) := by decide +kernel
theorem dX3_blocking_84 : decode cX3_blocking 84 = .ok (.iinc 3 1, 3) := by decide +kernel
theorem dX3_blocking_87 : decode cX3_blocking 87 = .ok (.goto (-74), 3) := by decide +kernel
theorem dX3_blocking_90 : decode cX3_blocking 90 = .ok (.iload_n 1, 1) := by decide +kernel
theorem dX3_blocking_91 : decode cX3_blocking 91 = .ok (.iconst (-1), 1) := by decide +kernel
theorem dX3_blocking_92 : decode cX3_blocking 92 = .ok (.if_icmp .ne 7, 3) := by decide +kernel
theorem dX3_blocking_95 : decode cX3_blocking 95 = .ok (.iload_n 2, 1) := by decide +kernel
theorem dX3_blocking_96 : decode cX3_blocking 96 = .ok (.goto 4, 3) := by decide +kernel
theorem dX3_blocking_99 : decode cX3_blocking 99 = .ok (.iconst (-1), 1) := by decide +kernel
theorem dX3_blocking_100 : decode cX3_blocking 100 = .ok (.ireturn, 1) := by decide +kernel
theorem dX3_blocks_0 : decode cX3_blocks 0 = .ok (.aload_n 0, 1) := by decide +kernel
theorem dX3_blocks_1 : decode cX3_blocks 1 = .ok (.getfield 18, 3) := by decide +kernel
theorem dX3_blocks_4 : decode cX3_blocks 4 = .ok (.iload_n 1, 1) := by decide +kernel
theorem dX3_blocks_5 : decode cX3_blocks 5 = .ok (.aaload, 1) := by decide +kernel
theorem dX3_blocks_6 : decode cX3_blocks 6 = .ok (.astore_n 3, 1) := by decide +kernel
theorem dX3_blocks_7 : decode cX3_blocks 7 = .ok (.aload_n 3, 1) := by decide +kernel
theorem dX3_blocks_8 : decode cX3_blocks 8 = .ok (.invokevirtual 104, 3) := by decide +kernel
theorem dX3_blocks_11 : decode cX3_blocks 11 = .ok (.ifCond .ne 11, 3) := by decide +kernel
theorem dX3_blocks_14 : decode cX3_blocks 14 = .ok (.aload_n 3, 1) := by decide +kernel
theorem dX3_blocks_15 : decode cX3_blocks 15 = .ok (.iload_n 2, 1) := by decide +kernel
theorem dX3_blocks_16 : decode cX3_blocks 16 = .ok (.invokevirtual 150, 3) := by decide +kernel
theorem dX3_blocks_19 : decode cX3_blocks 19 = .ok (.ifCond .ne 5, 3) := by decide +kernel
theorem dX3_blocks_22 : decode cX3_blocks 22 = .ok (.iconst 0, 1) := by decide +kernel
theorem dX3_blocks_23 : decode cX3_blocks 23 = .ok (.ireturn, 1) := by decide +kernel
theorem dX3_blocks_24 : decode cX3_blocks 24 = .ok (.aload_n 0, 1) := by decide +kernel
theorem dX3_blocks_25 : decode cX3_blocks 25 = .ok (.iload_n 2, 1) := by decide +kernel
theorem dX3_blocks_26 : decode cX3_blocks 26 = .ok (.iload_n 1, 1) := by decide +kernel
theorem dX3_blocks_27 : decode cX3_blocks 27 = .ok (.invokevirtual 173, 3) := by decide +kernel
theorem dX3_blocks_30 : decode cX3_blocks 30 = .ok (.aload_n 0, 1) := by decide +kernel
theorem dX3_blocks_31 : decode cX3_blocks 31 = .ok (.getfield 29, 3) := by decide +kernel
theorem dX3_blocks_34 : decode cX3_blocks 34 = .ok (.iload_n 1, 1) := by decide +kernel
theorem dX3_blocks_35 : decode cX3_blocks 35 = .ok (.iaload, 1) := by decide +kernel
theorem dX3_blocks_36 : decode cX3_blocks 36 = .ok (.iconst (-1), 1) := by decide +kernel
theorem dX3_blocks_37 : decode cX3_blocks 37 = .ok (.if_icmp .eq 7, 3) := by decide +kernel
theorem dX3_blocks_40 : decode cX3_blocks 40 = .ok (.iconst 1, 1) := by decide +kernel
theorem dX3_blocks_41 : decode cX3_blocks 41 = .ok (.goto 4, 3) := by decide +kernel
theorem dX3_blocks_44 : decode cX3_blocks 44 = .ok (.iconst 0, 1) := by decide +kernel
theorem dX3_blocks_45 : decode cX3_blocks 45 = .ok (.ireturn, 1) := by decide +kernel
theorem dX1_prefers_0 : decode cX1_prefers 0 = .ok (.aload_n 0, 1) := by decide +kernel
theorem dX1_prefers_1 : decode cX1_prefers 1 = .ok (.iload_n 1, 1) := by decide +kernel
theorem dX1_prefers_2 : decode cX1_prefers 2 = .ok (.invokevirtual 31, 3) := by decide +kernel
theorem dX1_prefers_5 : decode cX1_prefers 5 = .ok (.istore_n 2, 1) := by decide +kernel
theorem dX1_prefers_6 : decode cX1_prefers 6 = .ok (.iload_n 2, 1) := by decide +kernel
theorem dX1_prefers_7 : decode cX1_prefers 7 = .ok (.iconst (-1), 1) := by decide +kernel
theorem dX1_prefers_8 : decode cX1_prefers 8 = .ok (.if_icmp .eq 26, 3) := by decide +kernel
theorem dX1_prefers_11 : decode cX1_prefers 11 = .ok (.aload_n 0, 1) := by decide +kernel
theorem dX1_prefers_12 : decode cX1_prefers 12 = .ok (.invokevirtual 35, 3) := by decide +kernel
theorem dX1_prefers_15 : decode cX1_prefers 15 = .ok (.ifCond .eq 15, 3) := by decide +kernel
theorem dX1_prefers_18 : decode cX1_prefers 18 = .ok (.iload_n 2, 1) := by decide +kernel
theorem dX1_prefers_19 : decode cX1_prefers 19 = .ok (.aload_n 0, 1) := by decide +kernel
theorem dX1_prefers_20 : decode cX1_prefers 20 = .ok (.aload_n 0, 1) := by decide +kernel
theorem dX1_prefers_21 : decode cX1_prefers 21 = .ok (.getfield 18, 3) := by decide +kernel
theorem dX1_prefers_24 : decode cX1_prefers 24 = .ok (.invokevirtual 31, 3) := by decide +kernel
theorem dX1_prefers_27 : decode cX1_prefers 27 = .ok (.if_icmp .ge 7, 3) := by decide +kernel
theorem dX1_prefers_30 : decode cX1_prefers 30 = .ok (.iconst 1, 1) := by decide +kernel
theorem dX1_prefers_31 : decode cX1_prefers 31 = .ok (.goto 4, 3) := by decide +kernel
theorem dX1_prefers_34 : decode cX1_prefers 34 = .ok (.iconst 0, 1) := by decide +kernel
theorem dX1_prefers_35 : decode cX1_prefers 35 = .ok (.ireturn, 1) := by decide +kernel
theorem dX1_placeOf_0 : decode cX1_placeOf 0 = .ok (.iconst 0, 1) := by decide +kernel
theorem dX1_placeOf_1 : decode cX1_placeOf 1 = .ok (.istore_n 2, 1) := by decide +kernel
theorem dX1_placeOf_2 : decode cX1_placeOf 2 = .ok (.iload_n 2, 1) := by decide +kernel
theorem dX1_placeOf_3 : decode cX1_placeOf 3 = .ok (.aload_n 0, 1) := by decide +kernel
theorem dX1_placeOf_4 : decode cX1_placeOf 4 = .ok (.getfield 28, 3) := by decide +kernel
theorem dX1_placeOf_7 : decode cX1_placeOf 7 = .ok (.if_icmp .ge 21, 3) := by decide +kernel
theorem dX1_placeOf_10 : decode cX1_placeOf 10 = .ok (.aload_n 0, 1) := by decide +kernel
theorem dX1_placeOf_11 : decode cX1_placeOf 11 = .ok (.getfield 9, 3) := by decide +kernel
theorem dX1_placeOf_14 : decode cX1_placeOf 14 = .ok (.iload_n 2, 1) := by decide +kernel
theorem dX1_placeOf_15 : decode cX1_placeOf 15 = .ok (.iaload, 1) := by decide +kernel
theorem dX1_placeOf_16 : decode cX1_placeOf 16 = .ok (.iload_n 1, 1) := by decide +kernel
theorem dX1_placeOf_17 : decode cX1_placeOf 17 = .ok (.if_icmp .ne 5, 3) := by decide +kernel
theorem dX1_placeOf_20 : decode cX1_placeOf 20 = .ok (.iload_n 2, 1) := by decide +kernel
theorem dX1_placeOf_21 : decode cX1_placeOf 21 = .ok (.ireturn, 1) := by decide +kernel
theorem dX1_placeOf_22 : decode cX1_placeOf 22 = .ok (.iinc 2 1, 3) := by decide +kernel
theorem dX1_placeOf_25 : decode cX1_placeOf 25 = .ok (.goto (-23), 3) := by decide +kernel
theorem dX1_placeOf_28 : decode cX1_placeOf 28 = .ok (.iconst (-1), 1) := by decide +kernel
theorem dX1_placeOf_29 : decode cX1_placeOf 29 = .ok (.ireturn, 1) := by decide +kernel
theorem dX3_choose_0 : decode cX3_choose 0 = .ok (.aload_n 0, 1) := by decide +kernel
theorem dX3_choose_1 : decode cX3_choose 1 = .ok (.iconst 0, 1) := by decide +kernel
theorem dX3_choose_2 : decode cX3_choose 2 = .ok (.putfield 176, 3) := by decide +kernel
theorem dX3_choose_5 : decode cX3_choose 5 = .ok (.iconst 0, 1) := by decide +kernel
theorem dX3_choose_6 : decode cX3_choose 6 = .ok (.istore_n 3, 1) := by decide +kernel
theorem dX3_choose_7 : decode cX3_choose 7 = .ok (.iload_n 3, 1) := by decide +kernel
theorem dX3_choose_8 : decode cX3_choose 8 = .ok (.aload_n 0, 1) := by decide +kernel
theorem dX3_choose_9 : decode cX3_choose 9 = .ok (.getfield 69, 3) := by decide +kernel
theorem dX3_choose_12 : decode cX3_choose 12 = .ok (.if_icmp .ge 54, 3) := by decide +kernel
theorem dX3_choose_15 : decode cX3_choose 15 = .ok (.aload_n 0, 1) := by decide +kernel
theorem dX3_choose_16 : decode cX3_choose 16 = .ok (.getfield 29, 3) := by decide +kernel
theorem dX3_choose_19 : decode cX3_choose 19 = .ok (.iload_n 3, 1) := by decide +kernel
theorem dX3_choose_20 : decode cX3_choose 20 = .ok (.iconst (-1), 1) := by decide +kernel
theorem dX3_choose_21 : decode cX3_choose 21 = .ok (.iastore, 1) := by decide +kernel
theorem dX3_choose_22 : decode cX3_choose 22 = .ok (.iload_n 3, 1) := by decide +kernel
theorem dX3_choose_23 : decode cX3_choose 23 = .ok (.iload_n 2, 1) := by decide +kernel
theorem dX3_choose_24 : decode cX3_choose 24 = .ok (.if_icmp .eq 16, 3) := by decide +kernel
theorem dX3_choose_27 : decode cX3_choose 27 = .ok (.aload_n 0, 1) := by decide +kernel
theorem dX3_choose_28 : decode cX3_choose 28 = .ok (.getfield 18, 3) := by decide +kernel
theorem dX3_choose_31 : decode cX3_choose 31 = .ok (.iload_n 3, 1) := by decide +kernel
theorem dX3_choose_32 : decode cX3_choose 32 = .ok (.aaload, 1) := by decide +kernel
theorem dX3_choose_33 : decode cX3_choose 33 = .ok (.iload_n 1, 1) := by decide +kernel
theorem dX3_choose_34 : decode cX3_choose 34 = .ok (.invokevirtual 182, 3) := by decide +kernel
theorem dX3_choose_37 : decode cX3_choose 37 = .ok (.ifCond .eq 23, 3) := by decide +kernel
theorem dX3_choose_40 : decode cX3_choose 40 = .ok (.aload_n 0, 1) := by decide +kernel
theorem dX3_choose_41 : decode cX3_choose 41 = .ok (.getfield 25, 3) := by decide +kernel
theorem dX3_choose_44 : decode cX3_choose 44 = .ok (.aload_n 0, 1) := by decide +kernel
theorem dX3_choose_45 : decode cX3_choose 45 = .ok (.getfield 176, 3) := by decide +kernel
theorem dX3_choose_48 : decode cX3_choose 48 = .ok (.iload_n 3, 1) := by decide +kernel
theorem dX3_choose_49 : decode cX3_choose 49 = .ok (.iastore, 1) := by decide +kernel
theorem dX3_choose_50 : decode cX3_choose 50 = .ok (.aload_n 0, 1) := by decide +kernel
theorem dX3_choose_51 : decode cX3_choose 51 = .ok (.dup, 1) := by decide +kernel
theorem dX3_choose_52 : decode cX3_choose 52 = .ok (.getfield 176, 3) := by decide +kernel
theorem dX3_choose_55 : decode cX3_choose 55 = .ok (.iconst 1, 1) := by decide +kernel
theorem dX3_choose_56 : decode cX3_choose 56 = .ok (.iadd, 1) := by decide +kernel
theorem dX3_choose_57 : decode cX3_choose 57 = .ok (.putfield 176, 3) := by decide +kernel
end
section
/-! decode rows, made by a program of mine -/
theorem dX3_choose_60 : decode cX3_choose 60 = .ok (.iinc 3 1, 3) := by decide +kernel
theorem dX3_choose_63 : decode cX3_choose 63 = .ok (.goto (-56), 3) := by decide +kernel
theorem dX3_choose_66 : decode cX3_choose 66 = .ok (.iconst 0, 1) := by decide +kernel
theorem dX3_choose_67 : decode cX3_choose 67 = .ok (.istore_n 3, 1) := by decide +kernel
theorem dX3_choose_68 : decode cX3_choose 68 = .ok (.iload_n 3, 1) := by decide +kernel
theorem dX3_choose_69 : decode cX3_choose 69 = .ok (.aload_n 0, 1) := by decide +kernel
theorem dX3_choose_70 : decode cX3_choose 70 = .ok (.getfield 11, 3) := by decide +kernel
theorem dX3_choose_73 : decode cX3_choose 73 = .ok (.iload_n 1, 1) := by decide +kernel
theorem dX3_choose_74 : decode cX3_choose 74 = .ok (.aaload, 1) := by decide +kernel
theorem dX3_choose_75 : decode cX3_choose 75 = .ok (.getfield 50, 3) := by decide +kernel
theorem dX3_choose_78 : decode cX3_choose 78 = .ok (.if_icmp .ge 15, 3) := by decide +kernel
theorem dX3_choose_81 : decode cX3_choose 81 = .ok (.aload_n 0, 1) := by decide +kernel
theorem dX3_choose_82 : decode cX3_choose 82 = .ok (.iload_n 1, 1) := by decide +kernel
theorem dX3_choose_83 : decode cX3_choose 83 = .ok (.iload_n 3, 1) := by decide +kernel
theorem dX3_choose_84 : decode cX3_choose 84 = .ok (.invokevirtual 185, 3) := by decide +kernel
theorem dX3_choose_87 : decode cX3_choose 87 = .ok (.iinc 3 1, 3) := by decide +kernel
theorem dX3_choose_90 : decode cX3_choose 90 = .ok (.goto (-22), 3) := by decide +kernel
theorem dX3_choose_93 : decode cX3_choose 93 = .ok (.return_, 1) := by decide +kernel
theorem dX1_holdsAnyKind_0 : decode cX1_holdsAnyKind 0 = .ok (.aload_n 0, 1) := by decide +kernel
theorem dX1_holdsAnyKind_1 : decode cX1_holdsAnyKind 1 = .ok (.getfield 18, 3) := by decide +kernel
theorem dX1_holdsAnyKind_4 : decode cX1_holdsAnyKind 4 = .ok (.iload_n 1, 1) := by decide +kernel
theorem dX1_holdsAnyKind_5 : decode cX1_holdsAnyKind 5 = .ok (.if_icmp .ne 15, 3) := by decide +kernel
theorem dX1_holdsAnyKind_8 : decode cX1_holdsAnyKind 8 = .ok (.aload_n 0, 1) := by decide +kernel
theorem dX1_holdsAnyKind_9 : decode cX1_holdsAnyKind 9 = .ok (.getfield 22, 3) := by decide +kernel
theorem dX1_holdsAnyKind_12 : decode cX1_holdsAnyKind 12 = .ok (.iconst (-1), 1) := by decide +kernel
theorem dX1_holdsAnyKind_13 : decode cX1_holdsAnyKind 13 = .ok (.if_icmp .eq 7, 3) := by decide +kernel
theorem dX1_holdsAnyKind_16 : decode cX1_holdsAnyKind 16 = .ok (.iconst 1, 1) := by decide +kernel
theorem dX1_holdsAnyKind_17 : decode cX1_holdsAnyKind 17 = .ok (.goto 4, 3) := by decide +kernel
theorem dX1_holdsAnyKind_20 : decode cX1_holdsAnyKind 20 = .ok (.iconst 0, 1) := by decide +kernel
theorem dX1_holdsAnyKind_21 : decode cX1_holdsAnyKind 21 = .ok (.ireturn, 1) := by decide +kernel
theorem dX3_takeFromPool_0 : decode cX3_takeFromPool 0 = .ok (.aload_n 0, 1) := by decide +kernel
theorem dX3_takeFromPool_1 : decode cX3_takeFromPool 1 = .ok (.getfield 11, 3) := by decide +kernel
theorem dX3_takeFromPool_4 : decode cX3_takeFromPool 4 = .ok (.iload_n 1, 1) := by decide +kernel
theorem dX3_takeFromPool_5 : decode cX3_takeFromPool 5 = .ok (.aaload, 1) := by decide +kernel
theorem dX3_takeFromPool_6 : decode cX3_takeFromPool 6 = .ok (.getfield 53, 3) := by decide +kernel
theorem dX3_takeFromPool_9 : decode cX3_takeFromPool 9 = .ok (.iload_n 2, 1) := by decide +kernel
theorem dX3_takeFromPool_10 : decode cX3_takeFromPool 10 = .ok (.aaload, 1) := by decide +kernel
theorem dX3_takeFromPool_11 : decode cX3_takeFromPool 11 = .ok (.getfield 57, 3) := by decide +kernel
theorem dX3_takeFromPool_14 : decode cX3_takeFromPool 14 = .ok (.istore_n 3, 1) := by decide +kernel
theorem dX3_takeFromPool_15 : decode cX3_takeFromPool 15 = .ok (.iconst 0, 1) := by decide +kernel
theorem dX3_takeFromPool_16 : decode cX3_takeFromPool 16 = .ok (.istore 4, 2) := by decide +kernel
theorem dX3_takeFromPool_18 : decode cX3_takeFromPool 18 = .ok (.iload 4, 2) := by decide +kernel
theorem dX3_takeFromPool_20 : decode cX3_takeFromPool 20 = .ok (.iload_n 3, 1) := by decide +kernel
theorem dX3_takeFromPool_21 : decode cX3_takeFromPool 21 = .ok (.if_icmp .ge 63, 3) := by decide +kernel
theorem dX3_takeFromPool_24 : decode cX3_takeFromPool 24 = .ok (.aload_n 0, 1) := by decide +kernel
theorem dX3_takeFromPool_25 : decode cX3_takeFromPool 25 = .ok (.iload_n 1, 1) := by decide +kernel
theorem dX3_takeFromPool_26 : decode cX3_takeFromPool 26 = .ok (.iload_n 2, 1) := by decide +kernel
theorem dX3_takeFromPool_27 : decode cX3_takeFromPool 27 = .ok (.invokevirtual 188, 3) := by decide +kernel
theorem dX3_takeFromPool_30 : decode cX3_takeFromPool 30 = .ok (.istore 5, 2) := by decide +kernel
theorem dX3_takeFromPool_32 : decode cX3_takeFromPool 32 = .ok (.iload 5, 2) := by decide +kernel
theorem dX3_takeFromPool_34 : decode cX3_takeFromPool 34 = .ok (.iconst (-1), 1) := by decide +kernel
theorem dX3_takeFromPool_35 : decode cX3_takeFromPool 35 = .ok (.if_icmp .ne 4, 3) := by decide +kernel
theorem dX3_takeFromPool_38 : decode cX3_takeFromPool 38 = .ok (.return_, 1) := by decide +kernel
theorem dX3_takeFromPool_39 : decode cX3_takeFromPool 39 = .ok (.aload_n 0, 1) := by decide +kernel
theorem dX3_takeFromPool_40 : decode cX3_takeFromPool 40 = .ok (.getfield 29, 3) := by decide +kernel
theorem dX3_takeFromPool_43 : decode cX3_takeFromPool 43 = .ok (.aload_n 0, 1) := by decide +kernel
theorem dX3_takeFromPool_44 : decode cX3_takeFromPool 44 = .ok (.getfield 25, 3) := by decide +kernel
theorem dX3_takeFromPool_47 : decode cX3_takeFromPool 47 = .ok (.iload 5, 2) := by decide +kernel
theorem dX3_takeFromPool_49 : decode cX3_takeFromPool 49 = .ok (.iaload, 1) := by decide +kernel
theorem dX3_takeFromPool_50 : decode cX3_takeFromPool 50 = .ok (.iload_n 2, 1) := by decide +kernel
theorem dX3_takeFromPool_51 : decode cX3_takeFromPool 51 = .ok (.iastore, 1) := by decide +kernel
theorem dX3_takeFromPool_52 : decode cX3_takeFromPool 52 = .ok (.aload_n 0, 1) := by decide +kernel
theorem dX3_takeFromPool_53 : decode cX3_takeFromPool 53 = .ok (.dup, 1) := by decide +kernel
theorem dX3_takeFromPool_54 : decode cX3_takeFromPool 54 = .ok (.getfield 176, 3) := by decide +kernel
theorem dX3_takeFromPool_57 : decode cX3_takeFromPool 57 = .ok (.iconst 1, 1) := by decide +kernel
theorem dX3_takeFromPool_58 : decode cX3_takeFromPool 58 = .ok (.isub, 1) := by decide +kernel
theorem dX3_takeFromPool_59 : decode cX3_takeFromPool 59 = .ok (.putfield 176, 3) := by decide +kernel
theorem dX3_takeFromPool_62 : decode cX3_takeFromPool 62 = .ok (.aload_n 0, 1) := by decide +kernel
theorem dX3_takeFromPool_63 : decode cX3_takeFromPool 63 = .ok (.getfield 25, 3) := by decide +kernel
theorem dX3_takeFromPool_66 : decode cX3_takeFromPool 66 = .ok (.iload 5, 2) := by decide +kernel
theorem dX3_takeFromPool_68 : decode cX3_takeFromPool 68 = .ok (.aload_n 0, 1) := by decide +kernel
theorem dX3_takeFromPool_69 : decode cX3_takeFromPool 69 = .ok (.getfield 25, 3) := by decide +kernel
theorem dX3_takeFromPool_72 : decode cX3_takeFromPool 72 = .ok (.aload_n 0, 1) := by decide +kernel
theorem dX3_takeFromPool_73 : decode cX3_takeFromPool 73 = .ok (.getfield 176, 3) := by decide +kernel
theorem dX3_takeFromPool_76 : decode cX3_takeFromPool 76 = .ok (.iaload, 1) := by decide +kernel
theorem dX3_takeFromPool_77 : decode cX3_takeFromPool 77 = .ok (.iastore, 1) := by decide +kernel
theorem dX3_takeFromPool_78 : decode cX3_takeFromPool 78 = .ok (.iinc 4 1, 3) := by decide +kernel
theorem dX3_takeFromPool_81 : decode cX3_takeFromPool 81 = .ok (.goto (-63), 3) := by decide +kernel
theorem dX3_takeFromPool_84 : decode cX3_takeFromPool 84 = .ok (.return_, 1) := by decide +kernel
theorem dX3_firstInPool_0 : decode cX3_firstInPool 0 = .ok (.iconst (-1), 1) := by decide +kernel
theorem dX3_firstInPool_1 : decode cX3_firstInPool 1 = .ok (.istore_n 3, 1) := by decide +kernel
theorem dX3_firstInPool_2 : decode cX3_firstInPool 2 = .ok (.ldc 157, 2) := by decide +kernel
theorem dX3_firstInPool_4 : decode cX3_firstInPool 4 = .ok (.istore 4, 2) := by decide +kernel
theorem dX3_firstInPool_6 : decode cX3_firstInPool 6 = .ok (.iconst 0, 1) := by decide +kernel
theorem dX3_firstInPool_7 : decode cX3_firstInPool 7 = .ok (.istore 5, 2) := by decide +kernel
theorem dX3_firstInPool_9 : decode cX3_firstInPool 9 = .ok (.iload 5, 2) := by decide +kernel
theorem dX3_firstInPool_11 : decode cX3_firstInPool 11 = .ok (.aload_n 0, 1) := by decide +kernel
theorem dX3_firstInPool_12 : decode cX3_firstInPool 12 = .ok (.getfield 176, 3) := by decide +kernel
theorem dX3_firstInPool_15 : decode cX3_firstInPool 15 = .ok (.if_icmp .ge 38, 3) := by decide +kernel
theorem dX3_firstInPool_18 : decode cX3_firstInPool 18 = .ok (.aload_n 0, 1) := by decide +kernel
theorem dX3_firstInPool_19 : decode cX3_firstInPool 19 = .ok (.aload_n 0, 1) := by decide +kernel
theorem dX3_firstInPool_20 : decode cX3_firstInPool 20 = .ok (.getfield 25, 3) := by decide +kernel
theorem dX3_firstInPool_23 : decode cX3_firstInPool 23 = .ok (.iload 5, 2) := by decide +kernel
theorem dX3_firstInPool_25 : decode cX3_firstInPool 25 = .ok (.iaload, 1) := by decide +kernel
theorem dX3_firstInPool_26 : decode cX3_firstInPool 26 = .ok (.iload_n 1, 1) := by decide +kernel
theorem dX3_firstInPool_27 : decode cX3_firstInPool 27 = .ok (.iload_n 2, 1) := by decide +kernel
theorem dX3_firstInPool_28 : decode cX3_firstInPool 28 = .ok (.invokevirtual 153, 3) := by decide +kernel
theorem dX3_firstInPool_31 : decode cX3_firstInPool 31 = .ok (.istore 6, 2) := by decide +kernel
theorem dX3_firstInPool_33 : decode cX3_firstInPool 33 = .ok (.iload 6, 2) := by decide +kernel
theorem dX3_firstInPool_35 : decode cX3_firstInPool 35 = .ok (.iload 4, 2) := by decide +kernel
theorem dX3_firstInPool_37 : decode cX3_firstInPool 37 = .ok (.if_icmp .ge 10, 3) := by decide +kernel
theorem dX3_firstInPool_40 : decode cX3_firstInPool 40 = .ok (.iload 5, 2) := by decide +kernel
theorem dX3_firstInPool_42 : decode cX3_firstInPool 42 = .ok (.istore_n 3, 1) := by decide +kernel
theorem dX3_firstInPool_43 : decode cX3_firstInPool 43 = .ok (.iload 6, 2) := by decide +kernel
theorem dX3_firstInPool_45 : decode cX3_firstInPool 45 = .ok (.istore 4, 2) := by decide +kernel
theorem dX3_firstInPool_47 : decode cX3_firstInPool 47 = .ok (.iinc 5 1, 3) := by decide +kernel
theorem dX3_firstInPool_50 : decode cX3_firstInPool 50 = .ok (.goto (-41), 3) := by decide +kernel
theorem dX3_firstInPool_53 : decode cX3_firstInPool 53 = .ok (.iload_n 3, 1) := by decide +kernel
theorem dX3_firstInPool_54 : decode cX3_firstInPool 54 = .ok (.ireturn, 1) := by decide +kernel
theorem dX3_why_0 : decode cX3_why 0 = .ok (.aload_n 0, 1) := by decide +kernel
theorem dX3_why_1 : decode cX3_why 1 = .ok (.iload_n 1, 1) := by decide +kernel
theorem dX3_why_2 : decode cX3_why 2 = .ok (.invokevirtual 78, 3) := by decide +kernel
theorem dX3_why_5 : decode cX3_why 5 = .ok (.ifCond .eq 11, 3) := by decide +kernel
theorem dX3_why_8 : decode cX3_why 8 = .ok (.aload_n 0, 1) := by decide +kernel
theorem dX3_why_9 : decode cX3_why 9 = .ok (.iload_n 2, 1) := by decide +kernel
theorem dX3_why_10 : decode cX3_why 10 = .ok (.invokevirtual 43, 3) := by decide +kernel
theorem dX3_why_13 : decode cX3_why 13 = .ok (.ifCond .ne 5, 3) := by decide +kernel
theorem dX3_why_16 : decode cX3_why 16 = .ok (.iconst (-1), 1) := by decide +kernel
theorem dX3_why_17 : decode cX3_why 17 = .ok (.ireturn, 1) := by decide +kernel
theorem dX3_why_18 : decode cX3_why 18 = .ok (.aload_n 0, 1) := by decide +kernel
theorem dX3_why_19 : decode cX3_why 19 = .ok (.getfield 18, 3) := by decide +kernel
theorem dX3_why_22 : decode cX3_why 22 = .ok (.iload_n 1, 1) := by decide +kernel
theorem dX3_why_23 : decode cX3_why 23 = .ok (.aaload, 1) := by decide +kernel
theorem dX3_why_24 : decode cX3_why 24 = .ok (.astore_n 3, 1) := by decide +kernel
theorem dX3_why_25 : decode cX3_why 25 = .ok (.aload_n 3, 1) := by decide +kernel
theorem dX3_why_26 : decode cX3_why 26 = .ok (.getfield 123, 3) := by decide +kernel
theorem dX3_why_29 : decode cX3_why 29 = .ok (.iload_n 2, 1) := by decide +kernel
theorem dX3_why_30 : decode cX3_why 30 = .ok (.if_icmp .ne 5, 3) := by decide +kernel
theorem dX3_why_33 : decode cX3_why 33 = .ok (.iconst 0, 1) := by decide +kernel
theorem dX3_why_34 : decode cX3_why 34 = .ok (.ireturn, 1) := by decide +kernel
theorem dX3_why_35 : decode cX3_why 35 = .ok (.aload_n 3, 1) := by decide +kernel
theorem dX3_why_36 : decode cX3_why 36 = .ok (.iload_n 2, 1) := by decide +kernel
theorem dX3_why_37 : decode cX3_why 37 = .ok (.invokevirtual 81, 3) := by decide +kernel
theorem dX3_why_40 : decode cX3_why 40 = .ok (.iconst (-1), 1) := by decide +kernel
theorem dX3_why_41 : decode cX3_why 41 = .ok (.if_icmp .ne 5, 3) := by decide +kernel
theorem dX3_why_44 : decode cX3_why 44 = .ok (.iconst 1, 1) := by decide +kernel
theorem dX3_why_45 : decode cX3_why 45 = .ok (.ireturn, 1) := by decide +kernel
theorem dX3_why_46 : decode cX3_why 46 = .ok (.aload_n 0, 1) := by decide +kernel
theorem dX3_why_47 : decode cX3_why 47 = .ok (.getfield 11, 3) := by decide +kernel
theorem dX3_why_50 : decode cX3_why 50 = .ok (.iload_n 2, 1) := by decide +kernel
theorem dX3_why_51 : decode cX3_why 51 = .ok (.aaload, 1) := by decide +kernel
theorem dX3_why_52 : decode cX3_why 52 = .ok (.aload_n 3, 1) := by decide +kernel
theorem dX3_why_53 : decode cX3_why 53 = .ok (.getfield 72, 3) := by decide +kernel
theorem dX3_why_56 : decode cX3_why 56 = .ok (.invokevirtual 158, 3) := by decide +kernel
theorem dX3_why_59 : decode cX3_why 59 = .ok (.ifCond .ne 5, 3) := by decide +kernel
theorem dX3_why_62 : decode cX3_why 62 = .ok (.iconst 2, 1) := by decide +kernel
theorem dX3_why_63 : decode cX3_why 63 = .ok (.ireturn, 1) := by decide +kernel
theorem dX3_why_64 : decode cX3_why 64 = .ok (.aload_n 3, 1) := by decide +kernel
theorem dX3_why_65 : decode cX3_why 65 = .ok (.iload_n 2, 1) := by decide +kernel
theorem dX3_why_66 : decode cX3_why 66 = .ok (.invokevirtual 150, 3) := by decide +kernel
theorem dX3_why_69 : decode cX3_why 69 = .ok (.ifCond .eq 7, 3) := by decide +kernel
theorem dX3_why_72 : decode cX3_why 72 = .ok (.iconst 4, 1) := by decide +kernel
theorem dX3_why_73 : decode cX3_why 73 = .ok (.goto 4, 3) := by decide +kernel
theorem dX3_why_76 : decode cX3_why 76 = .ok (.iconst 3, 1) := by decide +kernel
theorem dX3_why_77 : decode cX3_why 77 = .ok (.ireturn, 1) := by decide +kernel
theorem dX2_admits_0 : decode cX2_admits 0 = .ok (.iconst 0, 1) := by decide +kernel
theorem dX2_admits_1 : decode cX2_admits 1 = .ok (.istore_n 2, 1) := by decide +kernel
theorem dX2_admits_2 : decode cX2_admits 2 = .ok (.iload_n 2, 1) := by decide +kernel
theorem dX2_admits_3 : decode cX2_admits 3 = .ok (.aload_n 0, 1) := by decide +kernel
theorem dX2_admits_4 : decode cX2_admits 4 = .ok (.getfield 18, 3) := by decide +kernel
theorem dX2_admits_7 : decode cX2_admits 7 = .ok (.if_icmp .ge 25, 3) := by decide +kernel
theorem dX2_admits_10 : decode cX2_admits 10 = .ok (.aload_n 0, 1) := by decide +kernel
theorem dX2_admits_11 : decode cX2_admits 11 = .ok (.getfield 11, 3) := by decide +kernel
theorem dX2_admits_14 : decode cX2_admits 14 = .ok (.iload_n 2, 1) := by decide +kernel
theorem dX2_admits_15 : decode cX2_admits 15 = .ok (.aaload, 1) := by decide +kernel
theorem dX2_admits_16 : decode cX2_admits 16 = .ok (.iload_n 1, 1) := by decide +kernel
theorem dX2_admits_17 : decode cX2_admits 17 = .ok (.invokevirtual 22, 3) := by decide +kernel
theorem dX2_admits_20 : decode cX2_admits 20 = .ok (.iconst (-1), 1) := by decide +kernel
theorem dX2_admits_21 : decode cX2_admits 21 = .ok (.if_icmp .eq 5, 3) := by decide +kernel
theorem dX2_admits_24 : decode cX2_admits 24 = .ok (.iconst 1, 1) := by decide +kernel
theorem dX2_admits_25 : decode cX2_admits 25 = .ok (.ireturn, 1) := by decide +kernel
theorem dX2_admits_26 : decode cX2_admits 26 = .ok (.iinc 2 1, 3) := by decide +kernel
theorem dX2_admits_29 : decode cX2_admits 29 = .ok (.goto (-27), 3) := by decide +kernel
theorem dX2_admits_32 : decode cX2_admits 32 = .ok (.iconst 0, 1) := by decide +kernel
theorem dX2_admits_33 : decode cX2_admits 33 = .ok (.ireturn, 1) := by decide +kernel
theorem dX3_look_0 : decode cX3_look 0 = .ok (.iload_n 1, 1) := by decide +kernel
theorem dX3_look_1 : decode cX3_look 1 = .ok (.tableswitch 68 0 4 #[35, 40, 45, 58, 63], 35) := by decide +kernel
theorem dX3_look_36 : decode cX3_look 36 = .ok (.aload_n 0, 1) := by decide +kernel
theorem dX3_look_37 : decode cX3_look 37 = .ok (.getfield 36, 3) := by decide +kernel
theorem dX3_look_40 : decode cX3_look 40 = .ok (.ireturn, 1) := by decide +kernel
theorem dX3_look_41 : decode cX3_look 41 = .ok (.aload_n 0, 1) := by decide +kernel
theorem dX3_look_42 : decode cX3_look 42 = .ok (.getfield 69, 3) := by decide +kernel
theorem dX3_look_45 : decode cX3_look 45 = .ok (.ireturn, 1) := by decide +kernel
theorem dX3_look_46 : decode cX3_look 46 = .ok (.aload_n 0, 1) := by decide +kernel
theorem dX3_look_47 : decode cX3_look 47 = .ok (.getfield 32, 3) := by decide +kernel
theorem dX3_look_50 : decode cX3_look 50 = .ok (.ifCond .eq 7, 3) := by decide +kernel
theorem dX3_look_53 : decode cX3_look 53 = .ok (.iconst 1, 1) := by decide +kernel
theorem dX3_look_54 : decode cX3_look 54 = .ok (.goto 4, 3) := by decide +kernel
theorem dX3_look_57 : decode cX3_look 57 = .ok (.iconst 0, 1) := by decide +kernel
theorem dX3_look_58 : decode cX3_look 58 = .ok (.ireturn, 1) := by decide +kernel
theorem dX3_look_59 : decode cX3_look 59 = .ok (.aload_n 0, 1) := by decide +kernel
theorem dX3_look_60 : decode cX3_look 60 = .ok (.invokevirtual 161, 3) := by decide +kernel
theorem dX3_look_63 : decode cX3_look 63 = .ok (.ireturn, 1) := by decide +kernel
theorem dX3_look_64 : decode cX3_look 64 = .ok (.aload_n 0, 1) := by decide +kernel
theorem dX3_look_65 : decode cX3_look 65 = .ok (.invokevirtual 101, 3) := by decide +kernel
theorem dX3_look_68 : decode cX3_look 68 = .ok (.ireturn, 1) := by decide +kernel
theorem dX3_look_69 : decode cX3_look 69 = .ok (.iconst (-1), 1) := by decide +kernel
theorem dX3_look_70 : decode cX3_look 70 = .ok (.ireturn, 1) := by decide +kernel
theorem dX3_countAsks_0 : decode cX3_countAsks 0 = .ok (.iconst 0, 1) := by decide +kernel
theorem dX3_countAsks_1 : decode cX3_countAsks 1 = .ok (.istore_n 1, 1) := by decide +kernel
theorem dX3_countAsks_2 : decode cX3_countAsks 2 = .ok (.iconst 0, 1) := by decide +kernel
theorem dX3_countAsks_3 : decode cX3_countAsks 3 = .ok (.istore_n 2, 1) := by decide +kernel
theorem dX3_countAsks_4 : decode cX3_countAsks 4 = .ok (.iload_n 2, 1) := by decide +kernel
theorem dX3_countAsks_5 : decode cX3_countAsks 5 = .ok (.aload_n 0, 1) := by decide +kernel
theorem dX3_countAsks_6 : decode cX3_countAsks 6 = .ok (.getfield 69, 3) := by decide +kernel
theorem dX3_countAsks_9 : decode cX3_countAsks 9 = .ok (.if_icmp .ge 21, 3) := by decide +kernel
theorem dX3_countAsks_12 : decode cX3_countAsks 12 = .ok (.iload_n 1, 1) := by decide +kernel
theorem dX3_countAsks_13 : decode cX3_countAsks 13 = .ok (.aload_n 0, 1) := by decide +kernel
theorem dX3_countAsks_14 : decode cX3_countAsks 14 = .ok (.getfield 18, 3) := by decide +kernel
theorem dX3_countAsks_17 : decode cX3_countAsks 17 = .ok (.iload_n 2, 1) := by decide +kernel
theorem dX3_countAsks_18 : decode cX3_countAsks 18 = .ok (.aaload, 1) := by decide +kernel
theorem dX3_countAsks_19 : decode cX3_countAsks 19 = .ok (.getfield 133, 3) := by decide +kernel
theorem dX3_countAsks_22 : decode cX3_countAsks 22 = .ok (.iadd, 1) := by decide +kernel
theorem dX3_countAsks_23 : decode cX3_countAsks 23 = .ok (.istore_n 1, 1) := by decide +kernel
theorem dX3_countAsks_24 : decode cX3_countAsks 24 = .ok (.iinc 2 1, 3) := by decide +kernel
theorem dX3_countAsks_27 : decode cX3_countAsks 27 = .ok (.goto (-23), 3) := by decide +kernel
theorem dX3_countAsks_30 : decode cX3_countAsks 30 = .ok (.iload_n 1, 1) := by decide +kernel
theorem dX3_countAsks_31 : decode cX3_countAsks 31 = .ok (.ireturn, 1) := by decide +kernel
theorem dX3_countPlaced_0 : decode cX3_countPlaced 0 = .ok (.iconst 0, 1) := by decide +kernel
theorem dX3_countPlaced_1 : decode cX3_countPlaced 1 = .ok (.istore_n 1, 1) := by decide +kernel
theorem dX3_countPlaced_2 : decode cX3_countPlaced 2 = .ok (.iconst 0, 1) := by decide +kernel
theorem dX3_countPlaced_3 : decode cX3_countPlaced 3 = .ok (.istore_n 2, 1) := by decide +kernel
theorem dX3_countPlaced_4 : decode cX3_countPlaced 4 = .ok (.iload_n 2, 1) := by decide +kernel
theorem dX3_countPlaced_5 : decode cX3_countPlaced 5 = .ok (.aload_n 0, 1) := by decide +kernel
theorem dX3_countPlaced_6 : decode cX3_countPlaced 6 = .ok (.getfield 69, 3) := by decide +kernel
theorem dX3_countPlaced_9 : decode cX3_countPlaced 9 = .ok (.if_icmp .ge 24, 3) := by decide +kernel
theorem dX3_countPlaced_12 : decode cX3_countPlaced 12 = .ok (.aload_n 0, 1) := by decide +kernel
theorem dX3_countPlaced_13 : decode cX3_countPlaced 13 = .ok (.getfield 18, 3) := by decide +kernel
theorem dX3_countPlaced_16 : decode cX3_countPlaced 16 = .ok (.iload_n 2, 1) := by decide +kernel
theorem dX3_countPlaced_17 : decode cX3_countPlaced 17 = .ok (.aaload, 1) := by decide +kernel
theorem dX3_countPlaced_18 : decode cX3_countPlaced 18 = .ok (.invokevirtual 164, 3) := by decide +kernel
theorem dX3_countPlaced_21 : decode cX3_countPlaced 21 = .ok (.ifCond .eq 6, 3) := by decide +kernel
theorem dX3_countPlaced_24 : decode cX3_countPlaced 24 = .ok (.iinc 1 1, 3) := by decide +kernel
theorem dX3_countPlaced_27 : decode cX3_countPlaced 27 = .ok (.iinc 2 1, 3) := by decide +kernel
theorem dX3_countPlaced_30 : decode cX3_countPlaced 30 = .ok (.goto (-26), 3) := by decide +kernel
theorem dX3_countPlaced_33 : decode cX3_countPlaced 33 = .ok (.iload_n 1, 1) := by decide +kernel
theorem dX3_countPlaced_34 : decode cX3_countPlaced 34 = .ok (.ireturn, 1) := by decide +kernel
theorem dL_school_0 : decode cL_school 0 = .ok (.aload_n 1, 1) := by decide +kernel
theorem dL_school_1 : decode cL_school 1 = .ok (.iconst 0, 1) := by decide +kernel
theorem dL_school_2 : decode cL_school 2 = .ok (.aload_n 0, 1) := by decide +kernel
theorem dL_school_3 : decode cL_school 3 = .ok (.invokevirtual 7, 3) := by decide +kernel
theorem dL_school_6 : decode cL_school 6 = .ok (.i2l, 1) := by decide +kernel
theorem dL_school_7 : decode cL_school 7 = .ok (.lastore, 1) := by decide +kernel
theorem dL_school_8 : decode cL_school 8 = .ok (.goto 6, 3) := by decide +kernel
theorem dL_school_11 : decode cL_school 11 = .ok (.astore_n 2, 1) := by decide +kernel
theorem dL_school_12 : decode cL_school 12 = .ok (.iconst 1, 1) := by decide +kernel
theorem dL_school_13 : decode cL_school 13 = .ok (.ireturn, 1) := by decide +kernel
theorem dL_school_14 : decode cL_school 14 = .ok (.iconst 0, 1) := by decide +kernel
theorem dL_school_15 : decode cL_school 15 = .ok (.ireturn, 1) := by decide +kernel
theorem dX3_school_0 : decode cX3_school 0 = .ok (.aload_n 0, 1) := by decide +kernel
theorem dX3_school_1 : decode cX3_school 1 = .ok (.getfield 32, 3) := by decide +kernel
theorem dX3_school_4 : decode cX3_school 4 = .ok (.ifCond .ne 12, 3) := by decide +kernel
theorem dX3_school_7 : decode cX3_school 7 = .ok (.aload_n 0, 1) := by decide +kernel
theorem dX3_school_8 : decode cX3_school 8 = .ok (.getfield 36, 3) := by decide +kernel
theorem dX3_school_11 : decode cX3_school 11 = .ok (.bipush 6, 2) := by decide +kernel
theorem dX3_school_13 : decode cX3_school 13 = .ok (.if_icmp .lt 11, 3) := by decide +kernel
theorem dX3_school_16 : decode cX3_school 16 = .ok (.new 40, 3) := by decide +kernel
theorem dX3_school_19 : decode cX3_school 19 = .ok (.dup, 1) := by decide +kernel
theorem dX3_school_20 : decode cX3_school 20 = .ok (.invokespecial 42, 3) := by decide +kernel
theorem dX3_school_23 : decode cX3_school 23 = .ok (.athrow, 1) := by decide +kernel
theorem dX3_school_24 : decode cX3_school 24 = .ok (.aload_n 0, 1) := by decide +kernel
theorem dX3_school_25 : decode cX3_school 25 = .ok (.dup, 1) := by decide +kernel
theorem dX3_school_26 : decode cX3_school 26 = .ok (.getfield 36, 3) := by decide +kernel
theorem dX3_school_29 : decode cX3_school 29 = .ok (.iconst 1, 1) := by decide +kernel
theorem dX3_school_30 : decode cX3_school 30 = .ok (.iadd, 1) := by decide +kernel
theorem dX3_school_31 : decode cX3_school 31 = .ok (.putfield 36, 3) := by decide +kernel
theorem dX3_school_34 : decode cX3_school 34 = .ok (.aload_n 0, 1) := by decide +kernel
theorem dX3_school_35 : decode cX3_school 35 = .ok (.getfield 36, 3) := by decide +kernel
theorem dX3_school_38 : decode cX3_school 38 = .ok (.iconst 1, 1) := by decide +kernel
theorem dX3_school_39 : decode cX3_school 39 = .ok (.isub, 1) := by decide +kernel
theorem dX3_school_40 : decode cX3_school 40 = .ok (.ireturn, 1) := by decide +kernel
theorem dL_kind_0 : decode cL_kind 0 = .ok (.aload 6, 2) := by decide +kernel
theorem dL_kind_2 : decode cL_kind 2 = .ok (.iconst 0, 1) := by decide +kernel
theorem dL_kind_3 : decode cL_kind 3 = .ok (.aload_n 0, 1) := by decide +kernel
theorem dL_kind_4 : decode cL_kind 4 = .ok (.iload_n 1, 1) := by decide +kernel
theorem dL_kind_5 : decode cL_kind 5 = .ok (.iload_n 2, 1) := by decide +kernel
theorem dL_kind_6 : decode cL_kind 6 = .ok (.iload_n 3, 1) := by decide +kernel
theorem dL_kind_7 : decode cL_kind 7 = .ok (.iload 4, 2) := by decide +kernel
theorem dL_kind_9 : decode cL_kind 9 = .ok (.iload 5, 2) := by decide +kernel
theorem dL_kind_11 : decode cL_kind 11 = .ok (.invokevirtual 15, 3) := by decide +kernel
theorem dL_kind_14 : decode cL_kind 14 = .ok (.i2l, 1) := by decide +kernel
theorem dL_kind_15 : decode cL_kind 15 = .ok (.lastore, 1) := by decide +kernel
theorem dL_kind_16 : decode cL_kind 16 = .ok (.goto 11, 3) := by decide +kernel
theorem dL_kind_19 : decode cL_kind 19 = .ok (.astore 7, 2) := by decide +kernel
theorem dL_kind_21 : decode cL_kind 21 = .ok (.iconst 1, 1) := by decide +kernel
theorem dL_kind_22 : decode cL_kind 22 = .ok (.ireturn, 1) := by decide +kernel
theorem dL_kind_23 : decode cL_kind 23 = .ok (.astore 7, 2) := by decide +kernel
theorem dL_kind_25 : decode cL_kind 25 = .ok (.iconst 2, 1) := by decide +kernel
theorem dL_kind_26 : decode cL_kind 26 = .ok (.ireturn, 1) := by decide +kernel
theorem dL_kind_27 : decode cL_kind 27 = .ok (.iconst 0, 1) := by decide +kernel
theorem dL_kind_28 : decode cL_kind 28 = .ok (.ireturn, 1) := by decide +kernel
theorem dX3_kind_0 : decode cX3_kind 0 = .ok (.aload_n 0, 1) := by decide +kernel
theorem dX3_kind_1 : decode cX3_kind 1 = .ok (.iload_n 1, 1) := by decide +kernel
theorem dX3_kind_2 : decode cX3_kind 2 = .ok (.invokevirtual 43, 3) := by decide +kernel
theorem dX3_kind_5 : decode cX3_kind 5 = .ok (.ifCond .eq 13, 3) := by decide +kernel
theorem dX3_kind_8 : decode cX3_kind 8 = .ok (.iload_n 2, 1) := by decide +kernel
theorem dX3_kind_9 : decode cX3_kind 9 = .ok (.ifCond .lt 9, 3) := by decide +kernel
theorem dX3_kind_12 : decode cX3_kind 12 = .ok (.iload_n 2, 1) := by decide +kernel
theorem dX3_kind_13 : decode cX3_kind 13 = .ok (.bipush 6, 2) := by decide +kernel
theorem dX3_kind_15 : decode cX3_kind 15 = .ok (.if_icmp .le 11, 3) := by decide +kernel
theorem dX3_kind_18 : decode cX3_kind 18 = .ok (.new 47, 3) := by decide +kernel
theorem dX3_kind_21 : decode cX3_kind 21 = .ok (.dup, 1) := by decide +kernel
theorem dX3_kind_22 : decode cX3_kind 22 = .ok (.invokespecial 49, 3) := by decide +kernel
theorem dX3_kind_25 : decode cX3_kind 25 = .ok (.athrow, 1) := by decide +kernel
theorem dX3_kind_26 : decode cX3_kind 26 = .ok (.iload_n 3, 1) := by decide +kernel
theorem dX3_kind_27 : decode cX3_kind 27 = .ok (.bipush 15, 2) := by decide +kernel
theorem dX3_kind_29 : decode cX3_kind 29 = .ok (.if_icmp .gt 17, 3) := by decide +kernel
theorem dX3_kind_32 : decode cX3_kind 32 = .ok (.iload 4, 2) := by decide +kernel
theorem dX3_kind_34 : decode cX3_kind 34 = .ok (.bipush 15, 2) := by decide +kernel
theorem dX3_kind_36 : decode cX3_kind 36 = .ok (.if_icmp .gt 10, 3) := by decide +kernel
theorem dX3_kind_39 : decode cX3_kind 39 = .ok (.iload 5, 2) := by decide +kernel
theorem dX3_kind_41 : decode cX3_kind 41 = .ok (.bipush 15, 2) := by decide +kernel
theorem dX3_kind_43 : decode cX3_kind 43 = .ok (.if_icmp .le 11, 3) := by decide +kernel
theorem dX3_kind_46 : decode cX3_kind 46 = .ok (.new 47, 3) := by decide +kernel
theorem dX3_kind_49 : decode cX3_kind 49 = .ok (.dup, 1) := by decide +kernel
theorem dX3_kind_50 : decode cX3_kind 50 = .ok (.invokespecial 49, 3) := by decide +kernel
theorem dX3_kind_53 : decode cX3_kind 53 = .ok (.athrow, 1) := by decide +kernel
theorem dX3_kind_54 : decode cX3_kind 54 = .ok (.aload_n 0, 1) := by decide +kernel
theorem dX3_kind_55 : decode cX3_kind 55 = .ok (.getfield 11, 3) := by decide +kernel
theorem dX3_kind_58 : decode cX3_kind 58 = .ok (.iload_n 1, 1) := by decide +kernel
theorem dX3_kind_59 : decode cX3_kind 59 = .ok (.aaload, 1) := by decide +kernel
theorem dX3_kind_60 : decode cX3_kind 60 = .ok (.astore 6, 2) := by decide +kernel
theorem dX3_kind_62 : decode cX3_kind 62 = .ok (.aload_n 0, 1) := by decide +kernel
theorem dX3_kind_63 : decode cX3_kind 63 = .ok (.getfield 32, 3) := by decide +kernel
theorem dX3_kind_66 : decode cX3_kind 66 = .ok (.ifCond .ne 12, 3) := by decide +kernel
theorem dX3_kind_69 : decode cX3_kind 69 = .ok (.aload 6, 2) := by decide +kernel
theorem dX3_kind_71 : decode cX3_kind 71 = .ok (.getfield 50, 3) := by decide +kernel
theorem dX3_kind_74 : decode cX3_kind 74 = .ok (.iconst 3, 1) := by decide +kernel
theorem dX3_kind_75 : decode cX3_kind 75 = .ok (.if_icmp .lt 11, 3) := by decide +kernel
theorem dX3_kind_78 : decode cX3_kind 78 = .ok (.new 40, 3) := by decide +kernel
theorem dX3_kind_81 : decode cX3_kind 81 = .ok (.dup, 1) := by decide +kernel
theorem dX3_kind_82 : decode cX3_kind 82 = .ok (.invokespecial 42, 3) := by decide +kernel
theorem dX3_kind_85 : decode cX3_kind 85 = .ok (.athrow, 1) := by decide +kernel
theorem dX3_kind_86 : decode cX3_kind 86 = .ok (.aload 6, 2) := by decide +kernel
theorem dX3_kind_88 : decode cX3_kind 88 = .ok (.getfield 53, 3) := by decide +kernel
theorem dX3_kind_91 : decode cX3_kind 91 = .ok (.aload 6, 2) := by decide +kernel
theorem dX3_kind_93 : decode cX3_kind 93 = .ok (.getfield 50, 3) := by decide +kernel
theorem dX3_kind_96 : decode cX3_kind 96 = .ok (.aaload, 1) := by decide +kernel
theorem dX3_kind_97 : decode cX3_kind 97 = .ok (.astore 7, 2) := by decide +kernel
theorem dX3_kind_99 : decode cX3_kind 99 = .ok (.aload 7, 2) := by decide +kernel
theorem dX3_kind_101 : decode cX3_kind 101 = .ok (.iload_n 2, 1) := by decide +kernel
theorem dX3_kind_102 : decode cX3_kind 102 = .ok (.putfield 57, 3) := by decide +kernel
theorem dX3_kind_105 : decode cX3_kind 105 = .ok (.aload 7, 2) := by decide +kernel
theorem dX3_kind_107 : decode cX3_kind 107 = .ok (.iload_n 3, 1) := by decide +kernel
theorem dX3_kind_108 : decode cX3_kind 108 = .ok (.iload 4, 2) := by decide +kernel
theorem dX3_kind_110 : decode cX3_kind 110 = .ok (.iload 5, 2) := by decide +kernel
theorem dX3_kind_112 : decode cX3_kind 112 = .ok (.invokevirtual 62, 3) := by decide +kernel
theorem dX3_kind_115 : decode cX3_kind 115 = .ok (.aload 6, 2) := by decide +kernel
theorem dX3_kind_117 : decode cX3_kind 117 = .ok (.dup, 1) := by decide +kernel
theorem dX3_kind_118 : decode cX3_kind 118 = .ok (.getfield 50, 3) := by decide +kernel
theorem dX3_kind_121 : decode cX3_kind 121 = .ok (.iconst 1, 1) := by decide +kernel
theorem dX3_kind_122 : decode cX3_kind 122 = .ok (.iadd, 1) := by decide +kernel
theorem dX3_kind_123 : decode cX3_kind 123 = .ok (.putfield 50, 3) := by decide +kernel
theorem dX3_kind_126 : decode cX3_kind 126 = .ok (.aload 6, 2) := by decide +kernel
theorem dX3_kind_128 : decode cX3_kind 128 = .ok (.getfield 50, 3) := by decide +kernel
theorem dX3_kind_131 : decode cX3_kind 131 = .ok (.iconst 1, 1) := by decide +kernel
theorem dX3_kind_132 : decode cX3_kind 132 = .ok (.isub, 1) := by decide +kernel
theorem dX3_kind_133 : decode cX3_kind 133 = .ok (.ireturn, 1) := by decide +kernel
theorem dX0_setBands_0 : decode cX0_setBands 0 = .ok (.aload_n 0, 1) := by decide +kernel
theorem dX0_setBands_1 : decode cX0_setBands 1 = .ok (.getfield 9, 3) := by decide +kernel
theorem dX0_setBands_4 : decode cX0_setBands 4 = .ok (.iconst 0, 1) := by decide +kernel
theorem dX0_setBands_5 : decode cX0_setBands 5 = .ok (.iload_n 1, 1) := by decide +kernel
theorem dX0_setBands_6 : decode cX0_setBands 6 = .ok (.iastore, 1) := by decide +kernel
theorem dX0_setBands_7 : decode cX0_setBands 7 = .ok (.aload_n 0, 1) := by decide +kernel
theorem dX0_setBands_8 : decode cX0_setBands 8 = .ok (.getfield 9, 3) := by decide +kernel
theorem dX0_setBands_11 : decode cX0_setBands 11 = .ok (.iconst 1, 1) := by decide +kernel
theorem dX0_setBands_12 : decode cX0_setBands 12 = .ok (.iload_n 2, 1) := by decide +kernel
theorem dX0_setBands_13 : decode cX0_setBands 13 = .ok (.iastore, 1) := by decide +kernel
theorem dX0_setBands_14 : decode cX0_setBands 14 = .ok (.aload_n 0, 1) := by decide +kernel
theorem dX0_setBands_15 : decode cX0_setBands 15 = .ok (.getfield 9, 3) := by decide +kernel
theorem dX0_setBands_18 : decode cX0_setBands 18 = .ok (.iconst 2, 1) := by decide +kernel
theorem dX0_setBands_19 : decode cX0_setBands 19 = .ok (.iload_n 3, 1) := by decide +kernel
theorem dX0_setBands_20 : decode cX0_setBands 20 = .ok (.iastore, 1) := by decide +kernel
theorem dX0_setBands_21 : decode cX0_setBands 21 = .ok (.aload_n 0, 1) := by decide +kernel
theorem dX0_setBands_22 : decode cX0_setBands 22 = .ok (.iconst 0, 1) := by decide +kernel
theorem dX0_setBands_23 : decode cX0_setBands 23 = .ok (.putfield 15, 3) := by decide +kernel
theorem dX0_setBands_26 : decode cX0_setBands 26 = .ok (.aload_n 0, 1) := by decide +kernel
theorem dX0_setBands_27 : decode cX0_setBands 27 = .ok (.getfield 15, 3) := by decide +kernel
theorem dX0_setBands_30 : decode cX0_setBands 30 = .ok (.iconst 3, 1) := by decide +kernel
theorem dX0_setBands_31 : decode cX0_setBands 31 = .ok (.if_icmp .ge 28, 3) := by decide +kernel
theorem dX0_setBands_34 : decode cX0_setBands 34 = .ok (.aload_n 0, 1) := by decide +kernel
theorem dX0_setBands_35 : decode cX0_setBands 35 = .ok (.getfield 9, 3) := by decide +kernel
theorem dX0_setBands_38 : decode cX0_setBands 38 = .ok (.aload_n 0, 1) := by decide +kernel
theorem dX0_setBands_39 : decode cX0_setBands 39 = .ok (.getfield 15, 3) := by decide +kernel
theorem dX0_setBands_42 : decode cX0_setBands 42 = .ok (.iaload, 1) := by decide +kernel
theorem dX0_setBands_43 : decode cX0_setBands 43 = .ok (.ifCond .lt 16, 3) := by decide +kernel
theorem dX0_setBands_46 : decode cX0_setBands 46 = .ok (.aload_n 0, 1) := by decide +kernel
theorem dX0_setBands_47 : decode cX0_setBands 47 = .ok (.dup, 1) := by decide +kernel
theorem dX0_setBands_48 : decode cX0_setBands 48 = .ok (.getfield 15, 3) := by decide +kernel
theorem dX0_setBands_51 : decode cX0_setBands 51 = .ok (.iconst 1, 1) := by decide +kernel
theorem dX0_setBands_52 : decode cX0_setBands 52 = .ok (.iadd, 1) := by decide +kernel
theorem dX0_setBands_53 : decode cX0_setBands 53 = .ok (.putfield 15, 3) := by decide +kernel
theorem dX0_setBands_56 : decode cX0_setBands 56 = .ok (.goto (-30), 3) := by decide +kernel
theorem dX0_setBands_59 : decode cX0_setBands 59 = .ok (.return_, 1) := by decide +kernel
theorem dL_pupil_0 : decode cL_pupil 0 = .ok (.aload_n 3, 1) := by decide +kernel
theorem dL_pupil_1 : decode cL_pupil 1 = .ok (.iconst 0, 1) := by decide +kernel
theorem dL_pupil_2 : decode cL_pupil 2 = .ok (.aload_n 0, 1) := by decide +kernel
theorem dL_pupil_3 : decode cL_pupil 3 = .ok (.iload_n 1, 1) := by decide +kernel
theorem dL_pupil_4 : decode cL_pupil 4 = .ok (.iload_n 2, 1) := by decide +kernel
theorem dL_pupil_5 : decode cL_pupil 5 = .ok (.invokevirtual 21, 3) := by decide +kernel
theorem dL_pupil_8 : decode cL_pupil 8 = .ok (.i2l, 1) := by decide +kernel
theorem dL_pupil_9 : decode cL_pupil 9 = .ok (.lastore, 1) := by decide +kernel
theorem dL_pupil_10 : decode cL_pupil 10 = .ok (.goto 11, 3) := by decide +kernel
theorem dL_pupil_13 : decode cL_pupil 13 = .ok (.astore 4, 2) := by decide +kernel
theorem dL_pupil_15 : decode cL_pupil 15 = .ok (.iconst 1, 1) := by decide +kernel
theorem dL_pupil_16 : decode cL_pupil 16 = .ok (.ireturn, 1) := by decide +kernel
theorem dL_pupil_17 : decode cL_pupil 17 = .ok (.astore 4, 2) := by decide +kernel
theorem dL_pupil_19 : decode cL_pupil 19 = .ok (.iconst 2, 1) := by decide +kernel
theorem dL_pupil_20 : decode cL_pupil 20 = .ok (.ireturn, 1) := by decide +kernel
theorem dL_pupil_21 : decode cL_pupil 21 = .ok (.iconst 0, 1) := by decide +kernel
theorem dL_pupil_22 : decode cL_pupil 22 = .ok (.ireturn, 1) := by decide +kernel
theorem dX3_pupil_0 : decode cX3_pupil 0 = .ok (.iload_n 1, 1) := by decide +kernel
theorem dX3_pupil_1 : decode cX3_pupil 1 = .ok (.invokestatic 66, 3) := by decide +kernel
theorem dX3_pupil_4 : decode cX3_pupil 4 = .ok (.ifCond .ne 11, 3) := by decide +kernel
theorem dX3_pupil_7 : decode cX3_pupil 7 = .ok (.new 47, 3) := by decide +kernel
theorem dX3_pupil_10 : decode cX3_pupil 10 = .ok (.dup, 1) := by decide +kernel
theorem dX3_pupil_11 : decode cX3_pupil 11 = .ok (.invokespecial 49, 3) := by decide +kernel
theorem dX3_pupil_14 : decode cX3_pupil 14 = .ok (.athrow, 1) := by decide +kernel
theorem dX3_pupil_15 : decode cX3_pupil 15 = .ok (.aload_n 0, 1) := by decide +kernel
theorem dX3_pupil_16 : decode cX3_pupil 16 = .ok (.getfield 32, 3) := by decide +kernel
theorem dX3_pupil_19 : decode cX3_pupil 19 = .ok (.ifCond .ne 12, 3) := by decide +kernel
theorem dX3_pupil_22 : decode cX3_pupil 22 = .ok (.aload_n 0, 1) := by decide +kernel
theorem dX3_pupil_23 : decode cX3_pupil 23 = .ok (.getfield 69, 3) := by decide +kernel
theorem dX3_pupil_26 : decode cX3_pupil 26 = .ok (.bipush 20, 2) := by decide +kernel
theorem dX3_pupil_28 : decode cX3_pupil 28 = .ok (.if_icmp .lt 11, 3) := by decide +kernel
theorem dX3_pupil_31 : decode cX3_pupil 31 = .ok (.new 40, 3) := by decide +kernel
theorem dX3_pupil_34 : decode cX3_pupil 34 = .ok (.dup, 1) := by decide +kernel
theorem dX3_pupil_35 : decode cX3_pupil 35 = .ok (.invokespecial 42, 3) := by decide +kernel
theorem dX3_pupil_38 : decode cX3_pupil 38 = .ok (.athrow, 1) := by decide +kernel
theorem dX3_pupil_39 : decode cX3_pupil 39 = .ok (.aload_n 0, 1) := by decide +kernel
theorem dX3_pupil_40 : decode cX3_pupil 40 = .ok (.getfield 18, 3) := by decide +kernel
theorem dX3_pupil_43 : decode cX3_pupil 43 = .ok (.aload_n 0, 1) := by decide +kernel
theorem dX3_pupil_44 : decode cX3_pupil 44 = .ok (.getfield 69, 3) := by decide +kernel
theorem dX3_pupil_47 : decode cX3_pupil 47 = .ok (.aaload, 1) := by decide +kernel
theorem dX3_pupil_48 : decode cX3_pupil 48 = .ok (.astore_n 3, 1) := by decide +kernel
theorem dX3_pupil_49 : decode cX3_pupil 49 = .ok (.aload_n 3, 1) := by decide +kernel
theorem dX3_pupil_50 : decode cX3_pupil 50 = .ok (.iload_n 1, 1) := by decide +kernel
theorem dX3_pupil_51 : decode cX3_pupil 51 = .ok (.putfield 72, 3) := by decide +kernel
theorem dX3_pupil_54 : decode cX3_pupil 54 = .ok (.aload_n 3, 1) := by decide +kernel
theorem dX3_pupil_55 : decode cX3_pupil 55 = .ok (.iload_n 2, 1) := by decide +kernel
theorem dX3_pupil_56 : decode cX3_pupil 56 = .ok (.putfield 75, 3) := by decide +kernel
theorem dX3_pupil_59 : decode cX3_pupil 59 = .ok (.aload_n 0, 1) := by decide +kernel
theorem dX3_pupil_60 : decode cX3_pupil 60 = .ok (.dup, 1) := by decide +kernel
theorem dX3_pupil_61 : decode cX3_pupil 61 = .ok (.getfield 69, 3) := by decide +kernel
theorem dX3_pupil_64 : decode cX3_pupil 64 = .ok (.iconst 1, 1) := by decide +kernel
theorem dX3_pupil_65 : decode cX3_pupil 65 = .ok (.iadd, 1) := by decide +kernel
theorem dX3_pupil_66 : decode cX3_pupil 66 = .ok (.putfield 69, 3) := by decide +kernel
theorem dX3_pupil_69 : decode cX3_pupil 69 = .ok (.aload_n 0, 1) := by decide +kernel
theorem dX3_pupil_70 : decode cX3_pupil 70 = .ok (.getfield 69, 3) := by decide +kernel
theorem dX3_pupil_73 : decode cX3_pupil 73 = .ok (.iconst 1, 1) := by decide +kernel
theorem dX3_pupil_74 : decode cX3_pupil 74 = .ok (.isub, 1) := by decide +kernel
theorem dX3_pupil_75 : decode cX3_pupil 75 = .ok (.ireturn, 1) := by decide +kernel
theorem dL_wish_0 : decode cL_wish 0 = .ok (.aload_n 3, 1) := by decide +kernel
theorem dL_wish_1 : decode cL_wish 1 = .ok (.iconst 0, 1) := by decide +kernel
theorem dL_wish_2 : decode cL_wish 2 = .ok (.aload_n 0, 1) := by decide +kernel
theorem dL_wish_3 : decode cL_wish 3 = .ok (.iload_n 1, 1) := by decide +kernel
theorem dL_wish_4 : decode cL_wish 4 = .ok (.iload_n 2, 1) := by decide +kernel
theorem dL_wish_5 : decode cL_wish 5 = .ok (.invokevirtual 25, 3) := by decide +kernel
theorem dL_wish_8 : decode cL_wish 8 = .ok (.i2l, 1) := by decide +kernel
theorem dL_wish_9 : decode cL_wish 9 = .ok (.lastore, 1) := by decide +kernel
theorem dL_wish_10 : decode cL_wish 10 = .ok (.goto 11, 3) := by decide +kernel
theorem dL_wish_13 : decode cL_wish 13 = .ok (.astore 4, 2) := by decide +kernel
theorem dL_wish_15 : decode cL_wish 15 = .ok (.iconst 1, 1) := by decide +kernel
theorem dL_wish_16 : decode cL_wish 16 = .ok (.ireturn, 1) := by decide +kernel
theorem dL_wish_17 : decode cL_wish 17 = .ok (.astore 4, 2) := by decide +kernel
theorem dL_wish_19 : decode cL_wish 19 = .ok (.iconst 2, 1) := by decide +kernel
theorem dL_wish_20 : decode cL_wish 20 = .ok (.ireturn, 1) := by decide +kernel
theorem dL_wish_21 : decode cL_wish 21 = .ok (.iconst 0, 1) := by decide +kernel
theorem dL_wish_22 : decode cL_wish 22 = .ok (.ireturn, 1) := by decide +kernel
theorem dX3_wish_0 : decode cX3_wish 0 = .ok (.aload_n 0, 1) := by decide +kernel
theorem dX3_wish_1 : decode cX3_wish 1 = .ok (.iload_n 1, 1) := by decide +kernel
theorem dX3_wish_2 : decode cX3_wish 2 = .ok (.invokevirtual 78, 3) := by decide +kernel
theorem dX3_wish_5 : decode cX3_wish 5 = .ok (.ifCond .eq 25, 3) := by decide +kernel
theorem dX3_wish_8 : decode cX3_wish 8 = .ok (.aload_n 0, 1) := by decide +kernel
theorem dX3_wish_9 : decode cX3_wish 9 = .ok (.iload_n 2, 1) := by decide +kernel
theorem dX3_wish_10 : decode cX3_wish 10 = .ok (.invokevirtual 43, 3) := by decide +kernel
theorem dX3_wish_13 : decode cX3_wish 13 = .ok (.ifCond .eq 17, 3) := by decide +kernel
theorem dX3_wish_16 : decode cX3_wish 16 = .ok (.aload_n 0, 1) := by decide +kernel
theorem dX3_wish_17 : decode cX3_wish 17 = .ok (.getfield 18, 3) := by decide +kernel
theorem dX3_wish_20 : decode cX3_wish 20 = .ok (.iload_n 1, 1) := by decide +kernel
theorem dX3_wish_21 : decode cX3_wish 21 = .ok (.aaload, 1) := by decide +kernel
theorem dX3_wish_22 : decode cX3_wish 22 = .ok (.iload_n 2, 1) := by decide +kernel
theorem dX3_wish_23 : decode cX3_wish 23 = .ok (.invokevirtual 81, 3) := by decide +kernel
theorem dX3_wish_26 : decode cX3_wish 26 = .ok (.iconst (-1), 1) := by decide +kernel
theorem dX3_wish_27 : decode cX3_wish 27 = .ok (.if_icmp .eq 11, 3) := by decide +kernel
theorem dX3_wish_30 : decode cX3_wish 30 = .ok (.new 47, 3) := by decide +kernel
theorem dX3_wish_33 : decode cX3_wish 33 = .ok (.dup, 1) := by decide +kernel
theorem dX3_wish_34 : decode cX3_wish 34 = .ok (.invokespecial 49, 3) := by decide +kernel
theorem dX3_wish_37 : decode cX3_wish 37 = .ok (.athrow, 1) := by decide +kernel
theorem dX3_wish_38 : decode cX3_wish 38 = .ok (.aload_n 0, 1) := by decide +kernel
theorem dX3_wish_39 : decode cX3_wish 39 = .ok (.getfield 18, 3) := by decide +kernel
theorem dX3_wish_42 : decode cX3_wish 42 = .ok (.iload_n 1, 1) := by decide +kernel
theorem dX3_wish_43 : decode cX3_wish 43 = .ok (.aaload, 1) := by decide +kernel
theorem dX3_wish_44 : decode cX3_wish 44 = .ok (.astore_n 3, 1) := by decide +kernel
theorem dX3_wish_45 : decode cX3_wish 45 = .ok (.aload_n 0, 1) := by decide +kernel
theorem dX3_wish_46 : decode cX3_wish 46 = .ok (.getfield 32, 3) := by decide +kernel
theorem dX3_wish_49 : decode cX3_wish 49 = .ok (.ifCond .ne 11, 3) := by decide +kernel
theorem dX3_wish_52 : decode cX3_wish 52 = .ok (.aload_n 3, 1) := by decide +kernel
theorem dX3_wish_53 : decode cX3_wish 53 = .ok (.getfield 85, 3) := by decide +kernel
theorem dX3_wish_56 : decode cX3_wish 56 = .ok (.iconst 4, 1) := by decide +kernel
theorem dX3_wish_57 : decode cX3_wish 57 = .ok (.if_icmp .lt 11, 3) := by decide +kernel
theorem dX3_wish_60 : decode cX3_wish 60 = .ok (.new 40, 3) := by decide +kernel
theorem dX3_wish_63 : decode cX3_wish 63 = .ok (.dup, 1) := by decide +kernel
theorem dX3_wish_64 : decode cX3_wish 64 = .ok (.invokespecial 42, 3) := by decide +kernel
theorem dX3_wish_67 : decode cX3_wish 67 = .ok (.athrow, 1) := by decide +kernel
theorem dX3_wish_68 : decode cX3_wish 68 = .ok (.aload_n 3, 1) := by decide +kernel
theorem dX3_wish_69 : decode cX3_wish 69 = .ok (.getfield 88, 3) := by decide +kernel
theorem dX3_wish_72 : decode cX3_wish 72 = .ok (.aload_n 3, 1) := by decide +kernel
theorem dX3_wish_73 : decode cX3_wish 73 = .ok (.getfield 85, 3) := by decide +kernel
theorem dX3_wish_76 : decode cX3_wish 76 = .ok (.iload_n 2, 1) := by decide +kernel
theorem dX3_wish_77 : decode cX3_wish 77 = .ok (.iastore, 1) := by decide +kernel
theorem dX3_wish_78 : decode cX3_wish 78 = .ok (.aload_n 3, 1) := by decide +kernel
theorem dX3_wish_79 : decode cX3_wish 79 = .ok (.dup, 1) := by decide +kernel
theorem dX3_wish_80 : decode cX3_wish 80 = .ok (.getfield 85, 3) := by decide +kernel
theorem dX3_wish_83 : decode cX3_wish 83 = .ok (.iconst 1, 1) := by decide +kernel
theorem dX3_wish_84 : decode cX3_wish 84 = .ok (.iadd, 1) := by decide +kernel
theorem dX3_wish_85 : decode cX3_wish 85 = .ok (.putfield 85, 3) := by decide +kernel
theorem dX3_wish_88 : decode cX3_wish 88 = .ok (.aload_n 3, 1) := by decide +kernel
theorem dX3_wish_89 : decode cX3_wish 89 = .ok (.getfield 85, 3) := by decide +kernel
theorem dX3_wish_92 : decode cX3_wish 92 = .ok (.ireturn, 1) := by decide +kernel
theorem dL_run_0 : decode cL_run 0 = .ok (.aload_n 1, 1) := by decide +kernel
theorem dL_run_1 : decode cL_run 1 = .ok (.iconst 0, 1) := by decide +kernel
theorem dL_run_2 : decode cL_run 2 = .ok (.aload_n 0, 1) := by decide +kernel
theorem dL_run_3 : decode cL_run 3 = .ok (.invokevirtual 29, 3) := by decide +kernel
theorem dL_run_6 : decode cL_run 6 = .ok (.i2l, 1) := by decide +kernel
theorem dL_run_7 : decode cL_run 7 = .ok (.lastore, 1) := by decide +kernel
theorem dL_run_8 : decode cL_run 8 = .ok (.goto 6, 3) := by decide +kernel
theorem dL_run_11 : decode cL_run 11 = .ok (.astore_n 2, 1) := by decide +kernel
theorem dL_run_12 : decode cL_run 12 = .ok (.iconst 1, 1) := by decide +kernel
theorem dL_run_13 : decode cL_run 13 = .ok (.ireturn, 1) := by decide +kernel
theorem dL_run_14 : decode cL_run 14 = .ok (.iconst 0, 1) := by decide +kernel
theorem dL_run_15 : decode cL_run 15 = .ok (.ireturn, 1) := by decide +kernel
theorem dX3_run_0 : decode cX3_run 0 = .ok (.aload_n 0, 1) := by decide +kernel
theorem dX3_run_1 : decode cX3_run 1 = .ok (.getfield 32, 3) := by decide +kernel
theorem dX3_run_4 : decode cX3_run 4 = .ok (.ifCond .eq 11, 3) := by decide +kernel
theorem dX3_run_7 : decode cX3_run 7 = .ok (.new 40, 3) := by decide +kernel
theorem dX3_run_10 : decode cX3_run 10 = .ok (.dup, 1) := by decide +kernel
theorem dX3_run_11 : decode cX3_run 11 = .ok (.invokespecial 42, 3) := by decide +kernel
theorem dX3_run_14 : decode cX3_run 14 = .ok (.athrow, 1) := by decide +kernel
theorem dX3_run_15 : decode cX3_run 15 = .ok (.iconst 0, 1) := by decide +kernel
theorem dX3_run_16 : decode cX3_run 16 = .ok (.istore_n 1, 1) := by decide +kernel
theorem dX3_run_17 : decode cX3_run 17 = .ok (.iload_n 1, 1) := by decide +kernel
theorem dX3_run_18 : decode cX3_run 18 = .ok (.bipush 80, 2) := by decide +kernel
theorem dX3_run_20 : decode cX3_run 20 = .ok (.if_icmp .ge 27, 3) := by decide +kernel
theorem dX3_run_23 : decode cX3_run 23 = .ok (.aload_n 0, 1) := by decide +kernel
theorem dX3_run_24 : decode cX3_run 24 = .ok (.invokevirtual 94, 3) := by decide +kernel
theorem dX3_run_27 : decode cX3_run 27 = .ok (.istore_n 2, 1) := by decide +kernel
theorem dX3_run_28 : decode cX3_run 28 = .ok (.iload_n 2, 1) := by decide +kernel
theorem dX3_run_29 : decode cX3_run 29 = .ok (.iconst (-1), 1) := by decide +kernel
theorem dX3_run_30 : decode cX3_run 30 = .ok (.if_icmp .ne 6, 3) := by decide +kernel
theorem dX3_run_33 : decode cX3_run 33 = .ok (.goto 14, 3) := by decide +kernel
theorem dX3_run_36 : decode cX3_run 36 = .ok (.aload_n 0, 1) := by decide +kernel
theorem dX3_run_37 : decode cX3_run 37 = .ok (.iload_n 2, 1) := by decide +kernel
theorem dX3_run_38 : decode cX3_run 38 = .ok (.invokevirtual 98, 3) := by decide +kernel
theorem dX3_run_41 : decode cX3_run 41 = .ok (.iinc 1 1, 3) := by decide +kernel
theorem dX3_run_44 : decode cX3_run 44 = .ok (.goto (-27), 3) := by decide +kernel
theorem dX3_run_47 : decode cX3_run 47 = .ok (.aload_n 0, 1) := by decide +kernel
theorem dX3_run_48 : decode cX3_run 48 = .ok (.iconst 1, 1) := by decide +kernel
theorem dX3_run_49 : decode cX3_run 49 = .ok (.putfield 32, 3) := by decide +kernel
theorem dX3_run_52 : decode cX3_run 52 = .ok (.aload_n 0, 1) := by decide +kernel
theorem dX3_run_53 : decode cX3_run 53 = .ok (.invokevirtual 101, 3) := by decide +kernel
theorem dX3_run_56 : decode cX3_run 56 = .ok (.ireturn, 1) := by decide +kernel
theorem dX3_nextAsker_0 : decode cX3_nextAsker 0 = .ok (.iconst 0, 1) := by decide +kernel
theorem dX3_nextAsker_1 : decode cX3_nextAsker 1 = .ok (.istore_n 1, 1) := by decide +kernel
theorem dX3_nextAsker_2 : decode cX3_nextAsker 2 = .ok (.iload_n 1, 1) := by decide +kernel
theorem dX3_nextAsker_3 : decode cX3_nextAsker 3 = .ok (.aload_n 0, 1) := by decide +kernel
theorem dX3_nextAsker_4 : decode cX3_nextAsker 4 = .ok (.getfield 69, 3) := by decide +kernel
theorem dX3_nextAsker_7 : decode cX3_nextAsker 7 = .ok (.if_icmp .ge 44, 3) := by decide +kernel
theorem dX3_nextAsker_10 : decode cX3_nextAsker 10 = .ok (.aload_n 0, 1) := by decide +kernel
theorem dX3_nextAsker_11 : decode cX3_nextAsker 11 = .ok (.getfield 18, 3) := by decide +kernel
theorem dX3_nextAsker_14 : decode cX3_nextAsker 14 = .ok (.iload_n 1, 1) := by decide +kernel
theorem dX3_nextAsker_15 : decode cX3_nextAsker 15 = .ok (.aaload, 1) := by decide +kernel
theorem dX3_nextAsker_16 : decode cX3_nextAsker 16 = .ok (.invokevirtual 164, 3) := by decide +kernel
theorem dX3_nextAsker_19 : decode cX3_nextAsker 19 = .ok (.ifCond .ne 26, 3) := by decide +kernel
theorem dX3_nextAsker_22 : decode cX3_nextAsker 22 = .ok (.aload_n 0, 1) := by decide +kernel
theorem dX3_nextAsker_23 : decode cX3_nextAsker 23 = .ok (.getfield 18, 3) := by decide +kernel
theorem dX3_nextAsker_26 : decode cX3_nextAsker 26 = .ok (.iload_n 1, 1) := by decide +kernel
theorem dX3_nextAsker_27 : decode cX3_nextAsker 27 = .ok (.aaload, 1) := by decide +kernel
theorem dX3_nextAsker_28 : decode cX3_nextAsker 28 = .ok (.getfield 133, 3) := by decide +kernel
theorem dX3_nextAsker_31 : decode cX3_nextAsker 31 = .ok (.aload_n 0, 1) := by decide +kernel
theorem dX3_nextAsker_32 : decode cX3_nextAsker 32 = .ok (.getfield 18, 3) := by decide +kernel
theorem dX3_nextAsker_35 : decode cX3_nextAsker 35 = .ok (.iload_n 1, 1) := by decide +kernel
theorem dX3_nextAsker_36 : decode cX3_nextAsker 36 = .ok (.aaload, 1) := by decide +kernel
theorem dX3_nextAsker_37 : decode cX3_nextAsker 37 = .ok (.getfield 85, 3) := by decide +kernel
theorem dX3_nextAsker_40 : decode cX3_nextAsker 40 = .ok (.if_icmp .ge 5, 3) := by decide +kernel
theorem dX3_nextAsker_43 : decode cX3_nextAsker 43 = .ok (.iload_n 1, 1) := by decide +kernel
theorem dX3_nextAsker_44 : decode cX3_nextAsker 44 = .ok (.ireturn, 1) := by decide +kernel
theorem dX3_nextAsker_45 : decode cX3_nextAsker 45 = .ok (.iinc 1 1, 3) := by decide +kernel
theorem dX3_nextAsker_48 : decode cX3_nextAsker 48 = .ok (.goto (-46), 3) := by decide +kernel
theorem dX3_nextAsker_51 : decode cX3_nextAsker 51 = .ok (.iconst (-1), 1) := by decide +kernel
theorem dX3_nextAsker_52 : decode cX3_nextAsker 52 = .ok (.ireturn, 1) := by decide +kernel
theorem dX3_askNext_0 : decode cX3_askNext 0 = .ok (.aload_n 0, 1) := by decide +kernel
theorem dX3_askNext_1 : decode cX3_askNext 1 = .ok (.getfield 18, 3) := by decide +kernel
theorem dX3_askNext_4 : decode cX3_askNext 4 = .ok (.iload_n 1, 1) := by decide +kernel
theorem dX3_askNext_5 : decode cX3_askNext 5 = .ok (.aaload, 1) := by decide +kernel
theorem dX3_askNext_6 : decode cX3_askNext 6 = .ok (.astore_n 2, 1) := by decide +kernel
theorem dX3_askNext_7 : decode cX3_askNext 7 = .ok (.aload_n 2, 1) := by decide +kernel
theorem dX3_askNext_8 : decode cX3_askNext 8 = .ok (.getfield 88, 3) := by decide +kernel
theorem dX3_askNext_11 : decode cX3_askNext 11 = .ok (.aload_n 2, 1) := by decide +kernel
theorem dX3_askNext_12 : decode cX3_askNext 12 = .ok (.getfield 133, 3) := by decide +kernel
theorem dX3_askNext_15 : decode cX3_askNext 15 = .ok (.iaload, 1) := by decide +kernel
theorem dX3_askNext_16 : decode cX3_askNext 16 = .ok (.istore_n 3, 1) := by decide +kernel
theorem dX3_askNext_17 : decode cX3_askNext 17 = .ok (.aload_n 2, 1) := by decide +kernel
theorem dX3_askNext_18 : decode cX3_askNext 18 = .ok (.dup, 1) := by decide +kernel
theorem dX3_askNext_19 : decode cX3_askNext 19 = .ok (.getfield 133, 3) := by decide +kernel
theorem dX3_askNext_22 : decode cX3_askNext 22 = .ok (.iconst 1, 1) := by decide +kernel
theorem dX3_askNext_23 : decode cX3_askNext 23 = .ok (.iadd, 1) := by decide +kernel
theorem dX3_askNext_24 : decode cX3_askNext 24 = .ok (.putfield 133, 3) := by decide +kernel
theorem dX3_askNext_27 : decode cX3_askNext 27 = .ok (.aload_n 0, 1) := by decide +kernel
theorem dX3_askNext_28 : decode cX3_askNext 28 = .ok (.iload_n 3, 1) := by decide +kernel
theorem dX3_askNext_29 : decode cX3_askNext 29 = .ok (.iload_n 1, 1) := by decide +kernel
theorem dX3_askNext_30 : decode cX3_askNext 30 = .ok (.invokevirtual 173, 3) := by decide +kernel
theorem dX3_askNext_33 : decode cX3_askNext 33 = .ok (.iconst 0, 1) := by decide +kernel
theorem dX3_askNext_34 : decode cX3_askNext 34 = .ok (.istore 4, 2) := by decide +kernel
theorem dX3_askNext_36 : decode cX3_askNext 36 = .ok (.iload 4, 2) := by decide +kernel
theorem dX3_askNext_38 : decode cX3_askNext 38 = .ok (.aload_n 0, 1) := by decide +kernel
theorem dX3_askNext_39 : decode cX3_askNext 39 = .ok (.getfield 176, 3) := by decide +kernel
theorem dX3_askNext_42 : decode cX3_askNext 42 = .ok (.if_icmp .ge 24, 3) := by decide +kernel
theorem dX3_askNext_45 : decode cX3_askNext 45 = .ok (.aload_n 0, 1) := by decide +kernel
theorem dX3_askNext_46 : decode cX3_askNext 46 = .ok (.getfield 18, 3) := by decide +kernel
theorem dX3_askNext_49 : decode cX3_askNext 49 = .ok (.aload_n 0, 1) := by decide +kernel
theorem dX3_askNext_50 : decode cX3_askNext 50 = .ok (.getfield 25, 3) := by decide +kernel
theorem dX3_askNext_53 : decode cX3_askNext 53 = .ok (.iload 4, 2) := by decide +kernel
theorem dX3_askNext_55 : decode cX3_askNext 55 = .ok (.iaload, 1) := by decide +kernel
theorem dX3_askNext_56 : decode cX3_askNext 56 = .ok (.aaload, 1) := by decide +kernel
theorem dX3_askNext_57 : decode cX3_askNext 57 = .ok (.invokevirtual 179, 3) := by decide +kernel
theorem dX3_askNext_60 : decode cX3_askNext 60 = .ok (.iinc 4 1, 3) := by decide +kernel
theorem dX3_askNext_63 : decode cX3_askNext 63 = .ok (.goto (-27), 3) := by decide +kernel
theorem dX3_askNext_66 : decode cX3_askNext 66 = .ok (.iconst 0, 1) := by decide +kernel
theorem dX3_askNext_67 : decode cX3_askNext 67 = .ok (.istore 4, 2) := by decide +kernel
theorem dX3_askNext_69 : decode cX3_askNext 69 = .ok (.iload 4, 2) := by decide +kernel
theorem dX3_askNext_71 : decode cX3_askNext 71 = .ok (.aload_n 0, 1) := by decide +kernel
theorem dX3_askNext_72 : decode cX3_askNext 72 = .ok (.getfield 69, 3) := by decide +kernel
theorem dX3_askNext_75 : decode cX3_askNext 75 = .ok (.if_icmp .ge 38, 3) := by decide +kernel
theorem dX3_askNext_78 : decode cX3_askNext 78 = .ok (.aload_n 0, 1) := by decide +kernel
theorem dX3_askNext_79 : decode cX3_askNext 79 = .ok (.getfield 29, 3) := by decide +kernel
theorem dX3_askNext_82 : decode cX3_askNext 82 = .ok (.iload 4, 2) := by decide +kernel
theorem dX3_askNext_84 : decode cX3_askNext 84 = .ok (.iaload, 1) := by decide +kernel
theorem dX3_askNext_85 : decode cX3_askNext 85 = .ok (.iconst (-1), 1) := by decide +kernel
theorem dX3_askNext_86 : decode cX3_askNext 86 = .ok (.if_icmp .eq 21, 3) := by decide +kernel
theorem dX3_askNext_89 : decode cX3_askNext 89 = .ok (.aload_n 0, 1) := by decide +kernel
theorem dX3_askNext_90 : decode cX3_askNext 90 = .ok (.getfield 18, 3) := by decide +kernel
theorem dX3_askNext_93 : decode cX3_askNext 93 = .ok (.iload 4, 2) := by decide +kernel
theorem dX3_askNext_95 : decode cX3_askNext 95 = .ok (.aaload, 1) := by decide +kernel
theorem dX3_askNext_96 : decode cX3_askNext 96 = .ok (.iload_n 3, 1) := by decide +kernel
theorem dX3_askNext_97 : decode cX3_askNext 97 = .ok (.aload_n 0, 1) := by decide +kernel
theorem dX3_askNext_98 : decode cX3_askNext 98 = .ok (.getfield 29, 3) := by decide +kernel
theorem dX3_askNext_101 : decode cX3_askNext 101 = .ok (.iload 4, 2) := by decide +kernel
theorem dX3_askNext_103 : decode cX3_askNext 103 = .ok (.iaload, 1) := by decide +kernel
theorem dX3_askNext_104 : decode cX3_askNext 104 = .ok (.invokevirtual 126, 3) := by decide +kernel
theorem dX3_askNext_107 : decode cX3_askNext 107 = .ok (.iinc 4 1, 3) := by decide +kernel
theorem dX3_askNext_110 : decode cX3_askNext 110 = .ok (.goto (-41), 3) := by decide +kernel
theorem dX3_askNext_113 : decode cX3_askNext 113 = .ok (.return_, 1) := by decide +kernel
theorem dL_chain_0 : decode cL_chain 0 = .ok (.aload_n 1, 1) := by decide +kernel
theorem dL_chain_1 : decode cL_chain 1 = .ok (.iconst 0, 1) := by decide +kernel
theorem dL_chain_2 : decode cL_chain 2 = .ok (.aload_n 0, 1) := by decide +kernel
theorem dL_chain_3 : decode cL_chain 3 = .ok (.invokevirtual 32, 3) := by decide +kernel
theorem dL_chain_6 : decode cL_chain 6 = .ok (.i2l, 1) := by decide +kernel
theorem dL_chain_7 : decode cL_chain 7 = .ok (.lastore, 1) := by decide +kernel
theorem dL_chain_8 : decode cL_chain 8 = .ok (.goto 6, 3) := by decide +kernel
theorem dL_chain_11 : decode cL_chain 11 = .ok (.astore_n 2, 1) := by decide +kernel
theorem dL_chain_12 : decode cL_chain 12 = .ok (.iconst 1, 1) := by decide +kernel
theorem dL_chain_13 : decode cL_chain 13 = .ok (.ireturn, 1) := by decide +kernel
theorem dL_chain_14 : decode cL_chain 14 = .ok (.iconst 0, 1) := by decide +kernel
theorem dL_chain_15 : decode cL_chain 15 = .ok (.ireturn, 1) := by decide +kernel
theorem dX3_chain_0 : decode cX3_chain 0 = .ok (.aload_n 0, 1) := by decide +kernel
theorem dX3_chain_1 : decode cX3_chain 1 = .ok (.getfield 32, 3) := by decide +kernel
theorem dX3_chain_4 : decode cX3_chain 4 = .ok (.ifCond .ne 11, 3) := by decide +kernel
theorem dX3_chain_7 : decode cX3_chain 7 = .ok (.new 40, 3) := by decide +kernel
theorem dX3_chain_10 : decode cX3_chain 10 = .ok (.dup, 1) := by decide +kernel
theorem dX3_chain_11 : decode cX3_chain 11 = .ok (.invokespecial 42, 3) := by decide +kernel
theorem dX3_chain_14 : decode cX3_chain 14 = .ok (.athrow, 1) := by decide +kernel
theorem dX3_chain_15 : decode cX3_chain 15 = .ok (.iconst 0, 1) := by decide +kernel
theorem dX3_chain_16 : decode cX3_chain 16 = .ok (.istore_n 1, 1) := by decide +kernel
theorem dX3_chain_17 : decode cX3_chain 17 = .ok (.iload_n 1, 1) := by decide +kernel
theorem dX3_chain_18 : decode cX3_chain 18 = .ok (.bipush 80, 2) := by decide +kernel
theorem dX3_chain_20 : decode cX3_chain 20 = .ok (.if_icmp .ge 16, 3) := by decide +kernel
theorem dX3_chain_23 : decode cX3_chain 23 = .ok (.aload_n 0, 1) := by decide +kernel
theorem dX3_chain_24 : decode cX3_chain 24 = .ok (.invokevirtual 120, 3) := by decide +kernel
theorem dX3_chain_27 : decode cX3_chain 27 = .ok (.ifCond .eq 9, 3) := by decide +kernel
theorem dX3_chain_30 : decode cX3_chain 30 = .ok (.iinc 1 1, 3) := by decide +kernel
theorem dX3_chain_33 : decode cX3_chain 33 = .ok (.goto (-16), 3) := by decide +kernel
theorem dX3_chain_36 : decode cX3_chain 36 = .ok (.iload_n 1, 1) := by decide +kernel
theorem dX3_chain_37 : decode cX3_chain 37 = .ok (.ireturn, 1) := by decide +kernel
theorem dX3_moveOne_0 : decode cX3_moveOne 0 = .ok (.iconst 0, 1) := by decide +kernel
theorem dX3_moveOne_1 : decode cX3_moveOne 1 = .ok (.istore_n 1, 1) := by decide +kernel
theorem dX3_moveOne_2 : decode cX3_moveOne 2 = .ok (.iload_n 1, 1) := by decide +kernel
theorem dX3_moveOne_3 : decode cX3_moveOne 3 = .ok (.aload_n 0, 1) := by decide +kernel
theorem dX3_moveOne_4 : decode cX3_moveOne 4 = .ok (.getfield 36, 3) := by decide +kernel
theorem dX3_moveOne_7 : decode cX3_moveOne 7 = .ok (.if_icmp .ge 78, 3) := by decide +kernel
theorem dX3_moveOne_10 : decode cX3_moveOne 10 = .ok (.iconst 0, 1) := by decide +kernel
theorem dX3_moveOne_11 : decode cX3_moveOne 11 = .ok (.istore_n 2, 1) := by decide +kernel
theorem dX3_moveOne_12 : decode cX3_moveOne 12 = .ok (.iload_n 2, 1) := by decide +kernel
theorem dX3_moveOne_13 : decode cX3_moveOne 13 = .ok (.aload_n 0, 1) := by decide +kernel
theorem dX3_moveOne_14 : decode cX3_moveOne 14 = .ok (.getfield 11, 3) := by decide +kernel
theorem dX3_moveOne_17 : decode cX3_moveOne 17 = .ok (.iload_n 1, 1) := by decide +kernel
theorem dX3_moveOne_18 : decode cX3_moveOne 18 = .ok (.aaload, 1) := by decide +kernel
theorem dX3_moveOne_19 : decode cX3_moveOne 19 = .ok (.getfield 50, 3) := by decide +kernel
theorem dX3_moveOne_22 : decode cX3_moveOne 22 = .ok (.if_icmp .ge 57, 3) := by decide +kernel
theorem dX3_moveOne_25 : decode cX3_moveOne 25 = .ok (.aload_n 0, 1) := by decide +kernel
end
section
/-! decode rows, made by a program of mine -/
theorem dX3_moveOne_26 : decode cX3_moveOne 26 = .ok (.iload_n 1, 1) := by decide +kernel
theorem dX3_moveOne_27 : decode cX3_moveOne 27 = .ok (.iload_n 2, 1) := by decide +kernel
theorem dX3_moveOne_28 : decode cX3_moveOne 28 = .ok (.invokevirtual 139, 3) := by decide +kernel
theorem dX3_moveOne_31 : decode cX3_moveOne 31 = .ok (.aload_n 0, 1) := by decide +kernel
theorem dX3_moveOne_32 : decode cX3_moveOne 32 = .ok (.getfield 11, 3) := by decide +kernel
theorem dX3_moveOne_35 : decode cX3_moveOne 35 = .ok (.iload_n 1, 1) := by decide +kernel
theorem dX3_moveOne_36 : decode cX3_moveOne 36 = .ok (.aaload, 1) := by decide +kernel
theorem dX3_moveOne_37 : decode cX3_moveOne 37 = .ok (.getfield 53, 3) := by decide +kernel
theorem dX3_moveOne_40 : decode cX3_moveOne 40 = .ok (.iload_n 2, 1) := by decide +kernel
theorem dX3_moveOne_41 : decode cX3_moveOne 41 = .ok (.aaload, 1) := by decide +kernel
theorem dX3_moveOne_42 : decode cX3_moveOne 42 = .ok (.getfield 57, 3) := by decide +kernel
theorem dX3_moveOne_45 : decode cX3_moveOne 45 = .ok (.if_icmp .ge 28, 3) := by decide +kernel
theorem dX3_moveOne_48 : decode cX3_moveOne 48 = .ok (.aload_n 0, 1) := by decide +kernel
theorem dX3_moveOne_49 : decode cX3_moveOne 49 = .ok (.iload_n 1, 1) := by decide +kernel
theorem dX3_moveOne_50 : decode cX3_moveOne 50 = .ok (.iload_n 2, 1) := by decide +kernel
theorem dX3_moveOne_51 : decode cX3_moveOne 51 = .ok (.invokevirtual 191, 3) := by decide +kernel
theorem dX3_moveOne_54 : decode cX3_moveOne 54 = .ok (.istore_n 3, 1) := by decide +kernel
theorem dX3_moveOne_55 : decode cX3_moveOne 55 = .ok (.iload_n 3, 1) := by decide +kernel
theorem dX3_moveOne_56 : decode cX3_moveOne 56 = .ok (.iconst (-1), 1) := by decide +kernel
theorem dX3_moveOne_57 : decode cX3_moveOne 57 = .ok (.if_icmp .eq 16, 3) := by decide +kernel
theorem dX3_moveOne_60 : decode cX3_moveOne 60 = .ok (.aload_n 0, 1) := by decide +kernel
theorem dX3_moveOne_61 : decode cX3_moveOne 61 = .ok (.getfield 18, 3) := by decide +kernel
theorem dX3_moveOne_64 : decode cX3_moveOne 64 = .ok (.iload_n 3, 1) := by decide +kernel
theorem dX3_moveOne_65 : decode cX3_moveOne 65 = .ok (.aaload, 1) := by decide +kernel
theorem dX3_moveOne_66 : decode cX3_moveOne 66 = .ok (.iload_n 1, 1) := by decide +kernel
theorem dX3_moveOne_67 : decode cX3_moveOne 67 = .ok (.iload_n 2, 1) := by decide +kernel
theorem dX3_moveOne_68 : decode cX3_moveOne 68 = .ok (.invokevirtual 126, 3) := by decide +kernel
theorem dX3_moveOne_71 : decode cX3_moveOne 71 = .ok (.iconst 1, 1) := by decide +kernel
theorem dX3_moveOne_72 : decode cX3_moveOne 72 = .ok (.ireturn, 1) := by decide +kernel
theorem dX3_moveOne_73 : decode cX3_moveOne 73 = .ok (.iinc 2 1, 3) := by decide +kernel
theorem dX3_moveOne_76 : decode cX3_moveOne 76 = .ok (.goto (-64), 3) := by decide +kernel
theorem dX3_moveOne_79 : decode cX3_moveOne 79 = .ok (.iinc 1 1, 3) := by decide +kernel
theorem dX3_moveOne_82 : decode cX3_moveOne 82 = .ok (.goto (-80), 3) := by decide +kernel
theorem dX3_moveOne_85 : decode cX3_moveOne 85 = .ok (.iconst 0, 1) := by decide +kernel
theorem dX3_moveOne_86 : decode cX3_moveOne 86 = .ok (.ireturn, 1) := by decide +kernel
theorem dX3_firstWaiting_0 : decode cX3_firstWaiting 0 = .ok (.iconst (-1), 1) := by decide +kernel
theorem dX3_firstWaiting_1 : decode cX3_firstWaiting 1 = .ok (.istore_n 3, 1) := by decide +kernel
theorem dX3_firstWaiting_2 : decode cX3_firstWaiting 2 = .ok (.ldc 157, 2) := by decide +kernel
theorem dX3_firstWaiting_4 : decode cX3_firstWaiting 4 = .ok (.istore 4, 2) := by decide +kernel
theorem dX3_firstWaiting_6 : decode cX3_firstWaiting 6 = .ok (.iconst 0, 1) := by decide +kernel
theorem dX3_firstWaiting_7 : decode cX3_firstWaiting 7 = .ok (.istore 5, 2) := by decide +kernel
theorem dX3_firstWaiting_9 : decode cX3_firstWaiting 9 = .ok (.iload 5, 2) := by decide +kernel
theorem dX3_firstWaiting_11 : decode cX3_firstWaiting 11 = .ok (.aload_n 0, 1) := by decide +kernel
theorem dX3_firstWaiting_12 : decode cX3_firstWaiting 12 = .ok (.getfield 69, 3) := by decide +kernel
theorem dX3_firstWaiting_15 : decode cX3_firstWaiting 15 = .ok (.if_icmp .ge 47, 3) := by decide +kernel
theorem dX3_firstWaiting_18 : decode cX3_firstWaiting 18 = .ok (.aload_n 0, 1) := by decide +kernel
theorem dX3_firstWaiting_19 : decode cX3_firstWaiting 19 = .ok (.getfield 18, 3) := by decide +kernel
theorem dX3_firstWaiting_22 : decode cX3_firstWaiting 22 = .ok (.iload 5, 2) := by decide +kernel
theorem dX3_firstWaiting_24 : decode cX3_firstWaiting 24 = .ok (.aaload, 1) := by decide +kernel
theorem dX3_firstWaiting_25 : decode cX3_firstWaiting 25 = .ok (.iload_n 1, 1) := by decide +kernel
theorem dX3_firstWaiting_26 : decode cX3_firstWaiting 26 = .ok (.invokevirtual 194, 3) := by decide +kernel
theorem dX3_firstWaiting_29 : decode cX3_firstWaiting 29 = .ok (.ifCond .eq 27, 3) := by decide +kernel
theorem dX3_firstWaiting_32 : decode cX3_firstWaiting 32 = .ok (.aload_n 0, 1) := by decide +kernel
theorem dX3_firstWaiting_33 : decode cX3_firstWaiting 33 = .ok (.iload 5, 2) := by decide +kernel
theorem dX3_firstWaiting_35 : decode cX3_firstWaiting 35 = .ok (.iload_n 1, 1) := by decide +kernel
theorem dX3_firstWaiting_36 : decode cX3_firstWaiting 36 = .ok (.iload_n 2, 1) := by decide +kernel
theorem dX3_firstWaiting_37 : decode cX3_firstWaiting 37 = .ok (.invokevirtual 153, 3) := by decide +kernel
theorem dX3_firstWaiting_40 : decode cX3_firstWaiting 40 = .ok (.istore 6, 2) := by decide +kernel
theorem dX3_firstWaiting_42 : decode cX3_firstWaiting 42 = .ok (.iload 6, 2) := by decide +kernel
theorem dX3_firstWaiting_44 : decode cX3_firstWaiting 44 = .ok (.iload 4, 2) := by decide +kernel
theorem dX3_firstWaiting_46 : decode cX3_firstWaiting 46 = .ok (.if_icmp .ge 10, 3) := by decide +kernel
theorem dX3_firstWaiting_49 : decode cX3_firstWaiting 49 = .ok (.iload 5, 2) := by decide +kernel
theorem dX3_firstWaiting_51 : decode cX3_firstWaiting 51 = .ok (.istore_n 3, 1) := by decide +kernel
theorem dX3_firstWaiting_52 : decode cX3_firstWaiting 52 = .ok (.iload 6, 2) := by decide +kernel
theorem dX3_firstWaiting_54 : decode cX3_firstWaiting 54 = .ok (.istore 4, 2) := by decide +kernel
theorem dX3_firstWaiting_56 : decode cX3_firstWaiting 56 = .ok (.iinc 5 1, 3) := by decide +kernel
theorem dX3_firstWaiting_59 : decode cX3_firstWaiting 59 = .ok (.goto (-50), 3) := by decide +kernel
theorem dX3_firstWaiting_62 : decode cX3_firstWaiting 62 = .ok (.iload_n 3, 1) := by decide +kernel
theorem dX3_firstWaiting_63 : decode cX3_firstWaiting 63 = .ok (.ireturn, 1) := by decide +kernel
theorem dX1_waitsFor_0 : decode cX1_waitsFor 0 = .ok (.aload_n 0, 1) := by decide +kernel
theorem dX1_waitsFor_1 : decode cX1_waitsFor 1 = .ok (.iload_n 1, 1) := by decide +kernel
theorem dX1_waitsFor_2 : decode cX1_waitsFor 2 = .ok (.invokevirtual 39, 3) := by decide +kernel
theorem dX1_waitsFor_5 : decode cX1_waitsFor 5 = .ok (.ifCond .eq 19, 3) := by decide +kernel
theorem dX1_waitsFor_8 : decode cX1_waitsFor 8 = .ok (.aload_n 0, 1) := by decide +kernel
theorem dX1_waitsFor_9 : decode cX1_waitsFor 9 = .ok (.iload_n 1, 1) := by decide +kernel
theorem dX1_waitsFor_10 : decode cX1_waitsFor 10 = .ok (.invokevirtual 31, 3) := by decide +kernel
theorem dX1_waitsFor_13 : decode cX1_waitsFor 13 = .ok (.aload_n 0, 1) := by decide +kernel
theorem dX1_waitsFor_14 : decode cX1_waitsFor 14 = .ok (.getfield 43, 3) := by decide +kernel
theorem dX1_waitsFor_17 : decode cX1_waitsFor 17 = .ok (.if_icmp .ge 7, 3) := by decide +kernel
theorem dX1_waitsFor_20 : decode cX1_waitsFor 20 = .ok (.iconst 1, 1) := by decide +kernel
theorem dX1_waitsFor_21 : decode cX1_waitsFor 21 = .ok (.goto 4, 3) := by decide +kernel
theorem dX1_waitsFor_24 : decode cX1_waitsFor 24 = .ok (.iconst 0, 1) := by decide +kernel
theorem dX1_waitsFor_25 : decode cX1_waitsFor 25 = .ok (.ireturn, 1) := by decide +kernel
theorem dL_over_0 : decode cL_over 0 = .ok (.aload_n 3, 1) := by decide +kernel
theorem dL_over_1 : decode cL_over 1 = .ok (.iconst 0, 1) := by decide +kernel
theorem dL_over_2 : decode cL_over 2 = .ok (.aload_n 0, 1) := by decide +kernel
theorem dL_over_3 : decode cL_over 3 = .ok (.iload_n 1, 1) := by decide +kernel
theorem dL_over_4 : decode cL_over 4 = .ok (.iload_n 2, 1) := by decide +kernel
theorem dL_over_5 : decode cL_over 5 = .ok (.invokevirtual 35, 3) := by decide +kernel
theorem dL_over_8 : decode cL_over 8 = .ok (.ifCond .eq 7, 3) := by decide +kernel
theorem dL_over_11 : decode cL_over 11 = .ok (.lconst 1, 1) := by decide +kernel
theorem dL_over_12 : decode cL_over 12 = .ok (.goto 4, 3) := by decide +kernel
theorem dL_over_15 : decode cL_over 15 = .ok (.lconst 0, 1) := by decide +kernel
theorem dL_over_16 : decode cL_over 16 = .ok (.lastore, 1) := by decide +kernel
theorem dL_over_17 : decode cL_over 17 = .ok (.goto 11, 3) := by decide +kernel
theorem dL_over_20 : decode cL_over 20 = .ok (.astore 4, 2) := by decide +kernel
theorem dL_over_22 : decode cL_over 22 = .ok (.iconst 1, 1) := by decide +kernel
theorem dL_over_23 : decode cL_over 23 = .ok (.ireturn, 1) := by decide +kernel
theorem dL_over_24 : decode cL_over 24 = .ok (.astore 4, 2) := by decide +kernel
theorem dL_over_26 : decode cL_over 26 = .ok (.iconst 2, 1) := by decide +kernel
theorem dL_over_27 : decode cL_over 27 = .ok (.ireturn, 1) := by decide +kernel
theorem dL_over_28 : decode cL_over 28 = .ok (.iconst 0, 1) := by decide +kernel
theorem dL_over_29 : decode cL_over 29 = .ok (.ireturn, 1) := by decide +kernel
theorem dX3_over_0 : decode cX3_over 0 = .ok (.aload_n 0, 1) := by decide +kernel
theorem dX3_over_1 : decode cX3_over 1 = .ok (.iload_n 1, 1) := by decide +kernel
theorem dX3_over_2 : decode cX3_over 2 = .ok (.invokevirtual 78, 3) := by decide +kernel
theorem dX3_over_5 : decode cX3_over 5 = .ok (.ifCond .ne 11, 3) := by decide +kernel
theorem dX3_over_8 : decode cX3_over 8 = .ok (.new 47, 3) := by decide +kernel
theorem dX3_over_11 : decode cX3_over 11 = .ok (.dup, 1) := by decide +kernel
theorem dX3_over_12 : decode cX3_over 12 = .ok (.invokespecial 49, 3) := by decide +kernel
theorem dX3_over_15 : decode cX3_over 15 = .ok (.athrow, 1) := by decide +kernel
theorem dX3_over_16 : decode cX3_over 16 = .ok (.aload_n 0, 1) := by decide +kernel
theorem dX3_over_17 : decode cX3_over 17 = .ok (.getfield 18, 3) := by decide +kernel
theorem dX3_over_20 : decode cX3_over 20 = .ok (.iload_n 1, 1) := by decide +kernel
theorem dX3_over_21 : decode cX3_over 21 = .ok (.aaload, 1) := by decide +kernel
theorem dX3_over_22 : decode cX3_over 22 = .ok (.astore_n 3, 1) := by decide +kernel
theorem dX3_over_23 : decode cX3_over 23 = .ok (.aload_n 3, 1) := by decide +kernel
theorem dX3_over_24 : decode cX3_over 24 = .ok (.iload_n 2, 1) := by decide +kernel
theorem dX3_over_25 : decode cX3_over 25 = .ok (.invokevirtual 81, 3) := by decide +kernel
theorem dX3_over_28 : decode cX3_over 28 = .ok (.iconst (-1), 1) := by decide +kernel
theorem dX3_over_29 : decode cX3_over 29 = .ok (.if_icmp .eq 11, 3) := by decide +kernel
theorem dX3_over_32 : decode cX3_over 32 = .ok (.aload_n 3, 1) := by decide +kernel
theorem dX3_over_33 : decode cX3_over 33 = .ok (.getfield 123, 3) := by decide +kernel
theorem dX3_over_36 : decode cX3_over 36 = .ok (.iload_n 2, 1) := by decide +kernel
theorem dX3_over_37 : decode cX3_over 37 = .ok (.if_icmp .ne 11, 3) := by decide +kernel
theorem dX3_over_40 : decode cX3_over 40 = .ok (.new 47, 3) := by decide +kernel
theorem dX3_over_43 : decode cX3_over 43 = .ok (.dup, 1) := by decide +kernel
theorem dX3_over_44 : decode cX3_over 44 = .ok (.invokespecial 49, 3) := by decide +kernel
theorem dX3_over_47 : decode cX3_over 47 = .ok (.athrow, 1) := by decide +kernel
theorem dX3_over_48 : decode cX3_over 48 = .ok (.aload_n 0, 1) := by decide +kernel
theorem dX3_over_49 : decode cX3_over 49 = .ok (.getfield 32, 3) := by decide +kernel
theorem dX3_over_52 : decode cX3_over 52 = .ok (.ifCond .eq 10, 3) := by decide +kernel
theorem dX3_over_55 : decode cX3_over 55 = .ok (.aload_n 3, 1) := by decide +kernel
theorem dX3_over_56 : decode cX3_over 56 = .ok (.invokevirtual 104, 3) := by decide +kernel
theorem dX3_over_59 : decode cX3_over 59 = .ok (.ifCond .eq 11, 3) := by decide +kernel
theorem dX3_over_62 : decode cX3_over 62 = .ok (.new 40, 3) := by decide +kernel
theorem dX3_over_65 : decode cX3_over 65 = .ok (.dup, 1) := by decide +kernel
theorem dX3_over_66 : decode cX3_over 66 = .ok (.invokespecial 42, 3) := by decide +kernel
theorem dX3_over_69 : decode cX3_over 69 = .ok (.athrow, 1) := by decide +kernel
theorem dX3_over_70 : decode cX3_over 70 = .ok (.aload_n 3, 1) := by decide +kernel
theorem dX3_over_71 : decode cX3_over 71 = .ok (.iload_n 2, 1) := by decide +kernel
theorem dX3_over_72 : decode cX3_over 72 = .ok (.iconst (-1), 1) := by decide +kernel
theorem dX3_over_73 : decode cX3_over 73 = .ok (.invokevirtual 126, 3) := by decide +kernel
theorem dX3_over_76 : decode cX3_over 76 = .ok (.iconst 1, 1) := by decide +kernel
theorem dX3_over_77 : decode cX3_over 77 = .ok (.ireturn, 1) := by decide +kernel
theorem dL_envies_0 : decode cL_envies 0 = .ok (.aload_n 3, 1) := by decide +kernel
theorem dL_envies_1 : decode cL_envies 1 = .ok (.iconst 0, 1) := by decide +kernel
theorem dL_envies_2 : decode cL_envies 2 = .ok (.aload_n 0, 1) := by decide +kernel
theorem dL_envies_3 : decode cL_envies 3 = .ok (.iload_n 1, 1) := by decide +kernel
theorem dL_envies_4 : decode cL_envies 4 = .ok (.iload_n 2, 1) := by decide +kernel
theorem dL_envies_5 : decode cL_envies 5 = .ok (.invokevirtual 39, 3) := by decide +kernel
theorem dL_envies_8 : decode cL_envies 8 = .ok (.ifCond .eq 7, 3) := by decide +kernel
theorem dL_envies_11 : decode cL_envies 11 = .ok (.lconst 1, 1) := by decide +kernel
theorem dL_envies_12 : decode cL_envies 12 = .ok (.goto 4, 3) := by decide +kernel
theorem dL_envies_15 : decode cL_envies 15 = .ok (.lconst 0, 1) := by decide +kernel
theorem dL_envies_16 : decode cL_envies 16 = .ok (.lastore, 1) := by decide +kernel
theorem dL_envies_17 : decode cL_envies 17 = .ok (.goto 7, 3) := by decide +kernel
theorem dL_envies_20 : decode cL_envies 20 = .ok (.astore 4, 2) := by decide +kernel
theorem dL_envies_22 : decode cL_envies 22 = .ok (.iconst 1, 1) := by decide +kernel
theorem dL_envies_23 : decode cL_envies 23 = .ok (.ireturn, 1) := by decide +kernel
theorem dL_envies_24 : decode cL_envies 24 = .ok (.iconst 0, 1) := by decide +kernel
theorem dL_envies_25 : decode cL_envies 25 = .ok (.ireturn, 1) := by decide +kernel
theorem dX3_envies_0 : decode cX3_envies 0 = .ok (.aload_n 0, 1) := by decide +kernel
theorem dX3_envies_1 : decode cX3_envies 1 = .ok (.iload_n 1, 1) := by decide +kernel
theorem dX3_envies_2 : decode cX3_envies 2 = .ok (.invokevirtual 78, 3) := by decide +kernel
theorem dX3_envies_5 : decode cX3_envies 5 = .ok (.ifCond .eq 24, 3) := by decide +kernel
theorem dX3_envies_8 : decode cX3_envies 8 = .ok (.aload_n 0, 1) := by decide +kernel
theorem dX3_envies_9 : decode cX3_envies 9 = .ok (.iload_n 2, 1) := by decide +kernel
theorem dX3_envies_10 : decode cX3_envies 10 = .ok (.invokevirtual 78, 3) := by decide +kernel
theorem dX3_envies_13 : decode cX3_envies 13 = .ok (.ifCond .eq 16, 3) := by decide +kernel
theorem dX3_envies_16 : decode cX3_envies 16 = .ok (.aload_n 0, 1) := by decide +kernel
theorem dX3_envies_17 : decode cX3_envies 17 = .ok (.getfield 18, 3) := by decide +kernel
theorem dX3_envies_20 : decode cX3_envies 20 = .ok (.iload_n 2, 1) := by decide +kernel
theorem dX3_envies_21 : decode cX3_envies 21 = .ok (.aaload, 1) := by decide +kernel
theorem dX3_envies_22 : decode cX3_envies 22 = .ok (.getfield 130, 3) := by decide +kernel
theorem dX3_envies_25 : decode cX3_envies 25 = .ok (.iconst (-1), 1) := by decide +kernel
theorem dX3_envies_26 : decode cX3_envies 26 = .ok (.if_icmp .ne 11, 3) := by decide +kernel
theorem dX3_envies_29 : decode cX3_envies 29 = .ok (.new 47, 3) := by decide +kernel
theorem dX3_envies_32 : decode cX3_envies 32 = .ok (.dup, 1) := by decide +kernel
theorem dX3_envies_33 : decode cX3_envies 33 = .ok (.invokespecial 49, 3) := by decide +kernel
theorem dX3_envies_36 : decode cX3_envies 36 = .ok (.athrow, 1) := by decide +kernel
theorem dX3_envies_37 : decode cX3_envies 37 = .ok (.aload_n 0, 1) := by decide +kernel
theorem dX3_envies_38 : decode cX3_envies 38 = .ok (.getfield 18, 3) := by decide +kernel
theorem dX3_envies_41 : decode cX3_envies 41 = .ok (.iload_n 2, 1) := by decide +kernel
theorem dX3_envies_42 : decode cX3_envies 42 = .ok (.aaload, 1) := by decide +kernel
theorem dX3_envies_43 : decode cX3_envies 43 = .ok (.getfield 123, 3) := by decide +kernel
theorem dX3_envies_46 : decode cX3_envies 46 = .ok (.istore_n 3, 1) := by decide +kernel
theorem dX3_envies_47 : decode cX3_envies 47 = .ok (.aload_n 0, 1) := by decide +kernel
theorem dX3_envies_48 : decode cX3_envies 48 = .ok (.getfield 18, 3) := by decide +kernel
theorem dX3_envies_51 : decode cX3_envies 51 = .ok (.iload_n 2, 1) := by decide +kernel
theorem dX3_envies_52 : decode cX3_envies 52 = .ok (.aaload, 1) := by decide +kernel
theorem dX3_envies_53 : decode cX3_envies 53 = .ok (.getfield 130, 3) := by decide +kernel
theorem dX3_envies_56 : decode cX3_envies 56 = .ok (.istore 4, 2) := by decide +kernel
theorem dX3_envies_58 : decode cX3_envies 58 = .ok (.aload_n 0, 1) := by decide +kernel
theorem dX3_envies_59 : decode cX3_envies 59 = .ok (.getfield 18, 3) := by decide +kernel
theorem dX3_envies_62 : decode cX3_envies 62 = .ok (.iload_n 1, 1) := by decide +kernel
theorem dX3_envies_63 : decode cX3_envies 63 = .ok (.aaload, 1) := by decide +kernel
theorem dX3_envies_64 : decode cX3_envies 64 = .ok (.iload_n 3, 1) := by decide +kernel
theorem dX3_envies_65 : decode cX3_envies 65 = .ok (.invokevirtual 150, 3) := by decide +kernel
theorem dX3_envies_68 : decode cX3_envies 68 = .ok (.ifCond .ne 5, 3) := by decide +kernel
theorem dX3_envies_71 : decode cX3_envies 71 = .ok (.iconst 0, 1) := by decide +kernel
theorem dX3_envies_72 : decode cX3_envies 72 = .ok (.ireturn, 1) := by decide +kernel
theorem dX3_envies_73 : decode cX3_envies 73 = .ok (.aload_n 0, 1) := by decide +kernel
theorem dX3_envies_74 : decode cX3_envies 74 = .ok (.iload_n 2, 1) := by decide +kernel
theorem dX3_envies_75 : decode cX3_envies 75 = .ok (.iload_n 3, 1) := by decide +kernel
theorem dX3_envies_76 : decode cX3_envies 76 = .ok (.iload 4, 2) := by decide +kernel
theorem dX3_envies_78 : decode cX3_envies 78 = .ok (.invokevirtual 153, 3) := by decide +kernel
theorem dX3_envies_81 : decode cX3_envies 81 = .ok (.istore 5, 2) := by decide +kernel
theorem dX3_envies_83 : decode cX3_envies 83 = .ok (.iload 5, 2) := by decide +kernel
theorem dX3_envies_85 : decode cX3_envies 85 = .ok (.ldc 157, 2) := by decide +kernel
theorem dX3_envies_87 : decode cX3_envies 87 = .ok (.if_icmp .ge 20, 3) := by decide +kernel
theorem dX3_envies_90 : decode cX3_envies 90 = .ok (.aload_n 0, 1) := by decide +kernel
theorem dX3_envies_91 : decode cX3_envies 91 = .ok (.iload_n 1, 1) := by decide +kernel
theorem dX3_envies_92 : decode cX3_envies 92 = .ok (.iload_n 3, 1) := by decide +kernel
theorem dX3_envies_93 : decode cX3_envies 93 = .ok (.iload 4, 2) := by decide +kernel
theorem dX3_envies_95 : decode cX3_envies 95 = .ok (.invokevirtual 153, 3) := by decide +kernel
theorem dX3_envies_98 : decode cX3_envies 98 = .ok (.iload 5, 2) := by decide +kernel
theorem dX3_envies_100 : decode cX3_envies 100 = .ok (.if_icmp .ge 7, 3) := by decide +kernel
theorem dX3_envies_103 : decode cX3_envies 103 = .ok (.iconst 1, 1) := by decide +kernel
theorem dX3_envies_104 : decode cX3_envies 104 = .ok (.goto 4, 3) := by decide +kernel
theorem dX3_envies_107 : decode cX3_envies 107 = .ok (.iconst 0, 1) := by decide +kernel
theorem dX3_envies_108 : decode cX3_envies 108 = .ok (.ireturn, 1) := by decide +kernel
theorem dX4_init_0 : decode cX4_init 0 = .ok (.aload_n 0, 1) := by decide +kernel
theorem dX4_init_1 : decode cX4_init 1 = .ok (.invokespecial 1, 3) := by decide +kernel
theorem dX4_init_4 : decode cX4_init 4 = .ok (.aload_n 0, 1) := by decide +kernel
theorem dX4_init_5 : decode cX4_init 5 = .ok (.bipush 6, 2) := by decide +kernel
theorem dX4_init_7 : decode cX4_init 7 = .ok (.newarray .int, 2) := by decide +kernel
theorem dX4_init_9 : decode cX4_init 9 = .ok (.putfield 7, 3) := by decide +kernel
theorem dX4_init_12 : decode cX4_init 12 = .ok (.aload_n 0, 1) := by decide +kernel
theorem dX4_init_13 : decode cX4_init 13 = .ok (.bipush 18, 2) := by decide +kernel
theorem dX4_init_15 : decode cX4_init 15 = .ok (.newarray .int, 2) := by decide +kernel
theorem dX4_init_17 : decode cX4_init 17 = .ok (.putfield 13, 3) := by decide +kernel
theorem dX4_init_20 : decode cX4_init 20 = .ok (.aload_n 0, 1) := by decide +kernel
theorem dX4_init_21 : decode cX4_init 21 = .ok (.bipush 54, 2) := by decide +kernel
theorem dX4_init_23 : decode cX4_init 23 = .ok (.newarray .int, 2) := by decide +kernel
theorem dX4_init_25 : decode cX4_init 25 = .ok (.putfield 16, 3) := by decide +kernel
theorem dX4_init_28 : decode cX4_init 28 = .ok (.aload_n 0, 1) := by decide +kernel
theorem dX4_init_29 : decode cX4_init 29 = .ok (.bipush 20, 2) := by decide +kernel
theorem dX4_init_31 : decode cX4_init 31 = .ok (.newarray .int, 2) := by decide +kernel
theorem dX4_init_33 : decode cX4_init 33 = .ok (.putfield 19, 3) := by decide +kernel
theorem dX4_init_36 : decode cX4_init 36 = .ok (.aload_n 0, 1) := by decide +kernel
theorem dX4_init_37 : decode cX4_init 37 = .ok (.bipush 20, 2) := by decide +kernel
theorem dX4_init_39 : decode cX4_init 39 = .ok (.newarray .boolean, 2) := by decide +kernel
theorem dX4_init_41 : decode cX4_init 41 = .ok (.putfield 22, 3) := by decide +kernel
theorem dX4_init_44 : decode cX4_init 44 = .ok (.aload_n 0, 1) := by decide +kernel
theorem dX4_init_45 : decode cX4_init 45 = .ok (.bipush 20, 2) := by decide +kernel
theorem dX4_init_47 : decode cX4_init 47 = .ok (.newarray .int, 2) := by decide +kernel
theorem dX4_init_49 : decode cX4_init 49 = .ok (.putfield 26, 3) := by decide +kernel
theorem dX4_init_52 : decode cX4_init 52 = .ok (.aload_n 0, 1) := by decide +kernel
theorem dX4_init_53 : decode cX4_init 53 = .ok (.bipush 80, 2) := by decide +kernel
theorem dX4_init_55 : decode cX4_init 55 = .ok (.newarray .int, 2) := by decide +kernel
theorem dX4_init_57 : decode cX4_init 57 = .ok (.putfield 29, 3) := by decide +kernel
theorem dX4_init_60 : decode cX4_init 60 = .ok (.aload_n 0, 1) := by decide +kernel
theorem dX4_init_61 : decode cX4_init 61 = .ok (.bipush 120, 2) := by decide +kernel
theorem dX4_init_63 : decode cX4_init 63 = .ok (.newarray .int, 2) := by decide +kernel
theorem dX4_init_65 : decode cX4_init 65 = .ok (.putfield 32, 3) := by decide +kernel
theorem dX4_init_68 : decode cX4_init 68 = .ok (.aload_n 0, 1) := by decide +kernel
theorem dX4_init_69 : decode cX4_init 69 = .ok (.bipush 20, 2) := by decide +kernel
theorem dX4_init_71 : decode cX4_init 71 = .ok (.newarray .int, 2) := by decide +kernel
theorem dX4_init_73 : decode cX4_init 73 = .ok (.putfield 35, 3) := by decide +kernel
theorem dX4_init_76 : decode cX4_init 76 = .ok (.aload_n 0, 1) := by decide +kernel
theorem dX4_init_77 : decode cX4_init 77 = .ok (.bipush 20, 2) := by decide +kernel
theorem dX4_init_79 : decode cX4_init 79 = .ok (.newarray .int, 2) := by decide +kernel
theorem dX4_init_81 : decode cX4_init 81 = .ok (.putfield 38, 3) := by decide +kernel
theorem dX4_init_84 : decode cX4_init 84 = .ok (.aload_n 0, 1) := by decide +kernel
theorem dX4_init_85 : decode cX4_init 85 = .ok (.bipush 20, 2) := by decide +kernel
theorem dX4_init_87 : decode cX4_init 87 = .ok (.newarray .int, 2) := by decide +kernel
theorem dX4_init_89 : decode cX4_init 89 = .ok (.putfield 41, 3) := by decide +kernel
theorem dX4_init_92 : decode cX4_init 92 = .ok (.aload_n 0, 1) := by decide +kernel
theorem dX4_init_93 : decode cX4_init 93 = .ok (.bipush 20, 2) := by decide +kernel
theorem dX4_init_95 : decode cX4_init 95 = .ok (.newarray .int, 2) := by decide +kernel
theorem dX4_init_97 : decode cX4_init 97 = .ok (.putfield 44, 3) := by decide +kernel
theorem dX4_init_100 : decode cX4_init 100 = .ok (.aload_n 0, 1) := by decide +kernel
theorem dX4_init_101 : decode cX4_init 101 = .ok (.bipush 20, 2) := by decide +kernel
theorem dX4_init_103 : decode cX4_init 103 = .ok (.newarray .boolean, 2) := by decide +kernel
theorem dX4_init_105 : decode cX4_init 105 = .ok (.putfield 47, 3) := by decide +kernel
theorem dX4_init_108 : decode cX4_init 108 = .ok (.aload_n 0, 1) := by decide +kernel
theorem dX4_init_109 : decode cX4_init 109 = .ok (.bipush 20, 2) := by decide +kernel
theorem dX4_init_111 : decode cX4_init 111 = .ok (.newarray .int, 2) := by decide +kernel
theorem dX4_init_113 : decode cX4_init 113 = .ok (.putfield 50, 3) := by decide +kernel
theorem dX4_init_116 : decode cX4_init 116 = .ok (.aload_n 0, 1) := by decide +kernel
theorem dX4_init_117 : decode cX4_init 117 = .ok (.bipush 20, 2) := by decide +kernel
theorem dX4_init_119 : decode cX4_init 119 = .ok (.newarray .boolean, 2) := by decide +kernel
theorem dX4_init_121 : decode cX4_init 121 = .ok (.putfield 53, 3) := by decide +kernel
theorem dX4_init_124 : decode cX4_init 124 = .ok (.aload_n 0, 1) := by decide +kernel
theorem dX4_init_125 : decode cX4_init 125 = .ok (.bipush 20, 2) := by decide +kernel
theorem dX4_init_127 : decode cX4_init 127 = .ok (.newarray .int, 2) := by decide +kernel
theorem dX4_init_129 : decode cX4_init 129 = .ok (.putfield 56, 3) := by decide +kernel
theorem dX4_init_132 : decode cX4_init 132 = .ok (.iconst 0, 1) := by decide +kernel
theorem dX4_init_133 : decode cX4_init 133 = .ok (.istore_n 1, 1) := by decide +kernel
theorem dX4_init_134 : decode cX4_init 134 = .ok (.iload_n 1, 1) := by decide +kernel
theorem dX4_init_135 : decode cX4_init 135 = .ok (.bipush 20, 2) := by decide +kernel
theorem dX4_init_137 : decode cX4_init 137 = .ok (.if_icmp .ge 23, 3) := by decide +kernel
theorem dX4_init_140 : decode cX4_init 140 = .ok (.aload_n 0, 1) := by decide +kernel
theorem dX4_init_141 : decode cX4_init 141 = .ok (.getfield 38, 3) := by decide +kernel
theorem dX4_init_144 : decode cX4_init 144 = .ok (.iload_n 1, 1) := by decide +kernel
theorem dX4_init_145 : decode cX4_init 145 = .ok (.iconst (-1), 1) := by decide +kernel
theorem dX4_init_146 : decode cX4_init 146 = .ok (.iastore, 1) := by decide +kernel
theorem dX4_init_147 : decode cX4_init 147 = .ok (.aload_n 0, 1) := by decide +kernel
theorem dX4_init_148 : decode cX4_init 148 = .ok (.getfield 41, 3) := by decide +kernel
theorem dX4_init_151 : decode cX4_init 151 = .ok (.iload_n 1, 1) := by decide +kernel
theorem dX4_init_152 : decode cX4_init 152 = .ok (.iconst (-1), 1) := by decide +kernel
theorem dX4_init_153 : decode cX4_init 153 = .ok (.iastore, 1) := by decide +kernel
theorem dX4_init_154 : decode cX4_init 154 = .ok (.iinc 1 1, 3) := by decide +kernel
theorem dX4_init_157 : decode cX4_init 157 = .ok (.goto (-23), 3) := by decide +kernel
theorem dX4_init_160 : decode cX4_init 160 = .ok (.iconst 0, 1) := by decide +kernel
theorem dX4_init_161 : decode cX4_init 161 = .ok (.istore_n 1, 1) := by decide +kernel
theorem dX4_init_162 : decode cX4_init 162 = .ok (.iload_n 1, 1) := by decide +kernel
theorem dX4_init_163 : decode cX4_init 163 = .ok (.bipush 120, 2) := by decide +kernel
theorem dX4_init_165 : decode cX4_init 165 = .ok (.if_icmp .ge 16, 3) := by decide +kernel
theorem dX4_init_168 : decode cX4_init 168 = .ok (.aload_n 0, 1) := by decide +kernel
theorem dX4_init_169 : decode cX4_init 169 = .ok (.getfield 32, 3) := by decide +kernel
theorem dX4_init_172 : decode cX4_init 172 = .ok (.iload_n 1, 1) := by decide +kernel
theorem dX4_init_173 : decode cX4_init 173 = .ok (.iconst (-1), 1) := by decide +kernel
theorem dX4_init_174 : decode cX4_init 174 = .ok (.iastore, 1) := by decide +kernel
theorem dX4_init_175 : decode cX4_init 175 = .ok (.iinc 1 1, 3) := by decide +kernel
theorem dX4_init_178 : decode cX4_init 178 = .ok (.goto (-16), 3) := by decide +kernel
theorem dX4_init_181 : decode cX4_init 181 = .ok (.return_, 1) := by decide +kernel
theorem dX4_thrown_0 : decode cX4_thrown 0 = .ok (.aload_n 0, 1) := by decide +kernel
theorem dX4_thrown_1 : decode cX4_thrown 1 = .ok (.getfield 59, 3) := by decide +kernel
theorem dX4_thrown_4 : decode cX4_thrown 4 = .ok (.ireturn, 1) := by decide +kernel
theorem dX4_school_0 : decode cX4_school 0 = .ok (.aload_n 0, 1) := by decide +kernel
theorem dX4_school_1 : decode cX4_school 1 = .ok (.aload_n 0, 1) := by decide +kernel
theorem dX4_school_2 : decode cX4_school 2 = .ok (.getfield 69, 3) := by decide +kernel
theorem dX4_school_5 : decode cX4_school 5 = .ok (.ifCond .ne 12, 3) := by decide +kernel
theorem dX4_school_8 : decode cX4_school 8 = .ok (.aload_n 0, 1) := by decide +kernel
theorem dX4_school_9 : decode cX4_school 9 = .ok (.getfield 63, 3) := by decide +kernel
theorem dX4_school_12 : decode cX4_school 12 = .ok (.bipush 6, 2) := by decide +kernel
theorem dX4_school_14 : decode cX4_school 14 = .ok (.if_icmp .ne 7, 3) := by decide +kernel
theorem dX4_school_17 : decode cX4_school 17 = .ok (.iconst 1, 1) := by decide +kernel
theorem dX4_school_18 : decode cX4_school 18 = .ok (.goto 4, 3) := by decide +kernel
theorem dX4_school_21 : decode cX4_school 21 = .ok (.iconst 0, 1) := by decide +kernel
theorem dX4_school_22 : decode cX4_school 22 = .ok (.putfield 59, 3) := by decide +kernel
theorem dX4_school_25 : decode cX4_school 25 = .ok (.aload_n 0, 1) := by decide +kernel
theorem dX4_school_26 : decode cX4_school 26 = .ok (.getfield 59, 3) := by decide +kernel
theorem dX4_school_29 : decode cX4_school 29 = .ok (.ifCond .le 5, 3) := by decide +kernel
theorem dX4_school_32 : decode cX4_school 32 = .ok (.iconst 0, 1) := by decide +kernel
theorem dX4_school_33 : decode cX4_school 33 = .ok (.ireturn, 1) := by decide +kernel
theorem dX4_school_34 : decode cX4_school 34 = .ok (.aload_n 0, 1) := by decide +kernel
theorem dX4_school_35 : decode cX4_school 35 = .ok (.dup, 1) := by decide +kernel
theorem dX4_school_36 : decode cX4_school 36 = .ok (.getfield 63, 3) := by decide +kernel
theorem dX4_school_39 : decode cX4_school 39 = .ok (.iconst 1, 1) := by decide +kernel
theorem dX4_school_40 : decode cX4_school 40 = .ok (.iadd, 1) := by decide +kernel
theorem dX4_school_41 : decode cX4_school 41 = .ok (.putfield 63, 3) := by decide +kernel
theorem dX4_school_44 : decode cX4_school 44 = .ok (.aload_n 0, 1) := by decide +kernel
theorem dX4_school_45 : decode cX4_school 45 = .ok (.getfield 63, 3) := by decide +kernel
theorem dX4_school_48 : decode cX4_school 48 = .ok (.iconst 1, 1) := by decide +kernel
theorem dX4_school_49 : decode cX4_school 49 = .ok (.isub, 1) := by decide +kernel
theorem dX4_school_50 : decode cX4_school 50 = .ok (.ireturn, 1) := by decide +kernel
theorem dX4_kind_0 : decode cX4_kind 0 = .ok (.aload_n 0, 1) := by decide +kernel
theorem dX4_kind_1 : decode cX4_kind 1 = .ok (.aload_n 0, 1) := by decide +kernel
theorem dX4_kind_2 : decode cX4_kind 2 = .ok (.iload_n 1, 1) := by decide +kernel
theorem dX4_kind_3 : decode cX4_kind 3 = .ok (.invokevirtual 73, 3) := by decide +kernel
theorem dX4_kind_6 : decode cX4_kind 6 = .ok (.ifCond .eq 33, 3) := by decide +kernel
theorem dX4_kind_9 : decode cX4_kind 9 = .ok (.iload_n 2, 1) := by decide +kernel
theorem dX4_kind_10 : decode cX4_kind 10 = .ok (.ifCond .lt 29, 3) := by decide +kernel
theorem dX4_kind_13 : decode cX4_kind 13 = .ok (.iload_n 2, 1) := by decide +kernel
theorem dX4_kind_14 : decode cX4_kind 14 = .ok (.bipush 6, 2) := by decide +kernel
theorem dX4_kind_16 : decode cX4_kind 16 = .ok (.if_icmp .gt 23, 3) := by decide +kernel
theorem dX4_kind_19 : decode cX4_kind 19 = .ok (.iload_n 3, 1) := by decide +kernel
theorem dX4_kind_20 : decode cX4_kind 20 = .ok (.bipush 15, 2) := by decide +kernel
theorem dX4_kind_22 : decode cX4_kind 22 = .ok (.if_icmp .gt 17, 3) := by decide +kernel
theorem dX4_kind_25 : decode cX4_kind 25 = .ok (.iload 4, 2) := by decide +kernel
theorem dX4_kind_27 : decode cX4_kind 27 = .ok (.bipush 15, 2) := by decide +kernel
theorem dX4_kind_29 : decode cX4_kind 29 = .ok (.if_icmp .gt 10, 3) := by decide +kernel
theorem dX4_kind_32 : decode cX4_kind 32 = .ok (.iload 5, 2) := by decide +kernel
theorem dX4_kind_34 : decode cX4_kind 34 = .ok (.bipush 15, 2) := by decide +kernel
theorem dX4_kind_36 : decode cX4_kind 36 = .ok (.if_icmp .le 7, 3) := by decide +kernel
theorem dX4_kind_39 : decode cX4_kind 39 = .ok (.iconst 1, 1) := by decide +kernel
theorem dX4_kind_40 : decode cX4_kind 40 = .ok (.goto 4, 3) := by decide +kernel
theorem dX4_kind_43 : decode cX4_kind 43 = .ok (.iconst 0, 1) := by decide +kernel
theorem dX4_kind_44 : decode cX4_kind 44 = .ok (.putfield 59, 3) := by decide +kernel
theorem dX4_kind_47 : decode cX4_kind 47 = .ok (.aload_n 0, 1) := by decide +kernel
theorem dX4_kind_48 : decode cX4_kind 48 = .ok (.getfield 59, 3) := by decide +kernel
theorem dX4_kind_51 : decode cX4_kind 51 = .ok (.ifCond .le 5, 3) := by decide +kernel
theorem dX4_kind_54 : decode cX4_kind 54 = .ok (.iconst 0, 1) := by decide +kernel
theorem dX4_kind_55 : decode cX4_kind 55 = .ok (.ireturn, 1) := by decide +kernel
theorem dX4_kind_56 : decode cX4_kind 56 = .ok (.aload_n 0, 1) := by decide +kernel
theorem dX4_kind_57 : decode cX4_kind 57 = .ok (.aload_n 0, 1) := by decide +kernel
theorem dX4_kind_58 : decode cX4_kind 58 = .ok (.getfield 69, 3) := by decide +kernel
theorem dX4_kind_61 : decode cX4_kind 61 = .ok (.ifCond .ne 13, 3) := by decide +kernel
theorem dX4_kind_64 : decode cX4_kind 64 = .ok (.aload_n 0, 1) := by decide +kernel
theorem dX4_kind_65 : decode cX4_kind 65 = .ok (.getfield 7, 3) := by decide +kernel
theorem dX4_kind_68 : decode cX4_kind 68 = .ok (.iload_n 1, 1) := by decide +kernel
theorem dX4_kind_69 : decode cX4_kind 69 = .ok (.iaload, 1) := by decide +kernel
theorem dX4_kind_70 : decode cX4_kind 70 = .ok (.iconst 3, 1) := by decide +kernel
theorem dX4_kind_71 : decode cX4_kind 71 = .ok (.if_icmp .ne 7, 3) := by decide +kernel
theorem dX4_kind_74 : decode cX4_kind 74 = .ok (.iconst 2, 1) := by decide +kernel
theorem dX4_kind_75 : decode cX4_kind 75 = .ok (.goto 4, 3) := by decide +kernel
theorem dX4_kind_78 : decode cX4_kind 78 = .ok (.iconst 0, 1) := by decide +kernel
theorem dX4_kind_79 : decode cX4_kind 79 = .ok (.putfield 59, 3) := by decide +kernel
theorem dX4_kind_82 : decode cX4_kind 82 = .ok (.aload_n 0, 1) := by decide +kernel
theorem dX4_kind_83 : decode cX4_kind 83 = .ok (.getfield 59, 3) := by decide +kernel
theorem dX4_kind_86 : decode cX4_kind 86 = .ok (.ifCond .le 5, 3) := by decide +kernel
theorem dX4_kind_89 : decode cX4_kind 89 = .ok (.iconst 0, 1) := by decide +kernel
theorem dX4_kind_90 : decode cX4_kind 90 = .ok (.ireturn, 1) := by decide +kernel
theorem dX4_kind_91 : decode cX4_kind 91 = .ok (.iconst 3, 1) := by decide +kernel
theorem dX4_kind_92 : decode cX4_kind 92 = .ok (.iload_n 1, 1) := by decide +kernel
theorem dX4_kind_93 : decode cX4_kind 93 = .ok (.imul, 1) := by decide +kernel
theorem dX4_kind_94 : decode cX4_kind 94 = .ok (.aload_n 0, 1) := by decide +kernel
theorem dX4_kind_95 : decode cX4_kind 95 = .ok (.getfield 7, 3) := by decide +kernel
theorem dX4_kind_98 : decode cX4_kind 98 = .ok (.iload_n 1, 1) := by decide +kernel
theorem dX4_kind_99 : decode cX4_kind 99 = .ok (.iaload, 1) := by decide +kernel
theorem dX4_kind_100 : decode cX4_kind 100 = .ok (.iadd, 1) := by decide +kernel
theorem dX4_kind_101 : decode cX4_kind 101 = .ok (.istore 6, 2) := by decide +kernel
theorem dX4_kind_103 : decode cX4_kind 103 = .ok (.aload_n 0, 1) := by decide +kernel
theorem dX4_kind_104 : decode cX4_kind 104 = .ok (.getfield 13, 3) := by decide +kernel
theorem dX4_kind_107 : decode cX4_kind 107 = .ok (.iload 6, 2) := by decide +kernel
theorem dX4_kind_109 : decode cX4_kind 109 = .ok (.iload_n 2, 1) := by decide +kernel
theorem dX4_kind_110 : decode cX4_kind 110 = .ok (.iastore, 1) := by decide +kernel
theorem dX4_kind_111 : decode cX4_kind 111 = .ok (.aload_n 0, 1) := by decide +kernel
theorem dX4_kind_112 : decode cX4_kind 112 = .ok (.getfield 16, 3) := by decide +kernel
theorem dX4_kind_115 : decode cX4_kind 115 = .ok (.iconst 3, 1) := by decide +kernel
theorem dX4_kind_116 : decode cX4_kind 116 = .ok (.iload 6, 2) := by decide +kernel
theorem dX4_kind_118 : decode cX4_kind 118 = .ok (.imul, 1) := by decide +kernel
theorem dX4_kind_119 : decode cX4_kind 119 = .ok (.iload_n 3, 1) := by decide +kernel
theorem dX4_kind_120 : decode cX4_kind 120 = .ok (.ifCond .ge 7, 3) := by decide +kernel
theorem dX4_kind_123 : decode cX4_kind 123 = .ok (.iconst (-1), 1) := by decide +kernel
theorem dX4_kind_124 : decode cX4_kind 124 = .ok (.goto 4, 3) := by decide +kernel
theorem dX4_kind_127 : decode cX4_kind 127 = .ok (.iload_n 3, 1) := by decide +kernel
theorem dX4_kind_128 : decode cX4_kind 128 = .ok (.iastore, 1) := by decide +kernel
theorem dX4_kind_129 : decode cX4_kind 129 = .ok (.aload_n 0, 1) := by decide +kernel
theorem dX4_kind_130 : decode cX4_kind 130 = .ok (.getfield 16, 3) := by decide +kernel
theorem dX4_kind_133 : decode cX4_kind 133 = .ok (.iconst 3, 1) := by decide +kernel
theorem dX4_kind_134 : decode cX4_kind 134 = .ok (.iload 6, 2) := by decide +kernel
theorem dX4_kind_136 : decode cX4_kind 136 = .ok (.imul, 1) := by decide +kernel
theorem dX4_kind_137 : decode cX4_kind 137 = .ok (.iconst 1, 1) := by decide +kernel
theorem dX4_kind_138 : decode cX4_kind 138 = .ok (.iadd, 1) := by decide +kernel
theorem dX4_kind_139 : decode cX4_kind 139 = .ok (.iload_n 3, 1) := by decide +kernel
theorem dX4_kind_140 : decode cX4_kind 140 = .ok (.ifCond .lt 8, 3) := by decide +kernel
theorem dX4_kind_143 : decode cX4_kind 143 = .ok (.iload 4, 2) := by decide +kernel
theorem dX4_kind_145 : decode cX4_kind 145 = .ok (.ifCond .ge 7, 3) := by decide +kernel
theorem dX4_kind_148 : decode cX4_kind 148 = .ok (.iconst (-1), 1) := by decide +kernel
theorem dX4_kind_149 : decode cX4_kind 149 = .ok (.goto 5, 3) := by decide +kernel
theorem dX4_kind_152 : decode cX4_kind 152 = .ok (.iload 4, 2) := by decide +kernel
theorem dX4_kind_154 : decode cX4_kind 154 = .ok (.iastore, 1) := by decide +kernel
theorem dX4_kind_155 : decode cX4_kind 155 = .ok (.aload_n 0, 1) := by decide +kernel
theorem dX4_kind_156 : decode cX4_kind 156 = .ok (.getfield 16, 3) := by decide +kernel
theorem dX4_kind_159 : decode cX4_kind 159 = .ok (.iconst 3, 1) := by decide +kernel
theorem dX4_kind_160 : decode cX4_kind 160 = .ok (.iload 6, 2) := by decide +kernel
theorem dX4_kind_162 : decode cX4_kind 162 = .ok (.imul, 1) := by decide +kernel
theorem dX4_kind_163 : decode cX4_kind 163 = .ok (.iconst 2, 1) := by decide +kernel
theorem dX4_kind_164 : decode cX4_kind 164 = .ok (.iadd, 1) := by decide +kernel
theorem dX4_kind_165 : decode cX4_kind 165 = .ok (.iload_n 3, 1) := by decide +kernel
theorem dX4_kind_166 : decode cX4_kind 166 = .ok (.ifCond .lt 13, 3) := by decide +kernel
theorem dX4_kind_169 : decode cX4_kind 169 = .ok (.iload 4, 2) := by decide +kernel
theorem dX4_kind_171 : decode cX4_kind 171 = .ok (.ifCond .lt 8, 3) := by decide +kernel
theorem dX4_kind_174 : decode cX4_kind 174 = .ok (.iload 5, 2) := by decide +kernel
theorem dX4_kind_176 : decode cX4_kind 176 = .ok (.ifCond .ge 7, 3) := by decide +kernel
theorem dX4_kind_179 : decode cX4_kind 179 = .ok (.iconst (-1), 1) := by decide +kernel
theorem dX4_kind_180 : decode cX4_kind 180 = .ok (.goto 5, 3) := by decide +kernel
theorem dX4_kind_183 : decode cX4_kind 183 = .ok (.iload 5, 2) := by decide +kernel
theorem dX4_kind_185 : decode cX4_kind 185 = .ok (.iastore, 1) := by decide +kernel
theorem dX4_kind_186 : decode cX4_kind 186 = .ok (.aload_n 0, 1) := by decide +kernel
theorem dX4_kind_187 : decode cX4_kind 187 = .ok (.getfield 7, 3) := by decide +kernel
theorem dX4_kind_190 : decode cX4_kind 190 = .ok (.iload_n 1, 1) := by decide +kernel
theorem dX4_kind_191 : decode cX4_kind 191 = .ok (.dup2, 1) := by decide +kernel
theorem dX4_kind_192 : decode cX4_kind 192 = .ok (.iaload, 1) := by decide +kernel
theorem dX4_kind_193 : decode cX4_kind 193 = .ok (.iconst 1, 1) := by decide +kernel
theorem dX4_kind_194 : decode cX4_kind 194 = .ok (.iadd, 1) := by decide +kernel
theorem dX4_kind_195 : decode cX4_kind 195 = .ok (.iastore, 1) := by decide +kernel
theorem dX4_kind_196 : decode cX4_kind 196 = .ok (.aload_n 0, 1) := by decide +kernel
theorem dX4_kind_197 : decode cX4_kind 197 = .ok (.getfield 7, 3) := by decide +kernel
theorem dX4_kind_200 : decode cX4_kind 200 = .ok (.iload_n 1, 1) := by decide +kernel
theorem dX4_kind_201 : decode cX4_kind 201 = .ok (.iaload, 1) := by decide +kernel
theorem dX4_kind_202 : decode cX4_kind 202 = .ok (.iconst 1, 1) := by decide +kernel
theorem dX4_kind_203 : decode cX4_kind 203 = .ok (.isub, 1) := by decide +kernel
theorem dX4_kind_204 : decode cX4_kind 204 = .ok (.ireturn, 1) := by decide +kernel
theorem dX4_isSchool_0 : decode cX4_isSchool 0 = .ok (.iload_n 1, 1) := by decide +kernel
theorem dX4_isSchool_1 : decode cX4_isSchool 1 = .ok (.ifCond .lt 15, 3) := by decide +kernel
theorem dX4_isSchool_4 : decode cX4_isSchool 4 = .ok (.iload_n 1, 1) := by decide +kernel
theorem dX4_isSchool_5 : decode cX4_isSchool 5 = .ok (.aload_n 0, 1) := by decide +kernel
theorem dX4_isSchool_6 : decode cX4_isSchool 6 = .ok (.getfield 63, 3) := by decide +kernel
theorem dX4_isSchool_9 : decode cX4_isSchool 9 = .ok (.if_icmp .ge 7, 3) := by decide +kernel
theorem dX4_isSchool_12 : decode cX4_isSchool 12 = .ok (.iconst 1, 1) := by decide +kernel
theorem dX4_isSchool_13 : decode cX4_isSchool 13 = .ok (.goto 4, 3) := by decide +kernel
theorem dX4_isSchool_16 : decode cX4_isSchool 16 = .ok (.iconst 0, 1) := by decide +kernel
theorem dX4_isSchool_17 : decode cX4_isSchool 17 = .ok (.ireturn, 1) := by decide +kernel
theorem dX4_pupil_0 : decode cX4_pupil 0 = .ok (.aload_n 0, 1) := by decide +kernel
theorem dX4_pupil_1 : decode cX4_pupil 1 = .ok (.iload_n 1, 1) := by decide +kernel
theorem dX4_pupil_2 : decode cX4_pupil 2 = .ok (.ifCond .lt 9, 3) := by decide +kernel
theorem dX4_pupil_5 : decode cX4_pupil 5 = .ok (.iload_n 1, 1) := by decide +kernel
theorem dX4_pupil_6 : decode cX4_pupil 6 = .ok (.bipush 15, 2) := by decide +kernel
theorem dX4_pupil_8 : decode cX4_pupil 8 = .ok (.if_icmp .le 7, 3) := by decide +kernel
theorem dX4_pupil_11 : decode cX4_pupil 11 = .ok (.iconst 1, 1) := by decide +kernel
theorem dX4_pupil_12 : decode cX4_pupil 12 = .ok (.goto 24, 3) := by decide +kernel
theorem dX4_pupil_15 : decode cX4_pupil 15 = .ok (.aload_n 0, 1) := by decide +kernel
theorem dX4_pupil_16 : decode cX4_pupil 16 = .ok (.getfield 69, 3) := by decide +kernel
theorem dX4_pupil_19 : decode cX4_pupil 19 = .ok (.ifCond .ne 12, 3) := by decide +kernel
theorem dX4_pupil_22 : decode cX4_pupil 22 = .ok (.aload_n 0, 1) := by decide +kernel
theorem dX4_pupil_23 : decode cX4_pupil 23 = .ok (.getfield 66, 3) := by decide +kernel
theorem dX4_pupil_26 : decode cX4_pupil 26 = .ok (.bipush 20, 2) := by decide +kernel
theorem dX4_pupil_28 : decode cX4_pupil 28 = .ok (.if_icmp .ne 7, 3) := by decide +kernel
theorem dX4_pupil_31 : decode cX4_pupil 31 = .ok (.iconst 2, 1) := by decide +kernel
theorem dX4_pupil_32 : decode cX4_pupil 32 = .ok (.goto 4, 3) := by decide +kernel
theorem dX4_pupil_35 : decode cX4_pupil 35 = .ok (.iconst 0, 1) := by decide +kernel
theorem dX4_pupil_36 : decode cX4_pupil 36 = .ok (.putfield 59, 3) := by decide +kernel
theorem dX4_pupil_39 : decode cX4_pupil 39 = .ok (.aload_n 0, 1) := by decide +kernel
theorem dX4_pupil_40 : decode cX4_pupil 40 = .ok (.getfield 59, 3) := by decide +kernel
theorem dX4_pupil_43 : decode cX4_pupil 43 = .ok (.ifCond .le 5, 3) := by decide +kernel
theorem dX4_pupil_46 : decode cX4_pupil 46 = .ok (.iconst 0, 1) := by decide +kernel
theorem dX4_pupil_47 : decode cX4_pupil 47 = .ok (.ireturn, 1) := by decide +kernel
theorem dX4_pupil_48 : decode cX4_pupil 48 = .ok (.aload_n 0, 1) := by decide +kernel
theorem dX4_pupil_49 : decode cX4_pupil 49 = .ok (.getfield 19, 3) := by decide +kernel
theorem dX4_pupil_52 : decode cX4_pupil 52 = .ok (.aload_n 0, 1) := by decide +kernel
theorem dX4_pupil_53 : decode cX4_pupil 53 = .ok (.getfield 66, 3) := by decide +kernel
theorem dX4_pupil_56 : decode cX4_pupil 56 = .ok (.iload_n 1, 1) := by decide +kernel
theorem dX4_pupil_57 : decode cX4_pupil 57 = .ok (.iastore, 1) := by decide +kernel
theorem dX4_pupil_58 : decode cX4_pupil 58 = .ok (.aload_n 0, 1) := by decide +kernel
theorem dX4_pupil_59 : decode cX4_pupil 59 = .ok (.getfield 22, 3) := by decide +kernel
theorem dX4_pupil_62 : decode cX4_pupil 62 = .ok (.aload_n 0, 1) := by decide +kernel
theorem dX4_pupil_63 : decode cX4_pupil 63 = .ok (.getfield 66, 3) := by decide +kernel
theorem dX4_pupil_66 : decode cX4_pupil 66 = .ok (.iload_n 2, 1) := by decide +kernel
theorem dX4_pupil_67 : decode cX4_pupil 67 = .ok (.bastore, 1) := by decide +kernel
theorem dX4_pupil_68 : decode cX4_pupil 68 = .ok (.aload_n 0, 1) := by decide +kernel
theorem dX4_pupil_69 : decode cX4_pupil 69 = .ok (.dup, 1) := by decide +kernel
theorem dX4_pupil_70 : decode cX4_pupil 70 = .ok (.getfield 66, 3) := by decide +kernel
theorem dX4_pupil_73 : decode cX4_pupil 73 = .ok (.iconst 1, 1) := by decide +kernel
theorem dX4_pupil_74 : decode cX4_pupil 74 = .ok (.iadd, 1) := by decide +kernel
theorem dX4_pupil_75 : decode cX4_pupil 75 = .ok (.putfield 66, 3) := by decide +kernel
theorem dX4_pupil_78 : decode cX4_pupil 78 = .ok (.aload_n 0, 1) := by decide +kernel
theorem dX4_pupil_79 : decode cX4_pupil 79 = .ok (.getfield 66, 3) := by decide +kernel
theorem dX4_pupil_82 : decode cX4_pupil 82 = .ok (.iconst 1, 1) := by decide +kernel
theorem dX4_pupil_83 : decode cX4_pupil 83 = .ok (.isub, 1) := by decide +kernel
theorem dX4_pupil_84 : decode cX4_pupil 84 = .ok (.ireturn, 1) := by decide +kernel
theorem dX4_wish_0 : decode cX4_wish 0 = .ok (.aload_n 0, 1) := by decide +kernel
theorem dX4_wish_1 : decode cX4_wish 1 = .ok (.aload_n 0, 1) := by decide +kernel
theorem dX4_wish_2 : decode cX4_wish 2 = .ok (.iload_n 1, 1) := by decide +kernel
theorem dX4_wish_3 : decode cX4_wish 3 = .ok (.invokevirtual 77, 3) := by decide +kernel
theorem dX4_wish_6 : decode cX4_wish 6 = .ok (.ifCond .eq 11, 3) := by decide +kernel
theorem dX4_wish_9 : decode cX4_wish 9 = .ok (.aload_n 0, 1) := by decide +kernel
theorem dX4_wish_10 : decode cX4_wish 10 = .ok (.iload_n 2, 1) := by decide +kernel
theorem dX4_wish_11 : decode cX4_wish 11 = .ok (.invokevirtual 73, 3) := by decide +kernel
theorem dX4_wish_14 : decode cX4_wish 14 = .ok (.ifCond .ne 7, 3) := by decide +kernel
theorem dX4_wish_17 : decode cX4_wish 17 = .ok (.iconst 1, 1) := by decide +kernel
theorem dX4_wish_18 : decode cX4_wish 18 = .ok (.goto 4, 3) := by decide +kernel
theorem dX4_wish_21 : decode cX4_wish 21 = .ok (.iconst 0, 1) := by decide +kernel
theorem dX4_wish_22 : decode cX4_wish 22 = .ok (.putfield 59, 3) := by decide +kernel
theorem dX4_wish_25 : decode cX4_wish 25 = .ok (.aload_n 0, 1) := by decide +kernel
theorem dX4_wish_26 : decode cX4_wish 26 = .ok (.getfield 59, 3) := by decide +kernel
theorem dX4_wish_29 : decode cX4_wish 29 = .ok (.ifCond .le 5, 3) := by decide +kernel
theorem dX4_wish_32 : decode cX4_wish 32 = .ok (.iconst 0, 1) := by decide +kernel
theorem dX4_wish_33 : decode cX4_wish 33 = .ok (.ireturn, 1) := by decide +kernel
theorem dX4_wish_34 : decode cX4_wish 34 = .ok (.aload_n 0, 1) := by decide +kernel
theorem dX4_wish_35 : decode cX4_wish 35 = .ok (.aload_n 0, 1) := by decide +kernel
theorem dX4_wish_36 : decode cX4_wish 36 = .ok (.iload_n 1, 1) := by decide +kernel
theorem dX4_wish_37 : decode cX4_wish 37 = .ok (.iload_n 2, 1) := by decide +kernel
theorem dX4_wish_38 : decode cX4_wish 38 = .ok (.invokevirtual 80, 3) := by decide +kernel
theorem dX4_wish_41 : decode cX4_wish 41 = .ok (.bipush 9, 2) := by decide +kernel
theorem dX4_wish_43 : decode cX4_wish 43 = .ok (.if_icmp .ge 7, 3) := by decide +kernel
theorem dX4_wish_46 : decode cX4_wish 46 = .ok (.iconst 1, 1) := by decide +kernel
theorem dX4_wish_47 : decode cX4_wish 47 = .ok (.goto 25, 3) := by decide +kernel
theorem dX4_wish_50 : decode cX4_wish 50 = .ok (.aload_n 0, 1) := by decide +kernel
theorem dX4_wish_51 : decode cX4_wish 51 = .ok (.getfield 69, 3) := by decide +kernel
theorem dX4_wish_54 : decode cX4_wish 54 = .ok (.ifCond .ne 13, 3) := by decide +kernel
theorem dX4_wish_57 : decode cX4_wish 57 = .ok (.aload_n 0, 1) := by decide +kernel
theorem dX4_wish_58 : decode cX4_wish 58 = .ok (.getfield 26, 3) := by decide +kernel
theorem dX4_wish_61 : decode cX4_wish 61 = .ok (.iload_n 1, 1) := by decide +kernel
theorem dX4_wish_62 : decode cX4_wish 62 = .ok (.iaload, 1) := by decide +kernel
theorem dX4_wish_63 : decode cX4_wish 63 = .ok (.iconst 4, 1) := by decide +kernel
theorem dX4_wish_64 : decode cX4_wish 64 = .ok (.if_icmp .ne 7, 3) := by decide +kernel
theorem dX4_wish_67 : decode cX4_wish 67 = .ok (.iconst 2, 1) := by decide +kernel
theorem dX4_wish_68 : decode cX4_wish 68 = .ok (.goto 4, 3) := by decide +kernel
theorem dX4_wish_71 : decode cX4_wish 71 = .ok (.iconst 0, 1) := by decide +kernel
theorem dX4_wish_72 : decode cX4_wish 72 = .ok (.putfield 59, 3) := by decide +kernel
theorem dX4_wish_75 : decode cX4_wish 75 = .ok (.aload_n 0, 1) := by decide +kernel
theorem dX4_wish_76 : decode cX4_wish 76 = .ok (.getfield 59, 3) := by decide +kernel
theorem dX4_wish_79 : decode cX4_wish 79 = .ok (.ifCond .le 5, 3) := by decide +kernel
theorem dX4_wish_82 : decode cX4_wish 82 = .ok (.iconst 0, 1) := by decide +kernel
theorem dX4_wish_83 : decode cX4_wish 83 = .ok (.ireturn, 1) := by decide +kernel
theorem dX4_wish_84 : decode cX4_wish 84 = .ok (.aload_n 0, 1) := by decide +kernel
theorem dX4_wish_85 : decode cX4_wish 85 = .ok (.getfield 29, 3) := by decide +kernel
theorem dX4_wish_88 : decode cX4_wish 88 = .ok (.iconst 4, 1) := by decide +kernel
theorem dX4_wish_89 : decode cX4_wish 89 = .ok (.iload_n 1, 1) := by decide +kernel
theorem dX4_wish_90 : decode cX4_wish 90 = .ok (.imul, 1) := by decide +kernel
theorem dX4_wish_91 : decode cX4_wish 91 = .ok (.aload_n 0, 1) := by decide +kernel
theorem dX4_wish_92 : decode cX4_wish 92 = .ok (.getfield 26, 3) := by decide +kernel
theorem dX4_wish_95 : decode cX4_wish 95 = .ok (.iload_n 1, 1) := by decide +kernel
theorem dX4_wish_96 : decode cX4_wish 96 = .ok (.iaload, 1) := by decide +kernel
theorem dX4_wish_97 : decode cX4_wish 97 = .ok (.iadd, 1) := by decide +kernel
theorem dX4_wish_98 : decode cX4_wish 98 = .ok (.iload_n 2, 1) := by decide +kernel
theorem dX4_wish_99 : decode cX4_wish 99 = .ok (.iastore, 1) := by decide +kernel
theorem dX4_wish_100 : decode cX4_wish 100 = .ok (.aload_n 0, 1) := by decide +kernel
theorem dX4_wish_101 : decode cX4_wish 101 = .ok (.getfield 26, 3) := by decide +kernel
theorem dX4_wish_104 : decode cX4_wish 104 = .ok (.iload_n 1, 1) := by decide +kernel
theorem dX4_wish_105 : decode cX4_wish 105 = .ok (.dup2, 1) := by decide +kernel
theorem dX4_wish_106 : decode cX4_wish 106 = .ok (.iaload, 1) := by decide +kernel
theorem dX4_wish_107 : decode cX4_wish 107 = .ok (.iconst 1, 1) := by decide +kernel
theorem dX4_wish_108 : decode cX4_wish 108 = .ok (.iadd, 1) := by decide +kernel
theorem dX4_wish_109 : decode cX4_wish 109 = .ok (.iastore, 1) := by decide +kernel
theorem dX4_wish_110 : decode cX4_wish 110 = .ok (.aload_n 0, 1) := by decide +kernel
theorem dX4_wish_111 : decode cX4_wish 111 = .ok (.getfield 26, 3) := by decide +kernel
theorem dX4_wish_114 : decode cX4_wish 114 = .ok (.iload_n 1, 1) := by decide +kernel
theorem dX4_wish_115 : decode cX4_wish 115 = .ok (.iaload, 1) := by decide +kernel
theorem dX4_wish_116 : decode cX4_wish 116 = .ok (.ireturn, 1) := by decide +kernel
theorem dX4_isPupil_0 : decode cX4_isPupil 0 = .ok (.iload_n 1, 1) := by decide +kernel
theorem dX4_isPupil_1 : decode cX4_isPupil 1 = .ok (.ifCond .lt 15, 3) := by decide +kernel
theorem dX4_isPupil_4 : decode cX4_isPupil 4 = .ok (.iload_n 1, 1) := by decide +kernel
theorem dX4_isPupil_5 : decode cX4_isPupil 5 = .ok (.aload_n 0, 1) := by decide +kernel
theorem dX4_isPupil_6 : decode cX4_isPupil 6 = .ok (.getfield 66, 3) := by decide +kernel
theorem dX4_isPupil_9 : decode cX4_isPupil 9 = .ok (.if_icmp .ge 7, 3) := by decide +kernel
theorem dX4_isPupil_12 : decode cX4_isPupil 12 = .ok (.iconst 1, 1) := by decide +kernel
theorem dX4_isPupil_13 : decode cX4_isPupil 13 = .ok (.goto 4, 3) := by decide +kernel
theorem dX4_isPupil_16 : decode cX4_isPupil 16 = .ok (.iconst 0, 1) := by decide +kernel
theorem dX4_isPupil_17 : decode cX4_isPupil 17 = .ok (.ireturn, 1) := by decide +kernel
theorem dX4_place_0 : decode cX4_place 0 = .ok (.iconst 0, 1) := by decide +kernel
theorem dX4_place_1 : decode cX4_place 1 = .ok (.istore_n 3, 1) := by decide +kernel
theorem dX4_place_2 : decode cX4_place 2 = .ok (.iload_n 3, 1) := by decide +kernel
theorem dX4_place_3 : decode cX4_place 3 = .ok (.aload_n 0, 1) := by decide +kernel
theorem dX4_place_4 : decode cX4_place 4 = .ok (.getfield 26, 3) := by decide +kernel
theorem dX4_place_7 : decode cX4_place 7 = .ok (.iload_n 1, 1) := by decide +kernel
theorem dX4_place_8 : decode cX4_place 8 = .ok (.iaload, 1) := by decide +kernel
theorem dX4_place_9 : decode cX4_place 9 = .ok (.if_icmp .ge 25, 3) := by decide +kernel
theorem dX4_place_12 : decode cX4_place 12 = .ok (.aload_n 0, 1) := by decide +kernel
theorem dX4_place_13 : decode cX4_place 13 = .ok (.getfield 29, 3) := by decide +kernel
theorem dX4_place_16 : decode cX4_place 16 = .ok (.iconst 4, 1) := by decide +kernel
theorem dX4_place_17 : decode cX4_place 17 = .ok (.iload_n 1, 1) := by decide +kernel
theorem dX4_place_18 : decode cX4_place 18 = .ok (.imul, 1) := by decide +kernel
theorem dX4_place_19 : decode cX4_place 19 = .ok (.iload_n 3, 1) := by decide +kernel
theorem dX4_place_20 : decode cX4_place 20 = .ok (.iadd, 1) := by decide +kernel
theorem dX4_place_21 : decode cX4_place 21 = .ok (.iaload, 1) := by decide +kernel
theorem dX4_place_22 : decode cX4_place 22 = .ok (.iload_n 2, 1) := by decide +kernel
theorem dX4_place_23 : decode cX4_place 23 = .ok (.if_icmp .ne 5, 3) := by decide +kernel
theorem dX4_place_26 : decode cX4_place 26 = .ok (.iload_n 3, 1) := by decide +kernel
theorem dX4_place_27 : decode cX4_place 27 = .ok (.ireturn, 1) := by decide +kernel
theorem dX4_place_28 : decode cX4_place 28 = .ok (.iinc 3 1, 3) := by decide +kernel
theorem dX4_place_31 : decode cX4_place 31 = .ok (.goto (-29), 3) := by decide +kernel
theorem dX4_place_34 : decode cX4_place 34 = .ok (.bipush 9, 2) := by decide +kernel
theorem dX4_place_36 : decode cX4_place 36 = .ok (.ireturn, 1) := by decide +kernel
theorem dX4_draw_0 : decode cX4_draw 0 = .ok (.aload_n 0, 1) := by decide +kernel
theorem dX4_draw_1 : decode cX4_draw 1 = .ok (.iconst 0, 1) := by decide +kernel
theorem dX4_draw_2 : decode cX4_draw 2 = .ok (.putfield 59, 3) := by decide +kernel
theorem dX4_draw_5 : decode cX4_draw 5 = .ok (.aload_n 0, 1) := by decide +kernel
theorem dX4_draw_6 : decode cX4_draw 6 = .ok (.iload_n 1, 1) := by decide +kernel
theorem dX4_draw_7 : decode cX4_draw 7 = .ok (.invokevirtual 77, 3) := by decide +kernel
theorem dX4_draw_10 : decode cX4_draw 10 = .ok (.ifCond .eq 29, 3) := by decide +kernel
theorem dX4_draw_13 : decode cX4_draw 13 = .ok (.aload_n 0, 1) := by decide +kernel
theorem dX4_draw_14 : decode cX4_draw 14 = .ok (.iload_n 2, 1) := by decide +kernel
theorem dX4_draw_15 : decode cX4_draw 15 = .ok (.invokevirtual 73, 3) := by decide +kernel
theorem dX4_draw_18 : decode cX4_draw 18 = .ok (.ifCond .eq 21, 3) := by decide +kernel
theorem dX4_draw_21 : decode cX4_draw 21 = .ok (.iload_n 3, 1) := by decide +kernel
theorem dX4_draw_22 : decode cX4_draw 22 = .ok (.ifCond .lt 17, 3) := by decide +kernel
theorem dX4_draw_25 : decode cX4_draw 25 = .ok (.iload_n 3, 1) := by decide +kernel
theorem dX4_draw_26 : decode cX4_draw 26 = .ok (.sipush 999, 3) := by decide +kernel
theorem dX4_draw_29 : decode cX4_draw 29 = .ok (.if_icmp .gt 10, 3) := by decide +kernel
theorem dX4_draw_32 : decode cX4_draw 32 = .ok (.aload_n 0, 1) := by decide +kernel
theorem dX4_draw_33 : decode cX4_draw 33 = .ok (.getfield 69, 3) := by decide +kernel
theorem dX4_draw_36 : decode cX4_draw 36 = .ok (.ifCond .eq 5, 3) := by decide +kernel
theorem dX4_draw_39 : decode cX4_draw 39 = .ok (.iconst 0, 1) := by decide +kernel
theorem dX4_draw_40 : decode cX4_draw 40 = .ok (.ireturn, 1) := by decide +kernel
theorem dX4_draw_41 : decode cX4_draw 41 = .ok (.iconst 0, 1) := by decide +kernel
theorem dX4_draw_42 : decode cX4_draw 42 = .ok (.istore 4, 2) := by decide +kernel
theorem dX4_draw_44 : decode cX4_draw 44 = .ok (.iload 4, 2) := by decide +kernel
theorem dX4_draw_46 : decode cX4_draw 46 = .ok (.aload_n 0, 1) := by decide +kernel
theorem dX4_draw_47 : decode cX4_draw 47 = .ok (.getfield 66, 3) := by decide +kernel
theorem dX4_draw_50 : decode cX4_draw 50 = .ok (.if_icmp .ge 33, 3) := by decide +kernel
theorem dX4_draw_53 : decode cX4_draw 53 = .ok (.iload 4, 2) := by decide +kernel
theorem dX4_draw_55 : decode cX4_draw 55 = .ok (.iload_n 1, 1) := by decide +kernel
theorem dX4_draw_56 : decode cX4_draw 56 = .ok (.if_icmp .eq 21, 3) := by decide +kernel
theorem dX4_draw_59 : decode cX4_draw 59 = .ok (.aload_n 0, 1) := by decide +kernel
theorem dX4_draw_60 : decode cX4_draw 60 = .ok (.getfield 32, 3) := by decide +kernel
theorem dX4_draw_63 : decode cX4_draw 63 = .ok (.bipush 6, 2) := by decide +kernel
theorem dX4_draw_65 : decode cX4_draw 65 = .ok (.iload 4, 2) := by decide +kernel
theorem dX4_draw_67 : decode cX4_draw 67 = .ok (.imul, 1) := by decide +kernel
theorem dX4_draw_68 : decode cX4_draw 68 = .ok (.iload_n 2, 1) := by decide +kernel
theorem dX4_draw_69 : decode cX4_draw 69 = .ok (.iadd, 1) := by decide +kernel
theorem dX4_draw_70 : decode cX4_draw 70 = .ok (.iaload, 1) := by decide +kernel
theorem dX4_draw_71 : decode cX4_draw 71 = .ok (.iload_n 3, 1) := by decide +kernel
theorem dX4_draw_72 : decode cX4_draw 72 = .ok (.if_icmp .ne 5, 3) := by decide +kernel
theorem dX4_draw_75 : decode cX4_draw 75 = .ok (.iconst 0, 1) := by decide +kernel
theorem dX4_draw_76 : decode cX4_draw 76 = .ok (.ireturn, 1) := by decide +kernel
theorem dX4_draw_77 : decode cX4_draw 77 = .ok (.iinc 4 1, 3) := by decide +kernel
theorem dX4_draw_80 : decode cX4_draw 80 = .ok (.goto (-36), 3) := by decide +kernel
theorem dX4_draw_83 : decode cX4_draw 83 = .ok (.aload_n 0, 1) := by decide +kernel
theorem dX4_draw_84 : decode cX4_draw 84 = .ok (.getfield 32, 3) := by decide +kernel
theorem dX4_draw_87 : decode cX4_draw 87 = .ok (.bipush 6, 2) := by decide +kernel
theorem dX4_draw_89 : decode cX4_draw 89 = .ok (.iload_n 1, 1) := by decide +kernel
theorem dX4_draw_90 : decode cX4_draw 90 = .ok (.imul, 1) := by decide +kernel
theorem dX4_draw_91 : decode cX4_draw 91 = .ok (.iload_n 2, 1) := by decide +kernel
theorem dX4_draw_92 : decode cX4_draw 92 = .ok (.iadd, 1) := by decide +kernel
theorem dX4_draw_93 : decode cX4_draw 93 = .ok (.iload_n 3, 1) := by decide +kernel
theorem dX4_draw_94 : decode cX4_draw 94 = .ok (.iastore, 1) := by decide +kernel
theorem dX4_draw_95 : decode cX4_draw 95 = .ok (.iconst 1, 1) := by decide +kernel
theorem dX4_draw_96 : decode cX4_draw 96 = .ok (.ireturn, 1) := by decide +kernel
theorem dX4_run_0 : decode cX4_run 0 = .ok (.aload_n 0, 1) := by decide +kernel
theorem dX4_run_1 : decode cX4_run 1 = .ok (.aload_n 0, 1) := by decide +kernel
theorem dX4_run_2 : decode cX4_run 2 = .ok (.getfield 69, 3) := by decide +kernel
theorem dX4_run_5 : decode cX4_run 5 = .ok (.ifCond .eq 7, 3) := by decide +kernel
theorem dX4_run_8 : decode cX4_run 8 = .ok (.iconst 1, 1) := by decide +kernel
theorem dX4_run_9 : decode cX4_run 9 = .ok (.goto 4, 3) := by decide +kernel
theorem dX4_run_12 : decode cX4_run 12 = .ok (.iconst 0, 1) := by decide +kernel
theorem dX4_run_13 : decode cX4_run 13 = .ok (.putfield 59, 3) := by decide +kernel
theorem dX4_run_16 : decode cX4_run 16 = .ok (.aload_n 0, 1) := by decide +kernel
theorem dX4_run_17 : decode cX4_run 17 = .ok (.getfield 59, 3) := by decide +kernel
theorem dX4_run_20 : decode cX4_run 20 = .ok (.ifCond .le 5, 3) := by decide +kernel
theorem dX4_run_23 : decode cX4_run 23 = .ok (.iconst 0, 1) := by decide +kernel
theorem dX4_run_24 : decode cX4_run 24 = .ok (.ireturn, 1) := by decide +kernel
theorem dX4_run_25 : decode cX4_run 25 = .ok (.aload_n 0, 1) := by decide +kernel
theorem dX4_run_26 : decode cX4_run 26 = .ok (.iconst 1, 1) := by decide +kernel
theorem dX4_run_27 : decode cX4_run 27 = .ok (.putfield 69, 3) := by decide +kernel
end
section
/-! decode rows, made by a program of mine -/
theorem dX4_run_30 : decode cX4_run 30 = .ok (.iconst 1, 1) := by decide +kernel
theorem dX4_run_31 : decode cX4_run 31 = .ok (.istore_n 1, 1) := by decide +kernel
theorem dX4_run_32 : decode cX4_run 32 = .ok (.iload_n 1, 1) := by decide +kernel
theorem dX4_run_33 : decode cX4_run 33 = .ok (.ifCond .eq 55, 3) := by decide +kernel
theorem dX4_run_36 : decode cX4_run 36 = .ok (.iconst 0, 1) := by decide +kernel
theorem dX4_run_37 : decode cX4_run 37 = .ok (.istore_n 1, 1) := by decide +kernel
theorem dX4_run_38 : decode cX4_run 38 = .ok (.iconst 0, 1) := by decide +kernel
theorem dX4_run_39 : decode cX4_run 39 = .ok (.istore_n 2, 1) := by decide +kernel
theorem dX4_run_40 : decode cX4_run 40 = .ok (.iload_n 2, 1) := by decide +kernel
theorem dX4_run_41 : decode cX4_run 41 = .ok (.aload_n 0, 1) := by decide +kernel
theorem dX4_run_42 : decode cX4_run 42 = .ok (.getfield 66, 3) := by decide +kernel
theorem dX4_run_45 : decode cX4_run 45 = .ok (.if_icmp .ge 40, 3) := by decide +kernel
theorem dX4_run_48 : decode cX4_run 48 = .ok (.aload_n 0, 1) := by decide +kernel
theorem dX4_run_49 : decode cX4_run 49 = .ok (.getfield 38, 3) := by decide +kernel
theorem dX4_run_52 : decode cX4_run 52 = .ok (.iload_n 2, 1) := by decide +kernel
theorem dX4_run_53 : decode cX4_run 53 = .ok (.iaload, 1) := by decide +kernel
theorem dX4_run_54 : decode cX4_run 54 = .ok (.ifCond .ge 25, 3) := by decide +kernel
theorem dX4_run_57 : decode cX4_run 57 = .ok (.aload_n 0, 1) := by decide +kernel
theorem dX4_run_58 : decode cX4_run 58 = .ok (.getfield 35, 3) := by decide +kernel
theorem dX4_run_61 : decode cX4_run 61 = .ok (.iload_n 2, 1) := by decide +kernel
theorem dX4_run_62 : decode cX4_run 62 = .ok (.iaload, 1) := by decide +kernel
theorem dX4_run_63 : decode cX4_run 63 = .ok (.aload_n 0, 1) := by decide +kernel
theorem dX4_run_64 : decode cX4_run 64 = .ok (.getfield 26, 3) := by decide +kernel
theorem dX4_run_67 : decode cX4_run 67 = .ok (.iload_n 2, 1) := by decide +kernel
theorem dX4_run_68 : decode cX4_run 68 = .ok (.iaload, 1) := by decide +kernel
theorem dX4_run_69 : decode cX4_run 69 = .ok (.if_icmp .ge 10, 3) := by decide +kernel
theorem dX4_run_72 : decode cX4_run 72 = .ok (.aload_n 0, 1) := by decide +kernel
theorem dX4_run_73 : decode cX4_run 73 = .ok (.iload_n 2, 1) := by decide +kernel
theorem dX4_run_74 : decode cX4_run 74 = .ok (.invokevirtual 100, 3) := by decide +kernel
theorem dX4_run_77 : decode cX4_run 77 = .ok (.iconst 1, 1) := by decide +kernel
theorem dX4_run_78 : decode cX4_run 78 = .ok (.istore_n 1, 1) := by decide +kernel
theorem dX4_run_79 : decode cX4_run 79 = .ok (.iinc 2 1, 3) := by decide +kernel
theorem dX4_run_82 : decode cX4_run 82 = .ok (.goto (-42), 3) := by decide +kernel
theorem dX4_run_85 : decode cX4_run 85 = .ok (.goto (-53), 3) := by decide +kernel
theorem dX4_run_88 : decode cX4_run 88 = .ok (.aload_n 0, 1) := by decide +kernel
theorem dX4_run_89 : decode cX4_run 89 = .ok (.invokevirtual 103, 3) := by decide +kernel
theorem dX4_run_92 : decode cX4_run 92 = .ok (.ireturn, 1) := by decide +kernel
theorem dX4_ask_0 : decode cX4_ask 0 = .ok (.aload_n 0, 1) := by decide +kernel
theorem dX4_ask_1 : decode cX4_ask 1 = .ok (.getfield 29, 3) := by decide +kernel
theorem dX4_ask_4 : decode cX4_ask 4 = .ok (.iconst 4, 1) := by decide +kernel
theorem dX4_ask_5 : decode cX4_ask 5 = .ok (.iload_n 1, 1) := by decide +kernel
theorem dX4_ask_6 : decode cX4_ask 6 = .ok (.imul, 1) := by decide +kernel
theorem dX4_ask_7 : decode cX4_ask 7 = .ok (.aload_n 0, 1) := by decide +kernel
theorem dX4_ask_8 : decode cX4_ask 8 = .ok (.getfield 35, 3) := by decide +kernel
theorem dX4_ask_11 : decode cX4_ask 11 = .ok (.iload_n 1, 1) := by decide +kernel
theorem dX4_ask_12 : decode cX4_ask 12 = .ok (.iaload, 1) := by decide +kernel
theorem dX4_ask_13 : decode cX4_ask 13 = .ok (.iadd, 1) := by decide +kernel
theorem dX4_ask_14 : decode cX4_ask 14 = .ok (.iaload, 1) := by decide +kernel
theorem dX4_ask_15 : decode cX4_ask 15 = .ok (.istore_n 2, 1) := by decide +kernel
theorem dX4_ask_16 : decode cX4_ask 16 = .ok (.aload_n 0, 1) := by decide +kernel
theorem dX4_ask_17 : decode cX4_ask 17 = .ok (.getfield 35, 3) := by decide +kernel
theorem dX4_ask_20 : decode cX4_ask 20 = .ok (.iload_n 1, 1) := by decide +kernel
theorem dX4_ask_21 : decode cX4_ask 21 = .ok (.dup2, 1) := by decide +kernel
theorem dX4_ask_22 : decode cX4_ask 22 = .ok (.iaload, 1) := by decide +kernel
theorem dX4_ask_23 : decode cX4_ask 23 = .ok (.iconst 1, 1) := by decide +kernel
theorem dX4_ask_24 : decode cX4_ask 24 = .ok (.iadd, 1) := by decide +kernel
theorem dX4_ask_25 : decode cX4_ask 25 = .ok (.iastore, 1) := by decide +kernel
theorem dX4_ask_26 : decode cX4_ask 26 = .ok (.iconst 0, 1) := by decide +kernel
theorem dX4_ask_27 : decode cX4_ask 27 = .ok (.istore_n 3, 1) := by decide +kernel
theorem dX4_ask_28 : decode cX4_ask 28 = .ok (.iload_n 3, 1) := by decide +kernel
theorem dX4_ask_29 : decode cX4_ask 29 = .ok (.aload_n 0, 1) := by decide +kernel
theorem dX4_ask_30 : decode cX4_ask 30 = .ok (.getfield 66, 3) := by decide +kernel
theorem dX4_ask_33 : decode cX4_ask 33 = .ok (.if_icmp .ge 35, 3) := by decide +kernel
theorem dX4_ask_36 : decode cX4_ask 36 = .ok (.aload_n 0, 1) := by decide +kernel
theorem dX4_ask_37 : decode cX4_ask 37 = .ok (.getfield 53, 3) := by decide +kernel
theorem dX4_ask_40 : decode cX4_ask 40 = .ok (.iload_n 3, 1) := by decide +kernel
theorem dX4_ask_41 : decode cX4_ask 41 = .ok (.iload_n 3, 1) := by decide +kernel
theorem dX4_ask_42 : decode cX4_ask 42 = .ok (.iload_n 1, 1) := by decide +kernel
theorem dX4_ask_43 : decode cX4_ask 43 = .ok (.if_icmp .eq 13, 3) := by decide +kernel
theorem dX4_ask_46 : decode cX4_ask 46 = .ok (.aload_n 0, 1) := by decide +kernel
theorem dX4_ask_47 : decode cX4_ask 47 = .ok (.getfield 38, 3) := by decide +kernel
theorem dX4_ask_50 : decode cX4_ask 50 = .ok (.iload_n 3, 1) := by decide +kernel
theorem dX4_ask_51 : decode cX4_ask 51 = .ok (.iaload, 1) := by decide +kernel
theorem dX4_ask_52 : decode cX4_ask 52 = .ok (.iload_n 2, 1) := by decide +kernel
theorem dX4_ask_53 : decode cX4_ask 53 = .ok (.if_icmp .ne 7, 3) := by decide +kernel
theorem dX4_ask_56 : decode cX4_ask 56 = .ok (.iconst 1, 1) := by decide +kernel
theorem dX4_ask_57 : decode cX4_ask 57 = .ok (.goto 4, 3) := by decide +kernel
theorem dX4_ask_60 : decode cX4_ask 60 = .ok (.iconst 0, 1) := by decide +kernel
theorem dX4_ask_61 : decode cX4_ask 61 = .ok (.bastore, 1) := by decide +kernel
theorem dX4_ask_62 : decode cX4_ask 62 = .ok (.iinc 3 1, 3) := by decide +kernel
theorem dX4_ask_65 : decode cX4_ask 65 = .ok (.goto (-37), 3) := by decide +kernel
theorem dX4_ask_68 : decode cX4_ask 68 = .ok (.aload_n 0, 1) := by decide +kernel
theorem dX4_ask_69 : decode cX4_ask 69 = .ok (.iload_n 2, 1) := by decide +kernel
theorem dX4_ask_70 : decode cX4_ask 70 = .ok (.invokevirtual 96, 3) := by decide +kernel
theorem dX4_ask_73 : decode cX4_ask 73 = .ok (.iconst 0, 1) := by decide +kernel
theorem dX4_ask_74 : decode cX4_ask 74 = .ok (.istore_n 3, 1) := by decide +kernel
theorem dX4_ask_75 : decode cX4_ask 75 = .ok (.iload_n 3, 1) := by decide +kernel
theorem dX4_ask_76 : decode cX4_ask 76 = .ok (.aload_n 0, 1) := by decide +kernel
theorem dX4_ask_77 : decode cX4_ask 77 = .ok (.getfield 66, 3) := by decide +kernel
theorem dX4_ask_80 : decode cX4_ask 80 = .ok (.if_icmp .ge 50, 3) := by decide +kernel
theorem dX4_ask_83 : decode cX4_ask 83 = .ok (.aload_n 0, 1) := by decide +kernel
theorem dX4_ask_84 : decode cX4_ask 84 = .ok (.getfield 53, 3) := by decide +kernel
theorem dX4_ask_87 : decode cX4_ask 87 = .ok (.iload_n 3, 1) := by decide +kernel
theorem dX4_ask_88 : decode cX4_ask 88 = .ok (.baload, 1) := by decide +kernel
theorem dX4_ask_89 : decode cX4_ask 89 = .ok (.ifCond .eq 35, 3) := by decide +kernel
theorem dX4_ask_92 : decode cX4_ask 92 = .ok (.aload_n 0, 1) := by decide +kernel
theorem dX4_ask_93 : decode cX4_ask 93 = .ok (.getfield 38, 3) := by decide +kernel
theorem dX4_ask_96 : decode cX4_ask 96 = .ok (.iload_n 3, 1) := by decide +kernel
theorem dX4_ask_97 : decode cX4_ask 97 = .ok (.aload_n 0, 1) := by decide +kernel
theorem dX4_ask_98 : decode cX4_ask 98 = .ok (.getfield 56, 3) := by decide +kernel
theorem dX4_ask_101 : decode cX4_ask 101 = .ok (.iload_n 3, 1) := by decide +kernel
theorem dX4_ask_102 : decode cX4_ask 102 = .ok (.iaload, 1) := by decide +kernel
theorem dX4_ask_103 : decode cX4_ask 103 = .ok (.ifCond .ge 7, 3) := by decide +kernel
theorem dX4_ask_106 : decode cX4_ask 106 = .ok (.iconst (-1), 1) := by decide +kernel
theorem dX4_ask_107 : decode cX4_ask 107 = .ok (.goto 4, 3) := by decide +kernel
theorem dX4_ask_110 : decode cX4_ask 110 = .ok (.iload_n 2, 1) := by decide +kernel
theorem dX4_ask_111 : decode cX4_ask 111 = .ok (.iastore, 1) := by decide +kernel
theorem dX4_ask_112 : decode cX4_ask 112 = .ok (.aload_n 0, 1) := by decide +kernel
theorem dX4_ask_113 : decode cX4_ask 113 = .ok (.getfield 41, 3) := by decide +kernel
theorem dX4_ask_116 : decode cX4_ask 116 = .ok (.iload_n 3, 1) := by decide +kernel
theorem dX4_ask_117 : decode cX4_ask 117 = .ok (.aload_n 0, 1) := by decide +kernel
theorem dX4_ask_118 : decode cX4_ask 118 = .ok (.getfield 56, 3) := by decide +kernel
theorem dX4_ask_121 : decode cX4_ask 121 = .ok (.iload_n 3, 1) := by decide +kernel
theorem dX4_ask_122 : decode cX4_ask 122 = .ok (.iaload, 1) := by decide +kernel
theorem dX4_ask_123 : decode cX4_ask 123 = .ok (.iastore, 1) := by decide +kernel
theorem dX4_ask_124 : decode cX4_ask 124 = .ok (.iinc 3 1, 3) := by decide +kernel
theorem dX4_ask_127 : decode cX4_ask 127 = .ok (.goto (-52), 3) := by decide +kernel
theorem dX4_ask_130 : decode cX4_ask 130 = .ok (.return_, 1) := by decide +kernel
theorem dX4_choose_0 : decode cX4_choose 0 = .ok (.iconst 0, 1) := by decide +kernel
theorem dX4_choose_1 : decode cX4_choose 1 = .ok (.istore_n 2, 1) := by decide +kernel
theorem dX4_choose_2 : decode cX4_choose 2 = .ok (.iload_n 2, 1) := by decide +kernel
theorem dX4_choose_3 : decode cX4_choose 3 = .ok (.aload_n 0, 1) := by decide +kernel
theorem dX4_choose_4 : decode cX4_choose 4 = .ok (.getfield 66, 3) := by decide +kernel
theorem dX4_choose_7 : decode cX4_choose 7 = .ok (.if_icmp .ge 16, 3) := by decide +kernel
theorem dX4_choose_10 : decode cX4_choose 10 = .ok (.aload_n 0, 1) := by decide +kernel
theorem dX4_choose_11 : decode cX4_choose 11 = .ok (.getfield 56, 3) := by decide +kernel
theorem dX4_choose_14 : decode cX4_choose 14 = .ok (.iload_n 2, 1) := by decide +kernel
theorem dX4_choose_15 : decode cX4_choose 15 = .ok (.iconst (-1), 1) := by decide +kernel
theorem dX4_choose_16 : decode cX4_choose 16 = .ok (.iastore, 1) := by decide +kernel
theorem dX4_choose_17 : decode cX4_choose 17 = .ok (.iinc 2 1, 3) := by decide +kernel
theorem dX4_choose_20 : decode cX4_choose 20 = .ok (.goto (-18), 3) := by decide +kernel
theorem dX4_choose_23 : decode cX4_choose 23 = .ok (.iconst 0, 1) := by decide +kernel
theorem dX4_choose_24 : decode cX4_choose 24 = .ok (.istore_n 2, 1) := by decide +kernel
theorem dX4_choose_25 : decode cX4_choose 25 = .ok (.iload_n 2, 1) := by decide +kernel
theorem dX4_choose_26 : decode cX4_choose 26 = .ok (.aload_n 0, 1) := by decide +kernel
theorem dX4_choose_27 : decode cX4_choose 27 = .ok (.getfield 7, 3) := by decide +kernel
theorem dX4_choose_30 : decode cX4_choose 30 = .ok (.iload_n 1, 1) := by decide +kernel
theorem dX4_choose_31 : decode cX4_choose 31 = .ok (.iaload, 1) := by decide +kernel
theorem dX4_choose_32 : decode cX4_choose 32 = .ok (.if_icmp .ge 150, 3) := by decide +kernel
theorem dX4_choose_35 : decode cX4_choose 35 = .ok (.iconst 0, 1) := by decide +kernel
theorem dX4_choose_36 : decode cX4_choose 36 = .ok (.istore_n 3, 1) := by decide +kernel
theorem dX4_choose_37 : decode cX4_choose 37 = .ok (.iload_n 3, 1) := by decide +kernel
theorem dX4_choose_38 : decode cX4_choose 38 = .ok (.aload_n 0, 1) := by decide +kernel
theorem dX4_choose_39 : decode cX4_choose 39 = .ok (.getfield 13, 3) := by decide +kernel
theorem dX4_choose_42 : decode cX4_choose 42 = .ok (.iconst 3, 1) := by decide +kernel
theorem dX4_choose_43 : decode cX4_choose 43 = .ok (.iload_n 1, 1) := by decide +kernel
theorem dX4_choose_44 : decode cX4_choose 44 = .ok (.imul, 1) := by decide +kernel
theorem dX4_choose_45 : decode cX4_choose 45 = .ok (.iload_n 2, 1) := by decide +kernel
theorem dX4_choose_46 : decode cX4_choose 46 = .ok (.iadd, 1) := by decide +kernel
theorem dX4_choose_47 : decode cX4_choose 47 = .ok (.iaload, 1) := by decide +kernel
theorem dX4_choose_48 : decode cX4_choose 48 = .ok (.if_icmp .ge 128, 3) := by decide +kernel
theorem dX4_choose_51 : decode cX4_choose 51 = .ok (.iconst (-1), 1) := by decide +kernel
theorem dX4_choose_52 : decode cX4_choose 52 = .ok (.istore 4, 2) := by decide +kernel
theorem dX4_choose_54 : decode cX4_choose 54 = .ok (.iconst 0, 1) := by decide +kernel
theorem dX4_choose_55 : decode cX4_choose 55 = .ok (.istore 5, 2) := by decide +kernel
theorem dX4_choose_57 : decode cX4_choose 57 = .ok (.iload 5, 2) := by decide +kernel
theorem dX4_choose_59 : decode cX4_choose 59 = .ok (.aload_n 0, 1) := by decide +kernel
theorem dX4_choose_60 : decode cX4_choose 60 = .ok (.getfield 66, 3) := by decide +kernel
theorem dX4_choose_63 : decode cX4_choose 63 = .ok (.if_icmp .ge 94, 3) := by decide +kernel
theorem dX4_choose_66 : decode cX4_choose 66 = .ok (.aload_n 0, 1) := by decide +kernel
theorem dX4_choose_67 : decode cX4_choose 67 = .ok (.getfield 53, 3) := by decide +kernel
theorem dX4_choose_70 : decode cX4_choose 70 = .ok (.iload 5, 2) := by decide +kernel
theorem dX4_choose_72 : decode cX4_choose 72 = .ok (.baload, 1) := by decide +kernel
theorem dX4_choose_73 : decode cX4_choose 73 = .ok (.ifCond .eq 28, 3) := by decide +kernel
theorem dX4_choose_76 : decode cX4_choose 76 = .ok (.aload_n 0, 1) := by decide +kernel
theorem dX4_choose_77 : decode cX4_choose 77 = .ok (.getfield 56, 3) := by decide +kernel
theorem dX4_choose_80 : decode cX4_choose 80 = .ok (.iload 5, 2) := by decide +kernel
theorem dX4_choose_82 : decode cX4_choose 82 = .ok (.iaload, 1) := by decide +kernel
theorem dX4_choose_83 : decode cX4_choose 83 = .ok (.ifCond .ge 18, 3) := by decide +kernel
theorem dX4_choose_86 : decode cX4_choose 86 = .ok (.aload_n 0, 1) := by decide +kernel
theorem dX4_choose_87 : decode cX4_choose 87 = .ok (.iload 5, 2) := by decide +kernel
theorem dX4_choose_89 : decode cX4_choose 89 = .ok (.iload_n 1, 1) := by decide +kernel
theorem dX4_choose_90 : decode cX4_choose 90 = .ok (.iload_n 2, 1) := by decide +kernel
theorem dX4_choose_91 : decode cX4_choose 91 = .ok (.invokevirtual 89, 3) := by decide +kernel
theorem dX4_choose_94 : decode cX4_choose 94 = .ok (.ifCond .eq 7, 3) := by decide +kernel
theorem dX4_choose_97 : decode cX4_choose 97 = .ok (.iconst 1, 1) := by decide +kernel
theorem dX4_choose_98 : decode cX4_choose 98 = .ok (.goto 4, 3) := by decide +kernel
theorem dX4_choose_101 : decode cX4_choose 101 = .ok (.iconst 0, 1) := by decide +kernel
theorem dX4_choose_102 : decode cX4_choose 102 = .ok (.istore 6, 2) := by decide +kernel
theorem dX4_choose_104 : decode cX4_choose 104 = .ok (.iload 6, 2) := by decide +kernel
theorem dX4_choose_106 : decode cX4_choose 106 = .ok (.ifCond .eq 41, 3) := by decide +kernel
theorem dX4_choose_109 : decode cX4_choose 109 = .ok (.iload 4, 2) := by decide +kernel
theorem dX4_choose_111 : decode cX4_choose 111 = .ok (.ifCond .lt 31, 3) := by decide +kernel
theorem dX4_choose_114 : decode cX4_choose 114 = .ok (.aload_n 0, 1) := by decide +kernel
theorem dX4_choose_115 : decode cX4_choose 115 = .ok (.iload 5, 2) := by decide +kernel
theorem dX4_choose_117 : decode cX4_choose 117 = .ok (.iload_n 1, 1) := by decide +kernel
theorem dX4_choose_118 : decode cX4_choose 118 = .ok (.iload_n 2, 1) := by decide +kernel
theorem dX4_choose_119 : decode cX4_choose 119 = .ok (.invokevirtual 93, 3) := by decide +kernel
theorem dX4_choose_122 : decode cX4_choose 122 = .ok (.aload_n 0, 1) := by decide +kernel
theorem dX4_choose_123 : decode cX4_choose 123 = .ok (.iload 4, 2) := by decide +kernel
theorem dX4_choose_125 : decode cX4_choose 125 = .ok (.ifCond .ge 7, 3) := by decide +kernel
theorem dX4_choose_128 : decode cX4_choose 128 = .ok (.iconst 0, 1) := by decide +kernel
theorem dX4_choose_129 : decode cX4_choose 129 = .ok (.goto 5, 3) := by decide +kernel
theorem dX4_choose_132 : decode cX4_choose 132 = .ok (.iload 4, 2) := by decide +kernel
theorem dX4_choose_134 : decode cX4_choose 134 = .ok (.iload_n 1, 1) := by decide +kernel
theorem dX4_choose_135 : decode cX4_choose 135 = .ok (.iload_n 2, 1) := by decide +kernel
theorem dX4_choose_136 : decode cX4_choose 136 = .ok (.invokevirtual 93, 3) := by decide +kernel
theorem dX4_choose_139 : decode cX4_choose 139 = .ok (.if_icmp .ge 8, 3) := by decide +kernel
theorem dX4_choose_142 : decode cX4_choose 142 = .ok (.iload 5, 2) := by decide +kernel
theorem dX4_choose_144 : decode cX4_choose 144 = .ok (.goto 5, 3) := by decide +kernel
theorem dX4_choose_147 : decode cX4_choose 147 = .ok (.iload 4, 2) := by decide +kernel
theorem dX4_choose_149 : decode cX4_choose 149 = .ok (.istore 4, 2) := by decide +kernel
theorem dX4_choose_151 : decode cX4_choose 151 = .ok (.iinc 5 1, 3) := by decide +kernel
theorem dX4_choose_154 : decode cX4_choose 154 = .ok (.goto (-97), 3) := by decide +kernel
theorem dX4_choose_157 : decode cX4_choose 157 = .ok (.iload 4, 2) := by decide +kernel
theorem dX4_choose_159 : decode cX4_choose 159 = .ok (.ifCond .lt 11, 3) := by decide +kernel
theorem dX4_choose_162 : decode cX4_choose 162 = .ok (.aload_n 0, 1) := by decide +kernel
theorem dX4_choose_163 : decode cX4_choose 163 = .ok (.getfield 56, 3) := by decide +kernel
theorem dX4_choose_166 : decode cX4_choose 166 = .ok (.iload 4, 2) := by decide +kernel
theorem dX4_choose_168 : decode cX4_choose 168 = .ok (.iload_n 2, 1) := by decide +kernel
theorem dX4_choose_169 : decode cX4_choose 169 = .ok (.iastore, 1) := by decide +kernel
theorem dX4_choose_170 : decode cX4_choose 170 = .ok (.iinc 3 1, 3) := by decide +kernel
theorem dX4_choose_173 : decode cX4_choose 173 = .ok (.goto (-136), 3) := by decide +kernel
theorem dX4_choose_176 : decode cX4_choose 176 = .ok (.iinc 2 1, 3) := by decide +kernel
theorem dX4_choose_179 : decode cX4_choose 179 = .ok (.goto (-154), 3) := by decide +kernel
theorem dX4_choose_182 : decode cX4_choose 182 = .ok (.return_, 1) := by decide +kernel
theorem dX4_eligible_0 : decode cX4_eligible 0 = .ok (.aload_n 0, 1) := by decide +kernel
theorem dX4_eligible_1 : decode cX4_eligible 1 = .ok (.iload_n 1, 1) := by decide +kernel
theorem dX4_eligible_2 : decode cX4_eligible 2 = .ok (.iload_n 2, 1) := by decide +kernel
theorem dX4_eligible_3 : decode cX4_eligible 3 = .ok (.iload_n 3, 1) := by decide +kernel
theorem dX4_eligible_4 : decode cX4_eligible 4 = .ok (.invokevirtual 84, 3) := by decide +kernel
theorem dX4_eligible_7 : decode cX4_eligible 7 = .ok (.bipush 9, 2) := by decide +kernel
theorem dX4_eligible_9 : decode cX4_eligible 9 = .ok (.if_icmp .ge 7, 3) := by decide +kernel
theorem dX4_eligible_12 : decode cX4_eligible 12 = .ok (.iconst 1, 1) := by decide +kernel
theorem dX4_eligible_13 : decode cX4_eligible 13 = .ok (.goto 4, 3) := by decide +kernel
theorem dX4_eligible_16 : decode cX4_eligible 16 = .ok (.iconst 0, 1) := by decide +kernel
theorem dX4_eligible_17 : decode cX4_eligible 17 = .ok (.ireturn, 1) := by decide +kernel
theorem dX4_band_0 : decode cX4_band 0 = .ok (.iconst 0, 1) := by decide +kernel
theorem dX4_band_1 : decode cX4_band 1 = .ok (.istore 4, 2) := by decide +kernel
theorem dX4_band_3 : decode cX4_band 3 = .ok (.iload 4, 2) := by decide +kernel
theorem dX4_band_5 : decode cX4_band 5 = .ok (.iconst 3, 1) := by decide +kernel
theorem dX4_band_6 : decode cX4_band 6 = .ok (.if_icmp .ge 49, 3) := by decide +kernel
theorem dX4_band_9 : decode cX4_band 9 = .ok (.aload_n 0, 1) := by decide +kernel
theorem dX4_band_10 : decode cX4_band 10 = .ok (.getfield 16, 3) := by decide +kernel
theorem dX4_band_13 : decode cX4_band 13 = .ok (.bipush 9, 2) := by decide +kernel
theorem dX4_band_15 : decode cX4_band 15 = .ok (.iload_n 2, 1) := by decide +kernel
theorem dX4_band_16 : decode cX4_band 16 = .ok (.imul, 1) := by decide +kernel
theorem dX4_band_17 : decode cX4_band 17 = .ok (.iconst 3, 1) := by decide +kernel
theorem dX4_band_18 : decode cX4_band 18 = .ok (.iload_n 3, 1) := by decide +kernel
theorem dX4_band_19 : decode cX4_band 19 = .ok (.imul, 1) := by decide +kernel
theorem dX4_band_20 : decode cX4_band 20 = .ok (.iadd, 1) := by decide +kernel
theorem dX4_band_21 : decode cX4_band 21 = .ok (.iload 4, 2) := by decide +kernel
theorem dX4_band_23 : decode cX4_band 23 = .ok (.iadd, 1) := by decide +kernel
theorem dX4_band_24 : decode cX4_band 24 = .ok (.iaload, 1) := by decide +kernel
theorem dX4_band_25 : decode cX4_band 25 = .ok (.istore 5, 2) := by decide +kernel
theorem dX4_band_27 : decode cX4_band 27 = .ok (.iload 5, 2) := by decide +kernel
theorem dX4_band_29 : decode cX4_band 29 = .ok (.ifCond .lt 20, 3) := by decide +kernel
theorem dX4_band_32 : decode cX4_band 32 = .ok (.aload_n 0, 1) := by decide +kernel
theorem dX4_band_33 : decode cX4_band 33 = .ok (.getfield 19, 3) := by decide +kernel
theorem dX4_band_36 : decode cX4_band 36 = .ok (.iload_n 1, 1) := by decide +kernel
theorem dX4_band_37 : decode cX4_band 37 = .ok (.iaload, 1) := by decide +kernel
theorem dX4_band_38 : decode cX4_band 38 = .ok (.iload 5, 2) := by decide +kernel
theorem dX4_band_40 : decode cX4_band 40 = .ok (.iand, 1) := by decide +kernel
theorem dX4_band_41 : decode cX4_band 41 = .ok (.iload 5, 2) := by decide +kernel
theorem dX4_band_43 : decode cX4_band 43 = .ok (.if_icmp .ne 6, 3) := by decide +kernel
theorem dX4_band_46 : decode cX4_band 46 = .ok (.iload 4, 2) := by decide +kernel
theorem dX4_band_48 : decode cX4_band 48 = .ok (.ireturn, 1) := by decide +kernel
theorem dX4_band_49 : decode cX4_band 49 = .ok (.iinc 4 1, 3) := by decide +kernel
theorem dX4_band_52 : decode cX4_band 52 = .ok (.goto (-49), 3) := by decide +kernel
theorem dX4_band_55 : decode cX4_band 55 = .ok (.bipush 9, 2) := by decide +kernel
theorem dX4_band_57 : decode cX4_band 57 = .ok (.ireturn, 1) := by decide +kernel
theorem dX4_rank_0 : decode cX4_rank 0 = .ok (.aload_n 0, 1) := by decide +kernel
theorem dX4_rank_1 : decode cX4_rank 1 = .ok (.getfield 32, 3) := by decide +kernel
theorem dX4_rank_4 : decode cX4_rank 4 = .ok (.bipush 6, 2) := by decide +kernel
theorem dX4_rank_6 : decode cX4_rank 6 = .ok (.iload_n 1, 1) := by decide +kernel
theorem dX4_rank_7 : decode cX4_rank 7 = .ok (.imul, 1) := by decide +kernel
theorem dX4_rank_8 : decode cX4_rank 8 = .ok (.iload_n 2, 1) := by decide +kernel
theorem dX4_rank_9 : decode cX4_rank 9 = .ok (.iadd, 1) := by decide +kernel
theorem dX4_rank_10 : decode cX4_rank 10 = .ok (.iaload, 1) := by decide +kernel
theorem dX4_rank_11 : decode cX4_rank 11 = .ok (.istore 4, 2) := by decide +kernel
theorem dX4_rank_13 : decode cX4_rank 13 = .ok (.aload_n 0, 1) := by decide +kernel
theorem dX4_rank_14 : decode cX4_rank 14 = .ok (.getfield 22, 3) := by decide +kernel
theorem dX4_rank_17 : decode cX4_rank 17 = .ok (.iload_n 1, 1) := by decide +kernel
theorem dX4_rank_18 : decode cX4_rank 18 = .ok (.baload, 1) := by decide +kernel
theorem dX4_rank_19 : decode cX4_rank 19 = .ok (.ifCond .eq 8, 3) := by decide +kernel
theorem dX4_rank_22 : decode cX4_rank 22 = .ok (.ldc 88, 2) := by decide +kernel
theorem dX4_rank_24 : decode cX4_rank 24 = .ok (.goto 4, 3) := by decide +kernel
theorem dX4_rank_27 : decode cX4_rank 27 = .ok (.iconst 0, 1) := by decide +kernel
theorem dX4_rank_28 : decode cX4_rank 28 = .ok (.sipush 10000, 3) := by decide +kernel
theorem dX4_rank_31 : decode cX4_rank 31 = .ok (.aload_n 0, 1) := by decide +kernel
theorem dX4_rank_32 : decode cX4_rank 32 = .ok (.iload_n 1, 1) := by decide +kernel
theorem dX4_rank_33 : decode cX4_rank 33 = .ok (.iload_n 2, 1) := by decide +kernel
theorem dX4_rank_34 : decode cX4_rank 34 = .ok (.iload_n 3, 1) := by decide +kernel
theorem dX4_rank_35 : decode cX4_rank 35 = .ok (.invokevirtual 84, 3) := by decide +kernel
theorem dX4_rank_38 : decode cX4_rank 38 = .ok (.imul, 1) := by decide +kernel
theorem dX4_rank_39 : decode cX4_rank 39 = .ok (.iadd, 1) := by decide +kernel
theorem dX4_rank_40 : decode cX4_rank 40 = .ok (.iload 4, 2) := by decide +kernel
theorem dX4_rank_42 : decode cX4_rank 42 = .ok (.ifCond .ge 11, 3) := by decide +kernel
theorem dX4_rank_45 : decode cX4_rank 45 = .ok (.sipush 1000, 3) := by decide +kernel
theorem dX4_rank_48 : decode cX4_rank 48 = .ok (.iload_n 1, 1) := by decide +kernel
theorem dX4_rank_49 : decode cX4_rank 49 = .ok (.iadd, 1) := by decide +kernel
theorem dX4_rank_50 : decode cX4_rank 50 = .ok (.goto 5, 3) := by decide +kernel
theorem dX4_rank_53 : decode cX4_rank 53 = .ok (.iload 4, 2) := by decide +kernel
theorem dX4_rank_55 : decode cX4_rank 55 = .ok (.iadd, 1) := by decide +kernel
theorem dX4_rank_56 : decode cX4_rank 56 = .ok (.ireturn, 1) := by decide +kernel
theorem dX4_placed_0 : decode cX4_placed 0 = .ok (.iconst 0, 1) := by decide +kernel
theorem dX4_placed_1 : decode cX4_placed 1 = .ok (.istore_n 1, 1) := by decide +kernel
theorem dX4_placed_2 : decode cX4_placed 2 = .ok (.iconst 0, 1) := by decide +kernel
theorem dX4_placed_3 : decode cX4_placed 3 = .ok (.istore_n 2, 1) := by decide +kernel
theorem dX4_placed_4 : decode cX4_placed 4 = .ok (.iload_n 2, 1) := by decide +kernel
theorem dX4_placed_5 : decode cX4_placed 5 = .ok (.aload_n 0, 1) := by decide +kernel
theorem dX4_placed_6 : decode cX4_placed 6 = .ok (.getfield 66, 3) := by decide +kernel
theorem dX4_placed_9 : decode cX4_placed 9 = .ok (.if_icmp .ge 33, 3) := by decide +kernel
theorem dX4_placed_12 : decode cX4_placed 12 = .ok (.iload_n 1, 1) := by decide +kernel
theorem dX4_placed_13 : decode cX4_placed 13 = .ok (.aload_n 0, 1) := by decide +kernel
theorem dX4_placed_14 : decode cX4_placed 14 = .ok (.getfield 69, 3) := by decide +kernel
theorem dX4_placed_17 : decode cX4_placed 17 = .ok (.ifCond .eq 16, 3) := by decide +kernel
theorem dX4_placed_20 : decode cX4_placed 20 = .ok (.aload_n 0, 1) := by decide +kernel
theorem dX4_placed_21 : decode cX4_placed 21 = .ok (.getfield 38, 3) := by decide +kernel
theorem dX4_placed_24 : decode cX4_placed 24 = .ok (.iload_n 2, 1) := by decide +kernel
theorem dX4_placed_25 : decode cX4_placed 25 = .ok (.iaload, 1) := by decide +kernel
theorem dX4_placed_26 : decode cX4_placed 26 = .ok (.ifCond .lt 7, 3) := by decide +kernel
theorem dX4_placed_29 : decode cX4_placed 29 = .ok (.iconst 1, 1) := by decide +kernel
theorem dX4_placed_30 : decode cX4_placed 30 = .ok (.goto 4, 3) := by decide +kernel
theorem dX4_placed_33 : decode cX4_placed 33 = .ok (.iconst 0, 1) := by decide +kernel
theorem dX4_placed_34 : decode cX4_placed 34 = .ok (.iadd, 1) := by decide +kernel
theorem dX4_placed_35 : decode cX4_placed 35 = .ok (.istore_n 1, 1) := by decide +kernel
theorem dX4_placed_36 : decode cX4_placed 36 = .ok (.iinc 2 1, 3) := by decide +kernel
theorem dX4_placed_39 : decode cX4_placed 39 = .ok (.goto (-35), 3) := by decide +kernel
theorem dX4_placed_42 : decode cX4_placed 42 = .ok (.iload_n 1, 1) := by decide +kernel
theorem dX4_placed_43 : decode cX4_placed 43 = .ok (.ireturn, 1) := by decide +kernel
theorem dX4_answer_0 : decode cX4_answer 0 = .ok (.aload_n 0, 1) := by decide +kernel
theorem dX4_answer_1 : decode cX4_answer 1 = .ok (.iconst 0, 1) := by decide +kernel
theorem dX4_answer_2 : decode cX4_answer 2 = .ok (.putfield 59, 3) := by decide +kernel
theorem dX4_answer_5 : decode cX4_answer 5 = .ok (.aload_n 0, 1) := by decide +kernel
theorem dX4_answer_6 : decode cX4_answer 6 = .ok (.iload_n 1, 1) := by decide +kernel
theorem dX4_answer_7 : decode cX4_answer 7 = .ok (.invokevirtual 77, 3) := by decide +kernel
theorem dX4_answer_10 : decode cX4_answer 10 = .ok (.ifCond .eq 19, 3) := by decide +kernel
theorem dX4_answer_13 : decode cX4_answer 13 = .ok (.aload_n 0, 1) := by decide +kernel
theorem dX4_answer_14 : decode cX4_answer 14 = .ok (.getfield 69, 3) := by decide +kernel
theorem dX4_answer_17 : decode cX4_answer 17 = .ok (.ifCond .eq 12, 3) := by decide +kernel
theorem dX4_answer_20 : decode cX4_answer 20 = .ok (.iload_n 2, 1) := by decide +kernel
theorem dX4_answer_21 : decode cX4_answer 21 = .ok (.ifCond .lt 8, 3) := by decide +kernel
theorem dX4_answer_24 : decode cX4_answer 24 = .ok (.iload_n 2, 1) := by decide +kernel
theorem dX4_answer_25 : decode cX4_answer 25 = .ok (.iconst 2, 1) := by decide +kernel
theorem dX4_answer_26 : decode cX4_answer 26 = .ok (.if_icmp .le 5, 3) := by decide +kernel
theorem dX4_answer_29 : decode cX4_answer 29 = .ok (.iconst 0, 1) := by decide +kernel
theorem dX4_answer_30 : decode cX4_answer 30 = .ok (.ireturn, 1) := by decide +kernel
theorem dX4_answer_31 : decode cX4_answer 31 = .ok (.aload_n 0, 1) := by decide +kernel
theorem dX4_answer_32 : decode cX4_answer 32 = .ok (.getfield 44, 3) := by decide +kernel
theorem dX4_answer_35 : decode cX4_answer 35 = .ok (.iload_n 1, 1) := by decide +kernel
theorem dX4_answer_36 : decode cX4_answer 36 = .ok (.iaload, 1) := by decide +kernel
theorem dX4_answer_37 : decode cX4_answer 37 = .ok (.iconst 3, 1) := by decide +kernel
theorem dX4_answer_38 : decode cX4_answer 38 = .ok (.if_icmp .eq 26, 3) := by decide +kernel
theorem dX4_answer_41 : decode cX4_answer 41 = .ok (.iload_n 2, 1) := by decide +kernel
theorem dX4_answer_42 : decode cX4_answer 42 = .ok (.iconst 2, 1) := by decide +kernel
theorem dX4_answer_43 : decode cX4_answer 43 = .ok (.if_icmp .ge 23, 3) := by decide +kernel
theorem dX4_answer_46 : decode cX4_answer 46 = .ok (.aload_n 0, 1) := by decide +kernel
theorem dX4_answer_47 : decode cX4_answer 47 = .ok (.getfield 47, 3) := by decide +kernel
theorem dX4_answer_50 : decode cX4_answer 50 = .ok (.iload_n 1, 1) := by decide +kernel
theorem dX4_answer_51 : decode cX4_answer 51 = .ok (.baload, 1) := by decide +kernel
theorem dX4_answer_52 : decode cX4_answer 52 = .ok (.ifCond .ne 12, 3) := by decide +kernel
theorem dX4_answer_55 : decode cX4_answer 55 = .ok (.aload_n 0, 1) := by decide +kernel
theorem dX4_answer_56 : decode cX4_answer 56 = .ok (.getfield 38, 3) := by decide +kernel
theorem dX4_answer_59 : decode cX4_answer 59 = .ok (.iload_n 1, 1) := by decide +kernel
theorem dX4_answer_60 : decode cX4_answer 60 = .ok (.iaload, 1) := by decide +kernel
theorem dX4_answer_61 : decode cX4_answer 61 = .ok (.ifCond .ge 5, 3) := by decide +kernel
theorem dX4_answer_64 : decode cX4_answer 64 = .ok (.iconst 0, 1) := by decide +kernel
theorem dX4_answer_65 : decode cX4_answer 65 = .ok (.ireturn, 1) := by decide +kernel
theorem dX4_answer_66 : decode cX4_answer 66 = .ok (.aload_n 0, 1) := by decide +kernel
theorem dX4_answer_67 : decode cX4_answer 67 = .ok (.getfield 47, 3) := by decide +kernel
theorem dX4_answer_70 : decode cX4_answer 70 = .ok (.iload_n 1, 1) := by decide +kernel
theorem dX4_answer_71 : decode cX4_answer 71 = .ok (.iconst 1, 1) := by decide +kernel
theorem dX4_answer_72 : decode cX4_answer 72 = .ok (.bastore, 1) := by decide +kernel
theorem dX4_answer_73 : decode cX4_answer 73 = .ok (.aload_n 0, 1) := by decide +kernel
theorem dX4_answer_74 : decode cX4_answer 74 = .ok (.getfield 44, 3) := by decide +kernel
theorem dX4_answer_77 : decode cX4_answer 77 = .ok (.iload_n 1, 1) := by decide +kernel
theorem dX4_answer_78 : decode cX4_answer 78 = .ok (.iload_n 2, 1) := by decide +kernel
theorem dX4_answer_79 : decode cX4_answer 79 = .ok (.iconst 1, 1) := by decide +kernel
theorem dX4_answer_80 : decode cX4_answer 80 = .ok (.iadd, 1) := by decide +kernel
theorem dX4_answer_81 : decode cX4_answer 81 = .ok (.iastore, 1) := by decide +kernel
theorem dX4_answer_82 : decode cX4_answer 82 = .ok (.iload_n 2, 1) := by decide +kernel
theorem dX4_answer_83 : decode cX4_answer 83 = .ok (.ifCond .le 8, 3) := by decide +kernel
theorem dX4_answer_86 : decode cX4_answer 86 = .ok (.aload_n 0, 1) := by decide +kernel
theorem dX4_answer_87 : decode cX4_answer 87 = .ok (.iload_n 1, 1) := by decide +kernel
theorem dX4_answer_88 : decode cX4_answer 88 = .ok (.invokevirtual 107, 3) := by decide +kernel
theorem dX4_answer_91 : decode cX4_answer 91 = .ok (.iconst 1, 1) := by decide +kernel
theorem dX4_answer_92 : decode cX4_answer 92 = .ok (.ireturn, 1) := by decide +kernel
theorem dX4_give_0 : decode cX4_give 0 = .ok (.aload_n 0, 1) := by decide +kernel
theorem dX4_give_1 : decode cX4_give 1 = .ok (.getfield 38, 3) := by decide +kernel
theorem dX4_give_4 : decode cX4_give 4 = .ok (.iload_n 1, 1) := by decide +kernel
theorem dX4_give_5 : decode cX4_give 5 = .ok (.iconst (-1), 1) := by decide +kernel
theorem dX4_give_6 : decode cX4_give 6 = .ok (.iastore, 1) := by decide +kernel
theorem dX4_give_7 : decode cX4_give 7 = .ok (.aload_n 0, 1) := by decide +kernel
theorem dX4_give_8 : decode cX4_give 8 = .ok (.getfield 41, 3) := by decide +kernel
theorem dX4_give_11 : decode cX4_give 11 = .ok (.iload_n 1, 1) := by decide +kernel
theorem dX4_give_12 : decode cX4_give 12 = .ok (.iconst (-1), 1) := by decide +kernel
theorem dX4_give_13 : decode cX4_give 13 = .ok (.iastore, 1) := by decide +kernel
theorem dX4_give_14 : decode cX4_give 14 = .ok (.aload_n 0, 1) := by decide +kernel
theorem dX4_give_15 : decode cX4_give 15 = .ok (.getfield 50, 3) := by decide +kernel
theorem dX4_give_18 : decode cX4_give 18 = .ok (.iload_n 1, 1) := by decide +kernel
theorem dX4_give_19 : decode cX4_give 19 = .ok (.iconst 0, 1) := by decide +kernel
theorem dX4_give_20 : decode cX4_give 20 = .ok (.iastore, 1) := by decide +kernel
theorem dX4_give_21 : decode cX4_give 21 = .ok (.return_, 1) := by decide +kernel
theorem dX4_stay_0 : decode cX4_stay 0 = .ok (.aload_n 0, 1) := by decide +kernel
theorem dX4_stay_1 : decode cX4_stay 1 = .ok (.iconst 0, 1) := by decide +kernel
theorem dX4_stay_2 : decode cX4_stay 2 = .ok (.putfield 59, 3) := by decide +kernel
theorem dX4_stay_5 : decode cX4_stay 5 = .ok (.aload_n 0, 1) := by decide +kernel
theorem dX4_stay_6 : decode cX4_stay 6 = .ok (.iload_n 1, 1) := by decide +kernel
theorem dX4_stay_7 : decode cX4_stay 7 = .ok (.invokevirtual 77, 3) := by decide +kernel
theorem dX4_stay_10 : decode cX4_stay 10 = .ok (.ifCond .eq 19, 3) := by decide +kernel
theorem dX4_stay_13 : decode cX4_stay 13 = .ok (.aload_n 0, 1) := by decide +kernel
theorem dX4_stay_14 : decode cX4_stay 14 = .ok (.getfield 69, 3) := by decide +kernel
theorem dX4_stay_17 : decode cX4_stay 17 = .ok (.ifCond .eq 12, 3) := by decide +kernel
theorem dX4_stay_20 : decode cX4_stay 20 = .ok (.iload_n 2, 1) := by decide +kernel
theorem dX4_stay_21 : decode cX4_stay 21 = .ok (.ifCond .lt 8, 3) := by decide +kernel
theorem dX4_stay_24 : decode cX4_stay 24 = .ok (.iload_n 2, 1) := by decide +kernel
theorem dX4_stay_25 : decode cX4_stay 25 = .ok (.iconst 4, 1) := by decide +kernel
theorem dX4_stay_26 : decode cX4_stay 26 = .ok (.if_icmp .le 5, 3) := by decide +kernel
theorem dX4_stay_29 : decode cX4_stay 29 = .ok (.iconst 0, 1) := by decide +kernel
theorem dX4_stay_30 : decode cX4_stay 30 = .ok (.ireturn, 1) := by decide +kernel
theorem dX4_stay_31 : decode cX4_stay 31 = .ok (.aload_n 0, 1) := by decide +kernel
theorem dX4_stay_32 : decode cX4_stay 32 = .ok (.getfield 44, 3) := by decide +kernel
theorem dX4_stay_35 : decode cX4_stay 35 = .ok (.iload_n 1, 1) := by decide +kernel
theorem dX4_stay_36 : decode cX4_stay 36 = .ok (.iaload, 1) := by decide +kernel
theorem dX4_stay_37 : decode cX4_stay 37 = .ok (.iconst 3, 1) := by decide +kernel
theorem dX4_stay_38 : decode cX4_stay 38 = .ok (.if_icmp .ne 5, 3) := by decide +kernel
theorem dX4_stay_41 : decode cX4_stay 41 = .ok (.iconst 0, 1) := by decide +kernel
theorem dX4_stay_42 : decode cX4_stay 42 = .ok (.ireturn, 1) := by decide +kernel
theorem dX4_stay_43 : decode cX4_stay 43 = .ok (.aload_n 0, 1) := by decide +kernel
theorem dX4_stay_44 : decode cX4_stay 44 = .ok (.getfield 50, 3) := by decide +kernel
theorem dX4_stay_47 : decode cX4_stay 47 = .ok (.iload_n 1, 1) := by decide +kernel
theorem dX4_stay_48 : decode cX4_stay 48 = .ok (.iload_n 2, 1) := by decide +kernel
theorem dX4_stay_49 : decode cX4_stay 49 = .ok (.iastore, 1) := by decide +kernel
theorem dX4_stay_50 : decode cX4_stay 50 = .ok (.iconst 1, 1) := by decide +kernel
theorem dX4_stay_51 : decode cX4_stay 51 = .ok (.ireturn, 1) := by decide +kernel
theorem dX4_chain_0 : decode cX4_chain 0 = .ok (.aload_n 0, 1) := by decide +kernel
theorem dX4_chain_1 : decode cX4_chain 1 = .ok (.aload_n 0, 1) := by decide +kernel
theorem dX4_chain_2 : decode cX4_chain 2 = .ok (.getfield 69, 3) := by decide +kernel
theorem dX4_chain_5 : decode cX4_chain 5 = .ok (.ifCond .eq 7, 3) := by decide +kernel
theorem dX4_chain_8 : decode cX4_chain 8 = .ok (.iconst 0, 1) := by decide +kernel
theorem dX4_chain_9 : decode cX4_chain 9 = .ok (.goto 4, 3) := by decide +kernel
theorem dX4_chain_12 : decode cX4_chain 12 = .ok (.iconst 1, 1) := by decide +kernel
theorem dX4_chain_13 : decode cX4_chain 13 = .ok (.putfield 59, 3) := by decide +kernel
theorem dX4_chain_16 : decode cX4_chain 16 = .ok (.iconst 0, 1) := by decide +kernel
theorem dX4_chain_17 : decode cX4_chain 17 = .ok (.istore_n 1, 1) := by decide +kernel
theorem dX4_chain_18 : decode cX4_chain 18 = .ok (.aload_n 0, 1) := by decide +kernel
theorem dX4_chain_19 : decode cX4_chain 19 = .ok (.getfield 59, 3) := by decide +kernel
theorem dX4_chain_22 : decode cX4_chain 22 = .ok (.ifCond .ne 16, 3) := by decide +kernel
theorem dX4_chain_25 : decode cX4_chain 25 = .ok (.aload_n 0, 1) := by decide +kernel
theorem dX4_chain_26 : decode cX4_chain 26 = .ok (.invokevirtual 121, 3) := by decide +kernel
theorem dX4_chain_29 : decode cX4_chain 29 = .ok (.ifCond .eq 9, 3) := by decide +kernel
theorem dX4_chain_32 : decode cX4_chain 32 = .ok (.iinc 1 1, 3) := by decide +kernel
theorem dX4_chain_35 : decode cX4_chain 35 = .ok (.goto (-17), 3) := by decide +kernel
theorem dX4_chain_38 : decode cX4_chain 38 = .ok (.iload_n 1, 1) := by decide +kernel
theorem dX4_chain_39 : decode cX4_chain 39 = .ok (.ireturn, 1) := by decide +kernel
theorem dX4_move_0 : decode cX4_move 0 = .ok (.iconst 0, 1) := by decide +kernel
theorem dX4_move_1 : decode cX4_move 1 = .ok (.istore_n 1, 1) := by decide +kernel
theorem dX4_move_2 : decode cX4_move 2 = .ok (.iload_n 1, 1) := by decide +kernel
theorem dX4_move_3 : decode cX4_move 3 = .ok (.aload_n 0, 1) := by decide +kernel
theorem dX4_move_4 : decode cX4_move 4 = .ok (.getfield 63, 3) := by decide +kernel
theorem dX4_move_7 : decode cX4_move 7 = .ok (.if_icmp .ge 156, 3) := by decide +kernel
theorem dX4_move_10 : decode cX4_move 10 = .ok (.iconst 0, 1) := by decide +kernel
theorem dX4_move_11 : decode cX4_move 11 = .ok (.istore_n 2, 1) := by decide +kernel
theorem dX4_move_12 : decode cX4_move 12 = .ok (.iload_n 2, 1) := by decide +kernel
theorem dX4_move_13 : decode cX4_move 13 = .ok (.aload_n 0, 1) := by decide +kernel
theorem dX4_move_14 : decode cX4_move 14 = .ok (.getfield 7, 3) := by decide +kernel
theorem dX4_move_17 : decode cX4_move 17 = .ok (.iload_n 1, 1) := by decide +kernel
theorem dX4_move_18 : decode cX4_move 18 = .ok (.iaload, 1) := by decide +kernel
theorem dX4_move_19 : decode cX4_move 19 = .ok (.if_icmp .ge 138, 3) := by decide +kernel
theorem dX4_move_22 : decode cX4_move 22 = .ok (.iconst (-1), 1) := by decide +kernel
theorem dX4_move_23 : decode cX4_move 23 = .ok (.istore_n 3, 1) := by decide +kernel
theorem dX4_move_24 : decode cX4_move 24 = .ok (.iconst 0, 1) := by decide +kernel
theorem dX4_move_25 : decode cX4_move 25 = .ok (.istore 4, 2) := by decide +kernel
theorem dX4_move_27 : decode cX4_move 27 = .ok (.iload 4, 2) := by decide +kernel
theorem dX4_move_29 : decode cX4_move 29 = .ok (.aload_n 0, 1) := by decide +kernel
theorem dX4_move_30 : decode cX4_move 30 = .ok (.getfield 66, 3) := by decide +kernel
theorem dX4_move_33 : decode cX4_move 33 = .ok (.if_icmp .ge 98, 3) := by decide +kernel
theorem dX4_move_36 : decode cX4_move 36 = .ok (.aload_n 0, 1) := by decide +kernel
theorem dX4_move_37 : decode cX4_move 37 = .ok (.iload_n 1, 1) := by decide +kernel
theorem dX4_move_38 : decode cX4_move 38 = .ok (.iload_n 2, 1) := by decide +kernel
theorem dX4_move_39 : decode cX4_move 39 = .ok (.invokevirtual 114, 3) := by decide +kernel
theorem dX4_move_42 : decode cX4_move 42 = .ok (.aload_n 0, 1) := by decide +kernel
theorem dX4_move_43 : decode cX4_move 43 = .ok (.getfield 13, 3) := by decide +kernel
theorem dX4_move_46 : decode cX4_move 46 = .ok (.iconst 3, 1) := by decide +kernel
theorem dX4_move_47 : decode cX4_move 47 = .ok (.iload_n 1, 1) := by decide +kernel
theorem dX4_move_48 : decode cX4_move 48 = .ok (.imul, 1) := by decide +kernel
theorem dX4_move_49 : decode cX4_move 49 = .ok (.iload_n 2, 1) := by decide +kernel
theorem dX4_move_50 : decode cX4_move 50 = .ok (.iadd, 1) := by decide +kernel
theorem dX4_move_51 : decode cX4_move 51 = .ok (.iaload, 1) := by decide +kernel
theorem dX4_move_52 : decode cX4_move 52 = .ok (.if_icmp .ge 79, 3) := by decide +kernel
theorem dX4_move_55 : decode cX4_move 55 = .ok (.aload_n 0, 1) := by decide +kernel
theorem dX4_move_56 : decode cX4_move 56 = .ok (.iload 4, 2) := by decide +kernel
theorem dX4_move_58 : decode cX4_move 58 = .ok (.iload_n 1, 1) := by decide +kernel
theorem dX4_move_59 : decode cX4_move 59 = .ok (.invokevirtual 117, 3) := by decide +kernel
theorem dX4_move_62 : decode cX4_move 62 = .ok (.ifCond .eq 18, 3) := by decide +kernel
theorem dX4_move_65 : decode cX4_move 65 = .ok (.aload_n 0, 1) := by decide +kernel
theorem dX4_move_66 : decode cX4_move 66 = .ok (.iload 4, 2) := by decide +kernel
theorem dX4_move_68 : decode cX4_move 68 = .ok (.iload_n 1, 1) := by decide +kernel
theorem dX4_move_69 : decode cX4_move 69 = .ok (.iload_n 2, 1) := by decide +kernel
theorem dX4_move_70 : decode cX4_move 70 = .ok (.invokevirtual 89, 3) := by decide +kernel
theorem dX4_move_73 : decode cX4_move 73 = .ok (.ifCond .eq 7, 3) := by decide +kernel
theorem dX4_move_76 : decode cX4_move 76 = .ok (.iconst 1, 1) := by decide +kernel
theorem dX4_move_77 : decode cX4_move 77 = .ok (.goto 4, 3) := by decide +kernel
theorem dX4_move_80 : decode cX4_move 80 = .ok (.iconst 0, 1) := by decide +kernel
theorem dX4_move_81 : decode cX4_move 81 = .ok (.istore 5, 2) := by decide +kernel
theorem dX4_move_83 : decode cX4_move 83 = .ok (.iload 5, 2) := by decide +kernel
theorem dX4_move_85 : decode cX4_move 85 = .ok (.ifCond .eq 38, 3) := by decide +kernel
theorem dX4_move_88 : decode cX4_move 88 = .ok (.iload_n 3, 1) := by decide +kernel
theorem dX4_move_89 : decode cX4_move 89 = .ok (.ifCond .lt 29, 3) := by decide +kernel
theorem dX4_move_92 : decode cX4_move 92 = .ok (.aload_n 0, 1) := by decide +kernel
theorem dX4_move_93 : decode cX4_move 93 = .ok (.iload 4, 2) := by decide +kernel
theorem dX4_move_95 : decode cX4_move 95 = .ok (.iload_n 1, 1) := by decide +kernel
theorem dX4_move_96 : decode cX4_move 96 = .ok (.iload_n 2, 1) := by decide +kernel
theorem dX4_move_97 : decode cX4_move 97 = .ok (.invokevirtual 93, 3) := by decide +kernel
theorem dX4_move_100 : decode cX4_move 100 = .ok (.aload_n 0, 1) := by decide +kernel
theorem dX4_move_101 : decode cX4_move 101 = .ok (.iload_n 3, 1) := by decide +kernel
theorem dX4_move_102 : decode cX4_move 102 = .ok (.ifCond .ge 7, 3) := by decide +kernel
theorem dX4_move_105 : decode cX4_move 105 = .ok (.iconst 0, 1) := by decide +kernel
theorem dX4_move_106 : decode cX4_move 106 = .ok (.goto 4, 3) := by decide +kernel
theorem dX4_move_109 : decode cX4_move 109 = .ok (.iload_n 3, 1) := by decide +kernel
theorem dX4_move_110 : decode cX4_move 110 = .ok (.iload_n 1, 1) := by decide +kernel
theorem dX4_move_111 : decode cX4_move 111 = .ok (.iload_n 2, 1) := by decide +kernel
theorem dX4_move_112 : decode cX4_move 112 = .ok (.invokevirtual 93, 3) := by decide +kernel
theorem dX4_move_115 : decode cX4_move 115 = .ok (.if_icmp .ge 8, 3) := by decide +kernel
theorem dX4_move_118 : decode cX4_move 118 = .ok (.iload 4, 2) := by decide +kernel
theorem dX4_move_120 : decode cX4_move 120 = .ok (.goto 4, 3) := by decide +kernel
theorem dX4_move_123 : decode cX4_move 123 = .ok (.iload_n 3, 1) := by decide +kernel
theorem dX4_move_124 : decode cX4_move 124 = .ok (.istore_n 3, 1) := by decide +kernel
theorem dX4_move_125 : decode cX4_move 125 = .ok (.iinc 4 1, 3) := by decide +kernel
theorem dX4_move_128 : decode cX4_move 128 = .ok (.goto (-101), 3) := by decide +kernel
theorem dX4_move_131 : decode cX4_move 131 = .ok (.iload_n 3, 1) := by decide +kernel
theorem dX4_move_132 : decode cX4_move 132 = .ok (.ifCond .lt 19, 3) := by decide +kernel
theorem dX4_move_135 : decode cX4_move 135 = .ok (.aload_n 0, 1) := by decide +kernel
theorem dX4_move_136 : decode cX4_move 136 = .ok (.getfield 38, 3) := by decide +kernel
theorem dX4_move_139 : decode cX4_move 139 = .ok (.iload_n 3, 1) := by decide +kernel
theorem dX4_move_140 : decode cX4_move 140 = .ok (.iload_n 1, 1) := by decide +kernel
theorem dX4_move_141 : decode cX4_move 141 = .ok (.iastore, 1) := by decide +kernel
theorem dX4_move_142 : decode cX4_move 142 = .ok (.aload_n 0, 1) := by decide +kernel
theorem dX4_move_143 : decode cX4_move 143 = .ok (.getfield 41, 3) := by decide +kernel
theorem dX4_move_146 : decode cX4_move 146 = .ok (.iload_n 3, 1) := by decide +kernel
theorem dX4_move_147 : decode cX4_move 147 = .ok (.iload_n 2, 1) := by decide +kernel
theorem dX4_move_148 : decode cX4_move 148 = .ok (.iastore, 1) := by decide +kernel
theorem dX4_move_149 : decode cX4_move 149 = .ok (.iconst 1, 1) := by decide +kernel
theorem dX4_move_150 : decode cX4_move 150 = .ok (.ireturn, 1) := by decide +kernel
theorem dX4_move_151 : decode cX4_move 151 = .ok (.iinc 2 1, 3) := by decide +kernel
theorem dX4_move_154 : decode cX4_move 154 = .ok (.goto (-142), 3) := by decide +kernel
theorem dX4_move_157 : decode cX4_move 157 = .ok (.iinc 1 1, 3) := by decide +kernel
theorem dX4_move_160 : decode cX4_move 160 = .ok (.goto (-158), 3) := by decide +kernel
theorem dX4_move_163 : decode cX4_move 163 = .ok (.iconst 0, 1) := by decide +kernel
theorem dX4_move_164 : decode cX4_move 164 = .ok (.ireturn, 1) := by decide +kernel
theorem dX4_holders_0 : decode cX4_holders 0 = .ok (.iconst 0, 1) := by decide +kernel
theorem dX4_holders_1 : decode cX4_holders 1 = .ok (.istore_n 3, 1) := by decide +kernel
theorem dX4_holders_2 : decode cX4_holders 2 = .ok (.iconst 0, 1) := by decide +kernel
theorem dX4_holders_3 : decode cX4_holders 3 = .ok (.istore 4, 2) := by decide +kernel
theorem dX4_holders_5 : decode cX4_holders 5 = .ok (.iload 4, 2) := by decide +kernel
theorem dX4_holders_7 : decode cX4_holders 7 = .ok (.aload_n 0, 1) := by decide +kernel
theorem dX4_holders_8 : decode cX4_holders 8 = .ok (.getfield 66, 3) := by decide +kernel
theorem dX4_holders_11 : decode cX4_holders 11 = .ok (.if_icmp .ge 39, 3) := by decide +kernel
theorem dX4_holders_14 : decode cX4_holders 14 = .ok (.iload_n 3, 1) := by decide +kernel
theorem dX4_holders_15 : decode cX4_holders 15 = .ok (.aload_n 0, 1) := by decide +kernel
theorem dX4_holders_16 : decode cX4_holders 16 = .ok (.getfield 38, 3) := by decide +kernel
theorem dX4_holders_19 : decode cX4_holders 19 = .ok (.iload 4, 2) := by decide +kernel
theorem dX4_holders_21 : decode cX4_holders 21 = .ok (.iaload, 1) := by decide +kernel
theorem dX4_holders_22 : decode cX4_holders 22 = .ok (.iload_n 1, 1) := by decide +kernel
theorem dX4_holders_23 : decode cX4_holders 23 = .ok (.if_icmp .ne 18, 3) := by decide +kernel
theorem dX4_holders_26 : decode cX4_holders 26 = .ok (.aload_n 0, 1) := by decide +kernel
theorem dX4_holders_27 : decode cX4_holders 27 = .ok (.getfield 41, 3) := by decide +kernel
theorem dX4_holders_30 : decode cX4_holders 30 = .ok (.iload 4, 2) := by decide +kernel
theorem dX4_holders_32 : decode cX4_holders 32 = .ok (.iaload, 1) := by decide +kernel
theorem dX4_holders_33 : decode cX4_holders 33 = .ok (.iload_n 2, 1) := by decide +kernel
theorem dX4_holders_34 : decode cX4_holders 34 = .ok (.if_icmp .ne 7, 3) := by decide +kernel
theorem dX4_holders_37 : decode cX4_holders 37 = .ok (.iconst 1, 1) := by decide +kernel
theorem dX4_holders_38 : decode cX4_holders 38 = .ok (.goto 4, 3) := by decide +kernel
theorem dX4_holders_41 : decode cX4_holders 41 = .ok (.iconst 0, 1) := by decide +kernel
theorem dX4_holders_42 : decode cX4_holders 42 = .ok (.iadd, 1) := by decide +kernel
theorem dX4_holders_43 : decode cX4_holders 43 = .ok (.istore_n 3, 1) := by decide +kernel
theorem dX4_holders_44 : decode cX4_holders 44 = .ok (.iinc 4 1, 3) := by decide +kernel
theorem dX4_holders_47 : decode cX4_holders 47 = .ok (.goto (-42), 3) := by decide +kernel
theorem dX4_holders_50 : decode cX4_holders 50 = .ok (.iload_n 3, 1) := by decide +kernel
theorem dX4_holders_51 : decode cX4_holders 51 = .ok (.ireturn, 1) := by decide +kernel
theorem dX4_waits_0 : decode cX4_waits 0 = .ok (.aload_n 0, 1) := by decide +kernel
theorem dX4_waits_1 : decode cX4_waits 1 = .ok (.iload_n 1, 1) := by decide +kernel
theorem dX4_waits_2 : decode cX4_waits 2 = .ok (.iload_n 2, 1) := by decide +kernel
theorem dX4_waits_3 : decode cX4_waits 3 = .ok (.invokevirtual 80, 3) := by decide +kernel
theorem dX4_waits_6 : decode cX4_waits 6 = .ok (.istore_n 3, 1) := by decide +kernel
theorem dX4_waits_7 : decode cX4_waits 7 = .ok (.iload_n 3, 1) := by decide +kernel
theorem dX4_waits_8 : decode cX4_waits 8 = .ok (.bipush 9, 2) := by decide +kernel
theorem dX4_waits_10 : decode cX4_waits 10 = .ok (.if_icmp .ge 26, 3) := by decide +kernel
theorem dX4_waits_13 : decode cX4_waits 13 = .ok (.iload_n 3, 1) := by decide +kernel
theorem dX4_waits_14 : decode cX4_waits 14 = .ok (.aload_n 0, 1) := by decide +kernel
theorem dX4_waits_15 : decode cX4_waits 15 = .ok (.getfield 50, 3) := by decide +kernel
theorem dX4_waits_18 : decode cX4_waits 18 = .ok (.iload_n 1, 1) := by decide +kernel
theorem dX4_waits_19 : decode cX4_waits 19 = .ok (.iaload, 1) := by decide +kernel
theorem dX4_waits_20 : decode cX4_waits 20 = .ok (.if_icmp .ge 16, 3) := by decide +kernel
theorem dX4_waits_23 : decode cX4_waits 23 = .ok (.iload_n 3, 1) := by decide +kernel
theorem dX4_waits_24 : decode cX4_waits 24 = .ok (.aload_n 0, 1) := by decide +kernel
theorem dX4_waits_25 : decode cX4_waits 25 = .ok (.iload_n 1, 1) := by decide +kernel
theorem dX4_waits_26 : decode cX4_waits 26 = .ok (.invokevirtual 110, 3) := by decide +kernel
theorem dX4_waits_29 : decode cX4_waits 29 = .ok (.if_icmp .ge 7, 3) := by decide +kernel
theorem dX4_waits_32 : decode cX4_waits 32 = .ok (.iconst 1, 1) := by decide +kernel
theorem dX4_waits_33 : decode cX4_waits 33 = .ok (.goto 4, 3) := by decide +kernel
theorem dX4_waits_36 : decode cX4_waits 36 = .ok (.iconst 0, 1) := by decide +kernel
theorem dX4_waits_37 : decode cX4_waits 37 = .ok (.ireturn, 1) := by decide +kernel
theorem dX4_own_0 : decode cX4_own 0 = .ok (.aload_n 0, 1) := by decide +kernel
theorem dX4_own_1 : decode cX4_own 1 = .ok (.getfield 38, 3) := by decide +kernel
theorem dX4_own_4 : decode cX4_own 4 = .ok (.iload_n 1, 1) := by decide +kernel
theorem dX4_own_5 : decode cX4_own 5 = .ok (.iaload, 1) := by decide +kernel
theorem dX4_own_6 : decode cX4_own 6 = .ok (.ifCond .ge 8, 3) := by decide +kernel
theorem dX4_own_9 : decode cX4_own 9 = .ok (.bipush 9, 2) := by decide +kernel
theorem dX4_own_11 : decode cX4_own 11 = .ok (.goto 14, 3) := by decide +kernel
theorem dX4_own_14 : decode cX4_own 14 = .ok (.aload_n 0, 1) := by decide +kernel
theorem dX4_own_15 : decode cX4_own 15 = .ok (.iload_n 1, 1) := by decide +kernel
theorem dX4_own_16 : decode cX4_own 16 = .ok (.aload_n 0, 1) := by decide +kernel
theorem dX4_own_17 : decode cX4_own 17 = .ok (.getfield 38, 3) := by decide +kernel
theorem dX4_own_20 : decode cX4_own 20 = .ok (.iload_n 1, 1) := by decide +kernel
theorem dX4_own_21 : decode cX4_own 21 = .ok (.iaload, 1) := by decide +kernel
theorem dX4_own_22 : decode cX4_own 22 = .ok (.invokevirtual 80, 3) := by decide +kernel
theorem dX4_own_25 : decode cX4_own 25 = .ok (.ireturn, 1) := by decide +kernel
theorem dX4_appeal_0 : decode cX4_appeal 0 = .ok (.aload_n 0, 1) := by decide +kernel
theorem dX4_appeal_1 : decode cX4_appeal 1 = .ok (.iconst 0, 1) := by decide +kernel
theorem dX4_appeal_2 : decode cX4_appeal 2 = .ok (.putfield 59, 3) := by decide +kernel
theorem dX4_appeal_5 : decode cX4_appeal 5 = .ok (.aload_n 0, 1) := by decide +kernel
theorem dX4_appeal_6 : decode cX4_appeal 6 = .ok (.iload_n 1, 1) := by decide +kernel
theorem dX4_appeal_7 : decode cX4_appeal 7 = .ok (.invokevirtual 77, 3) := by decide +kernel
theorem dX4_appeal_10 : decode cX4_appeal 10 = .ok (.ifCond .eq 13, 3) := by decide +kernel
theorem dX4_appeal_13 : decode cX4_appeal 13 = .ok (.iload_n 2, 1) := by decide +kernel
theorem dX4_appeal_14 : decode cX4_appeal 14 = .ok (.ifCond .lt 9, 3) := by decide +kernel
theorem dX4_appeal_17 : decode cX4_appeal 17 = .ok (.iload_n 2, 1) := by decide +kernel
theorem dX4_appeal_18 : decode cX4_appeal 18 = .ok (.bipush 15, 2) := by decide +kernel
theorem dX4_appeal_20 : decode cX4_appeal 20 = .ok (.if_icmp .le 5, 3) := by decide +kernel
theorem dX4_appeal_23 : decode cX4_appeal 23 = .ok (.iconst 0, 1) := by decide +kernel
theorem dX4_appeal_24 : decode cX4_appeal 24 = .ok (.ireturn, 1) := by decide +kernel
theorem dX4_appeal_25 : decode cX4_appeal 25 = .ok (.aload_n 0, 1) := by decide +kernel
theorem dX4_appeal_26 : decode cX4_appeal 26 = .ok (.getfield 19, 3) := by decide +kernel
theorem dX4_appeal_29 : decode cX4_appeal 29 = .ok (.iload_n 1, 1) := by decide +kernel
theorem dX4_appeal_30 : decode cX4_appeal 30 = .ok (.iload_n 2, 1) := by decide +kernel
theorem dX4_appeal_31 : decode cX4_appeal 31 = .ok (.iastore, 1) := by decide +kernel
theorem dX4_appeal_32 : decode cX4_appeal 32 = .ok (.iconst 1, 1) := by decide +kernel
theorem dX4_appeal_33 : decode cX4_appeal 33 = .ok (.ireturn, 1) := by decide +kernel
theorem dX4_over_0 : decode cX4_over 0 = .ok (.aload_n 0, 1) := by decide +kernel
theorem dX4_over_1 : decode cX4_over 1 = .ok (.aload_n 0, 1) := by decide +kernel
theorem dX4_over_2 : decode cX4_over 2 = .ok (.iload_n 1, 1) := by decide +kernel
theorem dX4_over_3 : decode cX4_over 3 = .ok (.invokevirtual 77, 3) := by decide +kernel
theorem dX4_over_6 : decode cX4_over 6 = .ok (.ifCond .eq 7, 3) := by decide +kernel
theorem dX4_over_9 : decode cX4_over 9 = .ok (.iconst 0, 1) := by decide +kernel
theorem dX4_over_10 : decode cX4_over 10 = .ok (.goto 4, 3) := by decide +kernel
theorem dX4_over_13 : decode cX4_over 13 = .ok (.iconst 1, 1) := by decide +kernel
theorem dX4_over_14 : decode cX4_over 14 = .ok (.putfield 59, 3) := by decide +kernel
theorem dX4_over_17 : decode cX4_over 17 = .ok (.aload_n 0, 1) := by decide +kernel
theorem dX4_over_18 : decode cX4_over 18 = .ok (.getfield 59, 3) := by decide +kernel
theorem dX4_over_21 : decode cX4_over 21 = .ok (.ifCond .le 5, 3) := by decide +kernel
theorem dX4_over_24 : decode cX4_over 24 = .ok (.iconst 0, 1) := by decide +kernel
theorem dX4_over_25 : decode cX4_over 25 = .ok (.ireturn, 1) := by decide +kernel
theorem dX4_over_26 : decode cX4_over 26 = .ok (.aload_n 0, 1) := by decide +kernel
theorem dX4_over_27 : decode cX4_over 27 = .ok (.aload_n 0, 1) := by decide +kernel
theorem dX4_over_28 : decode cX4_over 28 = .ok (.iload_n 1, 1) := by decide +kernel
theorem dX4_over_29 : decode cX4_over 29 = .ok (.iload_n 2, 1) := by decide +kernel
theorem dX4_over_30 : decode cX4_over 30 = .ok (.invokevirtual 80, 3) := by decide +kernel
theorem dX4_over_33 : decode cX4_over 33 = .ok (.bipush 9, 2) := by decide +kernel
theorem dX4_over_35 : decode cX4_over 35 = .ok (.if_icmp .eq 20, 3) := by decide +kernel
theorem dX4_over_38 : decode cX4_over 38 = .ok (.aload_n 0, 1) := by decide +kernel
theorem dX4_over_39 : decode cX4_over 39 = .ok (.getfield 69, 3) := by decide +kernel
theorem dX4_over_42 : decode cX4_over 42 = .ok (.ifCond .eq 17, 3) := by decide +kernel
theorem dX4_over_45 : decode cX4_over 45 = .ok (.aload_n 0, 1) := by decide +kernel
theorem dX4_over_46 : decode cX4_over 46 = .ok (.getfield 38, 3) := by decide +kernel
theorem dX4_over_49 : decode cX4_over 49 = .ok (.iload_n 1, 1) := by decide +kernel
theorem dX4_over_50 : decode cX4_over 50 = .ok (.iaload, 1) := by decide +kernel
theorem dX4_over_51 : decode cX4_over 51 = .ok (.iload_n 2, 1) := by decide +kernel
theorem dX4_over_52 : decode cX4_over 52 = .ok (.if_icmp .ne 7, 3) := by decide +kernel
theorem dX4_over_55 : decode cX4_over 55 = .ok (.iconst 1, 1) := by decide +kernel
theorem dX4_over_56 : decode cX4_over 56 = .ok (.goto 25, 3) := by decide +kernel
theorem dX4_over_59 : decode cX4_over 59 = .ok (.aload_n 0, 1) := by decide +kernel
theorem dX4_over_60 : decode cX4_over 60 = .ok (.getfield 69, 3) := by decide +kernel
theorem dX4_over_63 : decode cX4_over 63 = .ok (.ifCond .eq 13, 3) := by decide +kernel
theorem dX4_over_66 : decode cX4_over 66 = .ok (.aload_n 0, 1) := by decide +kernel
theorem dX4_over_67 : decode cX4_over 67 = .ok (.getfield 44, 3) := by decide +kernel
theorem dX4_over_70 : decode cX4_over 70 = .ok (.iload_n 1, 1) := by decide +kernel
theorem dX4_over_71 : decode cX4_over 71 = .ok (.iaload, 1) := by decide +kernel
theorem dX4_over_72 : decode cX4_over 72 = .ok (.iconst 3, 1) := by decide +kernel
theorem dX4_over_73 : decode cX4_over 73 = .ok (.if_icmp .ne 7, 3) := by decide +kernel
theorem dX4_over_76 : decode cX4_over 76 = .ok (.iconst 2, 1) := by decide +kernel
theorem dX4_over_77 : decode cX4_over 77 = .ok (.goto 4, 3) := by decide +kernel
theorem dX4_over_80 : decode cX4_over 80 = .ok (.iconst 0, 1) := by decide +kernel
theorem dX4_over_81 : decode cX4_over 81 = .ok (.putfield 59, 3) := by decide +kernel
theorem dX4_over_84 : decode cX4_over 84 = .ok (.aload_n 0, 1) := by decide +kernel
theorem dX4_over_85 : decode cX4_over 85 = .ok (.getfield 59, 3) := by decide +kernel
theorem dX4_over_88 : decode cX4_over 88 = .ok (.ifCond .le 5, 3) := by decide +kernel
theorem dX4_over_91 : decode cX4_over 91 = .ok (.iconst 0, 1) := by decide +kernel
theorem dX4_over_92 : decode cX4_over 92 = .ok (.ireturn, 1) := by decide +kernel
theorem dX4_over_93 : decode cX4_over 93 = .ok (.aload_n 0, 1) := by decide +kernel
theorem dX4_over_94 : decode cX4_over 94 = .ok (.getfield 38, 3) := by decide +kernel
theorem dX4_over_97 : decode cX4_over 97 = .ok (.iload_n 1, 1) := by decide +kernel
theorem dX4_over_98 : decode cX4_over 98 = .ok (.iload_n 2, 1) := by decide +kernel
theorem dX4_over_99 : decode cX4_over 99 = .ok (.iastore, 1) := by decide +kernel
theorem dX4_over_100 : decode cX4_over 100 = .ok (.aload_n 0, 1) := by decide +kernel
theorem dX4_over_101 : decode cX4_over 101 = .ok (.getfield 41, 3) := by decide +kernel
theorem dX4_over_104 : decode cX4_over 104 = .ok (.iload_n 1, 1) := by decide +kernel
theorem dX4_over_105 : decode cX4_over 105 = .ok (.iconst (-1), 1) := by decide +kernel
theorem dX4_over_106 : decode cX4_over 106 = .ok (.iastore, 1) := by decide +kernel
theorem dX4_over_107 : decode cX4_over 107 = .ok (.iconst 1, 1) := by decide +kernel
theorem dX4_over_108 : decode cX4_over 108 = .ok (.ireturn, 1) := by decide +kernel
theorem dX4_seat_0 : decode cX4_seat 0 = .ok (.aload_n 0, 1) := by decide +kernel
theorem dX4_seat_1 : decode cX4_seat 1 = .ok (.iconst 0, 1) := by decide +kernel
theorem dX4_seat_2 : decode cX4_seat 2 = .ok (.putfield 59, 3) := by decide +kernel
theorem dX4_seat_5 : decode cX4_seat 5 = .ok (.aload_n 0, 1) := by decide +kernel
theorem dX4_seat_6 : decode cX4_seat 6 = .ok (.iload_n 1, 1) := by decide +kernel
theorem dX4_seat_7 : decode cX4_seat 7 = .ok (.invokevirtual 77, 3) := by decide +kernel
theorem dX4_seat_10 : decode cX4_seat 10 = .ok (.ifCond .eq 12, 3) := by decide +kernel
theorem dX4_seat_13 : decode cX4_seat 13 = .ok (.iload_n 2, 1) := by decide +kernel
end
section
/-! decode rows, made by a program of mine -/
theorem dX4_seat_14 : decode cX4_seat 14 = .ok (.ifCond .lt 8, 3) := by decide +kernel
theorem dX4_seat_17 : decode cX4_seat 17 = .ok (.iload_n 2, 1) := by decide +kernel
theorem dX4_seat_18 : decode cX4_seat 18 = .ok (.iconst 5, 1) := by decide +kernel
theorem dX4_seat_19 : decode cX4_seat 19 = .ok (.if_icmp .le 5, 3) := by decide +kernel
theorem dX4_seat_22 : decode cX4_seat 22 = .ok (.iconst (-1), 1) := by decide +kernel
theorem dX4_seat_23 : decode cX4_seat 23 = .ok (.ireturn, 1) := by decide +kernel
theorem dX4_seat_24 : decode cX4_seat 24 = .ok (.iload_n 2, 1) := by decide +kernel
theorem dX4_seat_25 : decode cX4_seat 25 = .ok (.ifCond .ne 12, 3) := by decide +kernel
theorem dX4_seat_28 : decode cX4_seat 28 = .ok (.aload_n 0, 1) := by decide +kernel
theorem dX4_seat_29 : decode cX4_seat 29 = .ok (.getfield 38, 3) := by decide +kernel
theorem dX4_seat_32 : decode cX4_seat 32 = .ok (.iload_n 1, 1) := by decide +kernel
theorem dX4_seat_33 : decode cX4_seat 33 = .ok (.iaload, 1) := by decide +kernel
theorem dX4_seat_34 : decode cX4_seat 34 = .ok (.goto 65, 3) := by decide +kernel
theorem dX4_seat_37 : decode cX4_seat 37 = .ok (.iload_n 2, 1) := by decide +kernel
theorem dX4_seat_38 : decode cX4_seat 38 = .ok (.iconst 1, 1) := by decide +kernel
theorem dX4_seat_39 : decode cX4_seat 39 = .ok (.if_icmp .ne 12, 3) := by decide +kernel
theorem dX4_seat_42 : decode cX4_seat 42 = .ok (.aload_n 0, 1) := by decide +kernel
theorem dX4_seat_43 : decode cX4_seat 43 = .ok (.getfield 41, 3) := by decide +kernel
theorem dX4_seat_46 : decode cX4_seat 46 = .ok (.iload_n 1, 1) := by decide +kernel
theorem dX4_seat_47 : decode cX4_seat 47 = .ok (.iaload, 1) := by decide +kernel
theorem dX4_seat_48 : decode cX4_seat 48 = .ok (.goto 51, 3) := by decide +kernel
theorem dX4_seat_51 : decode cX4_seat 51 = .ok (.iload_n 2, 1) := by decide +kernel
theorem dX4_seat_52 : decode cX4_seat 52 = .ok (.iconst 2, 1) := by decide +kernel
theorem dX4_seat_53 : decode cX4_seat 53 = .ok (.if_icmp .ne 12, 3) := by decide +kernel
theorem dX4_seat_56 : decode cX4_seat 56 = .ok (.aload_n 0, 1) := by decide +kernel
theorem dX4_seat_57 : decode cX4_seat 57 = .ok (.getfield 35, 3) := by decide +kernel
theorem dX4_seat_60 : decode cX4_seat 60 = .ok (.iload_n 1, 1) := by decide +kernel
theorem dX4_seat_61 : decode cX4_seat 61 = .ok (.iaload, 1) := by decide +kernel
theorem dX4_seat_62 : decode cX4_seat 62 = .ok (.goto 37, 3) := by decide +kernel
theorem dX4_seat_65 : decode cX4_seat 65 = .ok (.iload_n 2, 1) := by decide +kernel
theorem dX4_seat_66 : decode cX4_seat 66 = .ok (.iconst 3, 1) := by decide +kernel
theorem dX4_seat_67 : decode cX4_seat 67 = .ok (.if_icmp .ne 12, 3) := by decide +kernel
theorem dX4_seat_70 : decode cX4_seat 70 = .ok (.aload_n 0, 1) := by decide +kernel
theorem dX4_seat_71 : decode cX4_seat 71 = .ok (.getfield 44, 3) := by decide +kernel
theorem dX4_seat_74 : decode cX4_seat 74 = .ok (.iload_n 1, 1) := by decide +kernel
theorem dX4_seat_75 : decode cX4_seat 75 = .ok (.iaload, 1) := by decide +kernel
theorem dX4_seat_76 : decode cX4_seat 76 = .ok (.goto 23, 3) := by decide +kernel
theorem dX4_seat_79 : decode cX4_seat 79 = .ok (.iload_n 2, 1) := by decide +kernel
theorem dX4_seat_80 : decode cX4_seat 80 = .ok (.iconst 4, 1) := by decide +kernel
theorem dX4_seat_81 : decode cX4_seat 81 = .ok (.if_icmp .ne 12, 3) := by decide +kernel
theorem dX4_seat_84 : decode cX4_seat 84 = .ok (.aload_n 0, 1) := by decide +kernel
theorem dX4_seat_85 : decode cX4_seat 85 = .ok (.getfield 50, 3) := by decide +kernel
theorem dX4_seat_88 : decode cX4_seat 88 = .ok (.iload_n 1, 1) := by decide +kernel
theorem dX4_seat_89 : decode cX4_seat 89 = .ok (.iaload, 1) := by decide +kernel
theorem dX4_seat_90 : decode cX4_seat 90 = .ok (.goto 9, 3) := by decide +kernel
theorem dX4_seat_93 : decode cX4_seat 93 = .ok (.aload_n 0, 1) := by decide +kernel
theorem dX4_seat_94 : decode cX4_seat 94 = .ok (.getfield 19, 3) := by decide +kernel
theorem dX4_seat_97 : decode cX4_seat 97 = .ok (.iload_n 1, 1) := by decide +kernel
theorem dX4_seat_98 : decode cX4_seat 98 = .ok (.iaload, 1) := by decide +kernel
theorem dX4_seat_99 : decode cX4_seat 99 = .ok (.ireturn, 1) := by decide +kernel
theorem dX4_held_0 : decode cX4_held 0 = .ok (.aload_n 0, 1) := by decide +kernel
theorem dX4_held_1 : decode cX4_held 1 = .ok (.iconst 0, 1) := by decide +kernel
theorem dX4_held_2 : decode cX4_held 2 = .ok (.putfield 59, 3) := by decide +kernel
theorem dX4_held_5 : decode cX4_held 5 = .ok (.aload_n 0, 1) := by decide +kernel
theorem dX4_held_6 : decode cX4_held 6 = .ok (.iload_n 1, 1) := by decide +kernel
theorem dX4_held_7 : decode cX4_held 7 = .ok (.invokevirtual 73, 3) := by decide +kernel
theorem dX4_held_10 : decode cX4_held 10 = .ok (.ifCond .eq 16, 3) := by decide +kernel
theorem dX4_held_13 : decode cX4_held 13 = .ok (.iload_n 2, 1) := by decide +kernel
theorem dX4_held_14 : decode cX4_held 14 = .ok (.ifCond .lt 12, 3) := by decide +kernel
theorem dX4_held_17 : decode cX4_held 17 = .ok (.iload_n 3, 1) := by decide +kernel
theorem dX4_held_18 : decode cX4_held 18 = .ok (.ifCond .lt 8, 3) := by decide +kernel
theorem dX4_held_21 : decode cX4_held 21 = .ok (.iload_n 3, 1) := by decide +kernel
theorem dX4_held_22 : decode cX4_held 22 = .ok (.iconst 2, 1) := by decide +kernel
theorem dX4_held_23 : decode cX4_held 23 = .ok (.if_icmp .le 5, 3) := by decide +kernel
theorem dX4_held_26 : decode cX4_held 26 = .ok (.iconst (-1), 1) := by decide +kernel
theorem dX4_held_27 : decode cX4_held 27 = .ok (.ireturn, 1) := by decide +kernel
theorem dX4_held_28 : decode cX4_held 28 = .ok (.iload_n 2, 1) := by decide +kernel
theorem dX4_held_29 : decode cX4_held 29 = .ok (.aload_n 0, 1) := by decide +kernel
theorem dX4_held_30 : decode cX4_held 30 = .ok (.getfield 7, 3) := by decide +kernel
theorem dX4_held_33 : decode cX4_held 33 = .ok (.iload_n 1, 1) := by decide +kernel
theorem dX4_held_34 : decode cX4_held 34 = .ok (.iaload, 1) := by decide +kernel
theorem dX4_held_35 : decode cX4_held 35 = .ok (.if_icmp .lt 5, 3) := by decide +kernel
theorem dX4_held_38 : decode cX4_held 38 = .ok (.iconst (-1), 1) := by decide +kernel
theorem dX4_held_39 : decode cX4_held 39 = .ok (.ireturn, 1) := by decide +kernel
theorem dX4_held_40 : decode cX4_held 40 = .ok (.iload_n 3, 1) := by decide +kernel
theorem dX4_held_41 : decode cX4_held 41 = .ok (.iconst 2, 1) := by decide +kernel
theorem dX4_held_42 : decode cX4_held 42 = .ok (.if_icmp .ge 27, 3) := by decide +kernel
theorem dX4_held_45 : decode cX4_held 45 = .ok (.iload_n 3, 1) := by decide +kernel
theorem dX4_held_46 : decode cX4_held 46 = .ok (.ifCond .ne 16, 3) := by decide +kernel
theorem dX4_held_49 : decode cX4_held 49 = .ok (.aload_n 0, 1) := by decide +kernel
theorem dX4_held_50 : decode cX4_held 50 = .ok (.getfield 13, 3) := by decide +kernel
theorem dX4_held_53 : decode cX4_held 53 = .ok (.iconst 3, 1) := by decide +kernel
theorem dX4_held_54 : decode cX4_held 54 = .ok (.iload_n 1, 1) := by decide +kernel
theorem dX4_held_55 : decode cX4_held 55 = .ok (.imul, 1) := by decide +kernel
theorem dX4_held_56 : decode cX4_held 56 = .ok (.iload_n 2, 1) := by decide +kernel
theorem dX4_held_57 : decode cX4_held 57 = .ok (.iadd, 1) := by decide +kernel
theorem dX4_held_58 : decode cX4_held 58 = .ok (.iaload, 1) := by decide +kernel
theorem dX4_held_59 : decode cX4_held 59 = .ok (.goto 9, 3) := by decide +kernel
theorem dX4_held_62 : decode cX4_held 62 = .ok (.aload_n 0, 1) := by decide +kernel
theorem dX4_held_63 : decode cX4_held 63 = .ok (.iload_n 1, 1) := by decide +kernel
theorem dX4_held_64 : decode cX4_held 64 = .ok (.iload_n 2, 1) := by decide +kernel
theorem dX4_held_65 : decode cX4_held 65 = .ok (.invokevirtual 114, 3) := by decide +kernel
theorem dX4_held_68 : decode cX4_held 68 = .ok (.ireturn, 1) := by decide +kernel
theorem dX4_held_69 : decode cX4_held 69 = .ok (.iconst (-1), 1) := by decide +kernel
theorem dX4_held_70 : decode cX4_held 70 = .ok (.istore 4, 2) := by decide +kernel
theorem dX4_held_72 : decode cX4_held 72 = .ok (.iconst 0, 1) := by decide +kernel
theorem dX4_held_73 : decode cX4_held 73 = .ok (.istore 5, 2) := by decide +kernel
theorem dX4_held_75 : decode cX4_held 75 = .ok (.iload 5, 2) := by decide +kernel
theorem dX4_held_77 : decode cX4_held 77 = .ok (.aload_n 0, 1) := by decide +kernel
theorem dX4_held_78 : decode cX4_held 78 = .ok (.getfield 66, 3) := by decide +kernel
theorem dX4_held_81 : decode cX4_held 81 = .ok (.if_icmp .ge 145, 3) := by decide +kernel
theorem dX4_held_84 : decode cX4_held 84 = .ok (.aload_n 0, 1) := by decide +kernel
theorem dX4_held_85 : decode cX4_held 85 = .ok (.getfield 38, 3) := by decide +kernel
theorem dX4_held_88 : decode cX4_held 88 = .ok (.iload 5, 2) := by decide +kernel
theorem dX4_held_90 : decode cX4_held 90 = .ok (.iaload, 1) := by decide +kernel
theorem dX4_held_91 : decode cX4_held 91 = .ok (.iload_n 1, 1) := by decide +kernel
theorem dX4_held_92 : decode cX4_held 92 = .ok (.if_icmp .ne 128, 3) := by decide +kernel
theorem dX4_held_95 : decode cX4_held 95 = .ok (.aload_n 0, 1) := by decide +kernel
theorem dX4_held_96 : decode cX4_held 96 = .ok (.getfield 41, 3) := by decide +kernel
theorem dX4_held_99 : decode cX4_held 99 = .ok (.iload 5, 2) := by decide +kernel
theorem dX4_held_101 : decode cX4_held 101 = .ok (.iaload, 1) := by decide +kernel
theorem dX4_held_102 : decode cX4_held 102 = .ok (.iload_n 2, 1) := by decide +kernel
theorem dX4_held_103 : decode cX4_held 103 = .ok (.if_icmp .ne 117, 3) := by decide +kernel
theorem dX4_held_106 : decode cX4_held 106 = .ok (.aload_n 0, 1) := by decide +kernel
theorem dX4_held_107 : decode cX4_held 107 = .ok (.iload 5, 2) := by decide +kernel
theorem dX4_held_109 : decode cX4_held 109 = .ok (.iload_n 1, 1) := by decide +kernel
theorem dX4_held_110 : decode cX4_held 110 = .ok (.iload_n 2, 1) := by decide +kernel
theorem dX4_held_111 : decode cX4_held 111 = .ok (.invokevirtual 89, 3) := by decide +kernel
theorem dX4_held_114 : decode cX4_held 114 = .ok (.ifCond .ne 7, 3) := by decide +kernel
theorem dX4_held_117 : decode cX4_held 117 = .ok (.iconst 1, 1) := by decide +kernel
theorem dX4_held_118 : decode cX4_held 118 = .ok (.goto 4, 3) := by decide +kernel
theorem dX4_held_121 : decode cX4_held 121 = .ok (.iconst 0, 1) := by decide +kernel
theorem dX4_held_122 : decode cX4_held 122 = .ok (.istore 6, 2) := by decide +kernel
theorem dX4_held_124 : decode cX4_held 124 = .ok (.iload 4, 2) := by decide +kernel
theorem dX4_held_126 : decode cX4_held 126 = .ok (.ifCond .lt 27, 3) := by decide +kernel
theorem dX4_held_129 : decode cX4_held 129 = .ok (.aload_n 0, 1) := by decide +kernel
theorem dX4_held_130 : decode cX4_held 130 = .ok (.iload 4, 2) := by decide +kernel
theorem dX4_held_132 : decode cX4_held 132 = .ok (.ifCond .ge 7, 3) := by decide +kernel
theorem dX4_held_135 : decode cX4_held 135 = .ok (.iconst 0, 1) := by decide +kernel
theorem dX4_held_136 : decode cX4_held 136 = .ok (.goto 5, 3) := by decide +kernel
theorem dX4_held_139 : decode cX4_held 139 = .ok (.iload 4, 2) := by decide +kernel
theorem dX4_held_141 : decode cX4_held 141 = .ok (.iload_n 1, 1) := by decide +kernel
theorem dX4_held_142 : decode cX4_held 142 = .ok (.iload_n 2, 1) := by decide +kernel
theorem dX4_held_143 : decode cX4_held 143 = .ok (.invokevirtual 89, 3) := by decide +kernel
theorem dX4_held_146 : decode cX4_held 146 = .ok (.ifCond .ne 7, 3) := by decide +kernel
theorem dX4_held_149 : decode cX4_held 149 = .ok (.iconst 1, 1) := by decide +kernel
theorem dX4_held_150 : decode cX4_held 150 = .ok (.goto 4, 3) := by decide +kernel
theorem dX4_held_153 : decode cX4_held 153 = .ok (.iconst 0, 1) := by decide +kernel
theorem dX4_held_154 : decode cX4_held 154 = .ok (.istore 7, 2) := by decide +kernel
theorem dX4_held_156 : decode cX4_held 156 = .ok (.iload 4, 2) := by decide +kernel
theorem dX4_held_158 : decode cX4_held 158 = .ok (.ifCond .lt 41, 3) := by decide +kernel
theorem dX4_held_161 : decode cX4_held 161 = .ok (.iload 6, 2) := by decide +kernel
theorem dX4_held_163 : decode cX4_held 163 = .ok (.ifCond .ne 36, 3) := by decide +kernel
theorem dX4_held_166 : decode cX4_held 166 = .ok (.iload 7, 2) := by decide +kernel
theorem dX4_held_168 : decode cX4_held 168 = .ok (.ifCond .ne 35, 3) := by decide +kernel
theorem dX4_held_171 : decode cX4_held 171 = .ok (.aload_n 0, 1) := by decide +kernel
theorem dX4_held_172 : decode cX4_held 172 = .ok (.iload 5, 2) := by decide +kernel
theorem dX4_held_174 : decode cX4_held 174 = .ok (.iload_n 1, 1) := by decide +kernel
theorem dX4_held_175 : decode cX4_held 175 = .ok (.iload_n 2, 1) := by decide +kernel
theorem dX4_held_176 : decode cX4_held 176 = .ok (.invokevirtual 93, 3) := by decide +kernel
theorem dX4_held_179 : decode cX4_held 179 = .ok (.aload_n 0, 1) := by decide +kernel
theorem dX4_held_180 : decode cX4_held 180 = .ok (.iload 4, 2) := by decide +kernel
theorem dX4_held_182 : decode cX4_held 182 = .ok (.ifCond .ge 7, 3) := by decide +kernel
theorem dX4_held_185 : decode cX4_held 185 = .ok (.iconst 0, 1) := by decide +kernel
theorem dX4_held_186 : decode cX4_held 186 = .ok (.goto 5, 3) := by decide +kernel
theorem dX4_held_189 : decode cX4_held 189 = .ok (.iload 4, 2) := by decide +kernel
theorem dX4_held_191 : decode cX4_held 191 = .ok (.iload_n 1, 1) := by decide +kernel
theorem dX4_held_192 : decode cX4_held 192 = .ok (.iload_n 2, 1) := by decide +kernel
theorem dX4_held_193 : decode cX4_held 193 = .ok (.invokevirtual 93, 3) := by decide +kernel
theorem dX4_held_196 : decode cX4_held 196 = .ok (.if_icmp .le 7, 3) := by decide +kernel
theorem dX4_held_199 : decode cX4_held 199 = .ok (.iconst 1, 1) := by decide +kernel
theorem dX4_held_200 : decode cX4_held 200 = .ok (.goto 4, 3) := by decide +kernel
theorem dX4_held_203 : decode cX4_held 203 = .ok (.iconst 0, 1) := by decide +kernel
theorem dX4_held_204 : decode cX4_held 204 = .ok (.istore 8, 2) := by decide +kernel
theorem dX4_held_206 : decode cX4_held 206 = .ok (.iload 8, 2) := by decide +kernel
theorem dX4_held_208 : decode cX4_held 208 = .ok (.ifCond .eq 8, 3) := by decide +kernel
theorem dX4_held_211 : decode cX4_held 211 = .ok (.iload 5, 2) := by decide +kernel
theorem dX4_held_213 : decode cX4_held 213 = .ok (.goto 5, 3) := by decide +kernel
theorem dX4_held_216 : decode cX4_held 216 = .ok (.iload 4, 2) := by decide +kernel
theorem dX4_held_218 : decode cX4_held 218 = .ok (.istore 4, 2) := by decide +kernel
theorem dX4_held_220 : decode cX4_held 220 = .ok (.iinc 5 1, 3) := by decide +kernel
theorem dX4_held_223 : decode cX4_held 223 = .ok (.goto (-148), 3) := by decide +kernel
theorem dX4_held_226 : decode cX4_held 226 = .ok (.iload 4, 2) := by decide +kernel
theorem dX4_held_228 : decode cX4_held 228 = .ok (.ireturn, 1) := by decide +kernel
theorem dX4_blocking_0 : decode cX4_blocking 0 = .ok (.aload_n 0, 1) := by decide +kernel
theorem dX4_blocking_1 : decode cX4_blocking 1 = .ok (.iconst 0, 1) := by decide +kernel
theorem dX4_blocking_2 : decode cX4_blocking 2 = .ok (.putfield 59, 3) := by decide +kernel
theorem dX4_blocking_5 : decode cX4_blocking 5 = .ok (.aload_n 0, 1) := by decide +kernel
theorem dX4_blocking_6 : decode cX4_blocking 6 = .ok (.getfield 69, 3) := by decide +kernel
theorem dX4_blocking_9 : decode cX4_blocking 9 = .ok (.ifCond .eq 8, 3) := by decide +kernel
theorem dX4_blocking_12 : decode cX4_blocking 12 = .ok (.iload_n 1, 1) := by decide +kernel
theorem dX4_blocking_13 : decode cX4_blocking 13 = .ok (.iconst (-1), 1) := by decide +kernel
theorem dX4_blocking_14 : decode cX4_blocking 14 = .ok (.if_icmp .ge 5, 3) := by decide +kernel
theorem dX4_blocking_17 : decode cX4_blocking 17 = .ok (.iconst (-1), 1) := by decide +kernel
theorem dX4_blocking_18 : decode cX4_blocking 18 = .ok (.ireturn, 1) := by decide +kernel
theorem dX4_blocking_19 : decode cX4_blocking 19 = .ok (.iconst 0, 1) := by decide +kernel
theorem dX4_blocking_20 : decode cX4_blocking 20 = .ok (.istore_n 2, 1) := by decide +kernel
theorem dX4_blocking_21 : decode cX4_blocking 21 = .ok (.iconst 0, 1) := by decide +kernel
theorem dX4_blocking_22 : decode cX4_blocking 22 = .ok (.istore_n 3, 1) := by decide +kernel
theorem dX4_blocking_23 : decode cX4_blocking 23 = .ok (.iload_n 3, 1) := by decide +kernel
theorem dX4_blocking_24 : decode cX4_blocking 24 = .ok (.aload_n 0, 1) := by decide +kernel
theorem dX4_blocking_25 : decode cX4_blocking 25 = .ok (.getfield 66, 3) := by decide +kernel
theorem dX4_blocking_28 : decode cX4_blocking 28 = .ok (.if_icmp .ge 93, 3) := by decide +kernel
theorem dX4_blocking_31 : decode cX4_blocking 31 = .ok (.iconst 0, 1) := by decide +kernel
theorem dX4_blocking_32 : decode cX4_blocking 32 = .ok (.istore 4, 2) := by decide +kernel
theorem dX4_blocking_34 : decode cX4_blocking 34 = .ok (.iload 4, 2) := by decide +kernel
theorem dX4_blocking_36 : decode cX4_blocking 36 = .ok (.aload_n 0, 1) := by decide +kernel
theorem dX4_blocking_37 : decode cX4_blocking 37 = .ok (.getfield 26, 3) := by decide +kernel
theorem dX4_blocking_40 : decode cX4_blocking 40 = .ok (.iload_n 3, 1) := by decide +kernel
theorem dX4_blocking_41 : decode cX4_blocking 41 = .ok (.iaload, 1) := by decide +kernel
theorem dX4_blocking_42 : decode cX4_blocking 42 = .ok (.if_icmp .ge 73, 3) := by decide +kernel
theorem dX4_blocking_45 : decode cX4_blocking 45 = .ok (.iload 4, 2) := by decide +kernel
theorem dX4_blocking_47 : decode cX4_blocking 47 = .ok (.aload_n 0, 1) := by decide +kernel
theorem dX4_blocking_48 : decode cX4_blocking 48 = .ok (.iload_n 3, 1) := by decide +kernel
theorem dX4_blocking_49 : decode cX4_blocking 49 = .ok (.invokevirtual 110, 3) := by decide +kernel
theorem dX4_blocking_52 : decode cX4_blocking 52 = .ok (.if_icmp .ge 63, 3) := by decide +kernel
theorem dX4_blocking_55 : decode cX4_blocking 55 = .ok (.aload_n 0, 1) := by decide +kernel
theorem dX4_blocking_56 : decode cX4_blocking 56 = .ok (.getfield 44, 3) := by decide +kernel
theorem dX4_blocking_59 : decode cX4_blocking 59 = .ok (.iload_n 3, 1) := by decide +kernel
theorem dX4_blocking_60 : decode cX4_blocking 60 = .ok (.iaload, 1) := by decide +kernel
theorem dX4_blocking_61 : decode cX4_blocking 61 = .ok (.iconst 3, 1) := by decide +kernel
theorem dX4_blocking_62 : decode cX4_blocking 62 = .ok (.if_icmp .eq 53, 3) := by decide +kernel
theorem dX4_blocking_65 : decode cX4_blocking 65 = .ok (.aload_n 0, 1) := by decide +kernel
theorem dX4_blocking_66 : decode cX4_blocking 66 = .ok (.iload_n 3, 1) := by decide +kernel
theorem dX4_blocking_67 : decode cX4_blocking 67 = .ok (.aload_n 0, 1) := by decide +kernel
theorem dX4_blocking_68 : decode cX4_blocking 68 = .ok (.getfield 29, 3) := by decide +kernel
theorem dX4_blocking_71 : decode cX4_blocking 71 = .ok (.iconst 4, 1) := by decide +kernel
theorem dX4_blocking_72 : decode cX4_blocking 72 = .ok (.iload_n 3, 1) := by decide +kernel
theorem dX4_blocking_73 : decode cX4_blocking 73 = .ok (.imul, 1) := by decide +kernel
theorem dX4_blocking_74 : decode cX4_blocking 74 = .ok (.iload 4, 2) := by decide +kernel
theorem dX4_blocking_76 : decode cX4_blocking 76 = .ok (.iadd, 1) := by decide +kernel
theorem dX4_blocking_77 : decode cX4_blocking 77 = .ok (.iaload, 1) := by decide +kernel
theorem dX4_blocking_78 : decode cX4_blocking 78 = .ok (.invokevirtual 125, 3) := by decide +kernel
theorem dX4_blocking_81 : decode cX4_blocking 81 = .ok (.ifCond .eq 28, 3) := by decide +kernel
theorem dX4_blocking_84 : decode cX4_blocking 84 = .ok (.iload_n 2, 1) := by decide +kernel
theorem dX4_blocking_85 : decode cX4_blocking 85 = .ok (.iload_n 1, 1) := by decide +kernel
theorem dX4_blocking_86 : decode cX4_blocking 86 = .ok (.if_icmp .ne 20, 3) := by decide +kernel
theorem dX4_blocking_89 : decode cX4_blocking 89 = .ok (.bipush 8, 2) := by decide +kernel
theorem dX4_blocking_91 : decode cX4_blocking 91 = .ok (.iload_n 3, 1) := by decide +kernel
theorem dX4_blocking_92 : decode cX4_blocking 92 = .ok (.imul, 1) := by decide +kernel
theorem dX4_blocking_93 : decode cX4_blocking 93 = .ok (.aload_n 0, 1) := by decide +kernel
theorem dX4_blocking_94 : decode cX4_blocking 94 = .ok (.getfield 29, 3) := by decide +kernel
theorem dX4_blocking_97 : decode cX4_blocking 97 = .ok (.iconst 4, 1) := by decide +kernel
theorem dX4_blocking_98 : decode cX4_blocking 98 = .ok (.iload_n 3, 1) := by decide +kernel
theorem dX4_blocking_99 : decode cX4_blocking 99 = .ok (.imul, 1) := by decide +kernel
theorem dX4_blocking_100 : decode cX4_blocking 100 = .ok (.iload 4, 2) := by decide +kernel
theorem dX4_blocking_102 : decode cX4_blocking 102 = .ok (.iadd, 1) := by decide +kernel
theorem dX4_blocking_103 : decode cX4_blocking 103 = .ok (.iaload, 1) := by decide +kernel
theorem dX4_blocking_104 : decode cX4_blocking 104 = .ok (.iadd, 1) := by decide +kernel
theorem dX4_blocking_105 : decode cX4_blocking 105 = .ok (.ireturn, 1) := by decide +kernel
theorem dX4_blocking_106 : decode cX4_blocking 106 = .ok (.iinc 2 1, 3) := by decide +kernel
theorem dX4_blocking_109 : decode cX4_blocking 109 = .ok (.iinc 4 1, 3) := by decide +kernel
theorem dX4_blocking_112 : decode cX4_blocking 112 = .ok (.goto (-78), 3) := by decide +kernel
theorem dX4_blocking_115 : decode cX4_blocking 115 = .ok (.iinc 3 1, 3) := by decide +kernel
theorem dX4_blocking_118 : decode cX4_blocking 118 = .ok (.goto (-95), 3) := by decide +kernel
theorem dX4_blocking_121 : decode cX4_blocking 121 = .ok (.iload_n 1, 1) := by decide +kernel
theorem dX4_blocking_122 : decode cX4_blocking 122 = .ok (.iconst (-1), 1) := by decide +kernel
theorem dX4_blocking_123 : decode cX4_blocking 123 = .ok (.if_icmp .ne 7, 3) := by decide +kernel
theorem dX4_blocking_126 : decode cX4_blocking 126 = .ok (.iload_n 2, 1) := by decide +kernel
theorem dX4_blocking_127 : decode cX4_blocking 127 = .ok (.goto 4, 3) := by decide +kernel
theorem dX4_blocking_130 : decode cX4_blocking 130 = .ok (.iconst (-1), 1) := by decide +kernel
theorem dX4_blocking_131 : decode cX4_blocking 131 = .ok (.ireturn, 1) := by decide +kernel
theorem dX4_blocks_0 : decode cX4_blocks 0 = .ok (.iconst 0, 1) := by decide +kernel
theorem dX4_blocks_1 : decode cX4_blocks 1 = .ok (.istore_n 3, 1) := by decide +kernel
theorem dX4_blocks_2 : decode cX4_blocks 2 = .ok (.iload_n 3, 1) := by decide +kernel
theorem dX4_blocks_3 : decode cX4_blocks 3 = .ok (.aload_n 0, 1) := by decide +kernel
theorem dX4_blocks_4 : decode cX4_blocks 4 = .ok (.getfield 66, 3) := by decide +kernel
theorem dX4_blocks_7 : decode cX4_blocks 7 = .ok (.if_icmp .ge 44, 3) := by decide +kernel
theorem dX4_blocks_10 : decode cX4_blocks 10 = .ok (.aload_n 0, 1) := by decide +kernel
theorem dX4_blocks_11 : decode cX4_blocks 11 = .ok (.getfield 53, 3) := by decide +kernel
theorem dX4_blocks_14 : decode cX4_blocks 14 = .ok (.iload_n 3, 1) := by decide +kernel
theorem dX4_blocks_15 : decode cX4_blocks 15 = .ok (.iload_n 3, 1) := by decide +kernel
theorem dX4_blocks_16 : decode cX4_blocks 16 = .ok (.iload_n 1, 1) := by decide +kernel
theorem dX4_blocks_17 : decode cX4_blocks 17 = .ok (.if_icmp .eq 22, 3) := by decide +kernel
theorem dX4_blocks_20 : decode cX4_blocks 20 = .ok (.aload_n 0, 1) := by decide +kernel
theorem dX4_blocks_21 : decode cX4_blocks 21 = .ok (.getfield 38, 3) := by decide +kernel
theorem dX4_blocks_24 : decode cX4_blocks 24 = .ok (.iload_n 3, 1) := by decide +kernel
theorem dX4_blocks_25 : decode cX4_blocks 25 = .ok (.iaload, 1) := by decide +kernel
theorem dX4_blocks_26 : decode cX4_blocks 26 = .ok (.iload_n 2, 1) := by decide +kernel
theorem dX4_blocks_27 : decode cX4_blocks 27 = .ok (.if_icmp .ne 16, 3) := by decide +kernel
theorem dX4_blocks_30 : decode cX4_blocks 30 = .ok (.aload_n 0, 1) := by decide +kernel
theorem dX4_blocks_31 : decode cX4_blocks 31 = .ok (.getfield 41, 3) := by decide +kernel
theorem dX4_blocks_34 : decode cX4_blocks 34 = .ok (.iload_n 3, 1) := by decide +kernel
theorem dX4_blocks_35 : decode cX4_blocks 35 = .ok (.iaload, 1) := by decide +kernel
theorem dX4_blocks_36 : decode cX4_blocks 36 = .ok (.ifCond .lt 7, 3) := by decide +kernel
theorem dX4_blocks_39 : decode cX4_blocks 39 = .ok (.iconst 1, 1) := by decide +kernel
theorem dX4_blocks_40 : decode cX4_blocks 40 = .ok (.goto 4, 3) := by decide +kernel
theorem dX4_blocks_43 : decode cX4_blocks 43 = .ok (.iconst 0, 1) := by decide +kernel
theorem dX4_blocks_44 : decode cX4_blocks 44 = .ok (.bastore, 1) := by decide +kernel
theorem dX4_blocks_45 : decode cX4_blocks 45 = .ok (.iinc 3 1, 3) := by decide +kernel
theorem dX4_blocks_48 : decode cX4_blocks 48 = .ok (.goto (-46), 3) := by decide +kernel
theorem dX4_blocks_51 : decode cX4_blocks 51 = .ok (.aload_n 0, 1) := by decide +kernel
theorem dX4_blocks_52 : decode cX4_blocks 52 = .ok (.iload_n 2, 1) := by decide +kernel
theorem dX4_blocks_53 : decode cX4_blocks 53 = .ok (.invokevirtual 96, 3) := by decide +kernel
theorem dX4_blocks_56 : decode cX4_blocks 56 = .ok (.aload_n 0, 1) := by decide +kernel
theorem dX4_blocks_57 : decode cX4_blocks 57 = .ok (.getfield 56, 3) := by decide +kernel
theorem dX4_blocks_60 : decode cX4_blocks 60 = .ok (.iload_n 1, 1) := by decide +kernel
theorem dX4_blocks_61 : decode cX4_blocks 61 = .ok (.iaload, 1) := by decide +kernel
theorem dX4_blocks_62 : decode cX4_blocks 62 = .ok (.ifCond .lt 7, 3) := by decide +kernel
theorem dX4_blocks_65 : decode cX4_blocks 65 = .ok (.iconst 1, 1) := by decide +kernel
theorem dX4_blocks_66 : decode cX4_blocks 66 = .ok (.goto 4, 3) := by decide +kernel
theorem dX4_blocks_69 : decode cX4_blocks 69 = .ok (.iconst 0, 1) := by decide +kernel
theorem dX4_blocks_70 : decode cX4_blocks 70 = .ok (.ireturn, 1) := by decide +kernel
theorem dX4_envies_0 : decode cX4_envies 0 = .ok (.aload_n 0, 1) := by decide +kernel
theorem dX4_envies_1 : decode cX4_envies 1 = .ok (.aload_n 0, 1) := by decide +kernel
theorem dX4_envies_2 : decode cX4_envies 2 = .ok (.iload_n 1, 1) := by decide +kernel
theorem dX4_envies_3 : decode cX4_envies 3 = .ok (.invokevirtual 77, 3) := by decide +kernel
theorem dX4_envies_6 : decode cX4_envies 6 = .ok (.ifCond .eq 15, 3) := by decide +kernel
theorem dX4_envies_9 : decode cX4_envies 9 = .ok (.aload_n 0, 1) := by decide +kernel
theorem dX4_envies_10 : decode cX4_envies 10 = .ok (.iload_n 2, 1) := by decide +kernel
theorem dX4_envies_11 : decode cX4_envies 11 = .ok (.invokevirtual 77, 3) := by decide +kernel
theorem dX4_envies_14 : decode cX4_envies 14 = .ok (.ifCond .eq 7, 3) := by decide +kernel
theorem dX4_envies_17 : decode cX4_envies 17 = .ok (.iconst 0, 1) := by decide +kernel
theorem dX4_envies_18 : decode cX4_envies 18 = .ok (.goto 4, 3) := by decide +kernel
theorem dX4_envies_21 : decode cX4_envies 21 = .ok (.iconst 1, 1) := by decide +kernel
theorem dX4_envies_22 : decode cX4_envies 22 = .ok (.putfield 59, 3) := by decide +kernel
theorem dX4_envies_25 : decode cX4_envies 25 = .ok (.aload_n 0, 1) := by decide +kernel
theorem dX4_envies_26 : decode cX4_envies 26 = .ok (.getfield 59, 3) := by decide +kernel
theorem dX4_envies_29 : decode cX4_envies 29 = .ok (.ifCond .le 5, 3) := by decide +kernel
theorem dX4_envies_32 : decode cX4_envies 32 = .ok (.iconst 0, 1) := by decide +kernel
theorem dX4_envies_33 : decode cX4_envies 33 = .ok (.ireturn, 1) := by decide +kernel
theorem dX4_envies_34 : decode cX4_envies 34 = .ok (.aload_n 0, 1) := by decide +kernel
theorem dX4_envies_35 : decode cX4_envies 35 = .ok (.aload_n 0, 1) := by decide +kernel
theorem dX4_envies_36 : decode cX4_envies 36 = .ok (.getfield 38, 3) := by decide +kernel
theorem dX4_envies_39 : decode cX4_envies 39 = .ok (.iload_n 2, 1) := by decide +kernel
theorem dX4_envies_40 : decode cX4_envies 40 = .ok (.iaload, 1) := by decide +kernel
theorem dX4_envies_41 : decode cX4_envies 41 = .ok (.ifCond .lt 16, 3) := by decide +kernel
theorem dX4_envies_44 : decode cX4_envies 44 = .ok (.aload_n 0, 1) := by decide +kernel
theorem dX4_envies_45 : decode cX4_envies 45 = .ok (.getfield 41, 3) := by decide +kernel
theorem dX4_envies_48 : decode cX4_envies 48 = .ok (.iload_n 2, 1) := by decide +kernel
theorem dX4_envies_49 : decode cX4_envies 49 = .ok (.iaload, 1) := by decide +kernel
theorem dX4_envies_50 : decode cX4_envies 50 = .ok (.ifCond .lt 7, 3) := by decide +kernel
theorem dX4_envies_53 : decode cX4_envies 53 = .ok (.iconst 0, 1) := by decide +kernel
theorem dX4_envies_54 : decode cX4_envies 54 = .ok (.goto 4, 3) := by decide +kernel
theorem dX4_envies_57 : decode cX4_envies 57 = .ok (.iconst 1, 1) := by decide +kernel
theorem dX4_envies_58 : decode cX4_envies 58 = .ok (.putfield 59, 3) := by decide +kernel
theorem dX4_envies_61 : decode cX4_envies 61 = .ok (.aload_n 0, 1) := by decide +kernel
theorem dX4_envies_62 : decode cX4_envies 62 = .ok (.getfield 59, 3) := by decide +kernel
theorem dX4_envies_65 : decode cX4_envies 65 = .ok (.ifCond .le 5, 3) := by decide +kernel
theorem dX4_envies_68 : decode cX4_envies 68 = .ok (.iconst 0, 1) := by decide +kernel
theorem dX4_envies_69 : decode cX4_envies 69 = .ok (.ireturn, 1) := by decide +kernel
theorem dX4_envies_70 : decode cX4_envies 70 = .ok (.aload_n 0, 1) := by decide +kernel
theorem dX4_envies_71 : decode cX4_envies 71 = .ok (.getfield 38, 3) := by decide +kernel
theorem dX4_envies_74 : decode cX4_envies 74 = .ok (.iload_n 2, 1) := by decide +kernel
theorem dX4_envies_75 : decode cX4_envies 75 = .ok (.iaload, 1) := by decide +kernel
theorem dX4_envies_76 : decode cX4_envies 76 = .ok (.istore_n 3, 1) := by decide +kernel
theorem dX4_envies_77 : decode cX4_envies 77 = .ok (.aload_n 0, 1) := by decide +kernel
theorem dX4_envies_78 : decode cX4_envies 78 = .ok (.getfield 41, 3) := by decide +kernel
theorem dX4_envies_81 : decode cX4_envies 81 = .ok (.iload_n 2, 1) := by decide +kernel
theorem dX4_envies_82 : decode cX4_envies 82 = .ok (.iaload, 1) := by decide +kernel
theorem dX4_envies_83 : decode cX4_envies 83 = .ok (.istore 4, 2) := by decide +kernel
theorem dX4_envies_85 : decode cX4_envies 85 = .ok (.aload_n 0, 1) := by decide +kernel
theorem dX4_envies_86 : decode cX4_envies 86 = .ok (.iload_n 1, 1) := by decide +kernel
theorem dX4_envies_87 : decode cX4_envies 87 = .ok (.iload_n 3, 1) := by decide +kernel
theorem dX4_envies_88 : decode cX4_envies 88 = .ok (.invokevirtual 80, 3) := by decide +kernel
theorem dX4_envies_91 : decode cX4_envies 91 = .ok (.aload_n 0, 1) := by decide +kernel
theorem dX4_envies_92 : decode cX4_envies 92 = .ok (.iload_n 1, 1) := by decide +kernel
theorem dX4_envies_93 : decode cX4_envies 93 = .ok (.invokevirtual 110, 3) := by decide +kernel
theorem dX4_envies_96 : decode cX4_envies 96 = .ok (.if_icmp .ge 48, 3) := by decide +kernel
theorem dX4_envies_99 : decode cX4_envies 99 = .ok (.aload_n 0, 1) := by decide +kernel
theorem dX4_envies_100 : decode cX4_envies 100 = .ok (.iload_n 1, 1) := by decide +kernel
theorem dX4_envies_101 : decode cX4_envies 101 = .ok (.iload_n 3, 1) := by decide +kernel
theorem dX4_envies_102 : decode cX4_envies 102 = .ok (.iload 4, 2) := by decide +kernel
theorem dX4_envies_104 : decode cX4_envies 104 = .ok (.invokevirtual 89, 3) := by decide +kernel
theorem dX4_envies_107 : decode cX4_envies 107 = .ok (.ifCond .eq 37, 3) := by decide +kernel
theorem dX4_envies_110 : decode cX4_envies 110 = .ok (.aload_n 0, 1) := by decide +kernel
theorem dX4_envies_111 : decode cX4_envies 111 = .ok (.iload_n 2, 1) := by decide +kernel
theorem dX4_envies_112 : decode cX4_envies 112 = .ok (.iload_n 3, 1) := by decide +kernel
theorem dX4_envies_113 : decode cX4_envies 113 = .ok (.iload 4, 2) := by decide +kernel
theorem dX4_envies_115 : decode cX4_envies 115 = .ok (.invokevirtual 89, 3) := by decide +kernel
theorem dX4_envies_118 : decode cX4_envies 118 = .ok (.ifCond .eq 26, 3) := by decide +kernel
theorem dX4_envies_121 : decode cX4_envies 121 = .ok (.aload_n 0, 1) := by decide +kernel
theorem dX4_envies_122 : decode cX4_envies 122 = .ok (.iload_n 1, 1) := by decide +kernel
theorem dX4_envies_123 : decode cX4_envies 123 = .ok (.iload_n 3, 1) := by decide +kernel
theorem dX4_envies_124 : decode cX4_envies 124 = .ok (.iload 4, 2) := by decide +kernel
theorem dX4_envies_126 : decode cX4_envies 126 = .ok (.invokevirtual 93, 3) := by decide +kernel
theorem dX4_envies_129 : decode cX4_envies 129 = .ok (.aload_n 0, 1) := by decide +kernel
theorem dX4_envies_130 : decode cX4_envies 130 = .ok (.iload_n 2, 1) := by decide +kernel
theorem dX4_envies_131 : decode cX4_envies 131 = .ok (.iload_n 3, 1) := by decide +kernel
theorem dX4_envies_132 : decode cX4_envies 132 = .ok (.iload 4, 2) := by decide +kernel
theorem dX4_envies_134 : decode cX4_envies 134 = .ok (.invokevirtual 93, 3) := by decide +kernel
theorem dX4_envies_137 : decode cX4_envies 137 = .ok (.if_icmp .ge 7, 3) := by decide +kernel
theorem dX4_envies_140 : decode cX4_envies 140 = .ok (.iconst 1, 1) := by decide +kernel
theorem dX4_envies_141 : decode cX4_envies 141 = .ok (.goto 4, 3) := by decide +kernel
theorem dX4_envies_144 : decode cX4_envies 144 = .ok (.iconst 0, 1) := by decide +kernel
theorem dX4_envies_145 : decode cX4_envies 145 = .ok (.ireturn, 1) := by decide +kernel
theorem dX4_why_0 : decode cX4_why 0 = .ok (.aload_n 0, 1) := by decide +kernel
theorem dX4_why_1 : decode cX4_why 1 = .ok (.iconst 0, 1) := by decide +kernel
theorem dX4_why_2 : decode cX4_why 2 = .ok (.putfield 59, 3) := by decide +kernel
theorem dX4_why_5 : decode cX4_why 5 = .ok (.aload_n 0, 1) := by decide +kernel
theorem dX4_why_6 : decode cX4_why 6 = .ok (.iload_n 1, 1) := by decide +kernel
theorem dX4_why_7 : decode cX4_why 7 = .ok (.invokevirtual 77, 3) := by decide +kernel
theorem dX4_why_10 : decode cX4_why 10 = .ok (.ifCond .eq 11, 3) := by decide +kernel
theorem dX4_why_13 : decode cX4_why 13 = .ok (.aload_n 0, 1) := by decide +kernel
theorem dX4_why_14 : decode cX4_why 14 = .ok (.iload_n 2, 1) := by decide +kernel
theorem dX4_why_15 : decode cX4_why 15 = .ok (.invokevirtual 73, 3) := by decide +kernel
theorem dX4_why_18 : decode cX4_why 18 = .ok (.ifCond .ne 5, 3) := by decide +kernel
theorem dX4_why_21 : decode cX4_why 21 = .ok (.iconst (-1), 1) := by decide +kernel
theorem dX4_why_22 : decode cX4_why 22 = .ok (.ireturn, 1) := by decide +kernel
theorem dX4_why_23 : decode cX4_why 23 = .ok (.aload_n 0, 1) := by decide +kernel
theorem dX4_why_24 : decode cX4_why 24 = .ok (.getfield 38, 3) := by decide +kernel
theorem dX4_why_27 : decode cX4_why 27 = .ok (.iload_n 1, 1) := by decide +kernel
theorem dX4_why_28 : decode cX4_why 28 = .ok (.iaload, 1) := by decide +kernel
theorem dX4_why_29 : decode cX4_why 29 = .ok (.iload_n 2, 1) := by decide +kernel
theorem dX4_why_30 : decode cX4_why 30 = .ok (.if_icmp .ne 5, 3) := by decide +kernel
theorem dX4_why_33 : decode cX4_why 33 = .ok (.iconst 0, 1) := by decide +kernel
theorem dX4_why_34 : decode cX4_why 34 = .ok (.ireturn, 1) := by decide +kernel
theorem dX4_why_35 : decode cX4_why 35 = .ok (.aload_n 0, 1) := by decide +kernel
theorem dX4_why_36 : decode cX4_why 36 = .ok (.iload_n 1, 1) := by decide +kernel
theorem dX4_why_37 : decode cX4_why 37 = .ok (.iload_n 2, 1) := by decide +kernel
theorem dX4_why_38 : decode cX4_why 38 = .ok (.invokevirtual 80, 3) := by decide +kernel
theorem dX4_why_41 : decode cX4_why 41 = .ok (.istore_n 3, 1) := by decide +kernel
theorem dX4_why_42 : decode cX4_why 42 = .ok (.iconst 0, 1) := by decide +kernel
theorem dX4_why_43 : decode cX4_why 43 = .ok (.istore 4, 2) := by decide +kernel
theorem dX4_why_45 : decode cX4_why 45 = .ok (.iconst 0, 1) := by decide +kernel
theorem dX4_why_46 : decode cX4_why 46 = .ok (.istore 5, 2) := by decide +kernel
theorem dX4_why_48 : decode cX4_why 48 = .ok (.iload 5, 2) := by decide +kernel
theorem dX4_why_50 : decode cX4_why 50 = .ok (.aload_n 0, 1) := by decide +kernel
theorem dX4_why_51 : decode cX4_why 51 = .ok (.getfield 7, 3) := by decide +kernel
theorem dX4_why_54 : decode cX4_why 54 = .ok (.iload_n 2, 1) := by decide +kernel
theorem dX4_why_55 : decode cX4_why 55 = .ok (.iaload, 1) := by decide +kernel
theorem dX4_why_56 : decode cX4_why 56 = .ok (.if_icmp .ge 32, 3) := by decide +kernel
theorem dX4_why_59 : decode cX4_why 59 = .ok (.iload 4, 2) := by decide +kernel
theorem dX4_why_61 : decode cX4_why 61 = .ok (.ifCond .ne 14, 3) := by decide +kernel
theorem dX4_why_64 : decode cX4_why 64 = .ok (.aload_n 0, 1) := by decide +kernel
theorem dX4_why_65 : decode cX4_why 65 = .ok (.iload_n 1, 1) := by decide +kernel
theorem dX4_why_66 : decode cX4_why 66 = .ok (.iload_n 2, 1) := by decide +kernel
theorem dX4_why_67 : decode cX4_why 67 = .ok (.iload 5, 2) := by decide +kernel
theorem dX4_why_69 : decode cX4_why 69 = .ok (.invokevirtual 89, 3) := by decide +kernel
theorem dX4_why_72 : decode cX4_why 72 = .ok (.ifCond .eq 7, 3) := by decide +kernel
theorem dX4_why_75 : decode cX4_why 75 = .ok (.iconst 1, 1) := by decide +kernel
theorem dX4_why_76 : decode cX4_why 76 = .ok (.goto 4, 3) := by decide +kernel
theorem dX4_why_79 : decode cX4_why 79 = .ok (.iconst 0, 1) := by decide +kernel
theorem dX4_why_80 : decode cX4_why 80 = .ok (.istore 4, 2) := by decide +kernel
theorem dX4_why_82 : decode cX4_why 82 = .ok (.iinc 5 1, 3) := by decide +kernel
theorem dX4_why_85 : decode cX4_why 85 = .ok (.goto (-37), 3) := by decide +kernel
theorem dX4_why_88 : decode cX4_why 88 = .ok (.iload_n 3, 1) := by decide +kernel
theorem dX4_why_89 : decode cX4_why 89 = .ok (.bipush 9, 2) := by decide +kernel
theorem dX4_why_91 : decode cX4_why 91 = .ok (.if_icmp .ne 7, 3) := by decide +kernel
theorem dX4_why_94 : decode cX4_why 94 = .ok (.iconst 1, 1) := by decide +kernel
theorem dX4_why_95 : decode cX4_why 95 = .ok (.goto 26, 3) := by decide +kernel
theorem dX4_why_98 : decode cX4_why 98 = .ok (.iload 4, 2) := by decide +kernel
theorem dX4_why_100 : decode cX4_why 100 = .ok (.ifCond .ne 7, 3) := by decide +kernel
theorem dX4_why_103 : decode cX4_why 103 = .ok (.iconst 2, 1) := by decide +kernel
theorem dX4_why_104 : decode cX4_why 104 = .ok (.goto 17, 3) := by decide +kernel
theorem dX4_why_107 : decode cX4_why 107 = .ok (.aload_n 0, 1) := by decide +kernel
theorem dX4_why_108 : decode cX4_why 108 = .ok (.iload_n 1, 1) := by decide +kernel
theorem dX4_why_109 : decode cX4_why 109 = .ok (.invokevirtual 110, 3) := by decide +kernel
theorem dX4_why_112 : decode cX4_why 112 = .ok (.iload_n 3, 1) := by decide +kernel
theorem dX4_why_113 : decode cX4_why 113 = .ok (.if_icmp .ge 7, 3) := by decide +kernel
theorem dX4_why_116 : decode cX4_why 116 = .ok (.iconst 3, 1) := by decide +kernel
theorem dX4_why_117 : decode cX4_why 117 = .ok (.goto 4, 3) := by decide +kernel
theorem dX4_why_120 : decode cX4_why 120 = .ok (.iconst 4, 1) := by decide +kernel
theorem dX4_why_121 : decode cX4_why 121 = .ok (.ireturn, 1) := by decide +kernel
theorem dX4_look_0 : decode cX4_look 0 = .ok (.aload_n 0, 1) := by decide +kernel
theorem dX4_look_1 : decode cX4_look 1 = .ok (.iconst 0, 1) := by decide +kernel
theorem dX4_look_2 : decode cX4_look 2 = .ok (.putfield 59, 3) := by decide +kernel
theorem dX4_look_5 : decode cX4_look 5 = .ok (.iconst 0, 1) := by decide +kernel
theorem dX4_look_6 : decode cX4_look 6 = .ok (.istore_n 2, 1) := by decide +kernel
theorem dX4_look_7 : decode cX4_look 7 = .ok (.iconst 0, 1) := by decide +kernel
theorem dX4_look_8 : decode cX4_look 8 = .ok (.istore_n 3, 1) := by decide +kernel
theorem dX4_look_9 : decode cX4_look 9 = .ok (.iload_n 3, 1) := by decide +kernel
theorem dX4_look_10 : decode cX4_look 10 = .ok (.aload_n 0, 1) := by decide +kernel
theorem dX4_look_11 : decode cX4_look 11 = .ok (.getfield 66, 3) := by decide +kernel
theorem dX4_look_14 : decode cX4_look 14 = .ok (.if_icmp .ge 18, 3) := by decide +kernel
theorem dX4_look_17 : decode cX4_look 17 = .ok (.iload_n 2, 1) := by decide +kernel
theorem dX4_look_18 : decode cX4_look 18 = .ok (.aload_n 0, 1) := by decide +kernel
theorem dX4_look_19 : decode cX4_look 19 = .ok (.getfield 35, 3) := by decide +kernel
theorem dX4_look_22 : decode cX4_look 22 = .ok (.iload_n 3, 1) := by decide +kernel
theorem dX4_look_23 : decode cX4_look 23 = .ok (.iaload, 1) := by decide +kernel
theorem dX4_look_24 : decode cX4_look 24 = .ok (.iadd, 1) := by decide +kernel
theorem dX4_look_25 : decode cX4_look 25 = .ok (.istore_n 2, 1) := by decide +kernel
theorem dX4_look_26 : decode cX4_look 26 = .ok (.iinc 3 1, 3) := by decide +kernel
theorem dX4_look_29 : decode cX4_look 29 = .ok (.goto (-20), 3) := by decide +kernel
theorem dX4_look_32 : decode cX4_look 32 = .ok (.iload_n 1, 1) := by decide +kernel
theorem dX4_look_33 : decode cX4_look 33 = .ok (.ifCond .ne 10, 3) := by decide +kernel
theorem dX4_look_36 : decode cX4_look 36 = .ok (.aload_n 0, 1) := by decide +kernel
theorem dX4_look_37 : decode cX4_look 37 = .ok (.getfield 63, 3) := by decide +kernel
theorem dX4_look_40 : decode cX4_look 40 = .ok (.goto 57, 3) := by decide +kernel
theorem dX4_look_43 : decode cX4_look 43 = .ok (.iload_n 1, 1) := by decide +kernel
theorem dX4_look_44 : decode cX4_look 44 = .ok (.iconst 1, 1) := by decide +kernel
theorem dX4_look_45 : decode cX4_look 45 = .ok (.if_icmp .ne 10, 3) := by decide +kernel
theorem dX4_look_48 : decode cX4_look 48 = .ok (.aload_n 0, 1) := by decide +kernel
theorem dX4_look_49 : decode cX4_look 49 = .ok (.getfield 66, 3) := by decide +kernel
theorem dX4_look_52 : decode cX4_look 52 = .ok (.goto 45, 3) := by decide +kernel
theorem dX4_look_55 : decode cX4_look 55 = .ok (.iload_n 1, 1) := by decide +kernel
theorem dX4_look_56 : decode cX4_look 56 = .ok (.iconst 2, 1) := by decide +kernel
theorem dX4_look_57 : decode cX4_look 57 = .ok (.if_icmp .ne 18, 3) := by decide +kernel
theorem dX4_look_60 : decode cX4_look 60 = .ok (.aload_n 0, 1) := by decide +kernel
theorem dX4_look_61 : decode cX4_look 61 = .ok (.getfield 69, 3) := by decide +kernel
theorem dX4_look_64 : decode cX4_look 64 = .ok (.ifCond .eq 7, 3) := by decide +kernel
theorem dX4_look_67 : decode cX4_look 67 = .ok (.iconst 1, 1) := by decide +kernel
theorem dX4_look_68 : decode cX4_look 68 = .ok (.goto 29, 3) := by decide +kernel
theorem dX4_look_71 : decode cX4_look 71 = .ok (.iconst 0, 1) := by decide +kernel
theorem dX4_look_72 : decode cX4_look 72 = .ok (.goto 25, 3) := by decide +kernel
theorem dX4_look_75 : decode cX4_look 75 = .ok (.iload_n 1, 1) := by decide +kernel
theorem dX4_look_76 : decode cX4_look 76 = .ok (.iconst 3, 1) := by decide +kernel
theorem dX4_look_77 : decode cX4_look 77 = .ok (.if_icmp .ne 7, 3) := by decide +kernel
theorem dX4_look_80 : decode cX4_look 80 = .ok (.iload_n 2, 1) := by decide +kernel
theorem dX4_look_81 : decode cX4_look 81 = .ok (.goto 16, 3) := by decide +kernel
theorem dX4_look_84 : decode cX4_look 84 = .ok (.iload_n 1, 1) := by decide +kernel
theorem dX4_look_85 : decode cX4_look 85 = .ok (.iconst 4, 1) := by decide +kernel
theorem dX4_look_86 : decode cX4_look 86 = .ok (.if_icmp .ne 10, 3) := by decide +kernel
theorem dX4_look_89 : decode cX4_look 89 = .ok (.aload_n 0, 1) := by decide +kernel
theorem dX4_look_90 : decode cX4_look 90 = .ok (.invokevirtual 103, 3) := by decide +kernel
theorem dX4_look_93 : decode cX4_look 93 = .ok (.goto 4, 3) := by decide +kernel
theorem dX4_look_96 : decode cX4_look 96 = .ok (.iconst (-1), 1) := by decide +kernel
theorem dX4_look_97 : decode cX4_look 97 = .ok (.ireturn, 1) := by decide +kernel
theorem dL_law_0 : decode cL_law 0 = .ok (.new 8, 3) := by decide +kernel
theorem dL_law_3 : decode cL_law 3 = .ok (.dup, 1) := by decide +kernel
theorem dL_law_4 : decode cL_law 4 = .ok (.invokespecial 42, 3) := by decide +kernel
theorem dL_law_7 : decode cL_law 7 = .ok (.astore_n 1, 1) := by decide +kernel
theorem dL_law_8 : decode cL_law 8 = .ok (.new 43, 3) := by decide +kernel
theorem dL_law_11 : decode cL_law 11 = .ok (.dup, 1) := by decide +kernel
theorem dL_law_12 : decode cL_law 12 = .ok (.invokespecial 45, 3) := by decide +kernel
theorem dL_law_15 : decode cL_law 15 = .ok (.astore_n 2, 1) := by decide +kernel
theorem dL_law_16 : decode cL_law 16 = .ok (.iconst 1, 1) := by decide +kernel
theorem dL_law_17 : decode cL_law 17 = .ok (.newarray .long, 2) := by decide +kernel
theorem dL_law_19 : decode cL_law 19 = .ok (.astore_n 3, 1) := by decide +kernel
theorem dL_law_20 : decode cL_law 20 = .ok (.iconst 0, 1) := by decide +kernel
theorem dL_law_21 : decode cL_law 21 = .ok (.istore 4, 2) := by decide +kernel
theorem dL_law_23 : decode cL_law 23 = .ok (.iload 4, 2) := by decide +kernel
theorem dL_law_25 : decode cL_law 25 = .ok (.aload_n 0, 1) := by decide +kernel
theorem dL_law_26 : decode cL_law 26 = .ok (.arraylength, 1) := by decide +kernel
theorem dL_law_27 : decode cL_law 27 = .ok (.bipush 6, 2) := by decide +kernel
theorem dL_law_29 : decode cL_law 29 = .ok (.isub, 1) := by decide +kernel
theorem dL_law_30 : decode cL_law 30 = .ok (.if_icmp .gt 971, 3) := by decide +kernel
theorem dL_law_33 : decode cL_law 33 = .ok (.aload_n 0, 1) := by decide +kernel
theorem dL_law_34 : decode cL_law 34 = .ok (.iload 4, 2) := by decide +kernel
theorem dL_law_36 : decode cL_law 36 = .ok (.iaload, 1) := by decide +kernel
theorem dL_law_37 : decode cL_law 37 = .ok (.bipush 31, 2) := by decide +kernel
theorem dL_law_39 : decode cL_law 39 = .ok (.iand, 1) := by decide +kernel
theorem dL_law_40 : decode cL_law 40 = .ok (.tableswitch 955 0 16 #[84, 128, 232, 316, 384, 433, 477, 514, 551, 595, 632, 707, 744, 793, 818, 893, 930], 84) := by decide +kernel
theorem dL_law_124 : decode cL_law 124 = .ok (.aload_n 1, 1) := by decide +kernel
theorem dL_law_125 : decode cL_law 125 = .ok (.aload_n 3, 1) := by decide +kernel
theorem dL_law_126 : decode cL_law 126 = .ok (.invokestatic 46, 3) := by decide +kernel
theorem dL_law_129 : decode cL_law 129 = .ok (.istore 5, 2) := by decide +kernel
theorem dL_law_131 : decode cL_law 131 = .ok (.aload_n 2, 1) := by decide +kernel
theorem dL_law_132 : decode cL_law 132 = .ok (.invokevirtual 51, 3) := by decide +kernel
theorem dL_law_135 : decode cL_law 135 = .ok (.istore 6, 2) := by decide +kernel
theorem dL_law_137 : decode cL_law 137 = .ok (.aload_n 2, 1) := by decide +kernel
theorem dL_law_138 : decode cL_law 138 = .ok (.invokevirtual 52, 3) := by decide +kernel
theorem dL_law_141 : decode cL_law 141 = .ok (.iload 5, 2) := by decide +kernel
theorem dL_law_143 : decode cL_law 143 = .ok (.if_icmp .eq 5, 3) := by decide +kernel
theorem dL_law_146 : decode cL_law 146 = .ok (.iconst 0, 1) := by decide +kernel
theorem dL_law_147 : decode cL_law 147 = .ok (.ireturn, 1) := by decide +kernel
theorem dL_law_148 : decode cL_law 148 = .ok (.iload 5, 2) := by decide +kernel
theorem dL_law_150 : decode cL_law 150 = .ok (.ifCond .ne 15, 3) := by decide +kernel
theorem dL_law_153 : decode cL_law 153 = .ok (.aload_n 3, 1) := by decide +kernel
theorem dL_law_154 : decode cL_law 154 = .ok (.iconst 0, 1) := by decide +kernel
theorem dL_law_155 : decode cL_law 155 = .ok (.laload, 1) := by decide +kernel
theorem dL_law_156 : decode cL_law 156 = .ok (.iload 6, 2) := by decide +kernel
theorem dL_law_158 : decode cL_law 158 = .ok (.i2l, 1) := by decide +kernel
theorem dL_law_159 : decode cL_law 159 = .ok (.lcmp, 1) := by decide +kernel
theorem dL_law_160 : decode cL_law 160 = .ok (.ifCond .eq 5, 3) := by decide +kernel
theorem dL_law_163 : decode cL_law 163 = .ok (.iconst 0, 1) := by decide +kernel
theorem dL_law_164 : decode cL_law 164 = .ok (.ireturn, 1) := by decide +kernel
theorem dL_law_165 : decode cL_law 165 = .ok (.goto 830, 3) := by decide +kernel
theorem dL_law_168 : decode cL_law 168 = .ok (.aload_n 1, 1) := by decide +kernel
theorem dL_law_169 : decode cL_law 169 = .ok (.aload_n 0, 1) := by decide +kernel
theorem dL_law_170 : decode cL_law 170 = .ok (.iload 4, 2) := by decide +kernel
theorem dL_law_172 : decode cL_law 172 = .ok (.iconst 1, 1) := by decide +kernel
theorem dL_law_173 : decode cL_law 173 = .ok (.iadd, 1) := by decide +kernel
theorem dL_law_174 : decode cL_law 174 = .ok (.iaload, 1) := by decide +kernel
theorem dL_law_175 : decode cL_law 175 = .ok (.aload_n 0, 1) := by decide +kernel
theorem dL_law_176 : decode cL_law 176 = .ok (.iload 4, 2) := by decide +kernel
theorem dL_law_178 : decode cL_law 178 = .ok (.iconst 2, 1) := by decide +kernel
theorem dL_law_179 : decode cL_law 179 = .ok (.iadd, 1) := by decide +kernel
theorem dL_law_180 : decode cL_law 180 = .ok (.iaload, 1) := by decide +kernel
theorem dL_law_181 : decode cL_law 181 = .ok (.aload_n 0, 1) := by decide +kernel
theorem dL_law_182 : decode cL_law 182 = .ok (.iload 4, 2) := by decide +kernel
theorem dL_law_184 : decode cL_law 184 = .ok (.iconst 3, 1) := by decide +kernel
theorem dL_law_185 : decode cL_law 185 = .ok (.iadd, 1) := by decide +kernel
theorem dL_law_186 : decode cL_law 186 = .ok (.iaload, 1) := by decide +kernel
theorem dL_law_187 : decode cL_law 187 = .ok (.aload_n 0, 1) := by decide +kernel
theorem dL_law_188 : decode cL_law 188 = .ok (.iload 4, 2) := by decide +kernel
theorem dL_law_190 : decode cL_law 190 = .ok (.iconst 4, 1) := by decide +kernel
theorem dL_law_191 : decode cL_law 191 = .ok (.iadd, 1) := by decide +kernel
theorem dL_law_192 : decode cL_law 192 = .ok (.iaload, 1) := by decide +kernel
theorem dL_law_193 : decode cL_law 193 = .ok (.aload_n 0, 1) := by decide +kernel
theorem dL_law_194 : decode cL_law 194 = .ok (.iload 4, 2) := by decide +kernel
theorem dL_law_196 : decode cL_law 196 = .ok (.iconst 5, 1) := by decide +kernel
theorem dL_law_197 : decode cL_law 197 = .ok (.iadd, 1) := by decide +kernel
theorem dL_law_198 : decode cL_law 198 = .ok (.iaload, 1) := by decide +kernel
theorem dL_law_199 : decode cL_law 199 = .ok (.aload_n 3, 1) := by decide +kernel
theorem dL_law_200 : decode cL_law 200 = .ok (.invokestatic 55, 3) := by decide +kernel
theorem dL_law_203 : decode cL_law 203 = .ok (.istore 5, 2) := by decide +kernel
theorem dL_law_205 : decode cL_law 205 = .ok (.aload_n 2, 1) := by decide +kernel
theorem dL_law_206 : decode cL_law 206 = .ok (.aload_n 0, 1) := by decide +kernel
theorem dL_law_207 : decode cL_law 207 = .ok (.iload 4, 2) := by decide +kernel
theorem dL_law_209 : decode cL_law 209 = .ok (.iconst 1, 1) := by decide +kernel
theorem dL_law_210 : decode cL_law 210 = .ok (.iadd, 1) := by decide +kernel
theorem dL_law_211 : decode cL_law 211 = .ok (.iaload, 1) := by decide +kernel
theorem dL_law_212 : decode cL_law 212 = .ok (.aload_n 0, 1) := by decide +kernel
theorem dL_law_213 : decode cL_law 213 = .ok (.iload 4, 2) := by decide +kernel
theorem dL_law_215 : decode cL_law 215 = .ok (.iconst 2, 1) := by decide +kernel
theorem dL_law_216 : decode cL_law 216 = .ok (.iadd, 1) := by decide +kernel
theorem dL_law_217 : decode cL_law 217 = .ok (.iaload, 1) := by decide +kernel
theorem dL_law_218 : decode cL_law 218 = .ok (.aload_n 0, 1) := by decide +kernel
theorem dL_law_219 : decode cL_law 219 = .ok (.iload 4, 2) := by decide +kernel
theorem dL_law_221 : decode cL_law 221 = .ok (.iconst 3, 1) := by decide +kernel
theorem dL_law_222 : decode cL_law 222 = .ok (.iadd, 1) := by decide +kernel
theorem dL_law_223 : decode cL_law 223 = .ok (.iaload, 1) := by decide +kernel
theorem dL_law_224 : decode cL_law 224 = .ok (.aload_n 0, 1) := by decide +kernel
theorem dL_law_225 : decode cL_law 225 = .ok (.iload 4, 2) := by decide +kernel
theorem dL_law_227 : decode cL_law 227 = .ok (.iconst 4, 1) := by decide +kernel
theorem dL_law_228 : decode cL_law 228 = .ok (.iadd, 1) := by decide +kernel
theorem dL_law_229 : decode cL_law 229 = .ok (.iaload, 1) := by decide +kernel
theorem dL_law_230 : decode cL_law 230 = .ok (.aload_n 0, 1) := by decide +kernel
theorem dL_law_231 : decode cL_law 231 = .ok (.iload 4, 2) := by decide +kernel
theorem dL_law_233 : decode cL_law 233 = .ok (.iconst 5, 1) := by decide +kernel
theorem dL_law_234 : decode cL_law 234 = .ok (.iadd, 1) := by decide +kernel
theorem dL_law_235 : decode cL_law 235 = .ok (.iaload, 1) := by decide +kernel
theorem dL_law_236 : decode cL_law 236 = .ok (.invokevirtual 58, 3) := by decide +kernel
theorem dL_law_239 : decode cL_law 239 = .ok (.istore 6, 2) := by decide +kernel
theorem dL_law_241 : decode cL_law 241 = .ok (.aload_n 2, 1) := by decide +kernel
theorem dL_law_242 : decode cL_law 242 = .ok (.invokevirtual 52, 3) := by decide +kernel
theorem dL_law_245 : decode cL_law 245 = .ok (.iload 5, 2) := by decide +kernel
theorem dL_law_247 : decode cL_law 247 = .ok (.if_icmp .eq 5, 3) := by decide +kernel
theorem dL_law_250 : decode cL_law 250 = .ok (.iconst 0, 1) := by decide +kernel
theorem dL_law_251 : decode cL_law 251 = .ok (.ireturn, 1) := by decide +kernel
theorem dL_law_252 : decode cL_law 252 = .ok (.iload 5, 2) := by decide +kernel
theorem dL_law_254 : decode cL_law 254 = .ok (.ifCond .ne 15, 3) := by decide +kernel
theorem dL_law_257 : decode cL_law 257 = .ok (.aload_n 3, 1) := by decide +kernel
theorem dL_law_258 : decode cL_law 258 = .ok (.iconst 0, 1) := by decide +kernel
theorem dL_law_259 : decode cL_law 259 = .ok (.laload, 1) := by decide +kernel
theorem dL_law_260 : decode cL_law 260 = .ok (.iload 6, 2) := by decide +kernel
theorem dL_law_262 : decode cL_law 262 = .ok (.i2l, 1) := by decide +kernel
theorem dL_law_263 : decode cL_law 263 = .ok (.lcmp, 1) := by decide +kernel
theorem dL_law_264 : decode cL_law 264 = .ok (.ifCond .eq 5, 3) := by decide +kernel
theorem dL_law_267 : decode cL_law 267 = .ok (.iconst 0, 1) := by decide +kernel
theorem dL_law_268 : decode cL_law 268 = .ok (.ireturn, 1) := by decide +kernel
theorem dL_law_269 : decode cL_law 269 = .ok (.goto 726, 3) := by decide +kernel
theorem dL_law_272 : decode cL_law 272 = .ok (.aload_n 1, 1) := by decide +kernel
theorem dL_law_273 : decode cL_law 273 = .ok (.aload_n 0, 1) := by decide +kernel
theorem dL_law_274 : decode cL_law 274 = .ok (.iload 4, 2) := by decide +kernel
theorem dL_law_276 : decode cL_law 276 = .ok (.iconst 1, 1) := by decide +kernel
theorem dL_law_277 : decode cL_law 277 = .ok (.iadd, 1) := by decide +kernel
theorem dL_law_278 : decode cL_law 278 = .ok (.iaload, 1) := by decide +kernel
theorem dL_law_279 : decode cL_law 279 = .ok (.aload_n 0, 1) := by decide +kernel
theorem dL_law_280 : decode cL_law 280 = .ok (.iload 4, 2) := by decide +kernel
theorem dL_law_282 : decode cL_law 282 = .ok (.iconst 2, 1) := by decide +kernel
theorem dL_law_283 : decode cL_law 283 = .ok (.iadd, 1) := by decide +kernel
theorem dL_law_284 : decode cL_law 284 = .ok (.iaload, 1) := by decide +kernel
theorem dL_law_285 : decode cL_law 285 = .ok (.ifCond .eq 7, 3) := by decide +kernel
theorem dL_law_288 : decode cL_law 288 = .ok (.iconst 1, 1) := by decide +kernel
theorem dL_law_289 : decode cL_law 289 = .ok (.goto 4, 3) := by decide +kernel
theorem dL_law_292 : decode cL_law 292 = .ok (.iconst 0, 1) := by decide +kernel
theorem dL_law_293 : decode cL_law 293 = .ok (.aload_n 3, 1) := by decide +kernel
theorem dL_law_294 : decode cL_law 294 = .ok (.invokestatic 59, 3) := by decide +kernel
theorem dL_law_297 : decode cL_law 297 = .ok (.istore 5, 2) := by decide +kernel
theorem dL_law_299 : decode cL_law 299 = .ok (.aload_n 2, 1) := by decide +kernel
theorem dL_law_300 : decode cL_law 300 = .ok (.aload_n 0, 1) := by decide +kernel
theorem dL_law_301 : decode cL_law 301 = .ok (.iload 4, 2) := by decide +kernel
theorem dL_law_303 : decode cL_law 303 = .ok (.iconst 1, 1) := by decide +kernel
theorem dL_law_304 : decode cL_law 304 = .ok (.iadd, 1) := by decide +kernel
theorem dL_law_305 : decode cL_law 305 = .ok (.iaload, 1) := by decide +kernel
theorem dL_law_306 : decode cL_law 306 = .ok (.aload_n 0, 1) := by decide +kernel
theorem dL_law_307 : decode cL_law 307 = .ok (.iload 4, 2) := by decide +kernel
theorem dL_law_309 : decode cL_law 309 = .ok (.iconst 2, 1) := by decide +kernel
theorem dL_law_310 : decode cL_law 310 = .ok (.iadd, 1) := by decide +kernel
theorem dL_law_311 : decode cL_law 311 = .ok (.iaload, 1) := by decide +kernel
theorem dL_law_312 : decode cL_law 312 = .ok (.ifCond .eq 7, 3) := by decide +kernel
theorem dL_law_315 : decode cL_law 315 = .ok (.iconst 1, 1) := by decide +kernel
theorem dL_law_316 : decode cL_law 316 = .ok (.goto 4, 3) := by decide +kernel
theorem dL_law_319 : decode cL_law 319 = .ok (.iconst 0, 1) := by decide +kernel
theorem dL_law_320 : decode cL_law 320 = .ok (.invokevirtual 62, 3) := by decide +kernel
theorem dL_law_323 : decode cL_law 323 = .ok (.istore 6, 2) := by decide +kernel
theorem dL_law_325 : decode cL_law 325 = .ok (.aload_n 2, 1) := by decide +kernel
theorem dL_law_326 : decode cL_law 326 = .ok (.invokevirtual 52, 3) := by decide +kernel
theorem dL_law_329 : decode cL_law 329 = .ok (.iload 5, 2) := by decide +kernel
theorem dL_law_331 : decode cL_law 331 = .ok (.if_icmp .eq 5, 3) := by decide +kernel
theorem dL_law_334 : decode cL_law 334 = .ok (.iconst 0, 1) := by decide +kernel
theorem dL_law_335 : decode cL_law 335 = .ok (.ireturn, 1) := by decide +kernel
theorem dL_law_336 : decode cL_law 336 = .ok (.iload 5, 2) := by decide +kernel
theorem dL_law_338 : decode cL_law 338 = .ok (.ifCond .ne 15, 3) := by decide +kernel
theorem dL_law_341 : decode cL_law 341 = .ok (.aload_n 3, 1) := by decide +kernel
theorem dL_law_342 : decode cL_law 342 = .ok (.iconst 0, 1) := by decide +kernel
theorem dL_law_343 : decode cL_law 343 = .ok (.laload, 1) := by decide +kernel
theorem dL_law_344 : decode cL_law 344 = .ok (.iload 6, 2) := by decide +kernel
theorem dL_law_346 : decode cL_law 346 = .ok (.i2l, 1) := by decide +kernel
theorem dL_law_347 : decode cL_law 347 = .ok (.lcmp, 1) := by decide +kernel
theorem dL_law_348 : decode cL_law 348 = .ok (.ifCond .eq 5, 3) := by decide +kernel
theorem dL_law_351 : decode cL_law 351 = .ok (.iconst 0, 1) := by decide +kernel
theorem dL_law_352 : decode cL_law 352 = .ok (.ireturn, 1) := by decide +kernel
theorem dL_law_353 : decode cL_law 353 = .ok (.goto 642, 3) := by decide +kernel
theorem dL_law_356 : decode cL_law 356 = .ok (.aload_n 1, 1) := by decide +kernel
theorem dL_law_357 : decode cL_law 357 = .ok (.aload_n 0, 1) := by decide +kernel
theorem dL_law_358 : decode cL_law 358 = .ok (.iload 4, 2) := by decide +kernel
theorem dL_law_360 : decode cL_law 360 = .ok (.iconst 1, 1) := by decide +kernel
theorem dL_law_361 : decode cL_law 361 = .ok (.iadd, 1) := by decide +kernel
theorem dL_law_362 : decode cL_law 362 = .ok (.iaload, 1) := by decide +kernel
theorem dL_law_363 : decode cL_law 363 = .ok (.aload_n 0, 1) := by decide +kernel
theorem dL_law_364 : decode cL_law 364 = .ok (.iload 4, 2) := by decide +kernel
theorem dL_law_366 : decode cL_law 366 = .ok (.iconst 2, 1) := by decide +kernel
theorem dL_law_367 : decode cL_law 367 = .ok (.iadd, 1) := by decide +kernel
theorem dL_law_368 : decode cL_law 368 = .ok (.iaload, 1) := by decide +kernel
theorem dL_law_369 : decode cL_law 369 = .ok (.aload_n 3, 1) := by decide +kernel
theorem dL_law_370 : decode cL_law 370 = .ok (.invokestatic 63, 3) := by decide +kernel
theorem dL_law_373 : decode cL_law 373 = .ok (.istore 5, 2) := by decide +kernel
theorem dL_law_375 : decode cL_law 375 = .ok (.aload_n 2, 1) := by decide +kernel
theorem dL_law_376 : decode cL_law 376 = .ok (.aload_n 0, 1) := by decide +kernel
theorem dL_law_377 : decode cL_law 377 = .ok (.iload 4, 2) := by decide +kernel
theorem dL_law_379 : decode cL_law 379 = .ok (.iconst 1, 1) := by decide +kernel
theorem dL_law_380 : decode cL_law 380 = .ok (.iadd, 1) := by decide +kernel
theorem dL_law_381 : decode cL_law 381 = .ok (.iaload, 1) := by decide +kernel
theorem dL_law_382 : decode cL_law 382 = .ok (.aload_n 0, 1) := by decide +kernel
theorem dL_law_383 : decode cL_law 383 = .ok (.iload 4, 2) := by decide +kernel
theorem dL_law_385 : decode cL_law 385 = .ok (.iconst 2, 1) := by decide +kernel
theorem dL_law_386 : decode cL_law 386 = .ok (.iadd, 1) := by decide +kernel
end
section
/-! decode rows, made by a program of mine -/
theorem dL_law_387 : decode cL_law 387 = .ok (.iaload, 1) := by decide +kernel
theorem dL_law_388 : decode cL_law 388 = .ok (.invokevirtual 66, 3) := by decide +kernel
theorem dL_law_391 : decode cL_law 391 = .ok (.istore 6, 2) := by decide +kernel
theorem dL_law_393 : decode cL_law 393 = .ok (.aload_n 2, 1) := by decide +kernel
theorem dL_law_394 : decode cL_law 394 = .ok (.invokevirtual 52, 3) := by decide +kernel
theorem dL_law_397 : decode cL_law 397 = .ok (.iload 5, 2) := by decide +kernel
theorem dL_law_399 : decode cL_law 399 = .ok (.if_icmp .eq 5, 3) := by decide +kernel
theorem dL_law_402 : decode cL_law 402 = .ok (.iconst 0, 1) := by decide +kernel
theorem dL_law_403 : decode cL_law 403 = .ok (.ireturn, 1) := by decide +kernel
theorem dL_law_404 : decode cL_law 404 = .ok (.iload 5, 2) := by decide +kernel
theorem dL_law_406 : decode cL_law 406 = .ok (.ifCond .ne 15, 3) := by decide +kernel
theorem dL_law_409 : decode cL_law 409 = .ok (.aload_n 3, 1) := by decide +kernel
theorem dL_law_410 : decode cL_law 410 = .ok (.iconst 0, 1) := by decide +kernel
theorem dL_law_411 : decode cL_law 411 = .ok (.laload, 1) := by decide +kernel
theorem dL_law_412 : decode cL_law 412 = .ok (.iload 6, 2) := by decide +kernel
theorem dL_law_414 : decode cL_law 414 = .ok (.i2l, 1) := by decide +kernel
theorem dL_law_415 : decode cL_law 415 = .ok (.lcmp, 1) := by decide +kernel
theorem dL_law_416 : decode cL_law 416 = .ok (.ifCond .eq 5, 3) := by decide +kernel
theorem dL_law_419 : decode cL_law 419 = .ok (.iconst 0, 1) := by decide +kernel
theorem dL_law_420 : decode cL_law 420 = .ok (.ireturn, 1) := by decide +kernel
theorem dL_law_421 : decode cL_law 421 = .ok (.goto 574, 3) := by decide +kernel
theorem dL_law_424 : decode cL_law 424 = .ok (.aload_n 1, 1) := by decide +kernel
theorem dL_law_425 : decode cL_law 425 = .ok (.aload_n 0, 1) := by decide +kernel
theorem dL_law_426 : decode cL_law 426 = .ok (.iload 4, 2) := by decide +kernel
theorem dL_law_428 : decode cL_law 428 = .ok (.iconst 1, 1) := by decide +kernel
theorem dL_law_429 : decode cL_law 429 = .ok (.iadd, 1) := by decide +kernel
theorem dL_law_430 : decode cL_law 430 = .ok (.iaload, 1) := by decide +kernel
theorem dL_law_431 : decode cL_law 431 = .ok (.aload_n 0, 1) := by decide +kernel
theorem dL_law_432 : decode cL_law 432 = .ok (.iload 4, 2) := by decide +kernel
theorem dL_law_434 : decode cL_law 434 = .ok (.iconst 2, 1) := by decide +kernel
theorem dL_law_435 : decode cL_law 435 = .ok (.iadd, 1) := by decide +kernel
theorem dL_law_436 : decode cL_law 436 = .ok (.iaload, 1) := by decide +kernel
theorem dL_law_437 : decode cL_law 437 = .ok (.aload_n 0, 1) := by decide +kernel
theorem dL_law_438 : decode cL_law 438 = .ok (.iload 4, 2) := by decide +kernel
theorem dL_law_440 : decode cL_law 440 = .ok (.iconst 3, 1) := by decide +kernel
theorem dL_law_441 : decode cL_law 441 = .ok (.iadd, 1) := by decide +kernel
theorem dL_law_442 : decode cL_law 442 = .ok (.iaload, 1) := by decide +kernel
theorem dL_law_443 : decode cL_law 443 = .ok (.invokevirtual 67, 3) := by decide +kernel
theorem dL_law_446 : decode cL_law 446 = .ok (.aload_n 2, 1) := by decide +kernel
theorem dL_law_447 : decode cL_law 447 = .ok (.aload_n 0, 1) := by decide +kernel
theorem dL_law_448 : decode cL_law 448 = .ok (.iload 4, 2) := by decide +kernel
theorem dL_law_450 : decode cL_law 450 = .ok (.iconst 1, 1) := by decide +kernel
theorem dL_law_451 : decode cL_law 451 = .ok (.iadd, 1) := by decide +kernel
theorem dL_law_452 : decode cL_law 452 = .ok (.iaload, 1) := by decide +kernel
theorem dL_law_453 : decode cL_law 453 = .ok (.aload_n 0, 1) := by decide +kernel
theorem dL_law_454 : decode cL_law 454 = .ok (.iload 4, 2) := by decide +kernel
theorem dL_law_456 : decode cL_law 456 = .ok (.iconst 2, 1) := by decide +kernel
theorem dL_law_457 : decode cL_law 457 = .ok (.iadd, 1) := by decide +kernel
theorem dL_law_458 : decode cL_law 458 = .ok (.iaload, 1) := by decide +kernel
theorem dL_law_459 : decode cL_law 459 = .ok (.aload_n 0, 1) := by decide +kernel
theorem dL_law_460 : decode cL_law 460 = .ok (.iload 4, 2) := by decide +kernel
theorem dL_law_462 : decode cL_law 462 = .ok (.iconst 3, 1) := by decide +kernel
theorem dL_law_463 : decode cL_law 463 = .ok (.iadd, 1) := by decide +kernel
theorem dL_law_464 : decode cL_law 464 = .ok (.iaload, 1) := by decide +kernel
theorem dL_law_465 : decode cL_law 465 = .ok (.invokevirtual 71, 3) := by decide +kernel
theorem dL_law_468 : decode cL_law 468 = .ok (.if_icmp .eq 527, 3) := by decide +kernel
theorem dL_law_471 : decode cL_law 471 = .ok (.iconst 0, 1) := by decide +kernel
theorem dL_law_472 : decode cL_law 472 = .ok (.ireturn, 1) := by decide +kernel
theorem dL_law_473 : decode cL_law 473 = .ok (.aload_n 1, 1) := by decide +kernel
theorem dL_law_474 : decode cL_law 474 = .ok (.aload_n 3, 1) := by decide +kernel
theorem dL_law_475 : decode cL_law 475 = .ok (.invokestatic 72, 3) := by decide +kernel
theorem dL_law_478 : decode cL_law 478 = .ok (.istore 5, 2) := by decide +kernel
theorem dL_law_480 : decode cL_law 480 = .ok (.aload_n 2, 1) := by decide +kernel
theorem dL_law_481 : decode cL_law 481 = .ok (.invokevirtual 74, 3) := by decide +kernel
theorem dL_law_484 : decode cL_law 484 = .ok (.istore 6, 2) := by decide +kernel
theorem dL_law_486 : decode cL_law 486 = .ok (.aload_n 2, 1) := by decide +kernel
theorem dL_law_487 : decode cL_law 487 = .ok (.invokevirtual 52, 3) := by decide +kernel
theorem dL_law_490 : decode cL_law 490 = .ok (.iload 5, 2) := by decide +kernel
theorem dL_law_492 : decode cL_law 492 = .ok (.if_icmp .eq 5, 3) := by decide +kernel
theorem dL_law_495 : decode cL_law 495 = .ok (.iconst 0, 1) := by decide +kernel
theorem dL_law_496 : decode cL_law 496 = .ok (.ireturn, 1) := by decide +kernel
theorem dL_law_497 : decode cL_law 497 = .ok (.iload 5, 2) := by decide +kernel
theorem dL_law_499 : decode cL_law 499 = .ok (.ifCond .ne 15, 3) := by decide +kernel
theorem dL_law_502 : decode cL_law 502 = .ok (.aload_n 3, 1) := by decide +kernel
theorem dL_law_503 : decode cL_law 503 = .ok (.iconst 0, 1) := by decide +kernel
theorem dL_law_504 : decode cL_law 504 = .ok (.laload, 1) := by decide +kernel
theorem dL_law_505 : decode cL_law 505 = .ok (.iload 6, 2) := by decide +kernel
theorem dL_law_507 : decode cL_law 507 = .ok (.i2l, 1) := by decide +kernel
theorem dL_law_508 : decode cL_law 508 = .ok (.lcmp, 1) := by decide +kernel
theorem dL_law_509 : decode cL_law 509 = .ok (.ifCond .eq 5, 3) := by decide +kernel
theorem dL_law_512 : decode cL_law 512 = .ok (.iconst 0, 1) := by decide +kernel
theorem dL_law_513 : decode cL_law 513 = .ok (.ireturn, 1) := by decide +kernel
theorem dL_law_514 : decode cL_law 514 = .ok (.goto 481, 3) := by decide +kernel
theorem dL_law_517 : decode cL_law 517 = .ok (.aload_n 1, 1) := by decide +kernel
theorem dL_law_518 : decode cL_law 518 = .ok (.aload_n 0, 1) := by decide +kernel
theorem dL_law_519 : decode cL_law 519 = .ok (.iload 4, 2) := by decide +kernel
theorem dL_law_521 : decode cL_law 521 = .ok (.iconst 1, 1) := by decide +kernel
theorem dL_law_522 : decode cL_law 522 = .ok (.iadd, 1) := by decide +kernel
theorem dL_law_523 : decode cL_law 523 = .ok (.iaload, 1) := by decide +kernel
theorem dL_law_524 : decode cL_law 524 = .ok (.aload_n 0, 1) := by decide +kernel
theorem dL_law_525 : decode cL_law 525 = .ok (.iload 4, 2) := by decide +kernel
theorem dL_law_527 : decode cL_law 527 = .ok (.iconst 2, 1) := by decide +kernel
theorem dL_law_528 : decode cL_law 528 = .ok (.iadd, 1) := by decide +kernel
theorem dL_law_529 : decode cL_law 529 = .ok (.iaload, 1) := by decide +kernel
theorem dL_law_530 : decode cL_law 530 = .ok (.invokevirtual 75, 3) := by decide +kernel
theorem dL_law_533 : decode cL_law 533 = .ok (.aload_n 2, 1) := by decide +kernel
theorem dL_law_534 : decode cL_law 534 = .ok (.aload_n 0, 1) := by decide +kernel
theorem dL_law_535 : decode cL_law 535 = .ok (.iload 4, 2) := by decide +kernel
theorem dL_law_537 : decode cL_law 537 = .ok (.iconst 1, 1) := by decide +kernel
theorem dL_law_538 : decode cL_law 538 = .ok (.iadd, 1) := by decide +kernel
theorem dL_law_539 : decode cL_law 539 = .ok (.iaload, 1) := by decide +kernel
theorem dL_law_540 : decode cL_law 540 = .ok (.aload_n 0, 1) := by decide +kernel
theorem dL_law_541 : decode cL_law 541 = .ok (.iload 4, 2) := by decide +kernel
theorem dL_law_543 : decode cL_law 543 = .ok (.iconst 2, 1) := by decide +kernel
theorem dL_law_544 : decode cL_law 544 = .ok (.iadd, 1) := by decide +kernel
theorem dL_law_545 : decode cL_law 545 = .ok (.iaload, 1) := by decide +kernel
theorem dL_law_546 : decode cL_law 546 = .ok (.invokevirtual 78, 3) := by decide +kernel
theorem dL_law_549 : decode cL_law 549 = .ok (.if_icmp .eq 446, 3) := by decide +kernel
theorem dL_law_552 : decode cL_law 552 = .ok (.iconst 0, 1) := by decide +kernel
theorem dL_law_553 : decode cL_law 553 = .ok (.ireturn, 1) := by decide +kernel
theorem dL_law_554 : decode cL_law 554 = .ok (.aload_n 1, 1) := by decide +kernel
theorem dL_law_555 : decode cL_law 555 = .ok (.aload_n 0, 1) := by decide +kernel
theorem dL_law_556 : decode cL_law 556 = .ok (.iload 4, 2) := by decide +kernel
theorem dL_law_558 : decode cL_law 558 = .ok (.iconst 1, 1) := by decide +kernel
theorem dL_law_559 : decode cL_law 559 = .ok (.iadd, 1) := by decide +kernel
theorem dL_law_560 : decode cL_law 560 = .ok (.iaload, 1) := by decide +kernel
theorem dL_law_561 : decode cL_law 561 = .ok (.aload_n 0, 1) := by decide +kernel
theorem dL_law_562 : decode cL_law 562 = .ok (.iload 4, 2) := by decide +kernel
theorem dL_law_564 : decode cL_law 564 = .ok (.iconst 2, 1) := by decide +kernel
theorem dL_law_565 : decode cL_law 565 = .ok (.iadd, 1) := by decide +kernel
theorem dL_law_566 : decode cL_law 566 = .ok (.iaload, 1) := by decide +kernel
theorem dL_law_567 : decode cL_law 567 = .ok (.invokevirtual 79, 3) := by decide +kernel
theorem dL_law_570 : decode cL_law 570 = .ok (.aload_n 2, 1) := by decide +kernel
theorem dL_law_571 : decode cL_law 571 = .ok (.aload_n 0, 1) := by decide +kernel
theorem dL_law_572 : decode cL_law 572 = .ok (.iload 4, 2) := by decide +kernel
theorem dL_law_574 : decode cL_law 574 = .ok (.iconst 1, 1) := by decide +kernel
theorem dL_law_575 : decode cL_law 575 = .ok (.iadd, 1) := by decide +kernel
theorem dL_law_576 : decode cL_law 576 = .ok (.iaload, 1) := by decide +kernel
theorem dL_law_577 : decode cL_law 577 = .ok (.aload_n 0, 1) := by decide +kernel
theorem dL_law_578 : decode cL_law 578 = .ok (.iload 4, 2) := by decide +kernel
theorem dL_law_580 : decode cL_law 580 = .ok (.iconst 2, 1) := by decide +kernel
theorem dL_law_581 : decode cL_law 581 = .ok (.iadd, 1) := by decide +kernel
theorem dL_law_582 : decode cL_law 582 = .ok (.iaload, 1) := by decide +kernel
theorem dL_law_583 : decode cL_law 583 = .ok (.invokevirtual 82, 3) := by decide +kernel
theorem dL_law_586 : decode cL_law 586 = .ok (.if_icmp .eq 409, 3) := by decide +kernel
theorem dL_law_589 : decode cL_law 589 = .ok (.iconst 0, 1) := by decide +kernel
theorem dL_law_590 : decode cL_law 590 = .ok (.ireturn, 1) := by decide +kernel
theorem dL_law_591 : decode cL_law 591 = .ok (.aload_n 1, 1) := by decide +kernel
theorem dL_law_592 : decode cL_law 592 = .ok (.aload_n 3, 1) := by decide +kernel
theorem dL_law_593 : decode cL_law 593 = .ok (.invokestatic 83, 3) := by decide +kernel
theorem dL_law_596 : decode cL_law 596 = .ok (.istore 5, 2) := by decide +kernel
theorem dL_law_598 : decode cL_law 598 = .ok (.aload_n 2, 1) := by decide +kernel
theorem dL_law_599 : decode cL_law 599 = .ok (.invokevirtual 85, 3) := by decide +kernel
theorem dL_law_602 : decode cL_law 602 = .ok (.istore 6, 2) := by decide +kernel
theorem dL_law_604 : decode cL_law 604 = .ok (.aload_n 2, 1) := by decide +kernel
theorem dL_law_605 : decode cL_law 605 = .ok (.invokevirtual 52, 3) := by decide +kernel
theorem dL_law_608 : decode cL_law 608 = .ok (.iload 5, 2) := by decide +kernel
theorem dL_law_610 : decode cL_law 610 = .ok (.if_icmp .eq 5, 3) := by decide +kernel
theorem dL_law_613 : decode cL_law 613 = .ok (.iconst 0, 1) := by decide +kernel
theorem dL_law_614 : decode cL_law 614 = .ok (.ireturn, 1) := by decide +kernel
theorem dL_law_615 : decode cL_law 615 = .ok (.iload 5, 2) := by decide +kernel
theorem dL_law_617 : decode cL_law 617 = .ok (.ifCond .ne 15, 3) := by decide +kernel
theorem dL_law_620 : decode cL_law 620 = .ok (.aload_n 3, 1) := by decide +kernel
theorem dL_law_621 : decode cL_law 621 = .ok (.iconst 0, 1) := by decide +kernel
theorem dL_law_622 : decode cL_law 622 = .ok (.laload, 1) := by decide +kernel
theorem dL_law_623 : decode cL_law 623 = .ok (.iload 6, 2) := by decide +kernel
theorem dL_law_625 : decode cL_law 625 = .ok (.i2l, 1) := by decide +kernel
theorem dL_law_626 : decode cL_law 626 = .ok (.lcmp, 1) := by decide +kernel
theorem dL_law_627 : decode cL_law 627 = .ok (.ifCond .eq 5, 3) := by decide +kernel
theorem dL_law_630 : decode cL_law 630 = .ok (.iconst 0, 1) := by decide +kernel
theorem dL_law_631 : decode cL_law 631 = .ok (.ireturn, 1) := by decide +kernel
theorem dL_law_632 : decode cL_law 632 = .ok (.goto 363, 3) := by decide +kernel
theorem dL_law_635 : decode cL_law 635 = .ok (.aload_n 1, 1) := by decide +kernel
theorem dL_law_636 : decode cL_law 636 = .ok (.aload_n 0, 1) := by decide +kernel
theorem dL_law_637 : decode cL_law 637 = .ok (.iload 4, 2) := by decide +kernel
theorem dL_law_639 : decode cL_law 639 = .ok (.iconst 1, 1) := by decide +kernel
theorem dL_law_640 : decode cL_law 640 = .ok (.iadd, 1) := by decide +kernel
theorem dL_law_641 : decode cL_law 641 = .ok (.iaload, 1) := by decide +kernel
theorem dL_law_642 : decode cL_law 642 = .ok (.aload_n 0, 1) := by decide +kernel
theorem dL_law_643 : decode cL_law 643 = .ok (.iload 4, 2) := by decide +kernel
theorem dL_law_645 : decode cL_law 645 = .ok (.iconst 2, 1) := by decide +kernel
theorem dL_law_646 : decode cL_law 646 = .ok (.iadd, 1) := by decide +kernel
theorem dL_law_647 : decode cL_law 647 = .ok (.iaload, 1) := by decide +kernel
theorem dL_law_648 : decode cL_law 648 = .ok (.invokevirtual 86, 3) := by decide +kernel
theorem dL_law_651 : decode cL_law 651 = .ok (.aload_n 2, 1) := by decide +kernel
theorem dL_law_652 : decode cL_law 652 = .ok (.aload_n 0, 1) := by decide +kernel
theorem dL_law_653 : decode cL_law 653 = .ok (.iload 4, 2) := by decide +kernel
theorem dL_law_655 : decode cL_law 655 = .ok (.iconst 1, 1) := by decide +kernel
theorem dL_law_656 : decode cL_law 656 = .ok (.iadd, 1) := by decide +kernel
theorem dL_law_657 : decode cL_law 657 = .ok (.iaload, 1) := by decide +kernel
theorem dL_law_658 : decode cL_law 658 = .ok (.aload_n 0, 1) := by decide +kernel
theorem dL_law_659 : decode cL_law 659 = .ok (.iload 4, 2) := by decide +kernel
theorem dL_law_661 : decode cL_law 661 = .ok (.iconst 2, 1) := by decide +kernel
theorem dL_law_662 : decode cL_law 662 = .ok (.iadd, 1) := by decide +kernel
theorem dL_law_663 : decode cL_law 663 = .ok (.iaload, 1) := by decide +kernel
theorem dL_law_664 : decode cL_law 664 = .ok (.invokevirtual 89, 3) := by decide +kernel
theorem dL_law_667 : decode cL_law 667 = .ok (.if_icmp .eq 328, 3) := by decide +kernel
theorem dL_law_670 : decode cL_law 670 = .ok (.iconst 0, 1) := by decide +kernel
theorem dL_law_671 : decode cL_law 671 = .ok (.ireturn, 1) := by decide +kernel
theorem dL_law_672 : decode cL_law 672 = .ok (.aload_n 1, 1) := by decide +kernel
theorem dL_law_673 : decode cL_law 673 = .ok (.aload_n 0, 1) := by decide +kernel
theorem dL_law_674 : decode cL_law 674 = .ok (.iload 4, 2) := by decide +kernel
theorem dL_law_676 : decode cL_law 676 = .ok (.iconst 1, 1) := by decide +kernel
theorem dL_law_677 : decode cL_law 677 = .ok (.iadd, 1) := by decide +kernel
theorem dL_law_678 : decode cL_law 678 = .ok (.iaload, 1) := by decide +kernel
theorem dL_law_679 : decode cL_law 679 = .ok (.aload_n 0, 1) := by decide +kernel
theorem dL_law_680 : decode cL_law 680 = .ok (.iload 4, 2) := by decide +kernel
theorem dL_law_682 : decode cL_law 682 = .ok (.iconst 2, 1) := by decide +kernel
theorem dL_law_683 : decode cL_law 683 = .ok (.iadd, 1) := by decide +kernel
theorem dL_law_684 : decode cL_law 684 = .ok (.iaload, 1) := by decide +kernel
theorem dL_law_685 : decode cL_law 685 = .ok (.aload_n 3, 1) := by decide +kernel
theorem dL_law_686 : decode cL_law 686 = .ok (.invokestatic 90, 3) := by decide +kernel
theorem dL_law_689 : decode cL_law 689 = .ok (.istore 5, 2) := by decide +kernel
theorem dL_law_691 : decode cL_law 691 = .ok (.aload_n 2, 1) := by decide +kernel
theorem dL_law_692 : decode cL_law 692 = .ok (.aload_n 0, 1) := by decide +kernel
theorem dL_law_693 : decode cL_law 693 = .ok (.iload 4, 2) := by decide +kernel
theorem dL_law_695 : decode cL_law 695 = .ok (.iconst 1, 1) := by decide +kernel
theorem dL_law_696 : decode cL_law 696 = .ok (.iadd, 1) := by decide +kernel
theorem dL_law_697 : decode cL_law 697 = .ok (.iaload, 1) := by decide +kernel
theorem dL_law_698 : decode cL_law 698 = .ok (.aload_n 0, 1) := by decide +kernel
theorem dL_law_699 : decode cL_law 699 = .ok (.iload 4, 2) := by decide +kernel
theorem dL_law_701 : decode cL_law 701 = .ok (.iconst 2, 1) := by decide +kernel
theorem dL_law_702 : decode cL_law 702 = .ok (.iadd, 1) := by decide +kernel
theorem dL_law_703 : decode cL_law 703 = .ok (.iaload, 1) := by decide +kernel
theorem dL_law_704 : decode cL_law 704 = .ok (.invokevirtual 92, 3) := by decide +kernel
theorem dL_law_707 : decode cL_law 707 = .ok (.istore 6, 2) := by decide +kernel
theorem dL_law_709 : decode cL_law 709 = .ok (.aload_n 2, 1) := by decide +kernel
theorem dL_law_710 : decode cL_law 710 = .ok (.invokevirtual 52, 3) := by decide +kernel
theorem dL_law_713 : decode cL_law 713 = .ok (.iload 5, 2) := by decide +kernel
theorem dL_law_715 : decode cL_law 715 = .ok (.if_icmp .eq 5, 3) := by decide +kernel
theorem dL_law_718 : decode cL_law 718 = .ok (.iconst 0, 1) := by decide +kernel
theorem dL_law_719 : decode cL_law 719 = .ok (.ireturn, 1) := by decide +kernel
theorem dL_law_720 : decode cL_law 720 = .ok (.iload 5, 2) := by decide +kernel
theorem dL_law_722 : decode cL_law 722 = .ok (.ifCond .ne 22, 3) := by decide +kernel
theorem dL_law_725 : decode cL_law 725 = .ok (.aload_n 3, 1) := by decide +kernel
theorem dL_law_726 : decode cL_law 726 = .ok (.iconst 0, 1) := by decide +kernel
theorem dL_law_727 : decode cL_law 727 = .ok (.laload, 1) := by decide +kernel
theorem dL_law_728 : decode cL_law 728 = .ok (.iload 6, 2) := by decide +kernel
theorem dL_law_730 : decode cL_law 730 = .ok (.ifCond .eq 7, 3) := by decide +kernel
theorem dL_law_733 : decode cL_law 733 = .ok (.lconst 1, 1) := by decide +kernel
theorem dL_law_734 : decode cL_law 734 = .ok (.goto 4, 3) := by decide +kernel
theorem dL_law_737 : decode cL_law 737 = .ok (.lconst 0, 1) := by decide +kernel
theorem dL_law_738 : decode cL_law 738 = .ok (.lcmp, 1) := by decide +kernel
theorem dL_law_739 : decode cL_law 739 = .ok (.ifCond .eq 5, 3) := by decide +kernel
theorem dL_law_742 : decode cL_law 742 = .ok (.iconst 0, 1) := by decide +kernel
theorem dL_law_743 : decode cL_law 743 = .ok (.ireturn, 1) := by decide +kernel
theorem dL_law_744 : decode cL_law 744 = .ok (.goto 251, 3) := by decide +kernel
theorem dL_law_747 : decode cL_law 747 = .ok (.aload_n 1, 1) := by decide +kernel
theorem dL_law_748 : decode cL_law 748 = .ok (.aload_n 0, 1) := by decide +kernel
theorem dL_law_749 : decode cL_law 749 = .ok (.iload 4, 2) := by decide +kernel
theorem dL_law_751 : decode cL_law 751 = .ok (.iconst 1, 1) := by decide +kernel
theorem dL_law_752 : decode cL_law 752 = .ok (.iadd, 1) := by decide +kernel
theorem dL_law_753 : decode cL_law 753 = .ok (.iaload, 1) := by decide +kernel
theorem dL_law_754 : decode cL_law 754 = .ok (.aload_n 0, 1) := by decide +kernel
theorem dL_law_755 : decode cL_law 755 = .ok (.iload 4, 2) := by decide +kernel
theorem dL_law_757 : decode cL_law 757 = .ok (.iconst 2, 1) := by decide +kernel
theorem dL_law_758 : decode cL_law 758 = .ok (.iadd, 1) := by decide +kernel
theorem dL_law_759 : decode cL_law 759 = .ok (.iaload, 1) := by decide +kernel
theorem dL_law_760 : decode cL_law 760 = .ok (.invokevirtual 93, 3) := by decide +kernel
theorem dL_law_763 : decode cL_law 763 = .ok (.aload_n 2, 1) := by decide +kernel
theorem dL_law_764 : decode cL_law 764 = .ok (.aload_n 0, 1) := by decide +kernel
theorem dL_law_765 : decode cL_law 765 = .ok (.iload 4, 2) := by decide +kernel
theorem dL_law_767 : decode cL_law 767 = .ok (.iconst 1, 1) := by decide +kernel
theorem dL_law_768 : decode cL_law 768 = .ok (.iadd, 1) := by decide +kernel
theorem dL_law_769 : decode cL_law 769 = .ok (.iaload, 1) := by decide +kernel
theorem dL_law_770 : decode cL_law 770 = .ok (.aload_n 0, 1) := by decide +kernel
theorem dL_law_771 : decode cL_law 771 = .ok (.iload 4, 2) := by decide +kernel
theorem dL_law_773 : decode cL_law 773 = .ok (.iconst 2, 1) := by decide +kernel
theorem dL_law_774 : decode cL_law 774 = .ok (.iadd, 1) := by decide +kernel
theorem dL_law_775 : decode cL_law 775 = .ok (.iaload, 1) := by decide +kernel
theorem dL_law_776 : decode cL_law 776 = .ok (.invokevirtual 96, 3) := by decide +kernel
theorem dL_law_779 : decode cL_law 779 = .ok (.if_icmp .eq 216, 3) := by decide +kernel
theorem dL_law_782 : decode cL_law 782 = .ok (.iconst 0, 1) := by decide +kernel
theorem dL_law_783 : decode cL_law 783 = .ok (.ireturn, 1) := by decide +kernel
theorem dL_law_784 : decode cL_law 784 = .ok (.aload_n 1, 1) := by decide +kernel
theorem dL_law_785 : decode cL_law 785 = .ok (.aload_n 0, 1) := by decide +kernel
theorem dL_law_786 : decode cL_law 786 = .ok (.iload 4, 2) := by decide +kernel
theorem dL_law_788 : decode cL_law 788 = .ok (.iconst 1, 1) := by decide +kernel
theorem dL_law_789 : decode cL_law 789 = .ok (.iadd, 1) := by decide +kernel
theorem dL_law_790 : decode cL_law 790 = .ok (.iaload, 1) := by decide +kernel
theorem dL_law_791 : decode cL_law 791 = .ok (.aload_n 0, 1) := by decide +kernel
theorem dL_law_792 : decode cL_law 792 = .ok (.iload 4, 2) := by decide +kernel
theorem dL_law_794 : decode cL_law 794 = .ok (.iconst 2, 1) := by decide +kernel
theorem dL_law_795 : decode cL_law 795 = .ok (.iadd, 1) := by decide +kernel
theorem dL_law_796 : decode cL_law 796 = .ok (.iaload, 1) := by decide +kernel
theorem dL_law_797 : decode cL_law 797 = .ok (.aload_n 0, 1) := by decide +kernel
theorem dL_law_798 : decode cL_law 798 = .ok (.iload 4, 2) := by decide +kernel
theorem dL_law_800 : decode cL_law 800 = .ok (.iconst 3, 1) := by decide +kernel
theorem dL_law_801 : decode cL_law 801 = .ok (.iadd, 1) := by decide +kernel
theorem dL_law_802 : decode cL_law 802 = .ok (.iaload, 1) := by decide +kernel
theorem dL_law_803 : decode cL_law 803 = .ok (.invokevirtual 97, 3) := by decide +kernel
theorem dL_law_806 : decode cL_law 806 = .ok (.aload_n 2, 1) := by decide +kernel
theorem dL_law_807 : decode cL_law 807 = .ok (.aload_n 0, 1) := by decide +kernel
theorem dL_law_808 : decode cL_law 808 = .ok (.iload 4, 2) := by decide +kernel
theorem dL_law_810 : decode cL_law 810 = .ok (.iconst 1, 1) := by decide +kernel
theorem dL_law_811 : decode cL_law 811 = .ok (.iadd, 1) := by decide +kernel
theorem dL_law_812 : decode cL_law 812 = .ok (.iaload, 1) := by decide +kernel
theorem dL_law_813 : decode cL_law 813 = .ok (.aload_n 0, 1) := by decide +kernel
theorem dL_law_814 : decode cL_law 814 = .ok (.iload 4, 2) := by decide +kernel
theorem dL_law_816 : decode cL_law 816 = .ok (.iconst 2, 1) := by decide +kernel
theorem dL_law_817 : decode cL_law 817 = .ok (.iadd, 1) := by decide +kernel
theorem dL_law_818 : decode cL_law 818 = .ok (.iaload, 1) := by decide +kernel
theorem dL_law_819 : decode cL_law 819 = .ok (.aload_n 0, 1) := by decide +kernel
theorem dL_law_820 : decode cL_law 820 = .ok (.iload 4, 2) := by decide +kernel
theorem dL_law_822 : decode cL_law 822 = .ok (.iconst 3, 1) := by decide +kernel
theorem dL_law_823 : decode cL_law 823 = .ok (.iadd, 1) := by decide +kernel
theorem dL_law_824 : decode cL_law 824 = .ok (.iaload, 1) := by decide +kernel
theorem dL_law_825 : decode cL_law 825 = .ok (.invokevirtual 101, 3) := by decide +kernel
theorem dL_law_828 : decode cL_law 828 = .ok (.if_icmp .eq 167, 3) := by decide +kernel
theorem dL_law_831 : decode cL_law 831 = .ok (.iconst 0, 1) := by decide +kernel
theorem dL_law_832 : decode cL_law 832 = .ok (.ireturn, 1) := by decide +kernel
theorem dL_law_833 : decode cL_law 833 = .ok (.aload_n 1, 1) := by decide +kernel
theorem dL_law_834 : decode cL_law 834 = .ok (.aload_n 0, 1) := by decide +kernel
theorem dL_law_835 : decode cL_law 835 = .ok (.iload 4, 2) := by decide +kernel
theorem dL_law_837 : decode cL_law 837 = .ok (.iconst 1, 1) := by decide +kernel
theorem dL_law_838 : decode cL_law 838 = .ok (.iadd, 1) := by decide +kernel
theorem dL_law_839 : decode cL_law 839 = .ok (.iaload, 1) := by decide +kernel
theorem dL_law_840 : decode cL_law 840 = .ok (.invokevirtual 102, 3) := by decide +kernel
theorem dL_law_843 : decode cL_law 843 = .ok (.aload_n 2, 1) := by decide +kernel
theorem dL_law_844 : decode cL_law 844 = .ok (.aload_n 0, 1) := by decide +kernel
theorem dL_law_845 : decode cL_law 845 = .ok (.iload 4, 2) := by decide +kernel
theorem dL_law_847 : decode cL_law 847 = .ok (.iconst 1, 1) := by decide +kernel
theorem dL_law_848 : decode cL_law 848 = .ok (.iadd, 1) := by decide +kernel
theorem dL_law_849 : decode cL_law 849 = .ok (.iaload, 1) := by decide +kernel
theorem dL_law_850 : decode cL_law 850 = .ok (.invokevirtual 106, 3) := by decide +kernel
theorem dL_law_853 : decode cL_law 853 = .ok (.if_icmp .eq 142, 3) := by decide +kernel
theorem dL_law_856 : decode cL_law 856 = .ok (.iconst 0, 1) := by decide +kernel
theorem dL_law_857 : decode cL_law 857 = .ok (.ireturn, 1) := by decide +kernel
theorem dL_law_858 : decode cL_law 858 = .ok (.aload_n 1, 1) := by decide +kernel
theorem dL_law_859 : decode cL_law 859 = .ok (.aload_n 0, 1) := by decide +kernel
theorem dL_law_860 : decode cL_law 860 = .ok (.iload 4, 2) := by decide +kernel
theorem dL_law_862 : decode cL_law 862 = .ok (.iconst 1, 1) := by decide +kernel
theorem dL_law_863 : decode cL_law 863 = .ok (.iadd, 1) := by decide +kernel
theorem dL_law_864 : decode cL_law 864 = .ok (.iaload, 1) := by decide +kernel
theorem dL_law_865 : decode cL_law 865 = .ok (.aload_n 0, 1) := by decide +kernel
theorem dL_law_866 : decode cL_law 866 = .ok (.iload 4, 2) := by decide +kernel
theorem dL_law_868 : decode cL_law 868 = .ok (.iconst 2, 1) := by decide +kernel
theorem dL_law_869 : decode cL_law 869 = .ok (.iadd, 1) := by decide +kernel
theorem dL_law_870 : decode cL_law 870 = .ok (.iaload, 1) := by decide +kernel
theorem dL_law_871 : decode cL_law 871 = .ok (.aload_n 3, 1) := by decide +kernel
theorem dL_law_872 : decode cL_law 872 = .ok (.invokestatic 107, 3) := by decide +kernel
theorem dL_law_875 : decode cL_law 875 = .ok (.istore 5, 2) := by decide +kernel
theorem dL_law_877 : decode cL_law 877 = .ok (.aload_n 2, 1) := by decide +kernel
theorem dL_law_878 : decode cL_law 878 = .ok (.aload_n 0, 1) := by decide +kernel
theorem dL_law_879 : decode cL_law 879 = .ok (.iload 4, 2) := by decide +kernel
theorem dL_law_881 : decode cL_law 881 = .ok (.iconst 1, 1) := by decide +kernel
theorem dL_law_882 : decode cL_law 882 = .ok (.iadd, 1) := by decide +kernel
theorem dL_law_883 : decode cL_law 883 = .ok (.iaload, 1) := by decide +kernel
theorem dL_law_884 : decode cL_law 884 = .ok (.aload_n 0, 1) := by decide +kernel
theorem dL_law_885 : decode cL_law 885 = .ok (.iload 4, 2) := by decide +kernel
theorem dL_law_887 : decode cL_law 887 = .ok (.iconst 2, 1) := by decide +kernel
theorem dL_law_888 : decode cL_law 888 = .ok (.iadd, 1) := by decide +kernel
theorem dL_law_889 : decode cL_law 889 = .ok (.iaload, 1) := by decide +kernel
theorem dL_law_890 : decode cL_law 890 = .ok (.invokevirtual 109, 3) := by decide +kernel
theorem dL_law_893 : decode cL_law 893 = .ok (.istore 6, 2) := by decide +kernel
theorem dL_law_895 : decode cL_law 895 = .ok (.aload_n 2, 1) := by decide +kernel
theorem dL_law_896 : decode cL_law 896 = .ok (.invokevirtual 52, 3) := by decide +kernel
theorem dL_law_899 : decode cL_law 899 = .ok (.iload 5, 2) := by decide +kernel
theorem dL_law_901 : decode cL_law 901 = .ok (.if_icmp .eq 5, 3) := by decide +kernel
theorem dL_law_904 : decode cL_law 904 = .ok (.iconst 0, 1) := by decide +kernel
theorem dL_law_905 : decode cL_law 905 = .ok (.ireturn, 1) := by decide +kernel
theorem dL_law_906 : decode cL_law 906 = .ok (.iload 5, 2) := by decide +kernel
theorem dL_law_908 : decode cL_law 908 = .ok (.ifCond .ne 22, 3) := by decide +kernel
theorem dL_law_911 : decode cL_law 911 = .ok (.aload_n 3, 1) := by decide +kernel
theorem dL_law_912 : decode cL_law 912 = .ok (.iconst 0, 1) := by decide +kernel
theorem dL_law_913 : decode cL_law 913 = .ok (.laload, 1) := by decide +kernel
theorem dL_law_914 : decode cL_law 914 = .ok (.iload 6, 2) := by decide +kernel
theorem dL_law_916 : decode cL_law 916 = .ok (.ifCond .eq 7, 3) := by decide +kernel
theorem dL_law_919 : decode cL_law 919 = .ok (.lconst 1, 1) := by decide +kernel
theorem dL_law_920 : decode cL_law 920 = .ok (.goto 4, 3) := by decide +kernel
theorem dL_law_923 : decode cL_law 923 = .ok (.lconst 0, 1) := by decide +kernel
theorem dL_law_924 : decode cL_law 924 = .ok (.lcmp, 1) := by decide +kernel
theorem dL_law_925 : decode cL_law 925 = .ok (.ifCond .eq 5, 3) := by decide +kernel
theorem dL_law_928 : decode cL_law 928 = .ok (.iconst 0, 1) := by decide +kernel
theorem dL_law_929 : decode cL_law 929 = .ok (.ireturn, 1) := by decide +kernel
theorem dL_law_930 : decode cL_law 930 = .ok (.goto 65, 3) := by decide +kernel
theorem dL_law_933 : decode cL_law 933 = .ok (.aload_n 1, 1) := by decide +kernel
theorem dL_law_934 : decode cL_law 934 = .ok (.aload_n 0, 1) := by decide +kernel
theorem dL_law_935 : decode cL_law 935 = .ok (.iload 4, 2) := by decide +kernel
theorem dL_law_937 : decode cL_law 937 = .ok (.iconst 1, 1) := by decide +kernel
theorem dL_law_938 : decode cL_law 938 = .ok (.iadd, 1) := by decide +kernel
theorem dL_law_939 : decode cL_law 939 = .ok (.iaload, 1) := by decide +kernel
theorem dL_law_940 : decode cL_law 940 = .ok (.aload_n 0, 1) := by decide +kernel
theorem dL_law_941 : decode cL_law 941 = .ok (.iload 4, 2) := by decide +kernel
theorem dL_law_943 : decode cL_law 943 = .ok (.iconst 2, 1) := by decide +kernel
theorem dL_law_944 : decode cL_law 944 = .ok (.iadd, 1) := by decide +kernel
theorem dL_law_945 : decode cL_law 945 = .ok (.iaload, 1) := by decide +kernel
theorem dL_law_946 : decode cL_law 946 = .ok (.invokevirtual 110, 3) := by decide +kernel
theorem dL_law_949 : decode cL_law 949 = .ok (.aload_n 2, 1) := by decide +kernel
theorem dL_law_950 : decode cL_law 950 = .ok (.aload_n 0, 1) := by decide +kernel
theorem dL_law_951 : decode cL_law 951 = .ok (.iload 4, 2) := by decide +kernel
theorem dL_law_953 : decode cL_law 953 = .ok (.iconst 1, 1) := by decide +kernel
theorem dL_law_954 : decode cL_law 954 = .ok (.iadd, 1) := by decide +kernel
theorem dL_law_955 : decode cL_law 955 = .ok (.iaload, 1) := by decide +kernel
theorem dL_law_956 : decode cL_law 956 = .ok (.aload_n 0, 1) := by decide +kernel
theorem dL_law_957 : decode cL_law 957 = .ok (.iload 4, 2) := by decide +kernel
theorem dL_law_959 : decode cL_law 959 = .ok (.iconst 2, 1) := by decide +kernel
theorem dL_law_960 : decode cL_law 960 = .ok (.iadd, 1) := by decide +kernel
theorem dL_law_961 : decode cL_law 961 = .ok (.iaload, 1) := by decide +kernel
theorem dL_law_962 : decode cL_law 962 = .ok (.invokevirtual 113, 3) := by decide +kernel
theorem dL_law_965 : decode cL_law 965 = .ok (.if_icmp .eq 30, 3) := by decide +kernel
theorem dL_law_968 : decode cL_law 968 = .ok (.iconst 0, 1) := by decide +kernel
theorem dL_law_969 : decode cL_law 969 = .ok (.ireturn, 1) := by decide +kernel
theorem dL_law_970 : decode cL_law 970 = .ok (.aload_n 1, 1) := by decide +kernel
theorem dL_law_971 : decode cL_law 971 = .ok (.aload_n 0, 1) := by decide +kernel
theorem dL_law_972 : decode cL_law 972 = .ok (.iload 4, 2) := by decide +kernel
theorem dL_law_974 : decode cL_law 974 = .ok (.iconst 1, 1) := by decide +kernel
theorem dL_law_975 : decode cL_law 975 = .ok (.iadd, 1) := by decide +kernel
theorem dL_law_976 : decode cL_law 976 = .ok (.iaload, 1) := by decide +kernel
theorem dL_law_977 : decode cL_law 977 = .ok (.invokevirtual 114, 3) := by decide +kernel
theorem dL_law_980 : decode cL_law 980 = .ok (.aload_n 2, 1) := by decide +kernel
theorem dL_law_981 : decode cL_law 981 = .ok (.aload_n 0, 1) := by decide +kernel
theorem dL_law_982 : decode cL_law 982 = .ok (.iload 4, 2) := by decide +kernel
theorem dL_law_984 : decode cL_law 984 = .ok (.iconst 1, 1) := by decide +kernel
theorem dL_law_985 : decode cL_law 985 = .ok (.iadd, 1) := by decide +kernel
theorem dL_law_986 : decode cL_law 986 = .ok (.iaload, 1) := by decide +kernel
theorem dL_law_987 : decode cL_law 987 = .ok (.invokevirtual 117, 3) := by decide +kernel
theorem dL_law_990 : decode cL_law 990 = .ok (.if_icmp .eq 5, 3) := by decide +kernel
theorem dL_law_993 : decode cL_law 993 = .ok (.iconst 0, 1) := by decide +kernel
theorem dL_law_994 : decode cL_law 994 = .ok (.ireturn, 1) := by decide +kernel
theorem dL_law_995 : decode cL_law 995 = .ok (.iinc 4 6, 3) := by decide +kernel
theorem dL_law_998 : decode cL_law 998 = .ok (.goto (-975), 3) := by decide +kernel
theorem dL_law_1001 : decode cL_law 1001 = .ok (.iconst 1, 1) := by decide +kernel
theorem dL_law_1002 : decode cL_law 1002 = .ok (.ireturn, 1) := by decide +kernel
end
section
/-! The layer: ints as Int, one world of cells for the class and the reference, a judgement V over abstract locals and stack. -/
abbrev inR (x : Int) : Prop := -2147483648 ≤ x ∧ x ≤ 2147483647
abbrev i32 (x : Int) : Int32 := Int32.ofInt x
theorem i32_toInt {x : Int} (h : inR x) : (i32 x).toInt = x := Int32.toInt_ofInt_of_le (by have := h.1; omega) (by have := h.2; omega)
theorem i32_lt {x y : Int} (hx : inR x) (hy : inR y) : i32 x < i32 y ↔ x < y := by rw [Int32.lt_iff_toInt_lt, i32_toInt hx, i32_toInt hy]
theorem i32_le {x y : Int} (hx : inR x) (hy : inR y) : i32 x ≤ i32 y ↔ x ≤ y := by rw [Int32.le_iff_toInt_le, i32_toInt hx, i32_toInt hy]
theorem i32_eq {x y : Int} (hx : inR x) (hy : inR y) : i32 x = i32 y ↔ x = y := by rw [← Int32.toInt_inj, i32_toInt hx, i32_toInt hy]
theorem i32_clamp {x : Int} (h : inR x) : (i32 x).toNatClampNeg = x.toNat := by
  show (i32 x).toInt.toNat = _
  rw [i32_toInt h]
theorem i32_of (x : Int32) : i32 x.toInt = x := Int32.ofInt_toInt x
theorem inR_of (x : Int32) : inR x.toInt := ⟨by have := x.le_toInt; omega, by have := x.toInt_lt; omega⟩
theorem inR0 : inR 0 := ⟨by decide, by decide⟩
theorem i32_zero : i32 0 = 0 := rfl
/-- a bitwise and of two ints -/
def andI (x y : Int) : Int := (i32 x &&& i32 y).toInt
theorem andI_R (x y : Int) : inR (andI x y) := inR_of _
abbrev MU : Type := Nat → Nat → Int
abbrev AV : Type := Int ⊕ (Nat × Nat) ⊕ Int ⊕ Nat
abbrev aI (x : Int) : AV := .inl x
abbrev aR (c i : Nat) : AV := .inr (.inl (c, i))
abbrev aL (x : Int) : AV := .inr (.inr (.inl x))
/-- a reference to a cell that is none of ours -/
abbrev aX (a : Nat) : AV := .inr (.inr (.inr a))
def upM (μ : MU) (f j : Nat) (v : Int) : MU := fun g k => if g = f ∧ k = j then v else μ g k
theorem upM_at (μ : MU) (f j : Nat) (v : Int) : upM μ f j v f j = v := if_pos ⟨rfl, rfl⟩
theorem upM_ne {μ : MU} {f j g k : Nat} {v : Int} (h : ¬ (g = f ∧ k = j)) : upM μ f j v g k = μ g k := if_neg h
theorem upM_nef {μ : MU} {f j g k : Nat} {v : Int} (h : g ≠ f) : upM μ f j v g k = μ g k := if_neg (fun q => h q.1)
/-- what a place of a cell holds: a reference to a cell (and where its flag lies: 0 while it is null), an int, a long -/
abbrev FD : Type := (Nat × Nat × Nat × Nat) ⊕ (Nat × Nat) ⊕ (Nat × Nat)
abbrev fR (c i f j : Nat) : FD := .inl (c, i, f, j)
abbrev fI (f j : Nat) : FD := .inr (.inl (f, j))
abbrev fL (f j : Nat) : FD := .inr (.inr (f, j))
/-- where a cell lies, from the base -/
def off : Nat → Nat → Nat
  | 0, _ => 0
  | 1, _ => 1
  | 2, i => 2 + 8 * i
  | 3, i => 3 + 8 * i
  | 4, i => 4 + 8 * (i / 3) + 2 * (i % 3)
  | 5, i => 5 + 8 * (i / 3) + 2 * (i % 3)
  | 6, _ => 50
  | 7, i => 51 + 3 * i
  | 8, i => 52 + 3 * i
  | 9, i => 53 + 3 * i
  | 10, _ => 111
  | 11, _ => 112
  | c, _ => 101 + c
/-- how many cells of a kind there are -/
def vdn : Nat → Nat
  | 0 => 1 | 1 => 1 | 2 => 6 | 3 => 6 | 4 => 18 | 5 => 18 | 6 => 1 | 7 => 20 | 8 => 20 | 9 => 20 | 10 => 1 | 11 => 1
  | 12 => 1 | 13 => 1 | 14 => 1 | 15 => 1 | 16 => 1 | 17 => 1 | 18 => 1 | 19 => 1 | 20 => 1 | 21 => 1 | 22 => 1 | 23 => 1 | 24 => 1 | 25 => 1 | 26 => 1 | 27 => 1 | 28 => 1 | 29 => 1
  | _ => 0
abbrev lay (b c i : Nat) : Nat := b + off c i
def mlen : Nat → Nat
  | 13 => 6 | 14 => 18 | 15 => 54 | 16 => 20 | 17 => 20 | 18 => 20 | 19 => 80 | 20 => 120 | _ => 20
/-- a cell: an object (its class's place, its fields), or an array (its class's place among the array classes, its length, its places) -/
def cellD : Nat → Nat → (Nat × List FD) ⊕ (Nat × Nat × (Nat → FD))
  | 0, _ => .inl (ciO, [fR 1 0 100 0, fR 6 0 101 0, fI 0 0, fI 1 0, fI 2 0, fR 10 0 102 0, fI 3 0, fR 11 0 103 0])
  | 1, _ => .inr (3, 6, fun j => fR 2 j 108 j)
  | 2, i => .inl (ciS, [fR 3 i 104 i, fI 6 i])
  | 3, i => .inr (4, 3, fun j => fR 4 (3 * i + j) 109 (3 * i + j))
  | 4, i => .inl (ciK, [fR 5 i 105 i, fI 8 i, fI 9 i])
  | 5, i => .inr (0, 3, fun j => fI 7 (3 * i + j))
  | 6, _ => .inr (5, 20, fun j => fR 7 j 110 j)
  | 7, i => .inl (ciP, [fR 8 i 106 i, fI 11 i, fR 9 i 107 i, fI 13 i, fI 14 i, fI 15 i, fI 16 i, fI 17 i, fI 18 i, fI 19 i])
  | 8, i => .inr (0, 4, fun j => fI 10 (4 * i + j))
  | 9, i => .inr (0, 6, fun j => fI 12 (6 * i + j))
  | 10, _ => .inr (0, 20, fun j => fI 4 j)
  | 11, _ => .inr (0, 20, fun j => fI 5 j)
  | 12, _ => .inl (ciM, [fI 20 0, fI 21 0, fI 22 0, fR 13 0 111 0, fR 14 0 112 0, fR 15 0 113 0, fI 23 0, fR 16 0 114 0, fR 17 0 115 0, fR 18 0 116 0, fR 19 0 117 0, fR 20 0 118 0, fR 21 0 119 0, fR 22 0 120 0, fR 23 0 121 0, fR 24 0 122 0, fR 25 0 123 0, fR 26 0 124 0, fR 27 0 125 0, fR 28 0 126 0])
  | 17, _ => .inr (1, 20, fun j => fI 28 j)
  | 25, _ => .inr (1, 20, fun j => fI 36 j)
  | 27, _ => .inr (1, 20, fun j => fI 38 j)
  | 29, _ => .inr (2, 1, fun j => fL 40 j)
  | c, _ => .inr (0, mlen c, fun j => fI (11 + c) j)
def fdLoc : FD → Nat × Nat
  | .inl (_, _, f, j) => (f, j)
  | .inr (.inl (f, j)) => (f, j)
  | .inr (.inr (f, j)) => (f, j)
def plc (c i k : Nat) : Option FD := match cellD c i with
  | .inl (_, fds) => fds[k]?
  | .inr (_, n, el) => if k < n then some (el k) else none
def vOf (b : Nat) (μ : MU) : FD → Value
  | .inl (c, i, f, j) => if μ f j = 0 then .null else .ref (lay b c i)
  | .inr (.inl (f, j)) => .int (i32 (μ f j))
  | .inr (.inr (f, j)) => .long (Int64.ofInt (μ f j))
theorem vOf_up {b : Nat} {μ : MU} {f j : Nat} {v : Int} {d : FD} (h : fdLoc d ≠ (f, j)) : vOf b (upM μ f j v) d = vOf b μ d := by
  obtain ⟨c, i, g, k⟩ | ⟨g, k⟩ | ⟨g, k⟩ := d
  all_goals
    have h1 : ¬ (g = f ∧ k = j) := fun q => h (by rw [q.1, q.2]; rfl)
    simp only [vOf, upM_ne h1]
/-- whose place it is -/
def own3 : Nat → Nat → Nat × Nat × Nat
  | 0, _ => (0, 0, 2) | 1, _ => (0, 0, 3) | 2, _ => (0, 0, 4) | 3, _ => (0, 0, 6)
  | 4, j => (10, 0, j) | 5, j => (11, 0, j)
  | 6, j => (2, j, 1) | 7, j => (5, j / 3, j % 3) | 8, j => (4, j, 1) | 9, j => (4, j, 2)
  | 10, j => (8, j / 4, j % 4) | 11, j => (7, j, 1) | 12, j => (9, j / 6, j % 6)
  | 13, j => (7, j, 3) | 14, j => (7, j, 4) | 15, j => (7, j, 5) | 16, j => (7, j, 6) | 17, j => (7, j, 7) | 18, j => (7, j, 8) | 19, j => (7, j, 9)
  | 20, _ => (12, 0, 0) | 21, _ => (12, 0, 1) | 22, _ => (12, 0, 2) | 23, _ => (12, 0, 6)
  | 100, _ => (0, 0, 0) | 101, _ => (0, 0, 1) | 102, _ => (0, 0, 5) | 103, _ => (0, 0, 7)
  | 104, j => (2, j, 0) | 105, j => (4, j, 0) | 106, j => (7, j, 0) | 107, j => (7, j, 2)
  | 108, j => (1, 0, j) | 109, j => (3, j / 3, j % 3) | 110, j => (6, 0, j)
  | 111, _ => (12, 0, 3) | 112, _ => (12, 0, 4) | 113, _ => (12, 0, 5)
  | 40, j => (29, 0, j)
  | f, j => if f < 100 then (f - 11, 0, j) else (12, 0, f - 107)
def lenD (c i : Nat) : Nat := match cellD c i with
  | .inl (_, fds) => fds.length
  | .inr (_, n, _) => n
theorem vdn_lt {c i : Nat} (h : i < vdn c) : c < 30 := by
  unfold vdn at h
  split at h <;> omega
set_option maxRecDepth 100000 in
theorem own3_all : ((List.range 30).all fun c => (List.range (vdn c)).all fun i => (List.range (lenD c i)).all fun k => decide ((plc c i k).map (fun d => own3 (fdLoc d).1 (fdLoc d).2) = some (c, i, k))) = true := by decide +kernel
theorem own3_tab {c i k : Nat} (hc : c < 30) (hi : i < vdn c) (hk : k < lenD c i) : (plc c i k).map (fun d => own3 (fdLoc d).1 (fdLoc d).2) = some (c, i, k) := by
  have h1 := List.all_eq_true.mp own3_all c (List.mem_range.mpr hc)
  have h2 := List.all_eq_true.mp h1 i (List.mem_range.mpr hi)
  have h3 := List.all_eq_true.mp h2 k (List.mem_range.mpr hk)
  exact of_decide_eq_true h3
theorem plc_lt {c i k : Nat} {d : FD} (h : plc c i k = some d) : k < lenD c i := by
  unfold plc at h
  unfold lenD
  cases he : cellD c i with
  | inl a =>
    rw [he] at h
    exact (List.getElem?_eq_some_iff.mp h).1
  | inr a =>
    rw [he] at h
    dsimp only at h ⊢
    by_cases hk : k < a.2.1
    · exact hk
    · rw [if_neg hk] at h; cases h
theorem own3_ok {c i k : Nat} {d : FD} (hi : i < vdn c) (h : plc c i k = some d) : own3 (fdLoc d).1 (fdLoc d).2 = (c, i, k) := by
  have h1 := own3_tab (vdn_lt hi) hi (plc_lt h)
  rw [h] at h1
  exact Option.some.inj h1
def offInv (o : Nat) : Nat × Nat :=
  if o = 0 then (0, 0) else if o = 1 then (1, 0) else
  if o < 50 then (if (o - 2) % 8 = 0 then (2, (o - 2) / 8) else if (o - 2) % 8 = 1 then (3, (o - 2) / 8) else (4 + (o - 2) % 2, 3 * ((o - 2) / 8) + ((o - 2) % 8 - 2) / 2)) else
  if o = 50 then (6, 0) else if o < 111 then (7 + (o - 51) % 3, (o - 51) / 3) else (o - 101, 0)
set_option maxRecDepth 100000 in
theorem off_all : ((List.range 30).all fun c => (List.range (vdn c)).all fun i => decide (offInv (off c i) = (c, i) ∧ off c i < 131)) = true := by decide +kernel
theorem off_tab (c : Nat) (hc : c < 30) (i : Nat) (hi : i < vdn c) : offInv (off c i) = (c, i) ∧ off c i < 131 := by
  have h1 := List.all_eq_true.mp off_all c (List.mem_range.mpr hc)
  have h2 := List.all_eq_true.mp h1 i (List.mem_range.mpr hi)
  exact of_decide_eq_true h2
theorem off_inj {c i c' i' : Nat} (h : i < vdn c) (h' : i' < vdn c') (e : off c i = off c' i') : c = c' ∧ i = i' := by
  have h1 := (off_tab c (vdn_lt h) i h).1
  have h2 := (off_tab c' (vdn_lt h') i' h').1
  rw [e] at h1
  have h3 := h1.symm.trans h2
  cases h3
  exact ⟨rfl, rfl⟩
theorem off_lt {c i : Nat} (h : i < vdn c) : off c i < 131 := (off_tab c (vdn_lt h) i h).2
theorem lg_sl_cat1 {vs : List Value} (h : ∀ v ∈ vs, v.category = 1) : lg_sl vs = vs.map Slot.val := by
  induction vs with
  | nil => rfl
  | cons v vs ih =>
    have hv := h v List.mem_cons_self
    have e : lg_sl (v :: vs) = (if v.category = 2 then [.val v, .second] else [.val v]) ++ lg_sl vs := rfl
    rw [e, if_neg (by omega), ih (fun w hw => h w (List.mem_cons_of_mem _ hw))]
    rfl
theorem lv_args_at' {vs : List Value} (h : ∀ v ∈ vs, v.category = 1) : ∀ (k i : Nat) (v : Value), vs[i]? = some v → (k + i, v) ∈ lv_args k vs := by
  induction vs with
  | nil => intro k i v hi; cases hi
  | cons w vs ih =>
    intro k i v hi
    have hw := h w List.mem_cons_self
    have e : lv_args k (w :: vs) = (k, w) :: lv_args (if w.category = 2 then k + 2 else k + 1) vs := rfl
    rw [e, if_neg (by omega)]
    cases i with
    | zero => cases hi; exact List.mem_cons_self
    | succ i =>
      have := ih (fun w hw => h w (List.mem_cons_of_mem _ hw)) (k + 1) i v hi
      rw [show k + (i + 1) = k + 1 + i by omega]
      exact List.mem_cons_of_mem _ this
theorem lv_args_at {vs : List Value} (h : ∀ v ∈ vs, v.category = 1) {i : Nat} {v : Value} (hi : vs[i]? = some v) : (i, v) ∈ lv_args 0 vs := by
  have := lv_args_at' h 0 i v hi
  rwa [Nat.zero_add] at this
end
section
/-! the words by name, made by a program of mine -/
theorem inX0 : ∀ w ∈ u_ws RX0 TX0 3, w ∈ wG := by decide +kernel
theorem inX1 : ∀ w ∈ u_ws RX1 TX1 10, w ∈ wG := by decide +kernel
theorem inX2 : ∀ w ∈ u_ws RX2 TX2 2, w ∈ wG := by decide +kernel
theorem inX3 : ∀ w ∈ u_ws RX3 TX3 8, w ∈ wG := by decide +kernel
theorem inX4 : ∀ w ∈ u_ws RX4 TX4 20, w ∈ wG := by decide +kernel
theorem wd98 : Cond.fieldLink RX3 11 "SeatOffice" "schools" "[LSeatOffice$School;" ∈ wG := wG_of (i := 98) (by decide +kernel) (by decide +kernel)
theorem wd99 : Cond.fieldLink RX3 18 "SeatOffice" "pupils" "[LSeatOffice$Pupil;" ∈ wG := wG_of (i := 99) (by decide +kernel) (by decide +kernel)
theorem wd103 : Cond.fieldLink RX3 25 "SeatOffice" "pool" "[I" ∈ wG := wG_of (i := 103) (by decide +kernel) (by decide +kernel)
theorem wd105 : Cond.fieldLink RX3 29 "SeatOffice" "taker" "[I" ∈ wG := wG_of (i := 105) (by decide +kernel) (by decide +kernel)
theorem wd44 : Cond.fieldLink RX2 11 "SeatOffice$School" "kinds" "[LSeatOffice$Kind;" ∈ wG := wG_of (i := 44) (by decide +kernel) (by decide +kernel)
theorem wd33 : Cond.fieldLink RX0 9 "SeatOffice$Kind" "bands" "[I" ∈ wG := wG_of (i := 33) (by decide +kernel) (by decide +kernel)
theorem wd60 : Cond.fieldLink RX1 9 "SeatOffice$Pupil" "list" "[I" ∈ wG := wG_of (i := 60) (by decide +kernel) (by decide +kernel)
theorem wd64 : Cond.fieldLink RX1 15 "SeatOffice$Pupil" "numbers" "[I" ∈ wG := wG_of (i := 64) (by decide +kernel) (by decide +kernel)
theorem wd68 : Cond.fieldLink RX1 18 "SeatOffice$Pupil" "school" "I" ∈ wG := wG_of (i := 68) (by decide +kernel) (by decide +kernel)
theorem wd70 : Cond.fieldLink RX1 22 "SeatOffice$Pupil" "kind" "I" ∈ wG := wG_of (i := 70) (by decide +kernel) (by decide +kernel)
theorem wd73 : Cond.fieldLink RX1 25 "SeatOffice$Pupil" "answered" "I" ∈ wG := wG_of (i := 73) (by decide +kernel) (by decide +kernel)
theorem wd127 : Cond.methodLink RX3 78 yX3_isPupil ∈ wG := wG_of (i := 127) (by decide +kernel) (by decide +kernel)
theorem wd130 : Cond.code yX3_isPupil cX3_isPupil 2 (some .boolean) ∈ wG := wG_of (i := 130) (by decide +kernel) (by decide +kernel)
theorem wd129 : Cond.instanceMethod yX3_isPupil ∈ wG := wG_of (i := 129) (by decide +kernel) (by decide +kernel)
theorem wsX3_isPupil : Cond.selects RX3 yX3_isPupil yX3_isPupil ∈ wG := wG_sel (i := 0) (q := (yX3_isPupil, 8)) (by decide +kernel)
theorem wd1 : Cond.initialized RX3 ∈ wG := wG_of (i := 1) (by decide +kernel) (by decide +kernel)
theorem wd131 : Cond.methodLink RX3 43 yX3_isSchool ∈ wG := wG_of (i := 131) (by decide +kernel) (by decide +kernel)
theorem wd134 : Cond.code yX3_isSchool cX3_isSchool 2 (some .boolean) ∈ wG := wG_of (i := 134) (by decide +kernel) (by decide +kernel)
theorem wd133 : Cond.instanceMethod yX3_isSchool ∈ wG := wG_of (i := 133) (by decide +kernel) (by decide +kernel)
theorem wsX3_isSchool : Cond.selects RX3 yX3_isSchool yX3_isSchool ∈ wG := wG_sel (i := 1) (q := (yX3_isSchool, 8)) (by decide +kernel)
theorem wd102 : Cond.fieldLink RX3 32 "SeatOffice" "roundWas" "Z" ∈ wG := wG_of (i := 102) (by decide +kernel) (by decide +kernel)
theorem wd101 : Cond.fieldLink RX3 69 "SeatOffice" "pupilCount" "I" ∈ wG := wG_of (i := 101) (by decide +kernel) (by decide +kernel)
theorem wd65 : Cond.fieldLink RX3 91 "SeatOffice$Pupil" "numbers" "[I" ∈ wG := wG_of (i := 65) (by decide +kernel) (by decide +kernel)
theorem wd100 : Cond.fieldLink RX3 36 "SeatOffice" "schoolCount" "I" ∈ wG := wG_of (i := 100) (by decide +kernel) (by decide +kernel)
theorem wd139 : Cond.methodLink RX3 104 yX1_hasLeft ∈ wG := wG_of (i := 139) (by decide +kernel) (by decide +kernel)
theorem wd142 : Cond.code yX1_hasLeft cX1_hasLeft 1 (some .boolean) ∈ wG := wG_of (i := 142) (by decide +kernel) (by decide +kernel)
theorem wd140 : Cond.instanceMethod yX1_hasLeft ∈ wG := wG_of (i := 140) (by decide +kernel) (by decide +kernel)
theorem wd141 : Cond.selects RX1 yX1_hasLeft yX1_hasLeft ∈ wG := wG_of (i := 141) (by decide +kernel) (by decide +kernel)
theorem wd4 : Cond.initialized RX1 ∈ wG := wG_of (i := 4) (by decide +kernel) (by decide +kernel)
theorem wd143 : Cond.methodLink RX3 108 yX1_accept ∈ wG := wG_of (i := 143) (by decide +kernel) (by decide +kernel)
theorem wd146 : Cond.code yX1_accept cX1_accept 1 (some .boolean) ∈ wG := wG_of (i := 146) (by decide +kernel) (by decide +kernel)
theorem wd144 : Cond.instanceMethod yX1_accept ∈ wG := wG_of (i := 144) (by decide +kernel) (by decide +kernel)
theorem wd145 : Cond.selects RX1 yX1_accept yX1_accept ∈ wG := wG_of (i := 145) (by decide +kernel) (by decide +kernel)
theorem wd155 : Cond.methodLink RX3 111 yX1_decline ∈ wG := wG_of (i := 155) (by decide +kernel) (by decide +kernel)
theorem wd158 : Cond.code yX1_decline cX1_decline 1 (some .boolean) ∈ wG := wG_of (i := 158) (by decide +kernel) (by decide +kernel)
theorem wd156 : Cond.instanceMethod yX1_decline ∈ wG := wG_of (i := 156) (by decide +kernel) (by decide +kernel)
theorem wd157 : Cond.selects RX1 yX1_decline yX1_decline ∈ wG := wG_of (i := 157) (by decide +kernel) (by decide +kernel)
theorem wd167 : Cond.methodLink RX3 114 yX1_leave ∈ wG := wG_of (i := 167) (by decide +kernel) (by decide +kernel)
theorem wd170 : Cond.code yX1_leave cX1_leave 1 none ∈ wG := wG_of (i := 170) (by decide +kernel) (by decide +kernel)
theorem wd168 : Cond.instanceMethod yX1_leave ∈ wG := wG_of (i := 168) (by decide +kernel) (by decide +kernel)
theorem wd169 : Cond.selects RX1 yX1_leave yX1_leave ∈ wG := wG_of (i := 169) (by decide +kernel) (by decide +kernel)
theorem wd147 : Cond.methodLink RX1 50 yX1_mayAnswer ∈ wG := wG_of (i := 147) (by decide +kernel) (by decide +kernel)
theorem wd150 : Cond.code yX1_mayAnswer cX1_mayAnswer 1 (some .boolean) ∈ wG := wG_of (i := 150) (by decide +kernel) (by decide +kernel)
theorem wd148 : Cond.instanceMethod yX1_mayAnswer ∈ wG := wG_of (i := 148) (by decide +kernel) (by decide +kernel)
theorem wd149 : Cond.selects RX1 yX1_mayAnswer yX1_mayAnswer ∈ wG := wG_of (i := 149) (by decide +kernel) (by decide +kernel)
theorem wd151 : Cond.methodLink RX1 35 yX1_isPlaced ∈ wG := wG_of (i := 151) (by decide +kernel) (by decide +kernel)
theorem wd154 : Cond.code yX1_isPlaced cX1_isPlaced 1 (some .boolean) ∈ wG := wG_of (i := 154) (by decide +kernel) (by decide +kernel)
theorem wd152 : Cond.instanceMethod yX1_isPlaced ∈ wG := wG_of (i := 152) (by decide +kernel) (by decide +kernel)
theorem wd153 : Cond.selects RX1 yX1_isPlaced yX1_isPlaced ∈ wG := wG_of (i := 153) (by decide +kernel) (by decide +kernel)
theorem wd159 : Cond.methodLink RX1 53 yX1_giveUpSeat ∈ wG := wG_of (i := 159) (by decide +kernel) (by decide +kernel)
theorem wd162 : Cond.code yX1_giveUpSeat cX1_giveUpSeat 1 none ∈ wG := wG_of (i := 162) (by decide +kernel) (by decide +kernel)
theorem wd160 : Cond.instanceMethod yX1_giveUpSeat ∈ wG := wG_of (i := 160) (by decide +kernel) (by decide +kernel)
theorem wd161 : Cond.selects RX1 yX1_giveUpSeat yX1_giveUpSeat ∈ wG := wG_of (i := 161) (by decide +kernel) (by decide +kernel)
theorem wd75 : Cond.fieldLink RX1 43 "SeatOffice$Pupil" "stays" "I" ∈ wG := wG_of (i := 75) (by decide +kernel) (by decide +kernel)
theorem wd163 : Cond.methodLink RX1 46 yX1_sitAt ∈ wG := wG_of (i := 163) (by decide +kernel) (by decide +kernel)
theorem wd166 : Cond.code yX1_sitAt cX1_sitAt 3 none ∈ wG := wG_of (i := 166) (by decide +kernel) (by decide +kernel)
theorem wd164 : Cond.instanceMethod yX1_sitAt ∈ wG := wG_of (i := 164) (by decide +kernel) (by decide +kernel)
theorem wd165 : Cond.selects RX1 yX1_sitAt yX1_sitAt ∈ wG := wG_of (i := 165) (by decide +kernel) (by decide +kernel)
theorem wd76 : Cond.fieldLink RX3 117 "SeatOffice$Pupil" "stays" "I" ∈ wG := wG_of (i := 76) (by decide +kernel) (by decide +kernel)
theorem wd179 : Cond.methodLink RX3 66 yX3_areFlags ∈ wG := wG_of (i := 179) (by decide +kernel) (by decide +kernel)
theorem wd181 : Cond.code yX3_areFlags cX3_areFlags 1 (some .boolean) ∈ wG := wG_of (i := 181) (by decide +kernel) (by decide +kernel)
theorem wd180 : Cond.static yX3_areFlags ∈ wG := wG_of (i := 180) (by decide +kernel) (by decide +kernel)
theorem wd66 : Cond.fieldLink RX3 72 "SeatOffice$Pupil" "flags" "I" ∈ wG := wG_of (i := 66) (by decide +kernel) (by decide +kernel)
theorem wd69 : Cond.fieldLink RX3 123 "SeatOffice$Pupil" "school" "I" ∈ wG := wG_of (i := 69) (by decide +kernel) (by decide +kernel)
theorem wd71 : Cond.fieldLink RX3 130 "SeatOffice$Pupil" "kind" "I" ∈ wG := wG_of (i := 71) (by decide +kernel) (by decide +kernel)
theorem wd72 : Cond.fieldLink RX3 133 "SeatOffice$Pupil" "asked" "I" ∈ wG := wG_of (i := 72) (by decide +kernel) (by decide +kernel)
theorem wd74 : Cond.fieldLink RX3 136 "SeatOffice$Pupil" "answered" "I" ∈ wG := wG_of (i := 74) (by decide +kernel) (by decide +kernel)
theorem wd47 : Cond.fieldLink RX3 50 "SeatOffice$School" "kindCount" "I" ∈ wG := wG_of (i := 47) (by decide +kernel) (by decide +kernel)
theorem wd45 : Cond.fieldLink RX3 53 "SeatOffice$School" "kinds" "[LSeatOffice$Kind;" ∈ wG := wG_of (i := 45) (by decide +kernel) (by decide +kernel)
theorem wd35 : Cond.fieldLink RX3 57 "SeatOffice$Kind" "seats" "I" ∈ wG := wG_of (i := 35) (by decide +kernel) (by decide +kernel)
theorem wd190 : Cond.methodLink RX3 139 yX3_countHolders ∈ wG := wG_of (i := 190) (by decide +kernel) (by decide +kernel)
theorem wd193 : Cond.code yX3_countHolders cX3_countHolders 5 (some .int) ∈ wG := wG_of (i := 193) (by decide +kernel) (by decide +kernel)
theorem wd192 : Cond.instanceMethod yX3_countHolders ∈ wG := wG_of (i := 192) (by decide +kernel) (by decide +kernel)
theorem wsX3_countHolders : Cond.selects RX3 yX3_countHolders yX3_countHolders ∈ wG := wG_sel (i := 2) (q := (yX3_countHolders, 8)) (by decide +kernel)
theorem wd198 : Cond.methodLink RX3 143 yX3_lastHolder ∈ wG := wG_of (i := 198) (by decide +kernel) (by decide +kernel)
theorem wd201 : Cond.code yX3_lastHolder cX3_lastHolder 7 (some .int) ∈ wG := wG_of (i := 201) (by decide +kernel) (by decide +kernel)
theorem wd200 : Cond.instanceMethod yX3_lastHolder ∈ wG := wG_of (i := 200) (by decide +kernel) (by decide +kernel)
theorem wsX3_lastHolder : Cond.selects RX3 yX3_lastHolder yX3_lastHolder ∈ wG := wG_sel (i := 3) (q := (yX3_lastHolder, 8)) (by decide +kernel)
theorem wd194 : Cond.methodLink RX3 167 yX1_holds ∈ wG := wG_of (i := 194) (by decide +kernel) (by decide +kernel)
theorem wd197 : Cond.code yX1_holds cX1_holds 3 (some .boolean) ∈ wG := wG_of (i := 197) (by decide +kernel) (by decide +kernel)
theorem wd195 : Cond.instanceMethod yX1_holds ∈ wG := wG_of (i := 195) (by decide +kernel) (by decide +kernel)
theorem wd196 : Cond.selects RX1 yX1_holds yX1_holds ∈ wG := wG_of (i := 196) (by decide +kernel) (by decide +kernel)
theorem wd202 : Cond.methodLink RX3 153 yX3_standing ∈ wG := wG_of (i := 202) (by decide +kernel) (by decide +kernel)
theorem wd205 : Cond.code yX3_standing cX3_standing 7 (some .int) ∈ wG := wG_of (i := 205) (by decide +kernel) (by decide +kernel)
theorem wd204 : Cond.instanceMethod yX3_standing ∈ wG := wG_of (i := 204) (by decide +kernel) (by decide +kernel)
theorem wsX3_standing : Cond.selects RX3 yX3_standing yX3_standing ∈ wG := wG_sel (i := 4) (q := (yX3_standing, 8)) (by decide +kernel)
theorem wd206 : Cond.methodLink RX3 170 yX0_bandOf ∈ wG := wG_of (i := 206) (by decide +kernel) (by decide +kernel)
theorem wd209 : Cond.code yX0_bandOf cX0_bandOf 3 (some .int) ∈ wG := wG_of (i := 209) (by decide +kernel) (by decide +kernel)
theorem wd207 : Cond.instanceMethod yX0_bandOf ∈ wG := wG_of (i := 207) (by decide +kernel) (by decide +kernel)
theorem wd208 : Cond.selects RX0 yX0_bandOf yX0_bandOf ∈ wG := wG_of (i := 208) (by decide +kernel) (by decide +kernel)
theorem wd3 : Cond.initialized RX0 ∈ wG := wG_of (i := 3) (by decide +kernel) (by decide +kernel)
theorem wd210 : Cond.constant RX3 157 (i32 100000) ∈ wG := wG_of (i := 210) (by decide +kernel) (by decide +kernel)
theorem wd67 : Cond.fieldLink RX3 75 "SeatOffice$Pupil" "late" "Z" ∈ wG := wG_of (i := 67) (by decide +kernel) (by decide +kernel)
theorem wd34 : Cond.fieldLink RX0 15 "SeatOffice$Kind" "bandCount" "I" ∈ wG := wG_of (i := 34) (by decide +kernel) (by decide +kernel)
theorem wd63 : Cond.fieldLink RX3 85 "SeatOffice$Pupil" "listed" "I" ∈ wG := wG_of (i := 63) (by decide +kernel) (by decide +kernel)
theorem wd61 : Cond.fieldLink RX3 88 "SeatOffice$Pupil" "list" "[I" ∈ wG := wG_of (i := 61) (by decide +kernel) (by decide +kernel)
theorem wd215 : Cond.methodLink RX3 146 yX3_blocks ∈ wG := wG_of (i := 215) (by decide +kernel) (by decide +kernel)
theorem wd218 : Cond.code yX3_blocks cX3_blocks 4 (some .boolean) ∈ wG := wG_of (i := 218) (by decide +kernel) (by decide +kernel)
theorem wd217 : Cond.instanceMethod yX3_blocks ∈ wG := wG_of (i := 217) (by decide +kernel) (by decide +kernel)
theorem wsX3_blocks : Cond.selects RX3 yX3_blocks yX3_blocks ∈ wG := wG_sel (i := 5) (q := (yX3_blocks, 8)) (by decide +kernel)
theorem wd219 : Cond.methodLink RX3 150 yX1_prefers ∈ wG := wG_of (i := 219) (by decide +kernel) (by decide +kernel)
theorem wd222 : Cond.code yX1_prefers cX1_prefers 3 (some .boolean) ∈ wG := wG_of (i := 222) (by decide +kernel) (by decide +kernel)
theorem wd220 : Cond.instanceMethod yX1_prefers ∈ wG := wG_of (i := 220) (by decide +kernel) (by decide +kernel)
theorem wd221 : Cond.selects RX1 yX1_prefers yX1_prefers ∈ wG := wG_of (i := 221) (by decide +kernel) (by decide +kernel)
theorem wd227 : Cond.methodLink RX3 173 yX3_choose ∈ wG := wG_of (i := 227) (by decide +kernel) (by decide +kernel)
theorem wd230 : Cond.code yX3_choose cX3_choose 4 none ∈ wG := wG_of (i := 230) (by decide +kernel) (by decide +kernel)
theorem wd229 : Cond.instanceMethod yX3_choose ∈ wG := wG_of (i := 229) (by decide +kernel) (by decide +kernel)
theorem wsX3_choose : Cond.selects RX3 yX3_choose yX3_choose ∈ wG := wG_sel (i := 6) (q := (yX3_choose, 8)) (by decide +kernel)
theorem wd223 : Cond.methodLink RX1 31 yX1_placeOf ∈ wG := wG_of (i := 223) (by decide +kernel) (by decide +kernel)
theorem wd226 : Cond.code yX1_placeOf cX1_placeOf 3 (some .int) ∈ wG := wG_of (i := 226) (by decide +kernel) (by decide +kernel)
theorem wd224 : Cond.instanceMethod yX1_placeOf ∈ wG := wG_of (i := 224) (by decide +kernel) (by decide +kernel)
theorem wd225 : Cond.selects RX1 yX1_placeOf yX1_placeOf ∈ wG := wG_of (i := 225) (by decide +kernel) (by decide +kernel)
theorem wd62 : Cond.fieldLink RX1 28 "SeatOffice$Pupil" "listed" "I" ∈ wG := wG_of (i := 62) (by decide +kernel) (by decide +kernel)
theorem wd104 : Cond.fieldLink RX3 176 "SeatOffice" "poolSize" "I" ∈ wG := wG_of (i := 104) (by decide +kernel) (by decide +kernel)
theorem wd231 : Cond.methodLink RX3 182 yX1_holdsAnyKind ∈ wG := wG_of (i := 231) (by decide +kernel) (by decide +kernel)
theorem wd234 : Cond.code yX1_holdsAnyKind cX1_holdsAnyKind 2 (some .boolean) ∈ wG := wG_of (i := 234) (by decide +kernel) (by decide +kernel)
theorem wd232 : Cond.instanceMethod yX1_holdsAnyKind ∈ wG := wG_of (i := 232) (by decide +kernel) (by decide +kernel)
theorem wd233 : Cond.selects RX1 yX1_holdsAnyKind yX1_holdsAnyKind ∈ wG := wG_of (i := 233) (by decide +kernel) (by decide +kernel)
theorem wd235 : Cond.methodLink RX3 185 yX3_takeFromPool ∈ wG := wG_of (i := 235) (by decide +kernel) (by decide +kernel)
theorem wd238 : Cond.code yX3_takeFromPool cX3_takeFromPool 6 none ∈ wG := wG_of (i := 238) (by decide +kernel) (by decide +kernel)
theorem wd237 : Cond.instanceMethod yX3_takeFromPool ∈ wG := wG_of (i := 237) (by decide +kernel) (by decide +kernel)
theorem wsX3_takeFromPool : Cond.selects RX3 yX3_takeFromPool yX3_takeFromPool ∈ wG := wG_sel (i := 7) (q := (yX3_takeFromPool, 8)) (by decide +kernel)
theorem wd239 : Cond.methodLink RX3 188 yX3_firstInPool ∈ wG := wG_of (i := 239) (by decide +kernel) (by decide +kernel)
theorem wd242 : Cond.code yX3_firstInPool cX3_firstInPool 7 (some .int) ∈ wG := wG_of (i := 242) (by decide +kernel) (by decide +kernel)
theorem wd241 : Cond.instanceMethod yX3_firstInPool ∈ wG := wG_of (i := 241) (by decide +kernel) (by decide +kernel)
theorem wsX3_firstInPool : Cond.selects RX3 yX3_firstInPool yX3_firstInPool ∈ wG := wG_sel (i := 8) (q := (yX3_firstInPool, 8)) (by decide +kernel)
theorem wd247 : Cond.methodLink RX3 81 yX1_placeOf ∈ wG := wG_of (i := 247) (by decide +kernel) (by decide +kernel)
theorem wd248 : Cond.methodLink RX3 158 yX2_admits ∈ wG := wG_of (i := 248) (by decide +kernel) (by decide +kernel)
theorem wd251 : Cond.code yX2_admits cX2_admits 3 (some .boolean) ∈ wG := wG_of (i := 251) (by decide +kernel) (by decide +kernel)
theorem wd249 : Cond.instanceMethod yX2_admits ∈ wG := wG_of (i := 249) (by decide +kernel) (by decide +kernel)
theorem wd250 : Cond.selects RX2 yX2_admits yX2_admits ∈ wG := wG_of (i := 250) (by decide +kernel) (by decide +kernel)
theorem wd2 : Cond.initialized RX2 ∈ wG := wG_of (i := 2) (by decide +kernel) (by decide +kernel)
theorem wd46 : Cond.fieldLink RX2 18 "SeatOffice$School" "kindCount" "I" ∈ wG := wG_of (i := 46) (by decide +kernel) (by decide +kernel)
theorem wd252 : Cond.methodLink RX2 22 yX0_bandOf ∈ wG := wG_of (i := 252) (by decide +kernel) (by decide +kernel)
theorem wd257 : Cond.methodLink RX3 161 yX3_countAsks ∈ wG := wG_of (i := 257) (by decide +kernel) (by decide +kernel)
theorem wd260 : Cond.code yX3_countAsks cX3_countAsks 3 (some .int) ∈ wG := wG_of (i := 260) (by decide +kernel) (by decide +kernel)
theorem wd259 : Cond.instanceMethod yX3_countAsks ∈ wG := wG_of (i := 259) (by decide +kernel) (by decide +kernel)
theorem wsX3_countAsks : Cond.selects RX3 yX3_countAsks yX3_countAsks ∈ wG := wG_sel (i := 9) (q := (yX3_countAsks, 8)) (by decide +kernel)
theorem wd261 : Cond.methodLink RX3 101 yX3_countPlaced ∈ wG := wG_of (i := 261) (by decide +kernel) (by decide +kernel)
theorem wd264 : Cond.code yX3_countPlaced cX3_countPlaced 3 (some .int) ∈ wG := wG_of (i := 264) (by decide +kernel) (by decide +kernel)
theorem wd263 : Cond.instanceMethod yX3_countPlaced ∈ wG := wG_of (i := 263) (by decide +kernel) (by decide +kernel)
theorem wsX3_countPlaced : Cond.selects RX3 yX3_countPlaced yX3_countPlaced ∈ wG := wG_sel (i := 10) (q := (yX3_countPlaced, 8)) (by decide +kernel)
theorem wd265 : Cond.methodLink RX3 164 yX1_isPlaced ∈ wG := wG_of (i := 265) (by decide +kernel) (by decide +kernel)
theorem wd270 : Cond.methodLink RL 7 yX3_school ∈ wG := wG_of (i := 270) (by decide +kernel) (by decide +kernel)
theorem wd273 : Cond.code yX3_school cX3_school 1 (some .int) ∈ wG := wG_of (i := 273) (by decide +kernel) (by decide +kernel)
theorem wd271 : Cond.instanceMethod yX3_school ∈ wG := wG_of (i := 271) (by decide +kernel) (by decide +kernel)
theorem wd272 : Cond.selects RX3 yX3_school yX3_school ∈ wG := wG_of (i := 272) (by decide +kernel) (by decide +kernel)
theorem wd340 : Cond.methodLink RL 15 yX3_kind ∈ wG := wG_of (i := 340) (by decide +kernel) (by decide +kernel)
theorem wd343 : Cond.code yX3_kind cX3_kind 8 (some .int) ∈ wG := wG_of (i := 343) (by decide +kernel) (by decide +kernel)
theorem wd341 : Cond.instanceMethod yX3_kind ∈ wG := wG_of (i := 341) (by decide +kernel) (by decide +kernel)
theorem wd342 : Cond.selects RX3 yX3_kind yX3_kind ∈ wG := wG_of (i := 342) (by decide +kernel) (by decide +kernel)
theorem wd359 : Cond.methodLink RX3 62 yX0_setBands ∈ wG := wG_of (i := 359) (by decide +kernel) (by decide +kernel)
theorem wd362 : Cond.code yX0_setBands cX0_setBands 4 none ∈ wG := wG_of (i := 362) (by decide +kernel) (by decide +kernel)
theorem wd360 : Cond.instanceMethod yX0_setBands ∈ wG := wG_of (i := 360) (by decide +kernel) (by decide +kernel)
theorem wd361 : Cond.selects RX0 yX0_setBands yX0_setBands ∈ wG := wG_of (i := 361) (by decide +kernel) (by decide +kernel)
theorem wd366 : Cond.methodLink RL 21 yX3_pupil ∈ wG := wG_of (i := 366) (by decide +kernel) (by decide +kernel)
theorem wd369 : Cond.code yX3_pupil cX3_pupil 4 (some .int) ∈ wG := wG_of (i := 369) (by decide +kernel) (by decide +kernel)
theorem wd367 : Cond.instanceMethod yX3_pupil ∈ wG := wG_of (i := 367) (by decide +kernel) (by decide +kernel)
theorem wd368 : Cond.selects RX3 yX3_pupil yX3_pupil ∈ wG := wG_of (i := 368) (by decide +kernel) (by decide +kernel)
theorem wd373 : Cond.methodLink RL 25 yX3_wish ∈ wG := wG_of (i := 373) (by decide +kernel) (by decide +kernel)
theorem wd376 : Cond.code yX3_wish cX3_wish 4 (some .int) ∈ wG := wG_of (i := 376) (by decide +kernel) (by decide +kernel)
theorem wd374 : Cond.instanceMethod yX3_wish ∈ wG := wG_of (i := 374) (by decide +kernel) (by decide +kernel)
theorem wd375 : Cond.selects RX3 yX3_wish yX3_wish ∈ wG := wG_of (i := 375) (by decide +kernel) (by decide +kernel)
theorem wd380 : Cond.methodLink RL 29 yX3_run ∈ wG := wG_of (i := 380) (by decide +kernel) (by decide +kernel)
theorem wd383 : Cond.code yX3_run cX3_run 3 (some .int) ∈ wG := wG_of (i := 383) (by decide +kernel) (by decide +kernel)
theorem wd381 : Cond.instanceMethod yX3_run ∈ wG := wG_of (i := 381) (by decide +kernel) (by decide +kernel)
theorem wd382 : Cond.selects RX3 yX3_run yX3_run ∈ wG := wG_of (i := 382) (by decide +kernel) (by decide +kernel)
theorem wd384 : Cond.methodLink RX3 94 yX3_nextAsker ∈ wG := wG_of (i := 384) (by decide +kernel) (by decide +kernel)
theorem wd387 : Cond.code yX3_nextAsker cX3_nextAsker 2 (some .int) ∈ wG := wG_of (i := 387) (by decide +kernel) (by decide +kernel)
theorem wd386 : Cond.instanceMethod yX3_nextAsker ∈ wG := wG_of (i := 386) (by decide +kernel) (by decide +kernel)
theorem wsX3_nextAsker : Cond.selects RX3 yX3_nextAsker yX3_nextAsker ∈ wG := wG_sel (i := 12) (q := (yX3_nextAsker, 8)) (by decide +kernel)
theorem wd388 : Cond.methodLink RX3 98 yX3_askNext ∈ wG := wG_of (i := 388) (by decide +kernel) (by decide +kernel)
theorem wd391 : Cond.code yX3_askNext cX3_askNext 5 none ∈ wG := wG_of (i := 391) (by decide +kernel) (by decide +kernel)
theorem wd390 : Cond.instanceMethod yX3_askNext ∈ wG := wG_of (i := 390) (by decide +kernel) (by decide +kernel)
theorem wsX3_askNext : Cond.selects RX3 yX3_askNext yX3_askNext ∈ wG := wG_sel (i := 13) (q := (yX3_askNext, 8)) (by decide +kernel)
theorem wd392 : Cond.methodLink RX3 179 yX1_giveUpSeat ∈ wG := wG_of (i := 392) (by decide +kernel) (by decide +kernel)
theorem wd393 : Cond.methodLink RX3 126 yX1_sitAt ∈ wG := wG_of (i := 393) (by decide +kernel) (by decide +kernel)
theorem wd397 : Cond.methodLink RL 32 yX3_chain ∈ wG := wG_of (i := 397) (by decide +kernel) (by decide +kernel)
theorem wd400 : Cond.code yX3_chain cX3_chain 2 (some .int) ∈ wG := wG_of (i := 400) (by decide +kernel) (by decide +kernel)
theorem wd398 : Cond.instanceMethod yX3_chain ∈ wG := wG_of (i := 398) (by decide +kernel) (by decide +kernel)
theorem wd399 : Cond.selects RX3 yX3_chain yX3_chain ∈ wG := wG_of (i := 399) (by decide +kernel) (by decide +kernel)
theorem wd401 : Cond.methodLink RX3 120 yX3_moveOne ∈ wG := wG_of (i := 401) (by decide +kernel) (by decide +kernel)
theorem wd404 : Cond.code yX3_moveOne cX3_moveOne 4 (some .boolean) ∈ wG := wG_of (i := 404) (by decide +kernel) (by decide +kernel)
theorem wd403 : Cond.instanceMethod yX3_moveOne ∈ wG := wG_of (i := 403) (by decide +kernel) (by decide +kernel)
theorem wsX3_moveOne : Cond.selects RX3 yX3_moveOne yX3_moveOne ∈ wG := wG_sel (i := 14) (q := (yX3_moveOne, 8)) (by decide +kernel)
theorem wd405 : Cond.methodLink RX3 191 yX3_firstWaiting ∈ wG := wG_of (i := 405) (by decide +kernel) (by decide +kernel)
theorem wd408 : Cond.code yX3_firstWaiting cX3_firstWaiting 7 (some .int) ∈ wG := wG_of (i := 408) (by decide +kernel) (by decide +kernel)
theorem wd407 : Cond.instanceMethod yX3_firstWaiting ∈ wG := wG_of (i := 407) (by decide +kernel) (by decide +kernel)
theorem wsX3_firstWaiting : Cond.selects RX3 yX3_firstWaiting yX3_firstWaiting ∈ wG := wG_sel (i := 15) (q := (yX3_firstWaiting, 8)) (by decide +kernel)
theorem wd409 : Cond.methodLink RX3 194 yX1_waitsFor ∈ wG := wG_of (i := 409) (by decide +kernel) (by decide +kernel)
theorem wd412 : Cond.code yX1_waitsFor cX1_waitsFor 2 (some .boolean) ∈ wG := wG_of (i := 412) (by decide +kernel) (by decide +kernel)
theorem wd410 : Cond.instanceMethod yX1_waitsFor ∈ wG := wG_of (i := 410) (by decide +kernel) (by decide +kernel)
theorem wd411 : Cond.selects RX1 yX1_waitsFor yX1_waitsFor ∈ wG := wG_of (i := 411) (by decide +kernel) (by decide +kernel)
theorem wd413 : Cond.methodLink RX1 39 yX1_prefers ∈ wG := wG_of (i := 413) (by decide +kernel) (by decide +kernel)
theorem wd417 : Cond.methodLink RL 35 yX3_over ∈ wG := wG_of (i := 417) (by decide +kernel) (by decide +kernel)
theorem wd420 : Cond.code yX3_over cX3_over 4 (some .boolean) ∈ wG := wG_of (i := 420) (by decide +kernel) (by decide +kernel)
theorem wd418 : Cond.instanceMethod yX3_over ∈ wG := wG_of (i := 418) (by decide +kernel) (by decide +kernel)
theorem wd419 : Cond.selects RX3 yX3_over yX3_over ∈ wG := wG_of (i := 419) (by decide +kernel) (by decide +kernel)
theorem wd424 : Cond.methodLink RL 39 yX3_envies ∈ wG := wG_of (i := 424) (by decide +kernel) (by decide +kernel)
theorem wd427 : Cond.code yX3_envies cX3_envies 6 (some .boolean) ∈ wG := wG_of (i := 427) (by decide +kernel) (by decide +kernel)
theorem wd425 : Cond.instanceMethod yX3_envies ∈ wG := wG_of (i := 425) (by decide +kernel) (by decide +kernel)
theorem wd426 : Cond.selects RX3 yX3_envies yX3_envies ∈ wG := wG_of (i := 426) (by decide +kernel) (by decide +kernel)
theorem wd437 : Cond.fieldLink RX4 7 "SeatOfficeModel" "kinds" "[I" ∈ wG := wG_of (i := 437) (by decide +kernel) (by decide +kernel)
theorem wd438 : Cond.fieldLink RX4 13 "SeatOfficeModel" "seats" "[I" ∈ wG := wG_of (i := 438) (by decide +kernel) (by decide +kernel)
theorem wd439 : Cond.fieldLink RX4 16 "SeatOfficeModel" "bands" "[I" ∈ wG := wG_of (i := 439) (by decide +kernel) (by decide +kernel)
theorem wd441 : Cond.fieldLink RX4 19 "SeatOfficeModel" "flags" "[I" ∈ wG := wG_of (i := 441) (by decide +kernel) (by decide +kernel)
theorem wd442 : Cond.fieldLink RX4 22 "SeatOfficeModel" "late" "[Z" ∈ wG := wG_of (i := 442) (by decide +kernel) (by decide +kernel)
theorem wd443 : Cond.fieldLink RX4 26 "SeatOfficeModel" "many" "[I" ∈ wG := wG_of (i := 443) (by decide +kernel) (by decide +kernel)
theorem wd444 : Cond.fieldLink RX4 29 "SeatOfficeModel" "wishes" "[I" ∈ wG := wG_of (i := 444) (by decide +kernel) (by decide +kernel)
theorem wd445 : Cond.fieldLink RX4 32 "SeatOfficeModel" "number" "[I" ∈ wG := wG_of (i := 445) (by decide +kernel) (by decide +kernel)
theorem wd446 : Cond.fieldLink RX4 35 "SeatOfficeModel" "asked" "[I" ∈ wG := wG_of (i := 446) (by decide +kernel) (by decide +kernel)
theorem wd447 : Cond.fieldLink RX4 38 "SeatOfficeModel" "school" "[I" ∈ wG := wG_of (i := 447) (by decide +kernel) (by decide +kernel)
theorem wd448 : Cond.fieldLink RX4 41 "SeatOfficeModel" "kind" "[I" ∈ wG := wG_of (i := 448) (by decide +kernel) (by decide +kernel)
theorem wd449 : Cond.fieldLink RX4 44 "SeatOfficeModel" "answer" "[I" ∈ wG := wG_of (i := 449) (by decide +kernel) (by decide +kernel)
theorem wd450 : Cond.fieldLink RX4 47 "SeatOfficeModel" "answered" "[Z" ∈ wG := wG_of (i := 450) (by decide +kernel) (by decide +kernel)
theorem wd451 : Cond.fieldLink RX4 50 "SeatOfficeModel" "stays" "[I" ∈ wG := wG_of (i := 451) (by decide +kernel) (by decide +kernel)
theorem wd452 : Cond.fieldLink RX4 53 "SeatOfficeModel" "offers" "[Z" ∈ wG := wG_of (i := 452) (by decide +kernel) (by decide +kernel)
theorem wd453 : Cond.fieldLink RX4 56 "SeatOfficeModel" "taken" "[I" ∈ wG := wG_of (i := 453) (by decide +kernel) (by decide +kernel)
theorem wd434 : Cond.fieldLink RX4 59 "SeatOfficeModel" "thrown" "I" ∈ wG := wG_of (i := 434) (by decide +kernel) (by decide +kernel)
theorem wd435 : Cond.fieldLink RX4 69 "SeatOfficeModel" "ran" "Z" ∈ wG := wG_of (i := 435) (by decide +kernel) (by decide +kernel)
theorem wd436 : Cond.fieldLink RX4 63 "SeatOfficeModel" "schools" "I" ∈ wG := wG_of (i := 436) (by decide +kernel) (by decide +kernel)
theorem wd508 : Cond.methodLink RX4 73 yX4_isSchool ∈ wG := wG_of (i := 508) (by decide +kernel) (by decide +kernel)
theorem wd511 : Cond.code yX4_isSchool cX4_isSchool 2 (some .boolean) ∈ wG := wG_of (i := 511) (by decide +kernel) (by decide +kernel)
theorem wd510 : Cond.instanceMethod yX4_isSchool ∈ wG := wG_of (i := 510) (by decide +kernel) (by decide +kernel)
theorem wsX4_isSchool : Cond.selects RX4 yX4_isSchool yX4_isSchool ∈ wG := wG_sel (i := 16) (q := (yX4_isSchool, 20)) (by decide +kernel)
theorem wd5 : Cond.initialized RX4 ∈ wG := wG_of (i := 5) (by decide +kernel) (by decide +kernel)
theorem wd440 : Cond.fieldLink RX4 66 "SeatOfficeModel" "pupils" "I" ∈ wG := wG_of (i := 440) (by decide +kernel) (by decide +kernel)
theorem wd520 : Cond.methodLink RX4 77 yX4_isPupil ∈ wG := wG_of (i := 520) (by decide +kernel) (by decide +kernel)
theorem wd523 : Cond.code yX4_isPupil cX4_isPupil 2 (some .boolean) ∈ wG := wG_of (i := 523) (by decide +kernel) (by decide +kernel)
theorem wd522 : Cond.instanceMethod yX4_isPupil ∈ wG := wG_of (i := 522) (by decide +kernel) (by decide +kernel)
theorem wsX4_isPupil : Cond.selects RX4 yX4_isPupil yX4_isPupil ∈ wG := wG_sel (i := 17) (q := (yX4_isPupil, 20)) (by decide +kernel)
theorem wd524 : Cond.methodLink RX4 80 yX4_place ∈ wG := wG_of (i := 524) (by decide +kernel) (by decide +kernel)
theorem wd527 : Cond.code yX4_place cX4_place 4 (some .int) ∈ wG := wG_of (i := 527) (by decide +kernel) (by decide +kernel)
theorem wd526 : Cond.instanceMethod yX4_place ∈ wG := wG_of (i := 526) (by decide +kernel) (by decide +kernel)
theorem wsX4_place : Cond.selects RX4 yX4_place yX4_place ∈ wG := wG_sel (i := 18) (q := (yX4_place, 20)) (by decide +kernel)
theorem wd536 : Cond.methodLink RX4 100 yX4_ask ∈ wG := wG_of (i := 536) (by decide +kernel) (by decide +kernel)
theorem wd539 : Cond.code yX4_ask cX4_ask 4 none ∈ wG := wG_of (i := 539) (by decide +kernel) (by decide +kernel)
theorem wd538 : Cond.instanceMethod yX4_ask ∈ wG := wG_of (i := 538) (by decide +kernel) (by decide +kernel)
theorem wsX4_ask : Cond.selects RX4 yX4_ask yX4_ask ∈ wG := wG_sel (i := 19) (q := (yX4_ask, 20)) (by decide +kernel)
theorem wd557 : Cond.methodLink RX4 103 yX4_placed ∈ wG := wG_of (i := 557) (by decide +kernel) (by decide +kernel)
theorem wd560 : Cond.code yX4_placed cX4_placed 3 (some .int) ∈ wG := wG_of (i := 560) (by decide +kernel) (by decide +kernel)
theorem wd559 : Cond.instanceMethod yX4_placed ∈ wG := wG_of (i := 559) (by decide +kernel) (by decide +kernel)
theorem wsX4_placed : Cond.selects RX4 yX4_placed yX4_placed ∈ wG := wG_sel (i := 24) (q := (yX4_placed, 20)) (by decide +kernel)
theorem wd540 : Cond.methodLink RX4 96 yX4_choose ∈ wG := wG_of (i := 540) (by decide +kernel) (by decide +kernel)
theorem wd543 : Cond.code yX4_choose cX4_choose 7 none ∈ wG := wG_of (i := 543) (by decide +kernel) (by decide +kernel)
theorem wd542 : Cond.instanceMethod yX4_choose ∈ wG := wG_of (i := 542) (by decide +kernel) (by decide +kernel)
theorem wsX4_choose : Cond.selects RX4 yX4_choose yX4_choose ∈ wG := wG_sel (i := 20) (q := (yX4_choose, 20)) (by decide +kernel)
theorem wd544 : Cond.methodLink RX4 89 yX4_eligible ∈ wG := wG_of (i := 544) (by decide +kernel) (by decide +kernel)
theorem wd547 : Cond.code yX4_eligible cX4_eligible 4 (some .boolean) ∈ wG := wG_of (i := 547) (by decide +kernel) (by decide +kernel)
theorem wd546 : Cond.instanceMethod yX4_eligible ∈ wG := wG_of (i := 546) (by decide +kernel) (by decide +kernel)
theorem wsX4_eligible : Cond.selects RX4 yX4_eligible yX4_eligible ∈ wG := wG_sel (i := 21) (q := (yX4_eligible, 20)) (by decide +kernel)
theorem wd552 : Cond.methodLink RX4 93 yX4_rank ∈ wG := wG_of (i := 552) (by decide +kernel) (by decide +kernel)
theorem wd555 : Cond.code yX4_rank cX4_rank 5 (some .int) ∈ wG := wG_of (i := 555) (by decide +kernel) (by decide +kernel)
theorem wd554 : Cond.instanceMethod yX4_rank ∈ wG := wG_of (i := 554) (by decide +kernel) (by decide +kernel)
theorem wsX4_rank : Cond.selects RX4 yX4_rank yX4_rank ∈ wG := wG_sel (i := 23) (q := (yX4_rank, 20)) (by decide +kernel)
theorem wd548 : Cond.methodLink RX4 84 yX4_band ∈ wG := wG_of (i := 548) (by decide +kernel) (by decide +kernel)
theorem wd551 : Cond.code yX4_band cX4_band 6 (some .int) ∈ wG := wG_of (i := 551) (by decide +kernel) (by decide +kernel)
theorem wd550 : Cond.instanceMethod yX4_band ∈ wG := wG_of (i := 550) (by decide +kernel) (by decide +kernel)
theorem wsX4_band : Cond.selects RX4 yX4_band yX4_band ∈ wG := wG_sel (i := 22) (q := (yX4_band, 20)) (by decide +kernel)
theorem wd556 : Cond.constant RX4 88 (i32 100000) ∈ wG := wG_of (i := 556) (by decide +kernel) (by decide +kernel)
theorem wd565 : Cond.methodLink RX4 107 yX4_give ∈ wG := wG_of (i := 565) (by decide +kernel) (by decide +kernel)
theorem wd568 : Cond.code yX4_give cX4_give 2 none ∈ wG := wG_of (i := 568) (by decide +kernel) (by decide +kernel)
theorem wd567 : Cond.instanceMethod yX4_give ∈ wG := wG_of (i := 567) (by decide +kernel) (by decide +kernel)
theorem wsX4_give : Cond.selects RX4 yX4_give yX4_give ∈ wG := wG_sel (i := 25) (q := (yX4_give, 20)) (by decide +kernel)
theorem wd577 : Cond.methodLink RX4 121 yX4_move ∈ wG := wG_of (i := 577) (by decide +kernel) (by decide +kernel)
theorem wd580 : Cond.code yX4_move cX4_move 6 (some .boolean) ∈ wG := wG_of (i := 580) (by decide +kernel) (by decide +kernel)
theorem wd579 : Cond.instanceMethod yX4_move ∈ wG := wG_of (i := 579) (by decide +kernel) (by decide +kernel)
theorem wsX4_move : Cond.selects RX4 yX4_move yX4_move ∈ wG := wG_sel (i := 26) (q := (yX4_move, 20)) (by decide +kernel)
theorem wd581 : Cond.methodLink RX4 114 yX4_holders ∈ wG := wG_of (i := 581) (by decide +kernel) (by decide +kernel)
theorem wd584 : Cond.code yX4_holders cX4_holders 5 (some .int) ∈ wG := wG_of (i := 584) (by decide +kernel) (by decide +kernel)
theorem wd583 : Cond.instanceMethod yX4_holders ∈ wG := wG_of (i := 583) (by decide +kernel) (by decide +kernel)
theorem wsX4_holders : Cond.selects RX4 yX4_holders yX4_holders ∈ wG := wG_sel (i := 27) (q := (yX4_holders, 20)) (by decide +kernel)
theorem wd585 : Cond.methodLink RX4 117 yX4_waits ∈ wG := wG_of (i := 585) (by decide +kernel) (by decide +kernel)
theorem wd588 : Cond.code yX4_waits cX4_waits 4 (some .boolean) ∈ wG := wG_of (i := 588) (by decide +kernel) (by decide +kernel)
theorem wd587 : Cond.instanceMethod yX4_waits ∈ wG := wG_of (i := 587) (by decide +kernel) (by decide +kernel)
theorem wsX4_waits : Cond.selects RX4 yX4_waits yX4_waits ∈ wG := wG_sel (i := 28) (q := (yX4_waits, 20)) (by decide +kernel)
theorem wd589 : Cond.methodLink RX4 110 yX4_own ∈ wG := wG_of (i := 589) (by decide +kernel) (by decide +kernel)
theorem wd592 : Cond.code yX4_own cX4_own 2 (some .int) ∈ wG := wG_of (i := 592) (by decide +kernel) (by decide +kernel)
theorem wd591 : Cond.instanceMethod yX4_own ∈ wG := wG_of (i := 591) (by decide +kernel) (by decide +kernel)
theorem wsX4_own : Cond.selects RX4 yX4_own yX4_own ∈ wG := wG_sel (i := 29) (q := (yX4_own, 20)) (by decide +kernel)
theorem wd613 : Cond.methodLink RX4 125 yX4_blocks ∈ wG := wG_of (i := 613) (by decide +kernel) (by decide +kernel)
theorem wd616 : Cond.code yX4_blocks cX4_blocks 4 (some .boolean) ∈ wG := wG_of (i := 616) (by decide +kernel) (by decide +kernel)
theorem wd615 : Cond.instanceMethod yX4_blocks ∈ wG := wG_of (i := 615) (by decide +kernel) (by decide +kernel)
theorem wsX4_blocks : Cond.selects RX4 yX4_blocks yX4_blocks ∈ wG := wG_sel (i := 30) (q := (yX4_blocks, 20)) (by decide +kernel)
theorem wd500 : Cond.methodLink RL 51 yX4_school ∈ wG := wG_of (i := 500) (by decide +kernel) (by decide +kernel)
theorem wd503 : Cond.code yX4_school cX4_school 1 (some .int) ∈ wG := wG_of (i := 503) (by decide +kernel) (by decide +kernel)
theorem wd501 : Cond.instanceMethod yX4_school ∈ wG := wG_of (i := 501) (by decide +kernel) (by decide +kernel)
theorem wd502 : Cond.selects RX4 yX4_school yX4_school ∈ wG := wG_of (i := 502) (by decide +kernel) (by decide +kernel)
theorem wd496 : Cond.methodLink RL 52 yX4_thrown ∈ wG := wG_of (i := 496) (by decide +kernel) (by decide +kernel)
theorem wd499 : Cond.code yX4_thrown cX4_thrown 1 (some .int) ∈ wG := wG_of (i := 499) (by decide +kernel) (by decide +kernel)
theorem wd497 : Cond.instanceMethod yX4_thrown ∈ wG := wG_of (i := 497) (by decide +kernel) (by decide +kernel)
theorem wd498 : Cond.selects RX4 yX4_thrown yX4_thrown ∈ wG := wG_of (i := 498) (by decide +kernel) (by decide +kernel)
theorem wd504 : Cond.methodLink RL 58 yX4_kind ∈ wG := wG_of (i := 504) (by decide +kernel) (by decide +kernel)
theorem wd507 : Cond.code yX4_kind cX4_kind 7 (some .int) ∈ wG := wG_of (i := 507) (by decide +kernel) (by decide +kernel)
theorem wd505 : Cond.instanceMethod yX4_kind ∈ wG := wG_of (i := 505) (by decide +kernel) (by decide +kernel)
theorem wd506 : Cond.selects RX4 yX4_kind yX4_kind ∈ wG := wG_of (i := 506) (by decide +kernel) (by decide +kernel)
theorem wd512 : Cond.methodLink RL 62 yX4_pupil ∈ wG := wG_of (i := 512) (by decide +kernel) (by decide +kernel)
theorem wd515 : Cond.code yX4_pupil cX4_pupil 3 (some .int) ∈ wG := wG_of (i := 515) (by decide +kernel) (by decide +kernel)
theorem wd513 : Cond.instanceMethod yX4_pupil ∈ wG := wG_of (i := 513) (by decide +kernel) (by decide +kernel)
theorem wd514 : Cond.selects RX4 yX4_pupil yX4_pupil ∈ wG := wG_of (i := 514) (by decide +kernel) (by decide +kernel)
theorem wd516 : Cond.methodLink RL 66 yX4_wish ∈ wG := wG_of (i := 516) (by decide +kernel) (by decide +kernel)
theorem wd519 : Cond.code yX4_wish cX4_wish 3 (some .int) ∈ wG := wG_of (i := 519) (by decide +kernel) (by decide +kernel)
theorem wd517 : Cond.instanceMethod yX4_wish ∈ wG := wG_of (i := 517) (by decide +kernel) (by decide +kernel)
theorem wd518 : Cond.selects RX4 yX4_wish yX4_wish ∈ wG := wG_of (i := 518) (by decide +kernel) (by decide +kernel)
theorem wd123 : Cond.methodLink RL 67 yX3_draw ∈ wG := wG_of (i := 123) (by decide +kernel) (by decide +kernel)
theorem wd126 : Cond.code yX3_draw cX3_draw 5 (some .boolean) ∈ wG := wG_of (i := 126) (by decide +kernel) (by decide +kernel)
theorem wd124 : Cond.instanceMethod yX3_draw ∈ wG := wG_of (i := 124) (by decide +kernel) (by decide +kernel)
theorem wd125 : Cond.selects RX3 yX3_draw yX3_draw ∈ wG := wG_of (i := 125) (by decide +kernel) (by decide +kernel)
theorem wd528 : Cond.methodLink RL 71 yX4_draw ∈ wG := wG_of (i := 528) (by decide +kernel) (by decide +kernel)
theorem wd531 : Cond.code yX4_draw cX4_draw 5 (some .boolean) ∈ wG := wG_of (i := 531) (by decide +kernel) (by decide +kernel)
theorem wd529 : Cond.instanceMethod yX4_draw ∈ wG := wG_of (i := 529) (by decide +kernel) (by decide +kernel)
theorem wd530 : Cond.selects RX4 yX4_draw yX4_draw ∈ wG := wG_of (i := 530) (by decide +kernel) (by decide +kernel)
theorem wd532 : Cond.methodLink RL 74 yX4_run ∈ wG := wG_of (i := 532) (by decide +kernel) (by decide +kernel)
theorem wd535 : Cond.code yX4_run cX4_run 3 (some .int) ∈ wG := wG_of (i := 535) (by decide +kernel) (by decide +kernel)
theorem wd533 : Cond.instanceMethod yX4_run ∈ wG := wG_of (i := 533) (by decide +kernel) (by decide +kernel)
theorem wd534 : Cond.selects RX4 yX4_run yX4_run ∈ wG := wG_of (i := 534) (by decide +kernel) (by decide +kernel)
theorem wd135 : Cond.methodLink RL 75 yX3_answer ∈ wG := wG_of (i := 135) (by decide +kernel) (by decide +kernel)
theorem wd138 : Cond.code yX3_answer cX3_answer 4 (some .boolean) ∈ wG := wG_of (i := 138) (by decide +kernel) (by decide +kernel)
theorem wd136 : Cond.instanceMethod yX3_answer ∈ wG := wG_of (i := 136) (by decide +kernel) (by decide +kernel)
theorem wd137 : Cond.selects RX3 yX3_answer yX3_answer ∈ wG := wG_of (i := 137) (by decide +kernel) (by decide +kernel)
theorem wd561 : Cond.methodLink RL 78 yX4_answer ∈ wG := wG_of (i := 561) (by decide +kernel) (by decide +kernel)
theorem wd564 : Cond.code yX4_answer cX4_answer 3 (some .boolean) ∈ wG := wG_of (i := 564) (by decide +kernel) (by decide +kernel)
theorem wd562 : Cond.instanceMethod yX4_answer ∈ wG := wG_of (i := 562) (by decide +kernel) (by decide +kernel)
theorem wd563 : Cond.selects RX4 yX4_answer yX4_answer ∈ wG := wG_of (i := 563) (by decide +kernel) (by decide +kernel)
theorem wd171 : Cond.methodLink RL 79 yX3_stay ∈ wG := wG_of (i := 171) (by decide +kernel) (by decide +kernel)
theorem wd174 : Cond.code yX3_stay cX3_stay 3 (some .boolean) ∈ wG := wG_of (i := 174) (by decide +kernel) (by decide +kernel)
theorem wd172 : Cond.instanceMethod yX3_stay ∈ wG := wG_of (i := 172) (by decide +kernel) (by decide +kernel)
theorem wd173 : Cond.selects RX3 yX3_stay yX3_stay ∈ wG := wG_of (i := 173) (by decide +kernel) (by decide +kernel)
theorem wd569 : Cond.methodLink RL 82 yX4_stay ∈ wG := wG_of (i := 569) (by decide +kernel) (by decide +kernel)
theorem wd572 : Cond.code yX4_stay cX4_stay 3 (some .boolean) ∈ wG := wG_of (i := 572) (by decide +kernel) (by decide +kernel)
theorem wd570 : Cond.instanceMethod yX4_stay ∈ wG := wG_of (i := 570) (by decide +kernel) (by decide +kernel)
theorem wd571 : Cond.selects RX4 yX4_stay yX4_stay ∈ wG := wG_of (i := 571) (by decide +kernel) (by decide +kernel)
theorem wd573 : Cond.methodLink RL 85 yX4_chain ∈ wG := wG_of (i := 573) (by decide +kernel) (by decide +kernel)
theorem wd576 : Cond.code yX4_chain cX4_chain 2 (some .int) ∈ wG := wG_of (i := 576) (by decide +kernel) (by decide +kernel)
theorem wd574 : Cond.instanceMethod yX4_chain ∈ wG := wG_of (i := 574) (by decide +kernel) (by decide +kernel)
theorem wd575 : Cond.selects RX4 yX4_chain yX4_chain ∈ wG := wG_of (i := 575) (by decide +kernel) (by decide +kernel)
theorem wd175 : Cond.methodLink RL 86 yX3_appeal ∈ wG := wG_of (i := 175) (by decide +kernel) (by decide +kernel)
theorem wd178 : Cond.code yX3_appeal cX3_appeal 3 (some .boolean) ∈ wG := wG_of (i := 178) (by decide +kernel) (by decide +kernel)
theorem wd176 : Cond.instanceMethod yX3_appeal ∈ wG := wG_of (i := 176) (by decide +kernel) (by decide +kernel)
theorem wd177 : Cond.selects RX3 yX3_appeal yX3_appeal ∈ wG := wG_of (i := 177) (by decide +kernel) (by decide +kernel)
theorem wd593 : Cond.methodLink RL 89 yX4_appeal ∈ wG := wG_of (i := 593) (by decide +kernel) (by decide +kernel)
theorem wd596 : Cond.code yX4_appeal cX4_appeal 3 (some .boolean) ∈ wG := wG_of (i := 596) (by decide +kernel) (by decide +kernel)
theorem wd594 : Cond.instanceMethod yX4_appeal ∈ wG := wG_of (i := 594) (by decide +kernel) (by decide +kernel)
theorem wd595 : Cond.selects RX4 yX4_appeal yX4_appeal ∈ wG := wG_of (i := 595) (by decide +kernel) (by decide +kernel)
theorem wd597 : Cond.methodLink RL 92 yX4_over ∈ wG := wG_of (i := 597) (by decide +kernel) (by decide +kernel)
theorem wd600 : Cond.code yX4_over cX4_over 3 (some .boolean) ∈ wG := wG_of (i := 600) (by decide +kernel) (by decide +kernel)
theorem wd598 : Cond.instanceMethod yX4_over ∈ wG := wG_of (i := 598) (by decide +kernel) (by decide +kernel)
theorem wd599 : Cond.selects RX4 yX4_over yX4_over ∈ wG := wG_of (i := 599) (by decide +kernel) (by decide +kernel)
theorem wd182 : Cond.methodLink RL 93 yX3_seat ∈ wG := wG_of (i := 182) (by decide +kernel) (by decide +kernel)
theorem wd185 : Cond.code yX3_seat cX3_seat 4 (some .int) ∈ wG := wG_of (i := 185) (by decide +kernel) (by decide +kernel)
theorem wd183 : Cond.instanceMethod yX3_seat ∈ wG := wG_of (i := 183) (by decide +kernel) (by decide +kernel)
theorem wd184 : Cond.selects RX3 yX3_seat yX3_seat ∈ wG := wG_of (i := 184) (by decide +kernel) (by decide +kernel)
theorem wd601 : Cond.methodLink RL 96 yX4_seat ∈ wG := wG_of (i := 601) (by decide +kernel) (by decide +kernel)
theorem wd604 : Cond.code yX4_seat cX4_seat 3 (some .int) ∈ wG := wG_of (i := 604) (by decide +kernel) (by decide +kernel)
theorem wd602 : Cond.instanceMethod yX4_seat ∈ wG := wG_of (i := 602) (by decide +kernel) (by decide +kernel)
theorem wd603 : Cond.selects RX4 yX4_seat yX4_seat ∈ wG := wG_of (i := 603) (by decide +kernel) (by decide +kernel)
theorem wd186 : Cond.methodLink RL 97 yX3_held ∈ wG := wG_of (i := 186) (by decide +kernel) (by decide +kernel)
theorem wd189 : Cond.code yX3_held cX3_held 4 (some .int) ∈ wG := wG_of (i := 189) (by decide +kernel) (by decide +kernel)
theorem wd187 : Cond.instanceMethod yX3_held ∈ wG := wG_of (i := 187) (by decide +kernel) (by decide +kernel)
theorem wd188 : Cond.selects RX3 yX3_held yX3_held ∈ wG := wG_of (i := 188) (by decide +kernel) (by decide +kernel)
theorem wd605 : Cond.methodLink RL 101 yX4_held ∈ wG := wG_of (i := 605) (by decide +kernel) (by decide +kernel)
theorem wd608 : Cond.code yX4_held cX4_held 9 (some .int) ∈ wG := wG_of (i := 608) (by decide +kernel) (by decide +kernel)
theorem wd606 : Cond.instanceMethod yX4_held ∈ wG := wG_of (i := 606) (by decide +kernel) (by decide +kernel)
theorem wd607 : Cond.selects RX4 yX4_held yX4_held ∈ wG := wG_of (i := 607) (by decide +kernel) (by decide +kernel)
theorem wd211 : Cond.methodLink RL 102 yX3_blocking ∈ wG := wG_of (i := 211) (by decide +kernel) (by decide +kernel)
theorem wd214 : Cond.code yX3_blocking cX3_blocking 7 (some .int) ∈ wG := wG_of (i := 214) (by decide +kernel) (by decide +kernel)
theorem wd212 : Cond.instanceMethod yX3_blocking ∈ wG := wG_of (i := 212) (by decide +kernel) (by decide +kernel)
theorem wd213 : Cond.selects RX3 yX3_blocking yX3_blocking ∈ wG := wG_of (i := 213) (by decide +kernel) (by decide +kernel)
theorem wd609 : Cond.methodLink RL 106 yX4_blocking ∈ wG := wG_of (i := 609) (by decide +kernel) (by decide +kernel)
theorem wd612 : Cond.code yX4_blocking cX4_blocking 5 (some .int) ∈ wG := wG_of (i := 612) (by decide +kernel) (by decide +kernel)
theorem wd610 : Cond.instanceMethod yX4_blocking ∈ wG := wG_of (i := 610) (by decide +kernel) (by decide +kernel)
theorem wd611 : Cond.selects RX4 yX4_blocking yX4_blocking ∈ wG := wG_of (i := 611) (by decide +kernel) (by decide +kernel)
theorem wd617 : Cond.methodLink RL 109 yX4_envies ∈ wG := wG_of (i := 617) (by decide +kernel) (by decide +kernel)
theorem wd620 : Cond.code yX4_envies cX4_envies 5 (some .boolean) ∈ wG := wG_of (i := 620) (by decide +kernel) (by decide +kernel)
theorem wd618 : Cond.instanceMethod yX4_envies ∈ wG := wG_of (i := 618) (by decide +kernel) (by decide +kernel)
theorem wd619 : Cond.selects RX4 yX4_envies yX4_envies ∈ wG := wG_of (i := 619) (by decide +kernel) (by decide +kernel)
theorem wd243 : Cond.methodLink RL 110 yX3_why ∈ wG := wG_of (i := 243) (by decide +kernel) (by decide +kernel)
theorem wd246 : Cond.code yX3_why cX3_why 4 (some .int) ∈ wG := wG_of (i := 246) (by decide +kernel) (by decide +kernel)
theorem wd244 : Cond.instanceMethod yX3_why ∈ wG := wG_of (i := 244) (by decide +kernel) (by decide +kernel)
theorem wd245 : Cond.selects RX3 yX3_why yX3_why ∈ wG := wG_of (i := 245) (by decide +kernel) (by decide +kernel)
theorem wd621 : Cond.methodLink RL 113 yX4_why ∈ wG := wG_of (i := 621) (by decide +kernel) (by decide +kernel)
theorem wd624 : Cond.code yX4_why cX4_why 6 (some .int) ∈ wG := wG_of (i := 624) (by decide +kernel) (by decide +kernel)
theorem wd622 : Cond.instanceMethod yX4_why ∈ wG := wG_of (i := 622) (by decide +kernel) (by decide +kernel)
theorem wd623 : Cond.selects RX4 yX4_why yX4_why ∈ wG := wG_of (i := 623) (by decide +kernel) (by decide +kernel)
theorem wd253 : Cond.methodLink RL 114 yX3_look ∈ wG := wG_of (i := 253) (by decide +kernel) (by decide +kernel)
theorem wd256 : Cond.code yX3_look cX3_look 2 (some .int) ∈ wG := wG_of (i := 256) (by decide +kernel) (by decide +kernel)
theorem wd254 : Cond.instanceMethod yX3_look ∈ wG := wG_of (i := 254) (by decide +kernel) (by decide +kernel)
theorem wd255 : Cond.selects RX3 yX3_look yX3_look ∈ wG := wG_of (i := 255) (by decide +kernel) (by decide +kernel)
theorem wd625 : Cond.methodLink RL 117 yX4_look ∈ wG := wG_of (i := 625) (by decide +kernel) (by decide +kernel)
theorem wd628 : Cond.code yX4_look cX4_look 4 (some .int) ∈ wG := wG_of (i := 628) (by decide +kernel) (by decide +kernel)
theorem wd626 : Cond.instanceMethod yX4_look ∈ wG := wG_of (i := 626) (by decide +kernel) (by decide +kernel)
theorem wd627 : Cond.selects RX4 yX4_look yX4_look ∈ wG := wG_of (i := 627) (by decide +kernel) (by decide +kernel)
end
section
/-! The judgement V: the machine at pc, locals L, stack S, state μ; a row an instruction. -/
abbrev MC : Type := Program × Launch × Env × Room × State × MethodId × Array Value × List Frame × Method × Code × (State → Prop) × Nat × Heap × Nat × va_G × (Nat → ClassId)
abbrev tysK (K : Nat → ClassId) : List (ClassId × FieldType) := [(K 0, .int), (K 1, .boolean), (K 2, .long), (K 3, .object "SeatOffice$School"), (K 4, .object "SeatOffice$Kind"), (K 5, .object "SeatOffice$Pupil")]
def cv (b : Nat) : AV → Value
  | .inl x => .int (i32 x)
  | .inr (.inl (c, i)) => .ref (lay b c i)
  | .inr (.inr (.inl x)) => .long (Int64.ofInt x)
  | .inr (.inr (.inr a)) => .ref a
def okv : AV → Prop
  | .inl x => inR x
  | .inr (.inl _) => True
  | .inr (.inr (.inl x)) => inR x
  | .inr (.inr (.inr _)) => True
/-- in a local: no long -/
def okl : AV → Prop
  | .inl x => inR x
  | .inr (.inl _) => True
  | .inr (.inr (.inl _)) => False
  | .inr (.inr (.inr _)) => True
abbrev OkM (μ : MU) : Prop := ∀ f j, inR (μ f j)
abbrev OkV (S : List AV) : Prop := ∀ v, v ∈ S → okv v
abbrev OkL (L : List (Option AV)) : Prop := ∀ v, some v ∈ L → okl v
theorem OkV.cons {v : AV} {S : List AV} (h : okv v) (hS : OkV S) : OkV (v :: S) := fun w hw => by
  rcases List.mem_cons.mp hw with q | q
  · rw [q]; exact h
  · exact hS w q
theorem OkV.tl {v : AV} {S : List AV} (h : OkV (v :: S)) : OkV S := fun w hw => h w (List.mem_cons_of_mem _ hw)
theorem OkV.hd {v : AV} {S : List AV} (h : OkV (v :: S)) : okv v := h v List.mem_cons_self
theorem OkL.at {L : List (Option AV)} (h : OkL L) {i : Nat} {v : AV} (hi : L[i]? = some (some v)) : okl v := h v (List.mem_of_getElem? hi)
theorem okl_v {v : AV} (h : okl v) : okv v := by
  obtain x | r | x | a := v
  · exact h
  · exact h
  · exact h.elim
  · exact h
theorem OkL.set {L : List (Option AV)} {i : Nat} {v : AV} (h : OkL L) (hv : okl v) : OkL (L.set i (some v)) := fun w hw => by
  rcases List.mem_or_eq_of_mem_set hw with q | q
  · exact h w q
  · cases q; exact hv
theorem OkM.up {μ : MU} (h : OkM μ) {f j : Nat} {v : Int} (hv : inR v) : OkM (upM μ f j v) := fun g k => by
  by_cases q : g = f ∧ k = j
  · rw [q.1, q.2, upM_at]; exact hv
  · rw [upM_ne q]; exact h g k
/-- the locals -/
def lo (b : Nat) (ls : Array Slot) (nL : Nat) (L : List (Option AV)) : Prop := ls.size = nL ∧ lv_wf ls ∧ L.length = nL ∧ ∀ (i : Nat) (v : AV), L[i]? = some (some v) → ls[i]? = some (Slot.val (cv b v))
def toL (b : Nat) (L : List (Option AV)) : List (Nat × Value) := (List.range L.length).filterMap (fun i => match L[i]? with
  | some (some v) => some (i, cv b v)
  | _ => none)
theorem toL_mem {b : Nat} {L : List (Option AV)} {i : Nat} {v : AV} (h : L[i]? = some (some v)) : (i, cv b v) ∈ toL b L := by
  refine List.mem_filterMap.mpr ⟨i, List.mem_range.mpr (List.getElem?_eq_some_iff.mp h).1, ?_⟩
  simp only [h]
theorem toL_of {b : Nat} {L : List (Option AV)} {q : Nat × Value} (h : q ∈ toL b L) : ∃ v, L[q.1]? = some (some v) ∧ q.2 = cv b v := by
  obtain ⟨i, -, hi⟩ := List.mem_filterMap.mp h
  split at hi
  · rename_i v hv
    cases hi
    exact ⟨v, hv, rfl⟩
  · cases hi
theorem lo.has {b : Nat} {ls : Array Slot} {nL : Nat} {L : List (Option AV)} (h : lo b ls nL L) : lv_has ls nL (toL b L) := by
  refine ⟨h.1, h.2.1, fun q hq => ?_⟩
  obtain ⟨v, h1, h2⟩ := toL_of hq
  rw [h2]
  exact h.2.2.2 q.1 v h1
theorem cv_cat {b : Nat} {v : AV} (h : okl v) : (cv b v).category = 1 := by
  obtain x | ⟨c, i⟩ | x | a := v
  · rfl
  · rfl
  · exact h.elim
  · rfl
theorem lo.stored {b : Nat} {ls' : Array Slot} {nL i : Nat} {L : List (Option AV)} {v : AV} (hL : OkL L) (hn : L.length = nL)
    (h : lv_has ls' nL ((i, cv b v) :: (toL b L).filter (fun q => !(q.1 == i) && !(q.1 + 1 == i && q.2.category == 2)))) : lo b ls' nL (L.set i (some v)) := by
  refine ⟨h.1, h.2.1, by rw [List.length_set]; exact hn, fun j w hj => ?_⟩
  by_cases q : j = i
  · subst q
    by_cases hl : j < L.length
    · rw [List.getElem?_set_self hl] at hj
      cases hj
      exact h.2.2 _ List.mem_cons_self
    · rw [List.getElem?_eq_none (by rw [List.length_set]; omega)] at hj
      cases hj
  · rw [List.getElem?_set_ne (Ne.symm q)] at hj
    refine h.2.2 (j, cv b w) (List.mem_cons_of_mem _ (List.mem_filter.mpr ⟨toL_mem hj, ?_⟩))
    have hc := cv_cat (b := b) (hL.at hj)
    simp [q, hc]
/-- the heap: the cells; a normal state (all references are set), or one that is being built, of a known size -/
def holds (b : Nat) (D : va_G) (K : Nat → ClassId) (μ : MU) (H : Heap) (c i : Nat) : Prop := match cellD c i with
  | .inl (ci, fds) => ∃ r : vw_C, wCl[ci]? = some r ∧ t_OB (lay b c i) (D.1 ci) r.2.2 (D.2 ci) H (vp_V (fds.map (vOf b μ)))
  | .inr (t, n, el) => H[lay b c i]? = some (arrV (K t) n (fun j => vOf b μ (el j)))
def Wd (b : Nat) (D : va_G) (K : Nat → ClassId) (μ : MU) (H : Heap) : Prop := ∀ c i, i < vdn c → lay b c i < H.size → holds b D K μ H c i
abbrev Fl (μ : MU) : Prop := ∀ f j, 100 ≤ f → μ f j = 1
def Md (z : Option Nat) (b : Nat) (μ : MU) (H : Heap) : Prop := match z with
  | none => Fl μ ∧ b + 131 ≤ H.size
  | some w => H.size = b + w
def Hp (z : Option Nat) (b : Nat) (D : va_G) (K : Nat → ClassId) (μ : MU) (H : Heap) : Prop := Wd b D K μ H ∧ Md z b μ H
abbrev Ad (b : Nat) : Nat → Prop := fun q => b ≤ q
def V (x : MC) (n k : Nat) (z : Option Nat) (pc : Nat) (L : List (Option AV)) (S : List AV) (μ : MU) : Prop := match x with
  | (p, l, e, R, s, m, args, below, meth, c, Q, nL, H0, b, D, K) => OkM μ → OkV S → OkL L → ∀ (H : Heap) (locs : List Loc) (ls : Array Slot), lo b ls nL L → Hp z b D K μ H → va_S (Ad b) H0 H locs → W p l e R s m args below meth c H locs n k Q (F0 m pc ls (S.map (cv b)))
def Ctx (x : MC) (own : String) (cc : ByteArray) (rm : Room) : Prop := match x with
  | (p, _, _, R, s, m, args, _, meth, c, _, nL, _, _, D, K) => p.tables.exec = Jvm.exec ∧ c.code = cc ∧ c.maxLocals = nL ∧ (∀ w ∈ wG, w.before args s = true) ∧ s.vm.findClass own = some m.cls ∧ va_K D wCl (tysK K) s ∧ meth.locks = false ∧ R = rm
theorem arrV_congr {cA : ClassId} {n : Nat} {f g : Nat → Value} (h : ∀ j, j < n → f j = g j) : arrV cA n f = arrV cA n g := by
  unfold arrV
  congr 2
  funext j
  exact h j.val j.isLt
theorem holds_congr {b : Nat} {D : va_G} {K : Nat → ClassId} {μ μ' : MU} {H H1 : Heap} {c i : Nat} (hv : ∀ k d, plc c i k = some d → vOf b μ' d = vOf b μ d) (hq : H1[lay b c i]? = H[lay b c i]?) (h : holds b D K μ H c i) : holds b D K μ' H1 c i := by
  unfold holds at h ⊢
  unfold plc at hv
  split at h
  · rename_i ci fds he
    simp only [he] at hv ⊢
    obtain ⟨r, h1, h2⟩ := h
    refine ⟨r, h1, ?_⟩
    have : fds.map (vOf b μ') = fds.map (vOf b μ) := List.map_congr_left fun d hd => by
      obtain ⟨k, hk⟩ := List.getElem?_of_mem hd
      exact hv k d hk
    rw [this]
    exact h2.kept hq
  · rename_i t n el he
    simp only [he] at hv ⊢
    rw [hq, h]
    congr 1
    exact arrV_congr fun j hj => (hv j (el j) (by rw [if_pos hj])).symm
theorem Wd.put {b : Nat} {D : va_G} {K : Nat → ClassId} {μ : MU} {H H1 : Heap} {c i k f j : Nat} {v : Int} {d : FD} (h : Wd b D K μ H) (hi : i < vdn c) (hk : plc c i k = some d) (hd : fdLoc d = (f, j)) (hz : H1.size = H.size) (ho : ∀ q : Nat, q ≠ lay b c i → H1[q]? = H[q]?) (hn : holds b D K (upM μ f j v) H1 c i) : Wd b D K (upM μ f j v) H1 := by
  intro c' i' hi' hs
  by_cases he : c' = c ∧ i' = i
  · rw [he.1, he.2]; exact hn
  · refine holds_congr (fun k' d' hk' => vOf_up fun q => he ?_) (ho _ fun q => he (off_inj hi' hi (by unfold lay at q; omega))) (h c' i' hi' (by omega))
    have e1 := own3_ok hi hk
    have e2 := own3_ok hi' hk'
    rw [q] at e2
    rw [hd] at e1
    have e3 := e2.symm.trans e1
    cases e3
    exact ⟨rfl, rfl⟩
theorem va_P1 {D : va_G} {cl : List vw_C} {q : Nat × va_E} {H : Heap} (h : va_at D cl q H) : va_P D cl [q] H := by
  intro k q' hk
  cases k with
  | zero => cases hk; exact h
  | succ n => cases hk
section VR
variable {x : MC} {n k : Nat} {z : Option Nat} {pc : Nat} {L : List (Option AV)} {S : List AV} {μ : MU} {own : String} {cc : ByteArray} {rm : Room}
theorem Md.lt {z : Option Nat} {b : Nat} {μ : MU} {H : Heap} {c i : Nat} (h : Md z b μ H) (hz : z = none) (hi : i < vdn c) : lay b c i < H.size := by
  subst hz
  have := h.2
  have := off_lt hi
  unfold lay
  omega

theorem v_iconst (hC : Ctx x own cc rm) {v : Int} (d : decode cc pc = .ok (.iconst v, 1)) (hv : inR v) (kk : V x n k z (pc + 1) L (aI v :: S) μ) : V x n k z pc L S μ := by
  obtain ⟨p, l, e, R, s, m, args, below, meth, c, Q, nL, H0, b, D, K⟩ := x
  intro hM hS hL H locs ls hlo hH hF
  obtain ⟨hx, hb, hml, hts, hown, hK, hlk, hRm⟩ := hC
  exact lv_iconst hx hb d rfl (kk hM (OkV.cons hv hS) hL H locs ls hlo hH hF)
theorem v_bipush (hC : Ctx x own cc rm) {v : Int} (d : decode cc pc = .ok (.bipush v, 2)) (hv : -128 ≤ v ∧ v ≤ 127) (kk : V x n k z (pc + 2) L (aI v :: S) μ) : V x n k z pc L S μ := by
  obtain ⟨p, l, e, R, s, m, args, below, meth, c, Q, nL, H0, b, D, K⟩ := x
  intro hM hS hL H locs ls hlo hH hF
  obtain ⟨hx, hb, hml, hts, hown, hK, hlk, hRm⟩ := hC
  exact lv_bipush hx hb d (Int8.toInt32_ofInt (by have := hv.1; exact hv.1) (by exact hv.2)) (kk hM (OkV.cons (⟨by have := hv.1; omega, by have := hv.2; omega⟩ : inR v) hS) hL H locs ls hlo hH hF)
theorem v_sipush (hC : Ctx x own cc rm) {v : Int} (d : decode cc pc = .ok (.sipush v, 3)) (hv : -32768 ≤ v ∧ v ≤ 32767) (kk : V x n k z (pc + 3) L (aI v :: S) μ) : V x n k z pc L S μ := by
  obtain ⟨p, l, e, R, s, m, args, below, meth, c, Q, nL, H0, b, D, K⟩ := x
  intro hM hS hL H locs ls hlo hH hF
  obtain ⟨hx, hb, hml, hts, hown, hK, hlk, hRm⟩ := hC
  exact lv_sipush hx hb d (Int16.toInt32_ofInt (by exact hv.1) (by exact hv.2)) (kk hM (OkV.cons (⟨by have := hv.1; omega, by have := hv.2; omega⟩ : inR v) hS) hL H locs ls hlo hH hF)
theorem v_ldc (hC : Ctx x own cc rm) {v : Int} {idx : Nat} (d : decode cc pc = .ok (.ldc idx, 2)) (hw : Jvm.Cond.constant own idx (i32 v) ∈ wG) (hv : inR v) (kk : V x n k z (pc + 2) L (aI v :: S) μ) : V x n k z pc L S μ := by
  obtain ⟨p, l, e, R, s, m, args, below, meth, c, Q, nL, H0, b, D, K⟩ := x
  intro hM hS hL H locs ls hlo hH hF
  obtain ⟨hx, hb, hml, hts, hown, hK, hlk, hRm⟩ := hC
  exact lv_ldc hx hb hown (hts _ hw) d (kk hM (OkV.cons hv hS) hL H locs ls hlo hH hF)
theorem v_iload_n (hC : Ctx x own cc rm) {y : Int} {q : Fin 4} (i : Nat) (d : decode cc pc = .ok (.iload_n q, 1)) (hi : (q : Nat) = i) (hl : L[i]? = some (some (aI y))) (kk : V x n k z (pc + 1) L (aI y :: S) μ) : V x n k z pc L S μ := by
  obtain ⟨p, l, e, R, s, m, args, below, meth, c, Q, nL, H0, b, D, K⟩ := x
  intro hM hS hL H locs ls hlo hH hF
  obtain ⟨hx, hb, hml, hts, hown, hK, hlk, hRm⟩ := hC
  exact lv_iload_n hx hb d hi (hlo.2.2.2 i _ hl) (kk hM (OkV.cons (okl_v (hL.at hl)) hS) hL H locs ls hlo hH hF)
theorem v_iload (hC : Ctx x own cc rm) {y : Int} {i : Nat} (d : decode cc pc = .ok (.iload i, 2)) (hl : L[i]? = some (some (aI y))) (kk : V x n k z (pc + 2) L (aI y :: S) μ) : V x n k z pc L S μ := by
  obtain ⟨p, l, e, R, s, m, args, below, meth, c, Q, nL, H0, b, D, K⟩ := x
  intro hM hS hL H locs ls hlo hH hF
  obtain ⟨hx, hb, hml, hts, hown, hK, hlk, hRm⟩ := hC
  exact lv_iload hx hb d (hlo.2.2.2 i _ hl) (kk hM (OkV.cons (okl_v (hL.at hl)) hS) hL H locs ls hlo hH hF)
theorem v_aload_n (hC : Ctx x own cc rm) {y1 y2 : Nat} {q : Fin 4} (i : Nat) (d : decode cc pc = .ok (.aload_n q, 1)) (hi : (q : Nat) = i) (hl : L[i]? = some (some (aR y1 y2))) (kk : V x n k z (pc + 1) L (aR y1 y2 :: S) μ) : V x n k z pc L S μ := by
  obtain ⟨p, l, e, R, s, m, args, below, meth, c, Q, nL, H0, b, D, K⟩ := x
  intro hM hS hL H locs ls hlo hH hF
  obtain ⟨hx, hb, hml, hts, hown, hK, hlk, hRm⟩ := hC
  exact lv_aload_n hx hb d hi (hlo.2.2.2 i _ hl) (kk hM (OkV.cons (okl_v (hL.at hl)) hS) hL H locs ls hlo hH hF)
theorem v_aload (hC : Ctx x own cc rm) {y1 y2 : Nat} {i : Nat} (d : decode cc pc = .ok (.aload i, 2)) (hl : L[i]? = some (some (aR y1 y2))) (kk : V x n k z (pc + 2) L (aR y1 y2 :: S) μ) : V x n k z pc L S μ := by
  obtain ⟨p, l, e, R, s, m, args, below, meth, c, Q, nL, H0, b, D, K⟩ := x
  intro hM hS hL H locs ls hlo hH hF
  obtain ⟨hx, hb, hml, hts, hown, hK, hlk, hRm⟩ := hC
  exact lv_aload hx hb d (hlo.2.2.2 i _ hl) (kk hM (OkV.cons (okl_v (hL.at hl)) hS) hL H locs ls hlo hH hF)
theorem v_aloadX_n (hC : Ctx x own cc rm) {y : Nat} {q : Fin 4} (i : Nat) (d : decode cc pc = .ok (.aload_n q, 1)) (hi : (q : Nat) = i) (hl : L[i]? = some (some (aX y))) (kk : V x n k z (pc + 1) L (aX y :: S) μ) : V x n k z pc L S μ := by
  obtain ⟨p, l, e, R, s, m, args, below, meth, c, Q, nL, H0, b, D, K⟩ := x
  intro hM hS hL H locs ls hlo hH hF
  obtain ⟨hx, hb, hml, hts, hown, hK, hlk, hRm⟩ := hC
  exact lv_aload_n hx hb d hi (hlo.2.2.2 i _ hl) (kk hM (OkV.cons (okl_v (hL.at hl)) hS) hL H locs ls hlo hH hF)
theorem v_aloadX (hC : Ctx x own cc rm) {y : Nat} {i : Nat} (d : decode cc pc = .ok (.aload i, 2)) (hl : L[i]? = some (some (aX y))) (kk : V x n k z (pc + 2) L (aX y :: S) μ) : V x n k z pc L S μ := by
  obtain ⟨p, l, e, R, s, m, args, below, meth, c, Q, nL, H0, b, D, K⟩ := x
  intro hM hS hL H locs ls hlo hH hF
  obtain ⟨hx, hb, hml, hts, hown, hK, hlk, hRm⟩ := hC
  exact lv_aload hx hb d (hlo.2.2.2 i _ hl) (kk hM (OkV.cons (okl_v (hL.at hl)) hS) hL H locs ls hlo hH hF)
theorem OkV_l {v : AV} (h : okv v) (hc : ∀ y, v ≠ aL y) : okl v := by
  obtain x | r | x | a := v
  · exact h
  · exact h
  · exact absurd rfl (hc x)
  · exact h
theorem v_istore_n (hC : Ctx x own cc rm) {y : Int} {q : Fin 4} (i : Nat) (d : decode cc pc = .ok (.istore_n q, 1)) (hi : (q : Nat) = i) (hn : i < L.length) (kk : V x n k z (pc + 1) (L.set i (some (aI y))) S μ) : V x n k z pc L (aI y :: S) μ := by
  obtain ⟨p, l, e, R, s, m, args, below, meth, c, Q, nL, H0, b, D, K⟩ := x
  intro hM hS hL H locs ls hlo hH hF
  obtain ⟨hx, hb, hml, hts, hown, hK, hlk, hRm⟩ := hC
  exact lv_istore_n hx hb d hi hlo.has (Nat.lt_of_lt_of_eq hn hlo.2.2.1) rfl (fun ls' h' => kk hM hS.tl (hL.set (OkV_l hS.hd (fun _ q => by cases q))) H locs ls' (lo.stored hL hlo.2.2.1 h') hH hF)
theorem v_istore (hC : Ctx x own cc rm) {y : Int} {i : Nat} (d : decode cc pc = .ok (.istore i, 2)) (hn : i < L.length) (kk : V x n k z (pc + 2) (L.set i (some (aI y))) S μ) : V x n k z pc L (aI y :: S) μ := by
  obtain ⟨p, l, e, R, s, m, args, below, meth, c, Q, nL, H0, b, D, K⟩ := x
  intro hM hS hL H locs ls hlo hH hF
  obtain ⟨hx, hb, hml, hts, hown, hK, hlk, hRm⟩ := hC
  exact lv_istore hx hb d hlo.has (Nat.lt_of_lt_of_eq hn hlo.2.2.1) rfl (fun ls' h' => kk hM hS.tl (hL.set (OkV_l hS.hd (fun _ q => by cases q))) H locs ls' (lo.stored hL hlo.2.2.1 h') hH hF)
theorem v_astore_n (hC : Ctx x own cc rm) {y1 y2 : Nat} {q : Fin 4} (i : Nat) (d : decode cc pc = .ok (.astore_n q, 1)) (hi : (q : Nat) = i) (hn : i < L.length) (kk : V x n k z (pc + 1) (L.set i (some (aR y1 y2))) S μ) : V x n k z pc L (aR y1 y2 :: S) μ := by
  obtain ⟨p, l, e, R, s, m, args, below, meth, c, Q, nL, H0, b, D, K⟩ := x
  intro hM hS hL H locs ls hlo hH hF
  obtain ⟨hx, hb, hml, hts, hown, hK, hlk, hRm⟩ := hC
  exact lv_astore_n hx hb d hi hlo.has (Nat.lt_of_lt_of_eq hn hlo.2.2.1) rfl (fun ls' h' => kk hM hS.tl (hL.set (OkV_l hS.hd (fun _ q => by cases q))) H locs ls' (lo.stored hL hlo.2.2.1 h') hH hF)
theorem v_astore (hC : Ctx x own cc rm) {y1 y2 : Nat} {i : Nat} (d : decode cc pc = .ok (.astore i, 2)) (hn : i < L.length) (kk : V x n k z (pc + 2) (L.set i (some (aR y1 y2))) S μ) : V x n k z pc L (aR y1 y2 :: S) μ := by
  obtain ⟨p, l, e, R, s, m, args, below, meth, c, Q, nL, H0, b, D, K⟩ := x
  intro hM hS hL H locs ls hlo hH hF
  obtain ⟨hx, hb, hml, hts, hown, hK, hlk, hRm⟩ := hC
  exact lv_astore hx hb d hlo.has (Nat.lt_of_lt_of_eq hn hlo.2.2.1) rfl (fun ls' h' => kk hM hS.tl (hL.set (OkV_l hS.hd (fun _ q => by cases q))) H locs ls' (lo.stored hL hlo.2.2.1 h') hH hF)
theorem v_astoreX_n (hC : Ctx x own cc rm) {y : Nat} {q : Fin 4} (i : Nat) (d : decode cc pc = .ok (.astore_n q, 1)) (hi : (q : Nat) = i) (hn : i < L.length) (kk : V x n k z (pc + 1) (L.set i (some (aX y))) S μ) : V x n k z pc L (aX y :: S) μ := by
  obtain ⟨p, l, e, R, s, m, args, below, meth, c, Q, nL, H0, b, D, K⟩ := x
  intro hM hS hL H locs ls hlo hH hF
  obtain ⟨hx, hb, hml, hts, hown, hK, hlk, hRm⟩ := hC
  exact lv_astore_n hx hb d hi hlo.has (Nat.lt_of_lt_of_eq hn hlo.2.2.1) rfl (fun ls' h' => kk hM hS.tl (hL.set (OkV_l hS.hd (fun _ q => by cases q))) H locs ls' (lo.stored hL hlo.2.2.1 h') hH hF)
theorem v_astoreX (hC : Ctx x own cc rm) {y : Nat} {i : Nat} (d : decode cc pc = .ok (.astore i, 2)) (hn : i < L.length) (kk : V x n k z (pc + 2) (L.set i (some (aX y))) S μ) : V x n k z pc L (aX y :: S) μ := by
  obtain ⟨p, l, e, R, s, m, args, below, meth, c, Q, nL, H0, b, D, K⟩ := x
  intro hM hS hL H locs ls hlo hH hF
  obtain ⟨hx, hb, hml, hts, hown, hK, hlk, hRm⟩ := hC
  exact lv_astore hx hb d hlo.has (Nat.lt_of_lt_of_eq hn hlo.2.2.1) rfl (fun ls' h' => kk hM hS.tl (hL.set (OkV_l hS.hd (fun _ q => by cases q))) H locs ls' (lo.stored hL hlo.2.2.1 h') hH hF)
theorem v_iinc (hC : Ctx x own cc rm) {y w : Int} {i : Nat} (d : decode cc pc = .ok (.iinc i w, 3)) (hl : L[i]? = some (some (aI y))) (hr : inR (y + w)) (kk : V x n k z (pc + 3) (L.set i (some (aI (y + w)))) S μ) : V x n k z pc L S μ := by
  obtain ⟨p, l, e, R, s, m, args, below, meth, c, Q, nL, H0, b, D, K⟩ := x
  intro hM hS hL H locs ls hlo hH hF
  obtain ⟨hx, hb, hml, hts, hown, hK, hlk, hRm⟩ := hC
  obtain ⟨q, hq⟩ := List.getElem?_of_mem (toL_mem (b := b) hl)
  exact lv_iinc hx hb d hlo.has hq (Int32.ofInt_add y w).symm (Nat.lt_of_lt_of_eq (List.getElem?_eq_some_iff.mp hl).1 hlo.2.2.1) rfl (fun ls' h' => kk hM hS (hL.set hr) H locs ls' (lo.stored hL hlo.2.2.1 h') hH hF)
theorem v_iadd (hC : Ctx x own cc rm) {y w : Int} (d : decode cc pc = .ok (.iadd, 1)) (hr : inR (y + w)) (kk : V x n k z (pc + 1) L (aI (y + w) :: S) μ) : V x n k z pc L (aI w :: aI y :: S) μ := by
  obtain ⟨p, l, e, R, s, m, args, below, meth, c, Q, nL, H0, b, D, K⟩ := x
  intro hM hS hL H locs ls hlo hH hF
  obtain ⟨hx, hb, hml, hts, hown, hK, hlk, hRm⟩ := hC
  refine lv_iadd hx hb d ?_
  have h9 := kk hM (OkV.cons hr hS.tl.tl) hL H locs ls hlo hH hF
  rw [List.map_cons, show cv b (aI (y + w)) = .int (i32 y + i32 w) from congrArg Value.int (Int32.ofInt_add y w)] at h9
  exact h9
theorem v_isub (hC : Ctx x own cc rm) {y w : Int} (d : decode cc pc = .ok (.isub, 1)) (hr : inR (y - w)) (kk : V x n k z (pc + 1) L (aI (y - w) :: S) μ) : V x n k z pc L (aI w :: aI y :: S) μ := by
  obtain ⟨p, l, e, R, s, m, args, below, meth, c, Q, nL, H0, b, D, K⟩ := x
  intro hM hS hL H locs ls hlo hH hF
  obtain ⟨hx, hb, hml, hts, hown, hK, hlk, hRm⟩ := hC
  refine lv_isub hx hb d ?_
  have h9 := kk hM (OkV.cons hr hS.tl.tl) hL H locs ls hlo hH hF
  rw [List.map_cons, show cv b (aI (y - w)) = .int (i32 y - i32 w) from congrArg Value.int (Int32.ofInt_sub y w)] at h9
  exact h9
theorem v_imul (hC : Ctx x own cc rm) {y w : Int} (d : decode cc pc = .ok (.imul, 1)) (hr : inR (y * w)) (kk : V x n k z (pc + 1) L (aI (y * w) :: S) μ) : V x n k z pc L (aI w :: aI y :: S) μ := by
  obtain ⟨p, l, e, R, s, m, args, below, meth, c, Q, nL, H0, b, D, K⟩ := x
  intro hM hS hL H locs ls hlo hH hF
  obtain ⟨hx, hb, hml, hts, hown, hK, hlk, hRm⟩ := hC
  refine lv_imul hx hb d ?_
  have h9 := kk hM (OkV.cons hr hS.tl.tl) hL H locs ls hlo hH hF
  rw [List.map_cons, show cv b (aI (y * w)) = .int (i32 y * i32 w) from congrArg Value.int (Int32.ofInt_mul y w)] at h9
  exact h9
theorem v_iand (hC : Ctx x own cc rm) {y w : Int} (d : decode cc pc = .ok (.iand, 1)) (kk : V x n k z (pc + 1) L (aI (andI y w) :: S) μ) : V x n k z pc L (aI w :: aI y :: S) μ := by
  obtain ⟨p, l, e, R, s, m, args, below, meth, c, Q, nL, H0, b, D, K⟩ := x
  intro hM hS hL H locs ls hlo hH hF
  obtain ⟨hx, hb, hml, hts, hown, hK, hlk, hRm⟩ := hC
  refine lv_iand hx hb d ?_
  have h9 := kk hM (OkV.cons (andI_R y w) hS.tl.tl) hL H locs ls hlo hH hF
  rw [List.map_cons, show cv b (aI (andI y w)) = .int (i32 y &&& i32 w) from congrArg Value.int (i32_of _)] at h9
  exact h9
theorem v_dupR (hC : Ctx x own cc rm) {y1 y2 : Nat} (d : decode cc pc = .ok (.dup, 1)) (kk : V x n k z (pc + 1) L (aR y1 y2 :: aR y1 y2 :: S) μ) : V x n k z pc L (aR y1 y2 :: S) μ := by
  obtain ⟨p, l, e, R, s, m, args, below, meth, c, Q, nL, H0, b, D, K⟩ := x
  intro hM hS hL H locs ls hlo hH hF
  obtain ⟨hx, hb, hml, hts, hown, hK, hlk, hRm⟩ := hC
  exact lv_dup hx hb d rfl (kk hM (OkV.cons hS.hd hS) hL H locs ls hlo hH hF)
theorem v_dupI (hC : Ctx x own cc rm) {y : Int} (d : decode cc pc = .ok (.dup, 1)) (kk : V x n k z (pc + 1) L (aI y :: aI y :: S) μ) : V x n k z pc L (aI y :: S) μ := by
  obtain ⟨p, l, e, R, s, m, args, below, meth, c, Q, nL, H0, b, D, K⟩ := x
  intro hM hS hL H locs ls hlo hH hF
  obtain ⟨hx, hb, hml, hts, hown, hK, hlk, hRm⟩ := hC
  exact lv_dup hx hb d rfl (kk hM (OkV.cons hS.hd hS) hL H locs ls hlo hH hF)
theorem v_dup2 (hC : Ctx x own cc rm) {y : Int} {y1 y2 : Nat} (d : decode cc pc = .ok (.dup2, 1)) (kk : V x n k z (pc + 1) L (aI y :: aR y1 y2 :: aI y :: aR y1 y2 :: S) μ) : V x n k z pc L (aI y :: aR y1 y2 :: S) μ := by
  obtain ⟨p, l, e, R, s, m, args, below, meth, c, Q, nL, H0, b, D, K⟩ := x
  intro hM hS hL H locs ls hlo hH hF
  obtain ⟨hx, hb, hml, hts, hown, hK, hlk, hRm⟩ := hC
  exact lv_dup2_11 hx hb d rfl rfl (kk hM (OkV.cons hS.hd (OkV.cons hS.tl.hd hS)) hL H locs ls hlo hH hF)
theorem v_popI (hC : Ctx x own cc rm) {y : Int} (d : decode cc pc = .ok (.pop, 1)) (kk : V x n k z (pc + 1) L S μ) : V x n k z pc L (aI y :: S) μ := by
  obtain ⟨p, l, e, R, s, m, args, below, meth, c, Q, nL, H0, b, D, K⟩ := x
  intro hM hS hL H locs ls hlo hH hF
  obtain ⟨hx, hb, hml, hts, hown, hK, hlk, hRm⟩ := hC
  exact lv_pop hx hb d rfl (kk hM hS.tl hL H locs ls hlo hH hF)
theorem v_goto (hC : Ctx x own cc rm) {o : Int} (t : Nat) (d : decode cc pc = .ok (.goto o, 3)) (ht : (pc : Int) + o = (t : Int)) (kk : V x n k z t L S μ) : V x n k z pc L S μ := by
  obtain ⟨p, l, e, R, s, m, args, below, meth, c, Q, nL, H0, b, D, K⟩ := x
  intro hM hS hL H locs ls hlo hH hF
  obtain ⟨hx, hb, hml, hts, hown, hK, hlk, hRm⟩ := hC
  exact lv_goto hx hb d ht (kk hM hS hL H locs ls hlo hH hF)
theorem v_icmp_eq (hC : Ctx x own cc rm) {y w : Int} {o : Int} (t : Nat) (d : decode cc pc = .ok (.if_icmp .eq o, 3)) (ht : (pc : Int) + o = (t : Int)) (kt : (y = w) → V x n k z t L S μ) (kf : (¬ y = w) → V x n k z (pc + 3) L S μ) : V x n k z pc L (aI w :: aI y :: S) μ := by
  obtain ⟨p, l, e, R, s, m, args, below, meth, c, Q, nL, H0, b, D, K⟩ := x
  intro hM hS hL H locs ls hlo hH hF
  obtain ⟨hx, hb, hml, hts, hown, hK, hlk, hRm⟩ := hC
  have hw : inR w := hS.hd
  have hy : inR y := hS.tl.hd
  have HS := hS.tl.tl
  exact lv_icmp_eq hx hb d ht (fun h => kt ((i32_eq hy hw).1 h) hM HS hL H locs ls hlo hH hF) (fun h => kf (fun q => h ((i32_eq hy hw).2 q)) hM HS hL H locs ls hlo hH hF)
theorem v_if_eq (hC : Ctx x own cc rm) {y : Int} {o : Int} (t : Nat) (d : decode cc pc = .ok (.ifCond .eq o, 3)) (ht : (pc : Int) + o = (t : Int)) (kt : (y = 0) → V x n k z t L S μ) (kf : (¬ y = 0) → V x n k z (pc + 3) L S μ) : V x n k z pc L (aI y :: S) μ := by
  obtain ⟨p, l, e, R, s, m, args, below, meth, c, Q, nL, H0, b, D, K⟩ := x
  intro hM hS hL H locs ls hlo hH hF
  obtain ⟨hx, hb, hml, hts, hown, hK, hlk, hRm⟩ := hC
  have hw : inR 0 := inR0
  have hy : inR y := hS.hd
  have HS := hS.tl
  exact lv_if_eq hx hb d ht (fun h => kt ((i32_eq hy hw).1 h) hM HS hL H locs ls hlo hH hF) (fun h => kf (fun q => h ((i32_eq hy hw).2 q)) hM HS hL H locs ls hlo hH hF)
theorem v_icmp_ne (hC : Ctx x own cc rm) {y w : Int} {o : Int} (t : Nat) (d : decode cc pc = .ok (.if_icmp .ne o, 3)) (ht : (pc : Int) + o = (t : Int)) (kt : (¬ y = w) → V x n k z t L S μ) (kf : (y = w) → V x n k z (pc + 3) L S μ) : V x n k z pc L (aI w :: aI y :: S) μ := by
  obtain ⟨p, l, e, R, s, m, args, below, meth, c, Q, nL, H0, b, D, K⟩ := x
  intro hM hS hL H locs ls hlo hH hF
  obtain ⟨hx, hb, hml, hts, hown, hK, hlk, hRm⟩ := hC
  have hw : inR w := hS.hd
  have hy : inR y := hS.tl.hd
  have HS := hS.tl.tl
  exact lv_icmp_ne hx hb d ht (fun h => kt (fun q => h ((i32_eq hy hw).2 q)) hM HS hL H locs ls hlo hH hF) (fun h => kf ((i32_eq hy hw).1 h) hM HS hL H locs ls hlo hH hF)
theorem v_if_ne (hC : Ctx x own cc rm) {y : Int} {o : Int} (t : Nat) (d : decode cc pc = .ok (.ifCond .ne o, 3)) (ht : (pc : Int) + o = (t : Int)) (kt : (¬ y = 0) → V x n k z t L S μ) (kf : (y = 0) → V x n k z (pc + 3) L S μ) : V x n k z pc L (aI y :: S) μ := by
  obtain ⟨p, l, e, R, s, m, args, below, meth, c, Q, nL, H0, b, D, K⟩ := x
  intro hM hS hL H locs ls hlo hH hF
  obtain ⟨hx, hb, hml, hts, hown, hK, hlk, hRm⟩ := hC
  have hw : inR 0 := inR0
  have hy : inR y := hS.hd
  have HS := hS.tl
  exact lv_if_ne hx hb d ht (fun h => kt (fun q => h ((i32_eq hy hw).2 q)) hM HS hL H locs ls hlo hH hF) (fun h => kf ((i32_eq hy hw).1 h) hM HS hL H locs ls hlo hH hF)
theorem v_icmp_lt (hC : Ctx x own cc rm) {y w : Int} {o : Int} (t : Nat) (d : decode cc pc = .ok (.if_icmp .lt o, 3)) (ht : (pc : Int) + o = (t : Int)) (kt : (y < w) → V x n k z t L S μ) (kf : (¬ y < w) → V x n k z (pc + 3) L S μ) : V x n k z pc L (aI w :: aI y :: S) μ := by
  obtain ⟨p, l, e, R, s, m, args, below, meth, c, Q, nL, H0, b, D, K⟩ := x
  intro hM hS hL H locs ls hlo hH hF
  obtain ⟨hx, hb, hml, hts, hown, hK, hlk, hRm⟩ := hC
  have hw : inR w := hS.hd
  have hy : inR y := hS.tl.hd
  have HS := hS.tl.tl
  exact lv_icmp_lt hx hb d ht (fun h => kt ((i32_lt hy hw).1 h) hM HS hL H locs ls hlo hH hF) (fun h => kf (fun q => h ((i32_lt hy hw).2 q)) hM HS hL H locs ls hlo hH hF)
theorem v_if_lt (hC : Ctx x own cc rm) {y : Int} {o : Int} (t : Nat) (d : decode cc pc = .ok (.ifCond .lt o, 3)) (ht : (pc : Int) + o = (t : Int)) (kt : (y < 0) → V x n k z t L S μ) (kf : (¬ y < 0) → V x n k z (pc + 3) L S μ) : V x n k z pc L (aI y :: S) μ := by
  obtain ⟨p, l, e, R, s, m, args, below, meth, c, Q, nL, H0, b, D, K⟩ := x
  intro hM hS hL H locs ls hlo hH hF
  obtain ⟨hx, hb, hml, hts, hown, hK, hlk, hRm⟩ := hC
  have hw : inR 0 := inR0
  have hy : inR y := hS.hd
  have HS := hS.tl
  exact lv_if_lt hx hb d ht (fun h => kt ((i32_lt hy hw).1 h) hM HS hL H locs ls hlo hH hF) (fun h => kf (fun q => h ((i32_lt hy hw).2 q)) hM HS hL H locs ls hlo hH hF)
theorem v_icmp_ge (hC : Ctx x own cc rm) {y w : Int} {o : Int} (t : Nat) (d : decode cc pc = .ok (.if_icmp .ge o, 3)) (ht : (pc : Int) + o = (t : Int)) (kt : (w ≤ y) → V x n k z t L S μ) (kf : (¬ w ≤ y) → V x n k z (pc + 3) L S μ) : V x n k z pc L (aI w :: aI y :: S) μ := by
  obtain ⟨p, l, e, R, s, m, args, below, meth, c, Q, nL, H0, b, D, K⟩ := x
  intro hM hS hL H locs ls hlo hH hF
  obtain ⟨hx, hb, hml, hts, hown, hK, hlk, hRm⟩ := hC
  have hw : inR w := hS.hd
  have hy : inR y := hS.tl.hd
  have HS := hS.tl.tl
  exact lv_icmp_ge hx hb d ht (fun h => kt ((i32_le hw hy).1 h) hM HS hL H locs ls hlo hH hF) (fun h => kf (fun q => h ((i32_le hw hy).2 q)) hM HS hL H locs ls hlo hH hF)
theorem v_if_ge (hC : Ctx x own cc rm) {y : Int} {o : Int} (t : Nat) (d : decode cc pc = .ok (.ifCond .ge o, 3)) (ht : (pc : Int) + o = (t : Int)) (kt : (0 ≤ y) → V x n k z t L S μ) (kf : (¬ 0 ≤ y) → V x n k z (pc + 3) L S μ) : V x n k z pc L (aI y :: S) μ := by
  obtain ⟨p, l, e, R, s, m, args, below, meth, c, Q, nL, H0, b, D, K⟩ := x
  intro hM hS hL H locs ls hlo hH hF
  obtain ⟨hx, hb, hml, hts, hown, hK, hlk, hRm⟩ := hC
  have hw : inR 0 := inR0
  have hy : inR y := hS.hd
  have HS := hS.tl
  exact lv_if_ge hx hb d ht (fun h => kt ((i32_le hw hy).1 h) hM HS hL H locs ls hlo hH hF) (fun h => kf (fun q => h ((i32_le hw hy).2 q)) hM HS hL H locs ls hlo hH hF)
theorem v_icmp_gt (hC : Ctx x own cc rm) {y w : Int} {o : Int} (t : Nat) (d : decode cc pc = .ok (.if_icmp .gt o, 3)) (ht : (pc : Int) + o = (t : Int)) (kt : (w < y) → V x n k z t L S μ) (kf : (¬ w < y) → V x n k z (pc + 3) L S μ) : V x n k z pc L (aI w :: aI y :: S) μ := by
  obtain ⟨p, l, e, R, s, m, args, below, meth, c, Q, nL, H0, b, D, K⟩ := x
  intro hM hS hL H locs ls hlo hH hF
  obtain ⟨hx, hb, hml, hts, hown, hK, hlk, hRm⟩ := hC
  have hw : inR w := hS.hd
  have hy : inR y := hS.tl.hd
  have HS := hS.tl.tl
  exact lv_icmp_gt hx hb d ht (fun h => kt ((i32_lt hw hy).1 h) hM HS hL H locs ls hlo hH hF) (fun h => kf (fun q => h ((i32_lt hw hy).2 q)) hM HS hL H locs ls hlo hH hF)
theorem v_if_gt (hC : Ctx x own cc rm) {y : Int} {o : Int} (t : Nat) (d : decode cc pc = .ok (.ifCond .gt o, 3)) (ht : (pc : Int) + o = (t : Int)) (kt : (0 < y) → V x n k z t L S μ) (kf : (¬ 0 < y) → V x n k z (pc + 3) L S μ) : V x n k z pc L (aI y :: S) μ := by
  obtain ⟨p, l, e, R, s, m, args, below, meth, c, Q, nL, H0, b, D, K⟩ := x
  intro hM hS hL H locs ls hlo hH hF
  obtain ⟨hx, hb, hml, hts, hown, hK, hlk, hRm⟩ := hC
  have hw : inR 0 := inR0
  have hy : inR y := hS.hd
  have HS := hS.tl
  exact lv_if_gt hx hb d ht (fun h => kt ((i32_lt hw hy).1 h) hM HS hL H locs ls hlo hH hF) (fun h => kf (fun q => h ((i32_lt hw hy).2 q)) hM HS hL H locs ls hlo hH hF)
theorem v_icmp_le (hC : Ctx x own cc rm) {y w : Int} {o : Int} (t : Nat) (d : decode cc pc = .ok (.if_icmp .le o, 3)) (ht : (pc : Int) + o = (t : Int)) (kt : (y ≤ w) → V x n k z t L S μ) (kf : (¬ y ≤ w) → V x n k z (pc + 3) L S μ) : V x n k z pc L (aI w :: aI y :: S) μ := by
  obtain ⟨p, l, e, R, s, m, args, below, meth, c, Q, nL, H0, b, D, K⟩ := x
  intro hM hS hL H locs ls hlo hH hF
  obtain ⟨hx, hb, hml, hts, hown, hK, hlk, hRm⟩ := hC
  have hw : inR w := hS.hd
  have hy : inR y := hS.tl.hd
  have HS := hS.tl.tl
  exact lv_icmp_le hx hb d ht (fun h => kt ((i32_le hy hw).1 h) hM HS hL H locs ls hlo hH hF) (fun h => kf (fun q => h ((i32_le hy hw).2 q)) hM HS hL H locs ls hlo hH hF)
theorem v_if_le (hC : Ctx x own cc rm) {y : Int} {o : Int} (t : Nat) (d : decode cc pc = .ok (.ifCond .le o, 3)) (ht : (pc : Int) + o = (t : Int)) (kt : (y ≤ 0) → V x n k z t L S μ) (kf : (¬ y ≤ 0) → V x n k z (pc + 3) L S μ) : V x n k z pc L (aI y :: S) μ := by
  obtain ⟨p, l, e, R, s, m, args, below, meth, c, Q, nL, H0, b, D, K⟩ := x
  intro hM hS hL H locs ls hlo hH hF
  obtain ⟨hx, hb, hml, hts, hown, hK, hlk, hRm⟩ := hC
  have hw : inR 0 := inR0
  have hy : inR y := hS.hd
  have HS := hS.tl
  exact lv_if_le hx hb d ht (fun h => kt ((i32_le hy hw).1 h) hM HS hL H locs ls hlo hH hF) (fun h => kf (fun q => h ((i32_le hy hw).2 q)) hM HS hL H locs ls hlo hH hF)
theorem v_tsw (hC : Ctx x own cc rm) {dflt lo' hi : Int} {offs : Array Int} {len : Nat} {y : Int} (d : decode cc pc = .ok (.tableswitch dflt lo' hi offs, len)) (td : Nat) (htd : (pc : Int) + dflt = (td : Int)) (tg : Nat → Nat) (htg : ∀ j, j < offs.size → ∃ o, offs[j]? = some o ∧ (pc : Int) + o = (tg j : Int)) (hsz : (offs.size : Int) = hi - lo' + 1)
    (kd : (y < lo' ∨ hi < y) → V x n k z td L S μ) (kk : ∀ j : Nat, j < offs.size → y = lo' + (j : Int) → V x n k z (tg j) L S μ) : V x n k z pc L (aI y :: S) μ := by
  obtain ⟨p, l, e, R, s, m, args, below, meth, c, Q, nL, H0, b, D, K⟩ := x
  intro hM hS hL H locs ls hlo hH hF
  obtain ⟨hx, hb, hml, hts, hown, hK, hlk, hRm⟩ := hC
  have hy : inR y := hS.hd
  by_cases h1 : y < lo' ∨ hi < y
  · exact lv_tableOut hx hb d (by rw [i32_toInt hy]; exact h1) htd (kd h1 hM hS.tl hL H locs ls hlo hH hF)
  · obtain ⟨o, ho, hto⟩ := htg (y - lo').toNat (by omega)
    refine lv_tableIn hx hb d (by rw [i32_toInt hy]; omega) (by rw [i32_toInt hy]; omega) (by rw [i32_toInt hy]; exact ho) hto (kk (y - lo').toNat (by omega) (by omega) hM hS.tl hL H locs ls hlo hH hF)
end VR
end
section
/-! Rows of fields and arrays, of returns, of calls. -/
def FO (own : String) (idx ci kf : Nat) : Prop := ∃ (C : String) (T : u_T) (N : Nat), wCl[ci]? = some (C, T, N) ∧ (∀ w ∈ u_ws C T N, w ∈ wG) ∧ kf < N ∧ Cond.fieldLink own idx (T kf).1 (T kf).2.1 (T kf).2.2.1 ∈ wG
def FOw (own : String) (idx ci kf : Nat) (ty : FieldType) : Prop := ∃ (C : String) (T : u_T) (N : Nat) (ty0 : Nat → FieldType), wCl[ci]? = some (C, T, N) ∧ (∀ w ∈ u_ws C T N, w ∈ wG) ∧ (∀ k, k < N → parseFieldDescriptor (T k).2.2.1 = some (ty0 k)) ∧ (∀ a, a < N → ∀ b, b < N → a ≠ b → (T a).2.1 ≠ (T b).2.1) ∧ kf < N ∧ Cond.fieldLink own idx (T kf).1 (T kf).2.1 (T kf).2.2.1 ∈ wG ∧ (T kf).2.2.2 = false ∧ ty0 kf = ty
/-- the cell is there -/
abbrev Pres (z : Option Nat) (c i : Nat) : Prop := ∀ w, z = some w → off c i < w
theorem pres0 {c i : Nat} : Pres none c i := fun w h => by cases h
theorem Hp.at {z : Option Nat} {b : Nat} {D : va_G} {K : Nat → ClassId} {μ : MU} {H : Heap} {c i : Nat} (h : Hp z b D K μ H) (hi : i < vdn c) (hp : ∀ w, z = some w → off c i < w) : lay b c i < H.size ∧ holds b D K μ H c i := by
  have hl : lay b c i < H.size := by
    cases z with
    | none => exact h.2.lt rfl hi
    | some w => have h2 : H.size = b + w := h.2; have := hp w rfl; show b + off c i < H.size; omega
  exact ⟨hl, h.1 c i hi hl⟩
theorem holds_obj {b : Nat} {D : va_G} {K : Nat → ClassId} {μ : MU} {H : Heap} {c i ci : Nat} {fds : List FD} (hcd : cellD c i = .inl (ci, fds)) : holds b D K μ H c i ↔ ∃ r : vw_C, wCl[ci]? = some r ∧ t_OB (lay b c i) (D.1 ci) r.2.2 (D.2 ci) H (vp_V (fds.map (vOf b μ))) := by
  unfold holds
  simp only [hcd]
theorem holds_arr {b : Nat} {D : va_G} {K : Nat → ClassId} {μ : MU} {H : Heap} {c i t n : Nat} {el : Nat → FD} (hcd : cellD c i = .inr (t, n, el)) : holds b D K μ H c i ↔ H[lay b c i]? = some (arrV (K t) n (fun j => vOf b μ (el j))) := by
  unfold holds
  simp only [hcd]
theorem plc_obj {c i ci : Nat} {fds : List FD} (hcd : cellD c i = .inl (ci, fds)) (k : Nat) : plc c i k = fds[k]? := by
  unfold plc
  simp only [hcd]
theorem plc_arr {c i t n : Nat} {el : Nat → FD} (hcd : cellD c i = .inr (t, n, el)) {k : Nat} (hk : k < n) : plc c i k = some (el k) := by
  unfold plc
  simp only [hcd, if_pos hk]
theorem map_up {b : Nat} {μ : MU} {c i ci kf f j : Nat} {fds : List FD} {d : FD} {v : Int} (hi : i < vdn c) (hcd : cellD c i = .inl (ci, fds)) (hfd : fds[kf]? = some d) (hd : fdLoc d = (f, j)) : fds.map (vOf b (upM μ f j v)) = (fds.map (vOf b μ)).set kf (vOf b (upM μ f j v) d) := by
  refine List.ext_getElem? fun t => ?_
  by_cases ht : t = kf
  · subst ht
    rw [List.getElem?_set_self (by rw [List.length_map]; exact (List.getElem?_eq_some_iff.mp hfd).1), List.getElem?_map, hfd]
    rfl
  · rw [List.getElem?_set_ne (Ne.symm ht), List.getElem?_map, List.getElem?_map]
    cases hq : fds[t]? with
    | none => rfl
    | some d' =>
      refine congrArg some (vOf_up fun q => ht ?_)
      have e1 := own3_ok hi ((plc_obj hcd kf).trans hfd)
      have e2 := own3_ok hi ((plc_obj hcd t).trans hq)
      rw [q] at e2
      rw [hd] at e1
      have e3 := e2.symm.trans e1
      cases e3
      rfl
theorem arr_up {b : Nat} {μ : MU} {c i t n f j kx : Nat} {el : Nat → FD} {v : Int} {cA : ClassId} (hi : i < vdn c) (hcd : cellD c i = .inr (t, n, el)) (hk : kx < n) (hd : fdLoc (el kx) = (f, j)) : (arrV cA n (fun j' => vOf b μ (el j'))).setSlot kx (vOf b (upM μ f j v) (el kx)) = arrV cA n (fun j' => vOf b (upM μ f j v) (el j')) := by
  rw [arrV_store]
  refine arrV_congr fun t' ht' => ?_
  unfold updV
  by_cases q : t' = kx
  · rw [if_pos q, q]
  · rw [if_neg q]
    refine (vOf_up fun q2 => q ?_).symm
    have e1 := own3_ok hi (plc_arr hcd hk)
    have e2 := own3_ok hi (plc_arr hcd ht')
    rw [q2] at e2
    rw [hd] at e1
    have e3 := e2.symm.trans e1
    cases e3
    rfl
theorem Md.up {z : Option Nat} {b : Nat} {μ : MU} {H H1 : Heap} {f j : Nat} {v : Int} (h : Md z b μ H) (hf : z = none → f < 100) (hz : H1.size = H.size) : Md z b (upM μ f j v) H1 := by
  cases z with
  | none => exact ⟨fun g k' hg => by rw [upM_nef (by have := hf rfl; omega)]; exact h.1 g k' hg, by rw [hz]; exact h.2⟩
  | some w => exact hz.trans h
section VF
variable {x : MC} {n k : Nat} {z : Option Nat} {pc : Nat} {L : List (Option AV)} {S : List AV} {μ : MU} {own : String} {cc : ByteArray} {rm : Room}

theorem v_getI' (hC : Ctx x own cc rm) {c i ci kf idx f j : Nat} {fds : List FD} {N : Nat} (hN : vdn c = N) (hi : i < N) (hp : Pres z c i) (hcd : cellD c i = .inl (ci, fds)) (hfd : fds[kf]? = some (fI f j)) (hFO : FO own idx ci kf) (d : decode cc pc = .ok (.getfield idx, 3)) (kk : V x n k z (pc + 3) L (aI (μ f j) :: S) μ) : V x n k z pc L (aR c i :: S) μ := by
  obtain ⟨p, l, e, R, s, m, args, below, meth, c0, Q, nL, H0, b, D, K⟩ := x
  intro hM hS hL H locs ls hlo hH hF
  obtain ⟨hx, hb, hml, hts, hown, hK, hlk, hRm⟩ := hC
  subst hN
  have hh := (holds_obj hcd).1 (hH.at hi hp).2
  obtain ⟨C, T, N, h1, h2, h3, h4⟩ := hFO
  exact va_get (D := D) (tys := tysK K) (v := .int (i32 (μ f j))) hx hb hts h2 hown hK (va_P1 (q := (lay b c i, .inr (ci, fds.map (vOf b μ)))) hh) 0 rfl h1 kf h3 (hts _ h4) (fun _ h => h) (by rw [List.getElem?_map, hfd]; rfl) d (kk hM (OkV.cons (hM f j) hS.tl) hL H locs ls hlo hH hF)
theorem v_getR' (hC : Ctx x own cc rm) {c i ci kf idx f j c' i' : Nat} {fds : List FD} {N : Nat} (hN : vdn c = N) (hi : i < N) (hp : Pres z c i) (hcd : cellD c i = .inl (ci, fds)) (hfd : fds[kf]? = some (fR c' i' f j)) (hfl : z = none → 100 ≤ f) (hfl2 : z ≠ none → μ f j ≠ 0) (hFO : FO own idx ci kf) (d : decode cc pc = .ok (.getfield idx, 3)) (kk : V x n k z (pc + 3) L (aR c' i' :: S) μ) : V x n k z pc L (aR c i :: S) μ := by
  obtain ⟨p, l, e, R, s, m, args, below, meth, c0, Q, nL, H0, b, D, K⟩ := x
  intro hM hS hL H locs ls hlo hH hF
  obtain ⟨hx, hb, hml, hts, hown, hK, hlk, hRm⟩ := hC
  subst hN
  have hh := (holds_obj hcd).1 (hH.at hi hp).2
  obtain ⟨C, T, N, h1, h2, h3, h4⟩ := hFO
  have h9 : μ f j ≠ 0 := by
    cases z with
    | none => rw [hH.2.1 f j (hfl rfl)]; decide
    | some w => exact hfl2 (fun q => by cases q)
  exact va_get (D := D) (tys := tysK K) (v := .ref (lay b c' i')) hx hb hts h2 hown hK (va_P1 (q := (lay b c i, .inr (ci, fds.map (vOf b μ)))) hh) 0 rfl h1 kf h3 (hts _ h4) (fun _ h => h) (by rw [List.getElem?_map, hfd]; exact congrArg some (if_neg h9)) d (kk hM (OkV.cons trivial hS.tl) hL H locs ls hlo hH hF)
theorem v_put' (hC : Ctx x own cc rm) {c i ci kf idx f j : Nat} {fds : List FD} {N : Nat} {v : Int} {ty : FieldType} (hN : vdn c = N) (hi : i < N) (hp : Pres z c i) (hcd : cellD c i = .inl (ci, fds)) (hfd : fds[kf]? = some (fI f j)) (hf : z = none → f < 100) (hFO : FOw own idx ci kf ty) (hn : narrow ty (.int (i32 v)) = .int (i32 v)) (hfit : fits ty (.int (i32 v)) = true) (d : decode cc pc = .ok (.putfield idx, 3)) (kk : V x n k z (pc + 3) L S (upM μ f j v)) : V x n k z pc L (aI v :: aR c i :: S) μ := by
  obtain ⟨p, l, e, R, s, m, args, below, meth, c0, Q, nL, H0, b, D, K⟩ := x
  intro hM hS hL H locs ls hlo hH hF
  obtain ⟨hx, hb, hml, hts, hown, hK, hlk, hRm⟩ := hC
  subst hN
  obtain ⟨C, T, N, ty0, h1, h2, hty, hnm, h3, h4, hfin, htyk⟩ := hFO
  obtain ⟨r, hr, hob⟩ := (holds_obj hcd).1 (hH.at hi hp).2
  have hr' : r = (C, T, N) := Option.some.inj (hr.symm.trans h1)
  subst hr'
  have hap := va_apart (own := own) hts h2 ty0 hty hnm hK h1
  obtain ⟨cell, q1, q2, q3, q4⟩ := hob
  obtain ⟨hSl, hfc, kC, hkC, hkind⟩ := hK.1 ci _ h1
  obtain ⟨cf, kf', fi, fl, hi', hsl⟩ := hSl kf h3
  have hlay := hts _ (h2 _ (u_in_lay h3))
  unfold u_lay at hlay
  rw [if_neg (by rw [hfin]; decide)] at hlay
  have hst := (u_facts hfc hkC (u_lays hts h2 h3) hi').1
  have h6 := u_store (v := .int (i32 v)) hfc hkC hkind hlay hi' (ty := ty) (by rw [hty kf h3, htyk]) hn hfit
  refine W.putK hx hb (f := fl) ⟨hown, hts _ h4, ⟨_, _, _, hi'⟩, hst⟩ (by rw [q2]; exact h6) q1 q3 (by rw [hsl]; exact k2_hasslot (q4 kf h3)) rfl rfl d fun H' e1 e2 e3 => ?_
  rw [hsl] at e1 ⊢
  have hlen : kf < (fds.map (vOf b μ)).length := by rw [List.length_map]; exact (List.getElem?_eq_some_iff.mp hfd).1
  have hob2 : t_OB (lay b c i) (D.1 ci) N (D.2 ci) H' (vp_V ((fds.map (vOf b μ)).set kf (.int (i32 v)))) := t_OB.to (V := updV (vp_V (fds.map (vOf b μ))) kf (.int (i32 v))) ⟨_, e1, q2, q3, t_set q4 hap h3 _⟩ (fun j' _ => vp_updV_set hlen _ j')
  have hm := map_up (b := b) (μ := μ) (v := v) hi hcd hfd rfl
  rw [show vOf b (upM μ f j v) (fI f j) = .int (i32 v) from congrArg (fun y => Value.int (i32 y)) (upM_at μ f j v)] at hm
  rw [← hm] at hob2
  exact kk (hM.up hS.hd) hS.tl.tl hL H' _ ls hlo ⟨hH.1.put hi ((plc_obj hcd kf).trans hfd) rfl e2 e3 ((holds_obj hcd).2 ⟨_, h1, hob2⟩), hH.2.up hf e2⟩ (hF.put e2 e3 (Nat.le_add_right b _))
theorem v_getI (hC : Ctx x own cc rm) {c i ci kf idx f j : Nat} {fds : List FD} {N : Nat} (hFO : FO own idx ci kf) (d : decode cc pc = .ok (.getfield idx, 3)) (hN : vdn c = N) (hcd : cellD c i = .inl (ci, fds)) (hfd : fds[kf]? = some (fI f j)) (hi : i < N) (kk : V x n k none (pc + 3) L (aI (μ f j) :: S) μ) : V x n k none pc L (aR c i :: S) μ := v_getI' hC hN hi pres0 hcd hfd hFO d kk
theorem v_getR (hC : Ctx x own cc rm) {c i ci kf idx f j c' i' : Nat} {fds : List FD} {N : Nat} (hFO : FO own idx ci kf) (d : decode cc pc = .ok (.getfield idx, 3)) (hN : vdn c = N) (hcd : cellD c i = .inl (ci, fds)) (hfd : fds[kf]? = some (fR c' i' f j)) (hfl : 100 ≤ f) (hi : i < N) (kk : V x n k none (pc + 3) L (aR c' i' :: S) μ) : V x n k none pc L (aR c i :: S) μ := v_getR' hC hN hi pres0 hcd hfd (fun _ => hfl) (fun q => absurd rfl q) hFO d kk
theorem v_putI (hC : Ctx x own cc rm) {c i ci kf idx f j : Nat} {fds : List FD} {N : Nat} {v : Int} (hFO : FOw own idx ci kf .int) (d : decode cc pc = .ok (.putfield idx, 3)) (hN : vdn c = N) (hcd : cellD c i = .inl (ci, fds)) (hfd : fds[kf]? = some (fI f j)) (hf : f < 100) (hi : i < N) (kk : V x n k none (pc + 3) L S (upM μ f j v)) : V x n k none pc L (aI v :: aR c i :: S) μ := v_put' hC hN hi pres0 hcd hfd (fun _ => hf) hFO rfl rfl d kk
theorem bool_n {v : Int} (h : v = 0 ∨ v = 1) : narrow .boolean (.int (i32 v)) = .int (i32 v) ∧ fits .boolean (.int (i32 v)) = true := by
  rcases h with rfl | rfl <;> decide
theorem v_putZ (hC : Ctx x own cc rm) {c i ci kf idx f j : Nat} {fds : List FD} {N : Nat} {v : Int} (hFO : FOw own idx ci kf .boolean) (d : decode cc pc = .ok (.putfield idx, 3)) (hN : vdn c = N) (hcd : cellD c i = .inl (ci, fds)) (hfd : fds[kf]? = some (fI f j)) (hf : f < 100) (hi : i < N) (hv : v = 0 ∨ v = 1) (kk : V x n k none (pc + 3) L S (upM μ f j v)) : V x n k none pc L (aI v :: aR c i :: S) μ := v_put' hC hN hi pres0 hcd hfd (fun _ => hf) hFO (bool_n hv).1 (bool_n hv).2 d kk
theorem ix_in {y : Int} {N : Nat} {cA : ClassId} {g : Nat → Value} (hy : inR y) (h : 0 ≤ y ∧ y < (N : Int)) : ¬ (i32 y < 0 ∨ (arrV cA N g).slots.size ≤ (i32 y).toNatClampNeg) := by
  rw [arrV_size, i32_clamp hy]
  rintro (q | q)
  · have := (i32_lt hy inR0).1 q
    omega
  · omega
theorem ix_at {y : Int} {N : Nat} {cA : ClassId} {g : Nat → Value} {v : Value} (hy : inR y) (h : 0 ≤ y ∧ y < (N : Int)) (hv : g y.toNat = v) : (arrV cA N g).slots[(i32 y).toNatClampNeg]? = some v := by
  rw [i32_clamp hy, arrV_read _ _ (by omega), hv]
theorem v_iald' (hC : Ctx x own cc rm) {c i f j : Nat} {y : Int} {el : Nat → FD} {N len : Nat} (hN : vdn c = N) (hi : i < N) (hp : Pres z c i) (hcd : cellD c i = .inr (0, len, el)) (hel : el y.toNat = fI f j) (hy : 0 ≤ y ∧ y < (len : Int)) (d : decode cc pc = .ok (.iaload, 1)) (kk : V x n k z (pc + 1) L (aI (μ f j) :: S) μ) : V x n k z pc L (aI y :: aR c i :: S) μ := by
  obtain ⟨p, l, e, R, s, m, args, below, meth, c0, Q, nL, H0, b, D, K⟩ := x
  intro hM hS hL H locs ls hlo hH hF
  obtain ⟨hx, hb, hml, hts, hown, hK, hlk, hRm⟩ := hC
  subst hN
  have hh := (holds_arr hcd).1 (hH.at hi hp).2
  have hyR : inR y := hS.hd
  exact W.iald (v := .int (i32 (μ f j))) hx hb hh ((hK.2 0 _ rfl).1 len _) (fun q => by cases q) (ix_in hyR hy) (ix_at hyR hy (by rw [hel]; rfl)) rfl rfl d (kk hM (OkV.cons (hM f j) hS.tl.tl) hL H locs ls hlo hH hF)
theorem v_iald (hC : Ctx x own cc rm) {c i f j : Nat} {y : Int} {el : Nat → FD} {N len : Nat} (d : decode cc pc = .ok (.iaload, 1)) (hN : vdn c = N) (hcd : cellD c i = .inr (0, len, el)) (hel : el y.toNat = fI f j) (hi : i < N) (hy : 0 ≤ y ∧ y < (len : Int)) (kk : V x n k none (pc + 1) L (aI (μ f j) :: S) μ) : V x n k none pc L (aI y :: aR c i :: S) μ := v_iald' hC hN hi pres0 hcd hel hy d kk
theorem v_zald' (hC : Ctx x own cc rm) {c i f j : Nat} {y : Int} {el : Nat → FD} {N len : Nat} (hN : vdn c = N) (hi : i < N) (hp : Pres z c i) (hcd : cellD c i = .inr (1, len, el)) (hel : el y.toNat = fI f j) (hy : 0 ≤ y ∧ y < (len : Int)) (d : decode cc pc = .ok (.baload, 1)) (kk : V x n k z (pc + 1) L (aI (μ f j) :: S) μ) : V x n k z pc L (aI y :: aR c i :: S) μ := by
  obtain ⟨p, l, e, R, s, m, args, below, meth, c0, Q, nL, H0, b, D, K⟩ := x
  intro hM hS hL H locs ls hlo hH hF
  obtain ⟨hx, hb, hml, hts, hown, hK, hlk, hRm⟩ := hC
  subst hN
  have hh := (holds_arr hcd).1 (hH.at hi hp).2
  have hyR : inR y := hS.hd
  exact W.zald (v := .int (i32 (μ f j))) hx hb hh ((hK.2 1 _ rfl).1 len _) (fun q => by cases q) (ix_in hyR hy) (ix_at hyR hy (by rw [hel]; rfl)) rfl rfl d (kk hM (OkV.cons (hM f j) hS.tl.tl) hL H locs ls hlo hH hF)
theorem v_zald (hC : Ctx x own cc rm) {c i f j : Nat} {y : Int} {el : Nat → FD} {N len : Nat} (d : decode cc pc = .ok (.baload, 1)) (hN : vdn c = N) (hcd : cellD c i = .inr (1, len, el)) (hel : el y.toNat = fI f j) (hi : i < N) (hy : 0 ≤ y ∧ y < (len : Int)) (kk : V x n k none (pc + 1) L (aI (μ f j) :: S) μ) : V x n k none pc L (aI y :: aR c i :: S) μ := v_zald' hC hN hi pres0 hcd hel hy d kk
theorem v_aald' (hC : Ctx x own cc rm) {c i f j c' i' t : Nat} {y : Int} {el : Nat → FD} {N len : Nat} {C : String} (hN : vdn c = N) (hi : i < N) (hp : Pres z c i) (hcd : cellD c i = .inr (t, len, el)) (ht : ∀ K, (tysK K)[t]? = some (K t, .object C)) (hel : el y.toNat = fR c' i' f j) (hfl : z = none → 100 ≤ f) (hfl2 : z ≠ none → μ f j ≠ 0) (hy : 0 ≤ y ∧ y < (len : Int)) (d : decode cc pc = .ok (.aaload, 1)) (kk : V x n k z (pc + 1) L (aR c' i' :: S) μ) : V x n k z pc L (aI y :: aR c i :: S) μ := by
  obtain ⟨p, l, e, R, s, m, args, below, meth, c0, Q, nL, H0, b, D, K⟩ := x
  intro hM hS hL H locs ls hlo hH hF
  obtain ⟨hx, hb, hml, hts, hown, hK, hlk, hRm⟩ := hC
  subst hN
  have hh := (holds_arr hcd).1 (hH.at hi hp).2
  have hyR : inR y := hS.hd
  have h9 : μ f j ≠ 0 := by
    cases z with
    | none => rw [hH.2.1 f j (hfl rfl)]; decide
    | some w => exact hfl2 (fun q => by cases q)
  exact W.aald (v := .ref (lay b c' i')) (ty := .object C) hx hb hh ((hK.2 t _ (ht K)).1 len _) rfl (fun q => by cases q) (ix_in hyR hy) (ix_at hyR hy (by rw [hel]; exact if_neg h9)) rfl rfl d (kk hM (OkV.cons trivial hS.tl.tl) hL H locs ls hlo hH hF)
theorem v_aald (hC : Ctx x own cc rm) {c i f j c' i' t : Nat} {y : Int} {el : Nat → FD} {N len : Nat} {C : String} (d : decode cc pc = .ok (.aaload, 1)) (hN : vdn c = N) (hcd : cellD c i = .inr (t, len, el)) (ht : ∀ K, (tysK K)[t]? = some (K t, .object C)) (hel : el y.toNat = fR c' i' f j) (hfl : 100 ≤ f) (hi : i < N) (hy : 0 ≤ y ∧ y < (len : Int)) (kk : V x n k none (pc + 1) L (aR c' i' :: S) μ) : V x n k none pc L (aI y :: aR c i :: S) μ := v_aald' hC hN hi pres0 hcd ht hel (fun _ => hfl) (fun q => absurd rfl q) hy d kk
theorem v_iast' (hC : Ctx x own cc rm) {c i f j : Nat} {y v : Int} {el : Nat → FD} {N len : Nat} (hN : vdn c = N) (hi : i < N) (hp : Pres z c i) (hcd : cellD c i = .inr (0, len, el)) (hel : el y.toNat = fI f j) (hf : z = none → f < 100) (hy : 0 ≤ y ∧ y < (len : Int)) (d : decode cc pc = .ok (.iastore, 1)) (kk : V x n k z (pc + 1) L S (upM μ f j v)) : V x n k z pc L (aI v :: aI y :: aR c i :: S) μ := by
  obtain ⟨p, l, e, R, s, m, args, below, meth, c0, Q, nL, H0, b, D, K⟩ := x
  intro hM hS hL H locs ls hlo hH hF
  obtain ⟨hx, hb, hml, hts, hown, hK, hlk, hRm⟩ := hC
  subst hN
  have hh := (holds_arr hcd).1 (hH.at hi hp).2
  have hyR : inR y := hS.tl.hd
  have hk : y.toNat < len := by omega
  refine W.iast hx hb hh ((hK.2 0 _ rfl).1 len _) (fun q => by cases q) (ix_in hyR hy) rfl rfl d fun H' e1 e2 e3 => ?_
  rw [i32_clamp hyR] at e1 ⊢
  have hu := arr_up (b := b) (μ := μ) (v := v) (cA := K 0) hi hcd hk (by rw [hel]; rfl : fdLoc (el y.toNat) = (f, j))
  rw [hel, show vOf b (upM μ f j v) (fI f j) = .int (i32 v) from congrArg (fun y => Value.int (i32 y)) (upM_at μ f j v)] at hu
  rw [hu] at e1
  exact kk (hM.up hS.hd) hS.tl.tl.tl hL H' _ ls hlo ⟨hH.1.put hi (plc_arr hcd hk) (by rw [hel]; rfl) e2 e3 ((holds_arr hcd).2 e1), hH.2.up hf e2⟩ (hF.put e2 e3 (Nat.le_add_right b _))
theorem v_iast (hC : Ctx x own cc rm) {c i f j : Nat} {y v : Int} {el : Nat → FD} {N len : Nat} (d : decode cc pc = .ok (.iastore, 1)) (hN : vdn c = N) (hcd : cellD c i = .inr (0, len, el)) (hel : el y.toNat = fI f j) (hf : f < 100) (hi : i < N) (hy : 0 ≤ y ∧ y < (len : Int)) (kk : V x n k none (pc + 1) L S (upM μ f j v)) : V x n k none pc L (aI v :: aI y :: aR c i :: S) μ := v_iast' hC hN hi pres0 hcd hel (fun _ => hf) hy d kk
theorem v_zast (hC : Ctx x own cc rm) {c i f j : Nat} {y v : Int} {el : Nat → FD} {N len : Nat} (d : decode cc pc = .ok (.bastore, 1)) (hN : vdn c = N) (hcd : cellD c i = .inr (1, len, el)) (hel : el y.toNat = fI f j) (hf : f < 100) (hi : i < N) (hy : 0 ≤ y ∧ y < (len : Int)) (hv : v = 0 ∨ v = 1) (kk : V x n k none (pc + 1) L S (upM μ f j v)) : V x n k none pc L (aI v :: aI y :: aR c i :: S) μ := by
  obtain ⟨p, l, e, R, s, m, args, below, meth, c0, Q, nL, H0, b, D, K⟩ := x
  intro hM hS hL H locs ls hlo hH hF
  obtain ⟨hx, hb, hml, hts, hown, hK, hlk, hRm⟩ := hC
  subst hN
  have hh := (holds_arr hcd).1 (hH.at hi (fun _ q => by cases q)).2
  have hyR : inR y := hS.tl.hd
  have hk : y.toNat < len := by omega
  refine W.zast hx hb hh ((hK.2 1 _ rfl).1 len _) (fun q => by cases q) (ix_in hyR hy) rfl rfl d fun H' e1 e2 e3 => ?_
  rw [(bool_n hv).1] at e1
  rw [i32_clamp hyR] at e1 ⊢
  have hu := arr_up (b := b) (μ := μ) (v := v) (cA := K 1) hi hcd hk (by rw [hel]; rfl : fdLoc (el y.toNat) = (f, j))
  rw [hel, show vOf b (upM μ f j v) (fI f j) = .int (i32 v) from congrArg (fun y => Value.int (i32 y)) (upM_at μ f j v)] at hu
  rw [hu] at e1
  exact kk (hM.up hS.hd) hS.tl.tl.tl hL H' _ ls hlo ⟨hH.1.put hi (plc_arr hcd hk) (by rw [hel]; rfl) e2 e3 ((holds_arr hcd).2 e1), hH.2.up (fun _ => hf) e2⟩ (hF.put e2 e3 (Nat.le_add_right b _))
theorem v_i2l (hC : Ctx x own cc rm) {y : Int} (d : decode cc pc = .ok (.i2l, 1)) (kk : V x n k z (pc + 1) L (aL y :: S) μ) : V x n k z pc L (aI y :: S) μ := by
  obtain ⟨p, l, e, R, s, m, args, below, meth, c0, Q, nL, H0, b, D, K⟩ := x
  intro hM hS hL H locs ls hlo hH hF
  obtain ⟨hx, hb, hml, hts, hown, hK, hlk, hRm⟩ := hC
  have hy : inR y := hS.hd
  refine lv_i2l hx hb d (v := Int64.ofInt y) ?_ (kk hM (OkV.cons hS.hd hS.tl) hL H locs ls hlo hH hF)
  exact Int64.toInt_inj.mp (by rw [Int32.toInt_toInt64, i32_toInt hy, Int64.toInt_ofInt_of_le (by have := hy.1; omega) (by have := hy.2; omega)])
theorem v_lconst (hC : Ctx x own cc rm) {q : Fin 2} {y : Int} (d : decode cc pc = .ok (.lconst q, 1)) (hy : y = ((q : Nat) : Int)) (kk : V x n k z (pc + 1) L (aL y :: S) μ) : V x n k z pc L S μ := by
  obtain ⟨p, l, e, R, s, m, args, below, meth, c0, Q, nL, H0, b, D, K⟩ := x
  intro hM hS hL H locs ls hlo hH hF
  obtain ⟨hx, hb, hml, hts, hown, hK, hlk, hRm⟩ := hC
  subst hy
  exact lv_lconst hx hb d (Int64.ofInt_eq_ofNat).symm (kk hM (OkV.cons (show inR _ from ⟨by omega, by omega⟩) hS) hL H locs ls hlo hH hF)
theorem v_last (hC : Ctx x own cc rm) {y v : Int} (d : decode cc pc = .ok (.lastore, 1)) (hy : y = 0) (kk : V x n k none (pc + 1) L S (upM μ 40 0 v)) : V x n k none pc L (aL v :: aI y :: aR 29 0 :: S) μ := by
  obtain ⟨p, l, e, R, s, m, args, below, meth, c0, Q, nL, H0, b, D, K⟩ := x
  intro hM hS hL H locs ls hlo hH hF
  obtain ⟨hx, hb, hml, hts, hown, hK, hlk, hRm⟩ := hC
  have hi : 0 < vdn 29 := by decide
  have hcd : cellD 29 0 = .inr (2, 1, fun j => fL 40 j) := rfl
  have hh := (holds_arr hcd).1 (hH.at hi (fun _ q => by cases q)).2
  have hyR : inR y := hS.tl.hd
  have hy' : 0 ≤ y ∧ y < ((1 : Nat) : Int) := by omega
  have hk : y.toNat < 1 := by omega
  have hel : y.toNat = 0 := by omega
  refine W.last hx hb hh ((hK.2 2 _ rfl).1 1 _) (fun q => by cases q) (ix_in hyR hy') rfl rfl d fun H' e1 e2 e3 => ?_
  rw [i32_clamp hyR] at e1 ⊢
  have hu := arr_up (b := b) (μ := μ) (v := v) (cA := K 2) (f := 40) (j := 0) hi hcd hk (by rw [hel]; rfl)
  rw [hel] at hu e1
  rw [show vOf b (upM μ 40 0 v) ((fun j => fL 40 j) 0) = .long (Int64.ofInt v) from congrArg (fun y => Value.long (Int64.ofInt y)) (upM_at μ 40 0 v)] at hu
  rw [hu] at e1
  exact kk (hM.up hS.hd) hS.tl.tl.tl hL H' _ ls hlo ⟨hH.1.put hi (plc_arr hcd (k := 0) (by decide)) rfl e2 e3 ((holds_arr hcd).2 e1), hH.2.up (fun _ => by decide) e2⟩ (hF.put e2 e3 (Nat.le_add_right b _))
theorem v_lald (hC : Ctx x own cc rm) {y : Int} (d : decode cc pc = .ok (.laload, 1)) (hy : y = 0) (kk : V x n k none (pc + 1) L (aL (μ 40 0) :: S) μ) : V x n k none pc L (aI y :: aR 29 0 :: S) μ := by
  obtain ⟨p, l, e, R, s, m, args, below, meth, c0, Q, nL, H0, b, D, K⟩ := x
  intro hM hS hL H locs ls hlo hH hF
  obtain ⟨hx, hb, hml, hts, hown, hK, hlk, hRm⟩ := hC
  have hi : 0 < vdn 29 := by decide
  have hcd : cellD 29 0 = .inr (2, 1, fun j => fL 40 j) := rfl
  have hh := (holds_arr hcd).1 (hH.at hi (fun _ q => by cases q)).2
  have hyR : inR y := hS.hd
  have hy' : 0 ≤ y ∧ y < ((1 : Nat) : Int) := by omega
  exact W.lald (v := .long (Int64.ofInt (μ 40 0))) hx hb hh ((hK.2 2 _ rfl).1 1 _) (fun q => by cases q) (ix_in hyR hy') (ix_at hyR hy' (by rw [hy]; rfl)) rfl rfl d (kk hM (OkV.cons (hM 40 0) hS.tl.tl) hL H locs ls hlo hH hF)
theorem v_lcmp (hC : Ctx x own cc rm) {y w : Int} (d : decode cc pc = .ok (.lcmp, 1)) (kk : ∀ r : Int, (r = 0 ↔ y = w) → V x n k z (pc + 1) L (aI r :: S) μ) : V x n k z pc L (aL w :: aL y :: S) μ := by
  obtain ⟨p, l, e, R, s, m, args, below, meth, c0, Q, nL, H0, b, D, K⟩ := x
  intro hM hS hL H locs ls hlo hH hF
  obtain ⟨hx, hb, hml, hts, hown, hK, hlk, hRm⟩ := hC
  have hw : inR w := hS.hd
  have hy : inR y := hS.tl.hd
  have tI : ∀ {u : Int}, inR u → (Int64.ofInt u).toInt = u := fun hu => Int64.toInt_ofInt_of_le (by have := hu.1; omega) (by have := hu.2; omega)
  refine W.lcmp hx hb d ?_
  have h9 := kk (lg_cmp (Int64.ofInt y) (Int64.ofInt w)).toInt (by
    unfold lg_cmp
    simp only [gt_iff_lt, Int64.lt_iff_toInt_lt, ← Int64.toInt_inj, tI hw, tI hy]
    repeat' split
    all_goals (constructor <;> intro hh <;> first | omega | (exact absurd hh (by decide)) | decide)) hM (OkV.cons (inR_of _) hS.tl.tl) hL H locs ls hlo hH hF
  rw [List.map_cons, show cv b (aI (lg_cmp (Int64.ofInt y) (Int64.ofInt w)).toInt) = .int (lg_cmp (Int64.ofInt y) (Int64.ofInt w)) from congrArg Value.int (i32_of _)] at h9
  exact h9
end VF
/-! Contracts: what is given at the start, what is owed at the end. -/
def QR (b : Nat) (D : va_G) (K : Nat → ClassId) (z : Option Nat) (post : Option Int → MU → Prop) : Array Value → State → Outcome → State → Prop := fun _ st oc t =>
  (∃ (r : Option Int) (μ' : MU), oc = .returned (r.map (fun y => .int (i32 y))) ∧ (∀ y, r = some y → inR y) ∧ OkM μ' ∧ post r μ' ∧ Hp z b D K μ' t.heap ∧ va_K D wCl (tysK K) t) ∧ va_F (Ad b) st t
def PC (b : Nat) (D : va_G) (K : Nat → ClassId) (z : Option Nat) (as : List AV) (μ : MU) : Array Value → State → Prop := va_Pc (as.map (cv b)) (fun U => OkM μ ∧ OkL (as.map some) ∧ Hp z b D K μ U.heap ∧ va_K D wCl (tysK K) U)
theorem PC.blind {b : Nat} {D : va_G} {K : Nat → ClassId} {z : Option Nat} {as : List AV} {μ : MU} : FrameBlind (PC b D K z as μ) := fun a U g mk q => by
  obtain ⟨q0, q1, q2, q3, q4⟩ := q
  exact ⟨q0, q1, q2, q3, va_K.moved (u := U) (U := U.calling g mk a) (Vm.Alike.refl U.vm) q4⟩
/-- what the frame owes -/
def Rt (x : MC) (z : Option Nat) (post : Option Int → MU → Prop) (mc ms : Nat) (ret : Option FieldType) : Prop := match x with
  | (_, _, _, _, s, _, args, below, meth, _, Q, _, H0, b, D, K) => (∀ t, MQ below (QR b D K z post) args s mc ms (Ad b) t → Q t) ∧ meth.sig.returnType = ret ∧ H0 = s.heap
theorem w_mono {p : Program} {l : Launch} {e : Env} {R : Room} {s : State} {m : MethodId} {args : Array Value} {below : List Frame} {meth : Method} {c : Code} {H : Heap} {locs : List Loc} {cells slots : Nat} {Q Q' : State → Prop} {g : JFrame} (hq : ∀ t, Q t → Q' t) (k : W p l e R s m args below meth c H locs cells slots Q g) : W p l e R s m args below meth c H locs cells slots Q' g := fun T hT X => by
  obtain ⟨t, a, b⟩ := k T hT X
  exact ⟨t, a, hq t b⟩
section VC
variable {x : MC} {n k : Nat} {z : Option Nat} {pc : Nat} {L : List (Option AV)} {S : List AV} {μ : MU} {own : String} {cc : ByteArray} {rm : Room}

theorem v_zret (hC : Ctx x own cc rm) {post : Option Int → MU → Prop} {mc ms : Nat} {r : Int} {ty : FieldType} (hR : Rt x z post mc ms (some ty)) (hn : n ≤ mc) (hk : k ≤ ms) (d : decode cc pc = .ok (.ireturn, 1)) (hnar : narrow ty (.int (i32 r)) = .int (i32 r)) (hp : post (some r) μ) : V x n k z pc L [aI r] μ := by
  obtain ⟨p, l, e, R, s, m, args, below, meth, c0, Q, nL, H0, b, D, K⟩ := x
  intro hM hS hL H locs ls hlo hH hF
  obtain ⟨hx, hb, hml, hts, hown, hK, hlk, hRm⟩ := hC
  obtain ⟨hQ, hr, rfl⟩ := hR
  refine W.widen hn hk ?_
  have h9 : W p l e R s m args below meth c0 H locs mc ms (MQ below (QR b D K z post) args s mc ms (Ad b)) (F0 m pc ls [.int (i32 r)]) := W.zret (v := i32 r) hx hb hr hnar (fun t ht hW => ⟨⟨some r, μ, rfl, (fun y hy => by cases hy; exact hS.hd), hM, hp, by rw [ht]; exact hH, va_K.moved hW.alike hK⟩, hF.F ht⟩) hF.2.2 d hlk
  exact w_mono hQ h9
theorem v_iret (hC : Ctx x own cc rm) {post : Option Int → MU → Prop} {r : Int} (hR : Rt x z post 0 0 (some .int)) (d : decode cc pc = .ok (.ireturn, 1)) (hp : post (some r) μ) : V x 0 0 z pc L [aI r] μ := v_zret hC hR (Nat.le_refl _) (Nat.le_refl _) d rfl hp
theorem v_bret (hC : Ctx x own cc rm) {post : Option Int → MU → Prop} {r : Int} (hR : Rt x z post 0 0 (some .boolean)) (d : decode cc pc = .ok (.ireturn, 1)) (hv : r = 0 ∨ r = 1) (hp : post (some r) μ) : V x 0 0 z pc L [aI r] μ := v_zret hC hR (Nat.le_refl _) (Nat.le_refl _) d (bool_n hv).1 hp
theorem v_vret (hC : Ctx x own cc rm) {post : Option Int → MU → Prop} {mc ms : Nat} (hR : Rt x z post mc ms none) (hn : n ≤ mc) (hk : k ≤ ms) (d : decode cc pc = .ok (.return_, 1)) (hp : post none μ) : V x n k z pc L [] μ := by
  obtain ⟨p, l, e, R, s, m, args, below, meth, c0, Q, nL, H0, b, D, K⟩ := x
  intro hM hS hL H locs ls hlo hH hF
  obtain ⟨hx, hb, hml, hts, hown, hK, hlk, hRm⟩ := hC
  obtain ⟨hQ, hr, rfl⟩ := hR
  refine W.widen hn hk ?_
  have h9 : W p l e R s m args below meth c0 H locs mc ms (MQ below (QR b D K z post) args s mc ms (Ad b)) (F0 m pc ls []) := W.vret hx hb hr (fun t ht hW => ⟨⟨none, μ, rfl, (fun y hy => by cases hy), hM, hp, by rw [ht]; exact hH, va_K.moved hW.alike hK⟩, hF.F ht⟩) hF.2.2 d hlk
  exact w_mono hQ h9

/-- a method's contract out of its walk -/
theorem met_of {l : Launch} {y : MethodName} {rm : Room} {cc : ByteArray} {maxL : Nat} {ret : Option FieldType} {b : Nat} {D : va_G} {K : Nat → ClassId} {z z' : Option Nat} {as : List AV} {μ : MU} {post : Option Int → MU → Prop} {mc ms : Nat} (hy : plainName y.cls = true) (hlen : as.length ≤ maxL)
    (h : ∀ x : MC, Ctx x y.cls cc rm → Rt x z' post mc ms ret → OkM μ → OkL (as.map some) → V x 0 0 z 0 (as.map some ++ List.replicate (maxL - as.length) none) [] μ) : Met l y (Cond.code y cc maxL ret :: wG) rm (PC b D K z as μ) (QR b D K z' post) mc ms (Ad b) := by
  refine Met.ofW (cc := cc) (maxL := maxL) (ret := ret) hy rfl ?_
  intro p e s m args below meth c s₁ B hml hv
  obtain ⟨rfl, hM, hA, hH, hK⟩ := hv
  have hts0 := atoms_spec (ws := Cond.code y cc maxL ret :: wG) B.pre
  have hts : ∀ w ∈ wG, w.before ((as.map (cv b)).toArray) s = true := fun w hw => hts0 w (List.mem_cons_of_mem _ hw)
  have hown : s.vm.findClass y.cls = some m.cls := findClass_of_methodNamed B.named
  have hV := h (p, l, e, rm, s, m, (as.map (cv b)).toArray, below, meth, c, MQ below (QR b D K z' post) (as.map (cv b)).toArray s mc ms (Ad b), maxL, s.heap, b, D, K) ⟨B.exec, B.bytes, hml, hts, hown, hK, B.notSynchronized, rfl⟩ ⟨fun _ h => h, B.returns, rfl⟩ hM hA
  have hcat : ∀ v ∈ as.map (cv b), v.category = 1 := fun v hv => by
    obtain ⟨w, hw1, rfl⟩ := List.mem_map.mp hv
    exact cv_cat (hA w (List.mem_map.mpr ⟨w, hw1, rfl⟩))
  have hsl : lg_sl (as.map (cv b)) = (as.map (cv b)).map Slot.val := lg_sl_cat1 hcat
  have hle := lv_entry (as.map (cv b)) (n := maxL) (by rw [hsl]; simpa using hlen)
  rw [lg_entry_eq]
  generalize (lg_sl (as.map (cv b)) ++ List.replicate (maxL - (lg_sl (as.map (cv b))).length) Slot.unset).toArray = ls at hle ⊢
  refine hV hM (fun v hv => by cases hv) (fun v hv => ?_) s.heap [] ls ⟨hle.1, hle.2.1, by simp; omega, fun i v hi => ?_⟩ hH va_S.rf
  · rcases List.mem_append.mp hv with q | q
    · exact hA v q
    · have := List.eq_of_mem_replicate q
      cases this
  · refine hle.2.2 (i, cv b v) (lv_args_at hcat ?_)
    by_cases hia : i < as.length
    · rw [List.getElem?_append_left (by simpa using hia), List.getElem?_map] at hi
      rw [List.getElem?_map]
      cases hq : as[i]? with
      | none => rw [hq] at hi; cases hi
      | some w => rw [hq] at hi; cases hi; rfl
    · rw [List.getElem?_append_right (by simpa using Nat.not_lt.mp hia)] at hi
      have := List.eq_of_mem_replicate (List.mem_of_getElem? hi)
      cases this
/-- behind a call -/
theorem w_call {p : Program} {l : Launch} {e : Env} {R : Room} {s : State} {m : MethodId} {args : Array Value} {below : List Frame} {meth : Method} {c : Code} {H H0 : Heap} {locs : List Loc} {cells slots mc ms : Nat} {Q : State → Prop} {ls : Array Slot} {rest st0 : List Value} {a : Array Value} {b : Nat} {D : va_G} {K : Nat → ClassId} {z : Option Nat} {post : Option Int → MU → Prop} (hr : va_Run p l e R s m args below meth c H locs cells slots mc ms (F0 m pc ls st0) rest (QR b D K z post a) (Ad b)) (hS : va_S (Ad b) H0 H locs)
    (kk : ∀ (r : Option Int) (μ' : MU) (H1 : Heap) (locs1 : List Loc), (∀ y, r = some y → inR y) → OkM μ' → post r μ' → Hp z b D K μ' H1 → va_S (Ad b) H0 H1 locs1 → W p l e R s m args below meth c H1 locs1 (cells + mc) (slots + ms) Q (F0 m (pc + 3) ls ((r.map (fun y => Value.int (i32 y))).toList ++ rest))) : W p l e R s m args below meth c H locs cells slots Q (F0 m pc ls st0) := by
  intro T hT X
  obtain ⟨v, st₀, t, T', L', h0, X', hL', e1, e2, ⟨⟨r, μ', hv, hy, hM', hp, hH', -⟩, hz, hkeep⟩, st⟩ := hr T hT X
  cases hv
  rw [h0] at hz hkeep
  obtain ⟨t2, a1, b1⟩ := kk r μ' T'.heap (locs ++ L') hy hM' hp (by rw [e1]; exact hH')
    ⟨Nat.le_trans hS.1 (by rw [e1]; exact hz), fun q h1 h2 => by rw [e1, hkeep q (Nat.lt_of_lt_of_le h1 hS.1) h2]; exact hS.2.1 q h1 h2, fun q hq => by
      rcases List.mem_append.mp hq with h | h
      · exact hS.2.2 q h
      · exact hL' q h⟩ T' rfl X'
  exact ⟨t2, st t2 a1, b1⟩
/-- a contract, at every launch, base and table -/
def CT (y : MethodName) (cc : ByteArray) (maxL : Nat) (ret : Option FieldType) (rm : Room) (z z' : Option Nat) (as : List AV) (μ : MU) (post : Option Int → MU → Prop) (mc ms : Nat) : Prop := ∀ (l : Launch) (b : Nat) (D : va_G) (K : Nat → ClassId), Met l y (Cond.code y cc maxL ret :: wG) rm (PC b D K z as μ) (QR b D K z' post) mc ms (Ad b)
abbrev pI (post : Int → MU → Prop) : Option Int → MU → Prop := fun r μ' => ∃ y, r = some y ∧ post y μ'
abbrev pV (post : MU → Prop) : Option Int → MU → Prop := fun r μ' => r = none ∧ post μ'
abbrev CTi (y : MethodName) (cc : ByteArray) (maxL : Nat) (ret : Option FieldType) (rm : Room) (as : List AV) (μ : MU) (post : Int → MU → Prop) : Prop := CT y cc maxL ret rm none none as μ (pI post) 0 0
abbrev CTv (y : MethodName) (cc : ByteArray) (maxL : Nat) (rm : Room) (as : List AV) (μ : MU) (post : MU → Prop) : Prop := CT y cc maxL none rm none none as μ (pV post) 0 0
/-- the words of a call -/
def CW (x : MC) (own C : String) (idx : Nat) (y : MethodName) (bytes : ByteArray) (maxL : Nat) (ret : Option FieldType) (rm : Room) (mc ms na : Nat) : Prop := match x with
  | (_, _, _, R, s, _, args, _, _, _, _, _, _, _, _, _) => CallW R s args own C idx y bytes maxL ret (Cond.code y bytes maxL ret :: wG) rm mc ms na
def CS (x : MC) (own : String) (idx : Nat) (y : MethodName) (bytes : ByteArray) (maxL : Nat) (ret : Option FieldType) (rm : Room) (mc ms na : Nat) : Prop := match x with
  | (_, _, _, R, s, _, args, _, _, _, _, _, _, _, _, _) => CallB R s args own idx y bytes maxL ret (Cond.code y bytes maxL ret :: wG) rm mc ms na ∧ (Cond.static y).before args s = true
theorem wG_in {ws : List Cond} (h : ∀ w ∈ ws, w ∈ wG) : GoodIn wG ws := fun w hw => ⟨h w hw, good_of_word (List.mem_filter.mp (h w hw)).2⟩
theorem wG_cons {w : Cond} (h : w ∈ wG) : ∀ v ∈ w :: wG, v ∈ wG := fun v hv => by
  rcases List.mem_cons.mp hv with q | q
  · rw [q]; exact h
  · exact q
theorem cw_V {x : MC} {own C : String} {cc : ByteArray} {rm : Room} {idx maxL na : Nat} {y : MethodName} {bytes : ByteArray} {ret : Option FieldType} {rmc : Room} (hC : Ctx x own cc rm) (h1 : Cond.methodLink own idx y ∈ wG) (h2 : Cond.instanceMethod y ∈ wG) (h3 : Cond.selects C y y ∈ wG) (h4 : Cond.initialized C ∈ wG) (h5 : Cond.code y bytes maxL ret ∈ wG) (hd : y.cls = C ∧ y.cls ≠ "java/lang/invoke/MethodHandle" ∧ y.cls ≠ "java/lang/invoke/VarHandle" ∧ (parseMethodDescriptor y.desc).map (fun d => d.parameters.length) = some na) (hR : rmc.frames + 1 ≤ rm.frames ∧ 8 + (maxL + 11) + rmc.locals ≤ rm.locals) : CW x own C idx y bytes maxL ret rmc rmc.cells rmc.slots na := by
  obtain ⟨p, l, e, R, s, m, args, below, meth, c0, Q, nL, H0, b, D, K⟩ := x
  obtain ⟨hx, hb, hml, hts, hown, hK, hlk, rfl⟩ := hC
  refine cwV na hts (wG_in fun w hw => ?_) rfl rfl rfl hd hR
  rcases List.mem_append.mp hw with q | q
  · simp only [List.mem_cons, List.not_mem_nil, or_false] at q
    rcases q with rfl | rfl | rfl | rfl
    · exact h1
    · exact h2
    · exact h3
    · exact h4
  · exact wG_cons h5 w q
theorem cw_S {x : MC} {own : String} {cc : ByteArray} {rm : Room} {idx maxL na : Nat} {y : MethodName} {bytes : ByteArray} {ret : Option FieldType} {rmc : Room} (hC : Ctx x own cc rm) (h1 : Cond.methodLink own idx y ∈ wG) (h2 : Cond.static y ∈ wG) (h4 : Cond.initialized own ∈ wG) (h5 : Cond.code y bytes maxL ret ∈ wG) (hd : y.cls = own ∧ y.cls ≠ "java/lang/invoke/MethodHandle" ∧ y.cls ≠ "java/lang/invoke/VarHandle" ∧ (parseMethodDescriptor y.desc).map (fun d => d.parameters.length) = some na) (hR : rmc.frames + 1 ≤ rm.frames ∧ 8 + (maxL + 11) + rmc.locals ≤ rm.locals) : CS x own idx y bytes maxL ret rmc rmc.cells rmc.slots na := by
  obtain ⟨p, l, e, R, s, m, args, below, meth, c0, Q, nL, H0, b, D, K⟩ := x
  obtain ⟨hx, hb, hml, hts, hown, hK, hlk, rfl⟩ := hC
  refine cwS na hts (wG_in fun w hw => ?_) rfl rfl rfl hd hR
  rcases List.mem_append.mp hw with q | q
  · simp only [List.mem_cons, List.not_mem_nil, or_false] at q
    rcases q with rfl | rfl | rfl
    · exact h1
    · exact h2
    · exact h4
  · exact wG_cons h5 w q
theorem okl_list {as : List AV} {S : List AV} (h : OkV (as.reverse ++ S)) (hc : ∀ v, v ∈ as → okv v → okl v) : OkL (as.map some) := fun v hv => by
  obtain ⟨w, hw, e⟩ := List.mem_map.mp hv
  cases e
  exact hc v hw (h v (List.mem_append_left _ (List.mem_reverse.mpr hw)))
theorem cat_cv (b : Nat) (v : AV) : (cv b v).category = (cv 0 v).category := by
  obtain x | ⟨c, i⟩ | x | a := v <;> rfl
theorem cat_sum {b : Nat} {S : List AV} {N : Nat} (h : (S.map (fun v => (cv 0 v).category)).sum ≤ N) : ((S.map (cv b)).map (fun v => v.category)).sum ≤ N := by
  rw [List.map_map]
  refine Nat.le_trans (Nat.le_of_eq (congrArg List.sum (List.map_congr_left fun v _ => ?_))) h
  exact cat_cv b v
theorem v_callV (hC : Ctx x own cc rm) {c i ci idx na maxL mc ms : Nat} {fds : List FD} {C : String} {T : u_T} {NC : Nat} {y : MethodName} {bytes : ByteArray} {ret : Option FieldType} {rmc : Room} {as : List AV} {z' : Option Nat} {post : Option Int → MU → Prop} {N : Nat} (hN : vdn c = N) (hi : i < N) (hp : Pres z c i) (hcd : cellD c i = .inl (ci, fds)) (hcl : wCl[ci]? = some (C, T, NC))
    (hCT : CT y bytes maxL ret rmc z z' (aR c i :: as) μ post mc ms) (cw : CW x own C idx y bytes maxL ret rmc mc ms na) (hna : as.length = na) (hnl : ∀ v, v ∈ as → okv v → okl v) (hR1 : n + mc ≤ rm.cells) (hR2 : k + ms ≤ rm.slots) (hst : (S.map (fun v => (cv 0 v).category)).sum ≤ 8) (d : decode cc pc = .ok (.invokevirtual idx, 3))
    (kk : ∀ (r : Option Int) (μ' : MU), (∀ y, r = some y → inR y) → post r μ' → V x (n + mc) (k + ms) z' (pc + 3) L ((r.map aI).toList ++ S) μ') : V x n k z pc L (as.reverse ++ aR c i :: S) μ := by
  obtain ⟨p, l, e, R, s, m, args, below, meth, c0, Q, nL, H0, b, D, K⟩ := x
  intro hM hS hL H locs ls hlo hH hF
  obtain ⟨hx, hb, hml, hts, hown, hK, hlk, hRm⟩ := hC
  subst hN
  subst hRm
  obtain ⟨r0, hr0, cellB, g1, g2, g3, -⟩ := (holds_obj hcd).1 (hH.at hi hp).2
  have hokl : OkL ((aR c i :: as).map some) := by
    intro v hv
    rcases List.mem_cons.mp hv with q | q
    · cases q; trivial
    · exact okl_list hS hnl v q
  have hrun := va_runV (p := p) (l := l) (e := e) (R := R) (s := s) (m := m) (args := args) (below := below) (meth := meth) (c := c0) (H := H) (locs := locs) (cells := n) (slots := k) (b := lay b c i) (As := as.map (cv b)) (rest := S.map (cv b)) (g := F0 m pc ls ((as.reverse ++ aR c i :: S).map (cv b))) ⟨hx, hb, hml, hown, hts⟩ (hCT l b D K) cw
    ⟨PC.blind, ⟨cellB, g1, by rw [g3]; rfl, by rw [g2]; exact (hK.1 ci _ hcl).2.1⟩, fun U hU hW => ⟨rfl, hM, hokl, by rw [hU]; exact hH, va_K.moved hW.alike hK⟩⟩ rfl (by rw [List.length_map]; exact hna) hlo.1 (by simp [cv]) (lv_room (cat_sum hst)) d ⟨hR1, hR2⟩
  refine w_call hrun hF fun r μ' H1 locs1 hy hM1 hp1 hH1 hF1 => ?_
  have h9 := kk r μ' hy hp1 hM1 (fun v hv => by
    rcases List.mem_append.mp hv with q | q
    · cases r with
      | none => cases q
      | some w => rw [List.mem_singleton.mp q]; exact hy w rfl
    · exact hS v (List.mem_append_right _ (List.mem_cons_of_mem _ q))) hL H1 locs1 ls hlo hH1 hF1
  cases r with
  | none => exact h9
  | some w => exact h9
theorem v_callS (hC : Ctx x own cc rm) {idx na maxL mc ms : Nat} {y : MethodName} {bytes : ByteArray} {ret : Option FieldType} {rmc : Room} {as : List AV} {z' : Option Nat} {post : Option Int → MU → Prop}
    (hCT : CT y bytes maxL ret rmc z z' as μ post mc ms) (cw : CS x own idx y bytes maxL ret rmc mc ms na) (hna : as.length = na) (hnl : ∀ v, v ∈ as → okv v → okl v) (hR1 : n + mc ≤ rm.cells) (hR2 : k + ms ≤ rm.slots) (hst : (S.map (fun v => (cv 0 v).category)).sum ≤ 8) (d : decode cc pc = .ok (.invokestatic idx, 3))
    (kk : ∀ (r : Option Int) (μ' : MU), (∀ y, r = some y → inR y) → post r μ' → V x (n + mc) (k + ms) z' (pc + 3) L ((r.map aI).toList ++ S) μ') : V x n k z pc L (as.reverse ++ S) μ := by
  obtain ⟨p, l, e, R, s, m, args, below, meth, c0, Q, nL, H0, b, D, K⟩ := x
  intro hM hS hL H locs ls hlo hH hF
  obtain ⟨hx, hb, hml, hts, hown, hK, hlk, hRm⟩ := hC
  subst hRm
  have hrun := va_runS (p := p) (l := l) (e := e) (R := R) (s := s) (m := m) (args := args) (below := below) (meth := meth) (c := c0) (H := H) (locs := locs) (cells := n) (slots := k) (As := as.map (cv b)) (rest := S.map (cv b)) (g := F0 m pc ls ((as.reverse ++ S).map (cv b))) ⟨hx, hb, hml, hown, hts⟩ (hCT l b D K) cw
    ⟨PC.blind, fun U hU hW => ⟨rfl, hM, okl_list hS hnl, by rw [hU]; exact hH, va_K.moved hW.alike hK⟩⟩ rfl (by rw [List.length_map]; exact hna) hlo.1 (by simp) (lv_room (cat_sum hst)) d ⟨hR1, hR2⟩
  refine w_call hrun hF fun r μ' H1 locs1 hy hM1 hp1 hH1 hF1 => ?_
  have h9 := kk r μ' hy hp1 hM1 (fun v hv => by
    rcases List.mem_append.mp hv with q | q
    · cases r with
      | none => cases q
      | some w => rw [List.mem_singleton.mp q]; exact hy w rfl
    · exact hS v (List.mem_append_right _ q)) hL H1 locs1 ls hlo hH1 hF1
  cases r with
  | none => exact h9
  | some w => exact h9
theorem okl_I {y : Int} (h : okv (aI y)) : okl (aI y) := h

theorem v_callI0 (hC : Ctx x own cc rm) {c i ci idx maxL : Nat} {fds : List FD} {C : String} {T : u_T} {NC : Nat} {y : MethodName} {bytes : ByteArray} {ret : Option FieldType} {rmc : Room} {post : Int → MU → Prop} {N : Nat} (cw : CW x own C idx y bytes maxL ret rmc 0 0 0) (d : decode cc pc = .ok (.invokevirtual idx, 3)) (hN : vdn c = N) (hcd : cellD c i = .inl (ci, fds)) (hcl : wCl[ci]? = some (C, T, NC)) (hR1 : n ≤ rm.cells) (hR2 : k ≤ rm.slots) (hst : (S.map (fun v => (cv 0 v).category)).sum ≤ 8) (hi : i < N) (hCT : CTi y bytes maxL ret rmc (aR c i :: []) μ post) (kk : ∀ (r : Int) (μ' : MU), post r μ' → V x n k none (pc + 3) L (aI r :: S) μ') : V x n k none pc L (aR c i :: S) μ := v_callV (as := []) hC hN hi pres0 hcd hcl hCT cw rfl (fun v hv => by cases hv) hR1 hR2 hst d (fun r μ' _ h => by obtain ⟨w, rfl, hw⟩ := h; exact kk w μ' hw)
theorem v_callI1 (hC : Ctx x own cc rm) {c i ci idx maxL : Nat} {fds : List FD} {C : String} {T : u_T} {NC : Nat} {y : MethodName} {bytes : ByteArray} {ret : Option FieldType} {rmc : Room} {y1 : Int} {post : Int → MU → Prop} {N : Nat} (cw : CW x own C idx y bytes maxL ret rmc 0 0 1) (d : decode cc pc = .ok (.invokevirtual idx, 3)) (hN : vdn c = N) (hcd : cellD c i = .inl (ci, fds)) (hcl : wCl[ci]? = some (C, T, NC)) (hR1 : n ≤ rm.cells) (hR2 : k ≤ rm.slots) (hst : (S.map (fun v => (cv 0 v).category)).sum ≤ 8) (hi : i < N) (hCT : CTi y bytes maxL ret rmc (aR c i :: [aI y1]) μ post) (kk : ∀ (r : Int) (μ' : MU), post r μ' → V x n k none (pc + 3) L (aI r :: S) μ') : V x n k none pc L (aI y1 :: aR c i :: S) μ := v_callV (as := [aI y1]) hC hN hi pres0 hcd hcl hCT cw rfl (fun v hv h => by
    simp only [List.mem_cons, List.not_mem_nil, or_false] at hv
    subst hv; exact h) hR1 hR2 hst d (fun r μ' _ h => by obtain ⟨w, rfl, hw⟩ := h; exact kk w μ' hw)
theorem v_callI2 (hC : Ctx x own cc rm) {c i ci idx maxL : Nat} {fds : List FD} {C : String} {T : u_T} {NC : Nat} {y : MethodName} {bytes : ByteArray} {ret : Option FieldType} {rmc : Room} {y1 y2 : Int} {post : Int → MU → Prop} {N : Nat} (cw : CW x own C idx y bytes maxL ret rmc 0 0 2) (d : decode cc pc = .ok (.invokevirtual idx, 3)) (hN : vdn c = N) (hcd : cellD c i = .inl (ci, fds)) (hcl : wCl[ci]? = some (C, T, NC)) (hR1 : n ≤ rm.cells) (hR2 : k ≤ rm.slots) (hst : (S.map (fun v => (cv 0 v).category)).sum ≤ 8) (hi : i < N) (hCT : CTi y bytes maxL ret rmc (aR c i :: [aI y1, aI y2]) μ post) (kk : ∀ (r : Int) (μ' : MU), post r μ' → V x n k none (pc + 3) L (aI r :: S) μ') : V x n k none pc L (aI y2 :: aI y1 :: aR c i :: S) μ := v_callV (as := [aI y1, aI y2]) hC hN hi pres0 hcd hcl hCT cw rfl (fun v hv h => by
    simp only [List.mem_cons, List.not_mem_nil, or_false] at hv
    rcases hv with rfl | rfl <;> exact h) hR1 hR2 hst d (fun r μ' _ h => by obtain ⟨w, rfl, hw⟩ := h; exact kk w μ' hw)
theorem v_callI3 (hC : Ctx x own cc rm) {c i ci idx maxL : Nat} {fds : List FD} {C : String} {T : u_T} {NC : Nat} {y : MethodName} {bytes : ByteArray} {ret : Option FieldType} {rmc : Room} {y1 y2 y3 : Int} {post : Int → MU → Prop} {N : Nat} (cw : CW x own C idx y bytes maxL ret rmc 0 0 3) (d : decode cc pc = .ok (.invokevirtual idx, 3)) (hN : vdn c = N) (hcd : cellD c i = .inl (ci, fds)) (hcl : wCl[ci]? = some (C, T, NC)) (hR1 : n ≤ rm.cells) (hR2 : k ≤ rm.slots) (hst : (S.map (fun v => (cv 0 v).category)).sum ≤ 8) (hi : i < N) (hCT : CTi y bytes maxL ret rmc (aR c i :: [aI y1, aI y2, aI y3]) μ post) (kk : ∀ (r : Int) (μ' : MU), post r μ' → V x n k none (pc + 3) L (aI r :: S) μ') : V x n k none pc L (aI y3 :: aI y2 :: aI y1 :: aR c i :: S) μ := v_callV (as := [aI y1, aI y2, aI y3]) hC hN hi pres0 hcd hcl hCT cw rfl (fun v hv h => by
    simp only [List.mem_cons, List.not_mem_nil, or_false] at hv
    rcases hv with rfl | rfl | rfl <;> exact h) hR1 hR2 hst d (fun r μ' _ h => by obtain ⟨w, rfl, hw⟩ := h; exact kk w μ' hw)
theorem v_callI5 (hC : Ctx x own cc rm) {c i ci idx maxL : Nat} {fds : List FD} {C : String} {T : u_T} {NC : Nat} {y : MethodName} {bytes : ByteArray} {ret : Option FieldType} {rmc : Room} {y1 y2 y3 y4 y5 : Int} {post : Int → MU → Prop} {N : Nat} (cw : CW x own C idx y bytes maxL ret rmc 0 0 5) (d : decode cc pc = .ok (.invokevirtual idx, 3)) (hN : vdn c = N) (hcd : cellD c i = .inl (ci, fds)) (hcl : wCl[ci]? = some (C, T, NC)) (hR1 : n ≤ rm.cells) (hR2 : k ≤ rm.slots) (hst : (S.map (fun v => (cv 0 v).category)).sum ≤ 8) (hi : i < N) (hCT : CTi y bytes maxL ret rmc (aR c i :: [aI y1, aI y2, aI y3, aI y4, aI y5]) μ post) (kk : ∀ (r : Int) (μ' : MU), post r μ' → V x n k none (pc + 3) L (aI r :: S) μ') : V x n k none pc L (aI y5 :: aI y4 :: aI y3 :: aI y2 :: aI y1 :: aR c i :: S) μ := v_callV (as := [aI y1, aI y2, aI y3, aI y4, aI y5]) hC hN hi pres0 hcd hcl hCT cw rfl (fun v hv h => by
    simp only [List.mem_cons, List.not_mem_nil, or_false] at hv
    rcases hv with rfl | rfl | rfl | rfl | rfl <;> exact h) hR1 hR2 hst d (fun r μ' _ h => by obtain ⟨w, rfl, hw⟩ := h; exact kk w μ' hw)
theorem v_callV0 (hC : Ctx x own cc rm) {c i ci idx maxL : Nat} {fds : List FD} {C : String} {T : u_T} {NC : Nat} {y : MethodName} {bytes : ByteArray} {rmc : Room} {post : MU → Prop} {N : Nat} (cw : CW x own C idx y bytes maxL none rmc 0 0 0) (d : decode cc pc = .ok (.invokevirtual idx, 3)) (hN : vdn c = N) (hcd : cellD c i = .inl (ci, fds)) (hcl : wCl[ci]? = some (C, T, NC)) (hR1 : n ≤ rm.cells) (hR2 : k ≤ rm.slots) (hst : (S.map (fun v => (cv 0 v).category)).sum ≤ 8) (hi : i < N) (hCT : CTv y bytes maxL rmc (aR c i :: []) μ post) (kk : ∀ (μ' : MU), post μ' → V x n k none (pc + 3) L S μ') : V x n k none pc L (aR c i :: S) μ := v_callV (as := []) hC hN hi pres0 hcd hcl hCT cw rfl (fun v hv => by cases hv) hR1 hR2 hst d (fun r μ' _ h => by obtain ⟨rfl, hw⟩ := h; exact kk μ' hw)
theorem v_callV1 (hC : Ctx x own cc rm) {c i ci idx maxL : Nat} {fds : List FD} {C : String} {T : u_T} {NC : Nat} {y : MethodName} {bytes : ByteArray} {rmc : Room} {y1 : Int} {post : MU → Prop} {N : Nat} (cw : CW x own C idx y bytes maxL none rmc 0 0 1) (d : decode cc pc = .ok (.invokevirtual idx, 3)) (hN : vdn c = N) (hcd : cellD c i = .inl (ci, fds)) (hcl : wCl[ci]? = some (C, T, NC)) (hR1 : n ≤ rm.cells) (hR2 : k ≤ rm.slots) (hst : (S.map (fun v => (cv 0 v).category)).sum ≤ 8) (hi : i < N) (hCT : CTv y bytes maxL rmc (aR c i :: [aI y1]) μ post) (kk : ∀ (μ' : MU), post μ' → V x n k none (pc + 3) L S μ') : V x n k none pc L (aI y1 :: aR c i :: S) μ := v_callV (as := [aI y1]) hC hN hi pres0 hcd hcl hCT cw rfl (fun v hv h => by
    simp only [List.mem_cons, List.not_mem_nil, or_false] at hv
    subst hv; exact h) hR1 hR2 hst d (fun r μ' _ h => by obtain ⟨rfl, hw⟩ := h; exact kk μ' hw)
theorem v_callV2 (hC : Ctx x own cc rm) {c i ci idx maxL : Nat} {fds : List FD} {C : String} {T : u_T} {NC : Nat} {y : MethodName} {bytes : ByteArray} {rmc : Room} {y1 y2 : Int} {post : MU → Prop} {N : Nat} (cw : CW x own C idx y bytes maxL none rmc 0 0 2) (d : decode cc pc = .ok (.invokevirtual idx, 3)) (hN : vdn c = N) (hcd : cellD c i = .inl (ci, fds)) (hcl : wCl[ci]? = some (C, T, NC)) (hR1 : n ≤ rm.cells) (hR2 : k ≤ rm.slots) (hst : (S.map (fun v => (cv 0 v).category)).sum ≤ 8) (hi : i < N) (hCT : CTv y bytes maxL rmc (aR c i :: [aI y1, aI y2]) μ post) (kk : ∀ (μ' : MU), post μ' → V x n k none (pc + 3) L S μ') : V x n k none pc L (aI y2 :: aI y1 :: aR c i :: S) μ := v_callV (as := [aI y1, aI y2]) hC hN hi pres0 hcd hcl hCT cw rfl (fun v hv h => by
    simp only [List.mem_cons, List.not_mem_nil, or_false] at hv
    rcases hv with rfl | rfl <;> exact h) hR1 hR2 hst d (fun r μ' _ h => by obtain ⟨rfl, hw⟩ := h; exact kk μ' hw)
theorem v_callV3 (hC : Ctx x own cc rm) {c i ci idx maxL : Nat} {fds : List FD} {C : String} {T : u_T} {NC : Nat} {y : MethodName} {bytes : ByteArray} {rmc : Room} {y1 y2 y3 : Int} {post : MU → Prop} {N : Nat} (cw : CW x own C idx y bytes maxL none rmc 0 0 3) (d : decode cc pc = .ok (.invokevirtual idx, 3)) (hN : vdn c = N) (hcd : cellD c i = .inl (ci, fds)) (hcl : wCl[ci]? = some (C, T, NC)) (hR1 : n ≤ rm.cells) (hR2 : k ≤ rm.slots) (hst : (S.map (fun v => (cv 0 v).category)).sum ≤ 8) (hi : i < N) (hCT : CTv y bytes maxL rmc (aR c i :: [aI y1, aI y2, aI y3]) μ post) (kk : ∀ (μ' : MU), post μ' → V x n k none (pc + 3) L S μ') : V x n k none pc L (aI y3 :: aI y2 :: aI y1 :: aR c i :: S) μ := v_callV (as := [aI y1, aI y2, aI y3]) hC hN hi pres0 hcd hcl hCT cw rfl (fun v hv h => by
    simp only [List.mem_cons, List.not_mem_nil, or_false] at hv
    rcases hv with rfl | rfl | rfl <;> exact h) hR1 hR2 hst d (fun r μ' _ h => by obtain ⟨rfl, hw⟩ := h; exact kk μ' hw)
theorem v_callSI1 (hC : Ctx x own cc rm) {idx maxL : Nat} {y : MethodName} {bytes : ByteArray} {ret : Option FieldType} {rmc : Room} {y1 : Int} {post : Int → MU → Prop} (cw : CS x own idx y bytes maxL ret rmc 0 0 1) (d : decode cc pc = .ok (.invokestatic idx, 3)) (hR1 : n ≤ rm.cells) (hR2 : k ≤ rm.slots) (hst : (S.map (fun v => (cv 0 v).category)).sum ≤ 8) (hCT : CTi y bytes maxL ret rmc [aI y1] μ post) (kk : ∀ (r : Int) (μ' : MU), post r μ' → V x n k none (pc + 3) L (aI r :: S) μ') : V x n k none pc L (aI y1 :: S) μ := v_callS (as := [aI y1]) hC hCT cw rfl (fun v hv h => by
    simp only [List.mem_cons, List.not_mem_nil, or_false] at hv
    subst hv; exact h) hR1 hR2 hst d (fun r μ' _ h => by obtain ⟨w, rfl, hw⟩ := h; exact kk w μ' hw)
end VC
/-- a local is forgotten -/
theorem v_forget {x : MC} {n k : Nat} {z : Option Nat} {pc : Nat} {L : List (Option AV)} {S : List AV} {μ : MU} (i : Nat) (kk : V x n k z pc (L.set i none) S μ) : V x n k z pc L S μ := by
  obtain ⟨p, l, e, R, s, m, args, below, meth, c0, Q, nL, H0, b, D, K⟩ := x
  intro hM hS hL H locs ls hlo hH hF
  refine kk hM hS (fun v hv => ?_) H locs ls ⟨hlo.1, hlo.2.1, by rw [List.length_set]; exact hlo.2.2.1, fun j v hj => ?_⟩ hH hF
  · rcases List.mem_or_eq_of_mem_set hv with q | q
    · exact hL v q
    · cases q
  · by_cases q : i = j
    · subst q
      by_cases hl : i < L.length
      · rw [List.getElem?_set_self hl] at hj; cases hj
      · rw [List.getElem?_eq_none (by rw [List.length_set]; omega)] at hj; cases hj
    · rw [List.getElem?_set_ne q] at hj
      exact hlo.2.2.2 j v hj
/-- a loop: by a measure -/
theorem v_loop {α : Type} (f : α → Nat) (P : α → Prop) (G : α → Prop) (h : ∀ a, P a → (∀ a', P a' → f a' < f a → G a') → G a) (a : α) (ha : P a) : G a := by
  suffices hs : ∀ n a, f a < n → P a → G a from hs (f a + 1) a (Nat.lt_succ_self _) ha
  intro n
  induction n with
  | zero => intro a h0; exact absurd h0 (Nat.not_lt_zero _)
  | succ n ih => intro a h0 hp; exact h a hp (fun a' hp' hlt => ih a' (by omega) hp')
end
section
/-! fields and calls by their places in the pools, made by a program of mine -/
theorem foX3_11 : FO RX3 11 3 0 := ⟨RX3, TX3, 8, rfl, inX3, by decide, wd98⟩
theorem foX3_18 : FO RX3 18 3 1 := ⟨RX3, TX3, 8, rfl, inX3, by decide, wd99⟩
theorem foX3_25 : FO RX3 25 3 5 := ⟨RX3, TX3, 8, rfl, inX3, by decide, wd103⟩
theorem foX3_29 : FO RX3 29 3 7 := ⟨RX3, TX3, 8, rfl, inX3, by decide, wd105⟩
theorem foX2_11 : FO RX2 11 2 0 := ⟨RX2, TX2, 2, rfl, inX2, by decide, wd44⟩
theorem foX0_9 : FO RX0 9 0 0 := ⟨RX0, TX0, 3, rfl, inX0, by decide, wd33⟩
theorem foX1_9 : FO RX1 9 1 0 := ⟨RX1, TX1, 10, rfl, inX1, by decide, wd60⟩
theorem foX1_15 : FO RX1 15 1 2 := ⟨RX1, TX1, 10, rfl, inX1, by decide, wd64⟩
theorem foX1_18 : FO RX1 18 1 5 := ⟨RX1, TX1, 10, rfl, inX1, by decide, wd68⟩
theorem fwX1_18 : FOw RX1 18 1 5 .int := ⟨RX1, TX1, 10, tyX1, rfl, inX1, tyX1_ok, nmX1, by decide, wd68, rfl, rfl⟩
theorem foX1_22 : FO RX1 22 1 6 := ⟨RX1, TX1, 10, rfl, inX1, by decide, wd70⟩
theorem fwX1_22 : FOw RX1 22 1 6 .int := ⟨RX1, TX1, 10, tyX1, rfl, inX1, tyX1_ok, nmX1, by decide, wd70, rfl, rfl⟩
theorem foX1_25 : FO RX1 25 1 8 := ⟨RX1, TX1, 10, rfl, inX1, by decide, wd73⟩
theorem fwX1_25 : FOw RX1 25 1 8 .int := ⟨RX1, TX1, 10, tyX1, rfl, inX1, tyX1_ok, nmX1, by decide, wd73, rfl, rfl⟩
theorem foX3_32 : FO RX3 32 3 4 := ⟨RX3, TX3, 8, rfl, inX3, by decide, wd102⟩
theorem fwX3_32 : FOw RX3 32 3 4 .boolean := ⟨RX3, TX3, 8, tyX3, rfl, inX3, tyX3_ok, nmX3, by decide, wd102, rfl, rfl⟩
theorem foX3_69 : FO RX3 69 3 3 := ⟨RX3, TX3, 8, rfl, inX3, by decide, wd101⟩
theorem fwX3_69 : FOw RX3 69 3 3 .int := ⟨RX3, TX3, 8, tyX3, rfl, inX3, tyX3_ok, nmX3, by decide, wd101, rfl, rfl⟩
theorem foX3_91 : FO RX3 91 1 2 := ⟨RX1, TX1, 10, rfl, inX1, by decide, wd65⟩
theorem foX3_36 : FO RX3 36 3 2 := ⟨RX3, TX3, 8, rfl, inX3, by decide, wd100⟩
theorem fwX3_36 : FOw RX3 36 3 2 .int := ⟨RX3, TX3, 8, tyX3, rfl, inX3, tyX3_ok, nmX3, by decide, wd100, rfl, rfl⟩
theorem foX1_43 : FO RX1 43 1 9 := ⟨RX1, TX1, 10, rfl, inX1, by decide, wd75⟩
theorem fwX1_43 : FOw RX1 43 1 9 .int := ⟨RX1, TX1, 10, tyX1, rfl, inX1, tyX1_ok, nmX1, by decide, wd75, rfl, rfl⟩
theorem foX3_117 : FO RX3 117 1 9 := ⟨RX1, TX1, 10, rfl, inX1, by decide, wd76⟩
theorem fwX3_117 : FOw RX3 117 1 9 .int := ⟨RX1, TX1, 10, tyX1, rfl, inX1, tyX1_ok, nmX1, by decide, wd76, rfl, rfl⟩
theorem foX3_72 : FO RX3 72 1 3 := ⟨RX1, TX1, 10, rfl, inX1, by decide, wd66⟩
theorem fwX3_72 : FOw RX3 72 1 3 .int := ⟨RX1, TX1, 10, tyX1, rfl, inX1, tyX1_ok, nmX1, by decide, wd66, rfl, rfl⟩
theorem foX3_123 : FO RX3 123 1 5 := ⟨RX1, TX1, 10, rfl, inX1, by decide, wd69⟩
theorem fwX3_123 : FOw RX3 123 1 5 .int := ⟨RX1, TX1, 10, tyX1, rfl, inX1, tyX1_ok, nmX1, by decide, wd69, rfl, rfl⟩
theorem foX3_130 : FO RX3 130 1 6 := ⟨RX1, TX1, 10, rfl, inX1, by decide, wd71⟩
theorem fwX3_130 : FOw RX3 130 1 6 .int := ⟨RX1, TX1, 10, tyX1, rfl, inX1, tyX1_ok, nmX1, by decide, wd71, rfl, rfl⟩
theorem foX3_133 : FO RX3 133 1 7 := ⟨RX1, TX1, 10, rfl, inX1, by decide, wd72⟩
theorem fwX3_133 : FOw RX3 133 1 7 .int := ⟨RX1, TX1, 10, tyX1, rfl, inX1, tyX1_ok, nmX1, by decide, wd72, rfl, rfl⟩
theorem foX3_136 : FO RX3 136 1 8 := ⟨RX1, TX1, 10, rfl, inX1, by decide, wd74⟩
theorem fwX3_136 : FOw RX3 136 1 8 .int := ⟨RX1, TX1, 10, tyX1, rfl, inX1, tyX1_ok, nmX1, by decide, wd74, rfl, rfl⟩
theorem foX3_50 : FO RX3 50 2 1 := ⟨RX2, TX2, 2, rfl, inX2, by decide, wd47⟩
theorem fwX3_50 : FOw RX3 50 2 1 .int := ⟨RX2, TX2, 2, tyX2, rfl, inX2, tyX2_ok, nmX2, by decide, wd47, rfl, rfl⟩
theorem foX3_53 : FO RX3 53 2 0 := ⟨RX2, TX2, 2, rfl, inX2, by decide, wd45⟩
theorem foX3_57 : FO RX3 57 0 2 := ⟨RX0, TX0, 3, rfl, inX0, by decide, wd35⟩
theorem fwX3_57 : FOw RX3 57 0 2 .int := ⟨RX0, TX0, 3, tyX0, rfl, inX0, tyX0_ok, nmX0, by decide, wd35, rfl, rfl⟩
theorem ldX3_157 : Cond.constant RX3 157 (i32 100000) ∈ wG := wd210
theorem foX3_75 : FO RX3 75 1 4 := ⟨RX1, TX1, 10, rfl, inX1, by decide, wd67⟩
theorem fwX3_75 : FOw RX3 75 1 4 .boolean := ⟨RX1, TX1, 10, tyX1, rfl, inX1, tyX1_ok, nmX1, by decide, wd67, rfl, rfl⟩
theorem foX0_15 : FO RX0 15 0 1 := ⟨RX0, TX0, 3, rfl, inX0, by decide, wd34⟩
theorem fwX0_15 : FOw RX0 15 0 1 .int := ⟨RX0, TX0, 3, tyX0, rfl, inX0, tyX0_ok, nmX0, by decide, wd34, rfl, rfl⟩
theorem foX3_85 : FO RX3 85 1 1 := ⟨RX1, TX1, 10, rfl, inX1, by decide, wd63⟩
theorem fwX3_85 : FOw RX3 85 1 1 .int := ⟨RX1, TX1, 10, tyX1, rfl, inX1, tyX1_ok, nmX1, by decide, wd63, rfl, rfl⟩
theorem foX3_88 : FO RX3 88 1 0 := ⟨RX1, TX1, 10, rfl, inX1, by decide, wd61⟩
theorem foX1_28 : FO RX1 28 1 1 := ⟨RX1, TX1, 10, rfl, inX1, by decide, wd62⟩
theorem fwX1_28 : FOw RX1 28 1 1 .int := ⟨RX1, TX1, 10, tyX1, rfl, inX1, tyX1_ok, nmX1, by decide, wd62, rfl, rfl⟩
theorem foX3_176 : FO RX3 176 3 6 := ⟨RX3, TX3, 8, rfl, inX3, by decide, wd104⟩
theorem fwX3_176 : FOw RX3 176 3 6 .int := ⟨RX3, TX3, 8, tyX3, rfl, inX3, tyX3_ok, nmX3, by decide, wd104, rfl, rfl⟩
theorem foX2_18 : FO RX2 18 2 1 := ⟨RX2, TX2, 2, rfl, inX2, by decide, wd46⟩
theorem fwX2_18 : FOw RX2 18 2 1 .int := ⟨RX2, TX2, 2, tyX2, rfl, inX2, tyX2_ok, nmX2, by decide, wd46, rfl, rfl⟩
theorem foX4_7 : FO RX4 7 4 3 := ⟨RX4, TX4, 20, rfl, inX4, by decide, wd437⟩
theorem foX4_13 : FO RX4 13 4 4 := ⟨RX4, TX4, 20, rfl, inX4, by decide, wd438⟩
theorem foX4_16 : FO RX4 16 4 5 := ⟨RX4, TX4, 20, rfl, inX4, by decide, wd439⟩
theorem foX4_19 : FO RX4 19 4 7 := ⟨RX4, TX4, 20, rfl, inX4, by decide, wd441⟩
theorem foX4_22 : FO RX4 22 4 8 := ⟨RX4, TX4, 20, rfl, inX4, by decide, wd442⟩
theorem foX4_26 : FO RX4 26 4 9 := ⟨RX4, TX4, 20, rfl, inX4, by decide, wd443⟩
theorem foX4_29 : FO RX4 29 4 10 := ⟨RX4, TX4, 20, rfl, inX4, by decide, wd444⟩
theorem foX4_32 : FO RX4 32 4 11 := ⟨RX4, TX4, 20, rfl, inX4, by decide, wd445⟩
theorem foX4_35 : FO RX4 35 4 12 := ⟨RX4, TX4, 20, rfl, inX4, by decide, wd446⟩
theorem foX4_38 : FO RX4 38 4 13 := ⟨RX4, TX4, 20, rfl, inX4, by decide, wd447⟩
theorem foX4_41 : FO RX4 41 4 14 := ⟨RX4, TX4, 20, rfl, inX4, by decide, wd448⟩
theorem foX4_44 : FO RX4 44 4 15 := ⟨RX4, TX4, 20, rfl, inX4, by decide, wd449⟩
theorem foX4_47 : FO RX4 47 4 16 := ⟨RX4, TX4, 20, rfl, inX4, by decide, wd450⟩
theorem foX4_50 : FO RX4 50 4 17 := ⟨RX4, TX4, 20, rfl, inX4, by decide, wd451⟩
theorem foX4_53 : FO RX4 53 4 18 := ⟨RX4, TX4, 20, rfl, inX4, by decide, wd452⟩
theorem foX4_56 : FO RX4 56 4 19 := ⟨RX4, TX4, 20, rfl, inX4, by decide, wd453⟩
theorem foX4_59 : FO RX4 59 4 0 := ⟨RX4, TX4, 20, rfl, inX4, by decide, wd434⟩
theorem fwX4_59 : FOw RX4 59 4 0 .int := ⟨RX4, TX4, 20, tyX4, rfl, inX4, tyX4_ok, nmX4, by decide, wd434, rfl, rfl⟩
theorem foX4_69 : FO RX4 69 4 1 := ⟨RX4, TX4, 20, rfl, inX4, by decide, wd435⟩
theorem fwX4_69 : FOw RX4 69 4 1 .boolean := ⟨RX4, TX4, 20, tyX4, rfl, inX4, tyX4_ok, nmX4, by decide, wd435, rfl, rfl⟩
theorem foX4_63 : FO RX4 63 4 2 := ⟨RX4, TX4, 20, rfl, inX4, by decide, wd436⟩
theorem fwX4_63 : FOw RX4 63 4 2 .int := ⟨RX4, TX4, 20, tyX4, rfl, inX4, tyX4_ok, nmX4, by decide, wd436, rfl, rfl⟩
theorem foX4_66 : FO RX4 66 4 6 := ⟨RX4, TX4, 20, rfl, inX4, by decide, wd440⟩
theorem fwX4_66 : FOw RX4 66 4 6 .int := ⟨RX4, TX4, 20, tyX4, rfl, inX4, tyX4_ok, nmX4, by decide, wd440, rfl, rfl⟩
theorem ldX4_88 : Cond.constant RX4 88 (i32 100000) ∈ wG := wd556
theorem cwX3_78 {x : MC} {cc : ByteArray} {rm rmc : Room} (hC : Ctx x RX3 cc rm) (hR : rmc.frames + 1 ≤ rm.frames ∧ 8 + (2 + 11) + rmc.locals ≤ rm.locals) : CW x RX3 RX3 78 yX3_isPupil cX3_isPupil 2 (some .boolean) rmc rmc.cells rmc.slots 1 := cw_V hC wd127 wd129 wsX3_isPupil wd1 wd130 ⟨rfl, by decide, by decide, by decide +kernel⟩ hR
theorem cwX3_43 {x : MC} {cc : ByteArray} {rm rmc : Room} (hC : Ctx x RX3 cc rm) (hR : rmc.frames + 1 ≤ rm.frames ∧ 8 + (2 + 11) + rmc.locals ≤ rm.locals) : CW x RX3 RX3 43 yX3_isSchool cX3_isSchool 2 (some .boolean) rmc rmc.cells rmc.slots 1 := cw_V hC wd131 wd133 wsX3_isSchool wd1 wd134 ⟨rfl, by decide, by decide, by decide +kernel⟩ hR
theorem cwX3_104 {x : MC} {cc : ByteArray} {rm rmc : Room} (hC : Ctx x RX3 cc rm) (hR : rmc.frames + 1 ≤ rm.frames ∧ 8 + (1 + 11) + rmc.locals ≤ rm.locals) : CW x RX3 RX1 104 yX1_hasLeft cX1_hasLeft 1 (some .boolean) rmc rmc.cells rmc.slots 0 := cw_V hC wd139 wd140 wd141 wd4 wd142 ⟨rfl, by decide, by decide, by decide +kernel⟩ hR
theorem cwX3_108 {x : MC} {cc : ByteArray} {rm rmc : Room} (hC : Ctx x RX3 cc rm) (hR : rmc.frames + 1 ≤ rm.frames ∧ 8 + (1 + 11) + rmc.locals ≤ rm.locals) : CW x RX3 RX1 108 yX1_accept cX1_accept 1 (some .boolean) rmc rmc.cells rmc.slots 0 := cw_V hC wd143 wd144 wd145 wd4 wd146 ⟨rfl, by decide, by decide, by decide +kernel⟩ hR
theorem cwX3_111 {x : MC} {cc : ByteArray} {rm rmc : Room} (hC : Ctx x RX3 cc rm) (hR : rmc.frames + 1 ≤ rm.frames ∧ 8 + (1 + 11) + rmc.locals ≤ rm.locals) : CW x RX3 RX1 111 yX1_decline cX1_decline 1 (some .boolean) rmc rmc.cells rmc.slots 0 := cw_V hC wd155 wd156 wd157 wd4 wd158 ⟨rfl, by decide, by decide, by decide +kernel⟩ hR
theorem cwX3_114 {x : MC} {cc : ByteArray} {rm rmc : Room} (hC : Ctx x RX3 cc rm) (hR : rmc.frames + 1 ≤ rm.frames ∧ 8 + (1 + 11) + rmc.locals ≤ rm.locals) : CW x RX3 RX1 114 yX1_leave cX1_leave 1 none rmc rmc.cells rmc.slots 0 := cw_V hC wd167 wd168 wd169 wd4 wd170 ⟨rfl, by decide, by decide, by decide +kernel⟩ hR
theorem cwX1_50 {x : MC} {cc : ByteArray} {rm rmc : Room} (hC : Ctx x RX1 cc rm) (hR : rmc.frames + 1 ≤ rm.frames ∧ 8 + (1 + 11) + rmc.locals ≤ rm.locals) : CW x RX1 RX1 50 yX1_mayAnswer cX1_mayAnswer 1 (some .boolean) rmc rmc.cells rmc.slots 0 := cw_V hC wd147 wd148 wd149 wd4 wd150 ⟨rfl, by decide, by decide, by decide +kernel⟩ hR
theorem cwX1_35 {x : MC} {cc : ByteArray} {rm rmc : Room} (hC : Ctx x RX1 cc rm) (hR : rmc.frames + 1 ≤ rm.frames ∧ 8 + (1 + 11) + rmc.locals ≤ rm.locals) : CW x RX1 RX1 35 yX1_isPlaced cX1_isPlaced 1 (some .boolean) rmc rmc.cells rmc.slots 0 := cw_V hC wd151 wd152 wd153 wd4 wd154 ⟨rfl, by decide, by decide, by decide +kernel⟩ hR
theorem cwX1_53 {x : MC} {cc : ByteArray} {rm rmc : Room} (hC : Ctx x RX1 cc rm) (hR : rmc.frames + 1 ≤ rm.frames ∧ 8 + (1 + 11) + rmc.locals ≤ rm.locals) : CW x RX1 RX1 53 yX1_giveUpSeat cX1_giveUpSeat 1 none rmc rmc.cells rmc.slots 0 := cw_V hC wd159 wd160 wd161 wd4 wd162 ⟨rfl, by decide, by decide, by decide +kernel⟩ hR
theorem cwX1_46 {x : MC} {cc : ByteArray} {rm rmc : Room} (hC : Ctx x RX1 cc rm) (hR : rmc.frames + 1 ≤ rm.frames ∧ 8 + (3 + 11) + rmc.locals ≤ rm.locals) : CW x RX1 RX1 46 yX1_sitAt cX1_sitAt 3 none rmc rmc.cells rmc.slots 2 := cw_V hC wd163 wd164 wd165 wd4 wd166 ⟨rfl, by decide, by decide, by decide +kernel⟩ hR
theorem cwX3_66 {x : MC} {cc : ByteArray} {rm rmc : Room} (hC : Ctx x RX3 cc rm) (hR : rmc.frames + 1 ≤ rm.frames ∧ 8 + (1 + 11) + rmc.locals ≤ rm.locals) : CS x RX3 66 yX3_areFlags cX3_areFlags 1 (some .boolean) rmc rmc.cells rmc.slots 1 := cw_S hC wd179 wd180 wd1 wd181 ⟨rfl, by decide, by decide, by decide +kernel⟩ hR
theorem cwX3_139 {x : MC} {cc : ByteArray} {rm rmc : Room} (hC : Ctx x RX3 cc rm) (hR : rmc.frames + 1 ≤ rm.frames ∧ 8 + (5 + 11) + rmc.locals ≤ rm.locals) : CW x RX3 RX3 139 yX3_countHolders cX3_countHolders 5 (some .int) rmc rmc.cells rmc.slots 2 := cw_V hC wd190 wd192 wsX3_countHolders wd1 wd193 ⟨rfl, by decide, by decide, by decide +kernel⟩ hR
theorem cwX3_143 {x : MC} {cc : ByteArray} {rm rmc : Room} (hC : Ctx x RX3 cc rm) (hR : rmc.frames + 1 ≤ rm.frames ∧ 8 + (7 + 11) + rmc.locals ≤ rm.locals) : CW x RX3 RX3 143 yX3_lastHolder cX3_lastHolder 7 (some .int) rmc rmc.cells rmc.slots 2 := cw_V hC wd198 wd200 wsX3_lastHolder wd1 wd201 ⟨rfl, by decide, by decide, by decide +kernel⟩ hR
theorem cwX3_167 {x : MC} {cc : ByteArray} {rm rmc : Room} (hC : Ctx x RX3 cc rm) (hR : rmc.frames + 1 ≤ rm.frames ∧ 8 + (3 + 11) + rmc.locals ≤ rm.locals) : CW x RX3 RX1 167 yX1_holds cX1_holds 3 (some .boolean) rmc rmc.cells rmc.slots 2 := cw_V hC wd194 wd195 wd196 wd4 wd197 ⟨rfl, by decide, by decide, by decide +kernel⟩ hR
theorem cwX3_153 {x : MC} {cc : ByteArray} {rm rmc : Room} (hC : Ctx x RX3 cc rm) (hR : rmc.frames + 1 ≤ rm.frames ∧ 8 + (7 + 11) + rmc.locals ≤ rm.locals) : CW x RX3 RX3 153 yX3_standing cX3_standing 7 (some .int) rmc rmc.cells rmc.slots 3 := cw_V hC wd202 wd204 wsX3_standing wd1 wd205 ⟨rfl, by decide, by decide, by decide +kernel⟩ hR
theorem cwX3_170 {x : MC} {cc : ByteArray} {rm rmc : Room} (hC : Ctx x RX3 cc rm) (hR : rmc.frames + 1 ≤ rm.frames ∧ 8 + (3 + 11) + rmc.locals ≤ rm.locals) : CW x RX3 RX0 170 yX0_bandOf cX0_bandOf 3 (some .int) rmc rmc.cells rmc.slots 1 := cw_V hC wd206 wd207 wd208 wd3 wd209 ⟨rfl, by decide, by decide, by decide +kernel⟩ hR
theorem cwX3_146 {x : MC} {cc : ByteArray} {rm rmc : Room} (hC : Ctx x RX3 cc rm) (hR : rmc.frames + 1 ≤ rm.frames ∧ 8 + (4 + 11) + rmc.locals ≤ rm.locals) : CW x RX3 RX3 146 yX3_blocks cX3_blocks 4 (some .boolean) rmc rmc.cells rmc.slots 2 := cw_V hC wd215 wd217 wsX3_blocks wd1 wd218 ⟨rfl, by decide, by decide, by decide +kernel⟩ hR
theorem cwX3_150 {x : MC} {cc : ByteArray} {rm rmc : Room} (hC : Ctx x RX3 cc rm) (hR : rmc.frames + 1 ≤ rm.frames ∧ 8 + (3 + 11) + rmc.locals ≤ rm.locals) : CW x RX3 RX1 150 yX1_prefers cX1_prefers 3 (some .boolean) rmc rmc.cells rmc.slots 1 := cw_V hC wd219 wd220 wd221 wd4 wd222 ⟨rfl, by decide, by decide, by decide +kernel⟩ hR
theorem cwX3_173 {x : MC} {cc : ByteArray} {rm rmc : Room} (hC : Ctx x RX3 cc rm) (hR : rmc.frames + 1 ≤ rm.frames ∧ 8 + (4 + 11) + rmc.locals ≤ rm.locals) : CW x RX3 RX3 173 yX3_choose cX3_choose 4 none rmc rmc.cells rmc.slots 2 := cw_V hC wd227 wd229 wsX3_choose wd1 wd230 ⟨rfl, by decide, by decide, by decide +kernel⟩ hR
theorem cwX1_31 {x : MC} {cc : ByteArray} {rm rmc : Room} (hC : Ctx x RX1 cc rm) (hR : rmc.frames + 1 ≤ rm.frames ∧ 8 + (3 + 11) + rmc.locals ≤ rm.locals) : CW x RX1 RX1 31 yX1_placeOf cX1_placeOf 3 (some .int) rmc rmc.cells rmc.slots 1 := cw_V hC wd223 wd224 wd225 wd4 wd226 ⟨rfl, by decide, by decide, by decide +kernel⟩ hR
theorem cwX3_182 {x : MC} {cc : ByteArray} {rm rmc : Room} (hC : Ctx x RX3 cc rm) (hR : rmc.frames + 1 ≤ rm.frames ∧ 8 + (2 + 11) + rmc.locals ≤ rm.locals) : CW x RX3 RX1 182 yX1_holdsAnyKind cX1_holdsAnyKind 2 (some .boolean) rmc rmc.cells rmc.slots 1 := cw_V hC wd231 wd232 wd233 wd4 wd234 ⟨rfl, by decide, by decide, by decide +kernel⟩ hR
theorem cwX3_185 {x : MC} {cc : ByteArray} {rm rmc : Room} (hC : Ctx x RX3 cc rm) (hR : rmc.frames + 1 ≤ rm.frames ∧ 8 + (6 + 11) + rmc.locals ≤ rm.locals) : CW x RX3 RX3 185 yX3_takeFromPool cX3_takeFromPool 6 none rmc rmc.cells rmc.slots 2 := cw_V hC wd235 wd237 wsX3_takeFromPool wd1 wd238 ⟨rfl, by decide, by decide, by decide +kernel⟩ hR
theorem cwX3_188 {x : MC} {cc : ByteArray} {rm rmc : Room} (hC : Ctx x RX3 cc rm) (hR : rmc.frames + 1 ≤ rm.frames ∧ 8 + (7 + 11) + rmc.locals ≤ rm.locals) : CW x RX3 RX3 188 yX3_firstInPool cX3_firstInPool 7 (some .int) rmc rmc.cells rmc.slots 2 := cw_V hC wd239 wd241 wsX3_firstInPool wd1 wd242 ⟨rfl, by decide, by decide, by decide +kernel⟩ hR
theorem cwX3_81 {x : MC} {cc : ByteArray} {rm rmc : Room} (hC : Ctx x RX3 cc rm) (hR : rmc.frames + 1 ≤ rm.frames ∧ 8 + (3 + 11) + rmc.locals ≤ rm.locals) : CW x RX3 RX1 81 yX1_placeOf cX1_placeOf 3 (some .int) rmc rmc.cells rmc.slots 1 := cw_V hC wd247 wd224 wd225 wd4 wd226 ⟨rfl, by decide, by decide, by decide +kernel⟩ hR
theorem cwX3_158 {x : MC} {cc : ByteArray} {rm rmc : Room} (hC : Ctx x RX3 cc rm) (hR : rmc.frames + 1 ≤ rm.frames ∧ 8 + (3 + 11) + rmc.locals ≤ rm.locals) : CW x RX3 RX2 158 yX2_admits cX2_admits 3 (some .boolean) rmc rmc.cells rmc.slots 1 := cw_V hC wd248 wd249 wd250 wd2 wd251 ⟨rfl, by decide, by decide, by decide +kernel⟩ hR
theorem cwX2_22 {x : MC} {cc : ByteArray} {rm rmc : Room} (hC : Ctx x RX2 cc rm) (hR : rmc.frames + 1 ≤ rm.frames ∧ 8 + (3 + 11) + rmc.locals ≤ rm.locals) : CW x RX2 RX0 22 yX0_bandOf cX0_bandOf 3 (some .int) rmc rmc.cells rmc.slots 1 := cw_V hC wd252 wd207 wd208 wd3 wd209 ⟨rfl, by decide, by decide, by decide +kernel⟩ hR
theorem cwX3_161 {x : MC} {cc : ByteArray} {rm rmc : Room} (hC : Ctx x RX3 cc rm) (hR : rmc.frames + 1 ≤ rm.frames ∧ 8 + (3 + 11) + rmc.locals ≤ rm.locals) : CW x RX3 RX3 161 yX3_countAsks cX3_countAsks 3 (some .int) rmc rmc.cells rmc.slots 0 := cw_V hC wd257 wd259 wsX3_countAsks wd1 wd260 ⟨rfl, by decide, by decide, by decide +kernel⟩ hR
theorem cwX3_101 {x : MC} {cc : ByteArray} {rm rmc : Room} (hC : Ctx x RX3 cc rm) (hR : rmc.frames + 1 ≤ rm.frames ∧ 8 + (3 + 11) + rmc.locals ≤ rm.locals) : CW x RX3 RX3 101 yX3_countPlaced cX3_countPlaced 3 (some .int) rmc rmc.cells rmc.slots 0 := cw_V hC wd261 wd263 wsX3_countPlaced wd1 wd264 ⟨rfl, by decide, by decide, by decide +kernel⟩ hR
theorem cwX3_164 {x : MC} {cc : ByteArray} {rm rmc : Room} (hC : Ctx x RX3 cc rm) (hR : rmc.frames + 1 ≤ rm.frames ∧ 8 + (1 + 11) + rmc.locals ≤ rm.locals) : CW x RX3 RX1 164 yX1_isPlaced cX1_isPlaced 1 (some .boolean) rmc rmc.cells rmc.slots 0 := cw_V hC wd265 wd152 wd153 wd4 wd154 ⟨rfl, by decide, by decide, by decide +kernel⟩ hR
theorem cwL_7 {x : MC} {cc : ByteArray} {rm rmc : Room} (hC : Ctx x RL cc rm) (hR : rmc.frames + 1 ≤ rm.frames ∧ 8 + (1 + 11) + rmc.locals ≤ rm.locals) : CW x RL RX3 7 yX3_school cX3_school 1 (some .int) rmc rmc.cells rmc.slots 0 := cw_V hC wd270 wd271 wd272 wd1 wd273 ⟨rfl, by decide, by decide, by decide +kernel⟩ hR
theorem cwL_15 {x : MC} {cc : ByteArray} {rm rmc : Room} (hC : Ctx x RL cc rm) (hR : rmc.frames + 1 ≤ rm.frames ∧ 8 + (8 + 11) + rmc.locals ≤ rm.locals) : CW x RL RX3 15 yX3_kind cX3_kind 8 (some .int) rmc rmc.cells rmc.slots 5 := cw_V hC wd340 wd341 wd342 wd1 wd343 ⟨rfl, by decide, by decide, by decide +kernel⟩ hR
theorem cwX3_62 {x : MC} {cc : ByteArray} {rm rmc : Room} (hC : Ctx x RX3 cc rm) (hR : rmc.frames + 1 ≤ rm.frames ∧ 8 + (4 + 11) + rmc.locals ≤ rm.locals) : CW x RX3 RX0 62 yX0_setBands cX0_setBands 4 none rmc rmc.cells rmc.slots 3 := cw_V hC wd359 wd360 wd361 wd3 wd362 ⟨rfl, by decide, by decide, by decide +kernel⟩ hR
theorem cwL_21 {x : MC} {cc : ByteArray} {rm rmc : Room} (hC : Ctx x RL cc rm) (hR : rmc.frames + 1 ≤ rm.frames ∧ 8 + (4 + 11) + rmc.locals ≤ rm.locals) : CW x RL RX3 21 yX3_pupil cX3_pupil 4 (some .int) rmc rmc.cells rmc.slots 2 := cw_V hC wd366 wd367 wd368 wd1 wd369 ⟨rfl, by decide, by decide, by decide +kernel⟩ hR
theorem cwL_25 {x : MC} {cc : ByteArray} {rm rmc : Room} (hC : Ctx x RL cc rm) (hR : rmc.frames + 1 ≤ rm.frames ∧ 8 + (4 + 11) + rmc.locals ≤ rm.locals) : CW x RL RX3 25 yX3_wish cX3_wish 4 (some .int) rmc rmc.cells rmc.slots 2 := cw_V hC wd373 wd374 wd375 wd1 wd376 ⟨rfl, by decide, by decide, by decide +kernel⟩ hR
theorem cwL_29 {x : MC} {cc : ByteArray} {rm rmc : Room} (hC : Ctx x RL cc rm) (hR : rmc.frames + 1 ≤ rm.frames ∧ 8 + (3 + 11) + rmc.locals ≤ rm.locals) : CW x RL RX3 29 yX3_run cX3_run 3 (some .int) rmc rmc.cells rmc.slots 0 := cw_V hC wd380 wd381 wd382 wd1 wd383 ⟨rfl, by decide, by decide, by decide +kernel⟩ hR
theorem cwX3_94 {x : MC} {cc : ByteArray} {rm rmc : Room} (hC : Ctx x RX3 cc rm) (hR : rmc.frames + 1 ≤ rm.frames ∧ 8 + (2 + 11) + rmc.locals ≤ rm.locals) : CW x RX3 RX3 94 yX3_nextAsker cX3_nextAsker 2 (some .int) rmc rmc.cells rmc.slots 0 := cw_V hC wd384 wd386 wsX3_nextAsker wd1 wd387 ⟨rfl, by decide, by decide, by decide +kernel⟩ hR
theorem cwX3_98 {x : MC} {cc : ByteArray} {rm rmc : Room} (hC : Ctx x RX3 cc rm) (hR : rmc.frames + 1 ≤ rm.frames ∧ 8 + (5 + 11) + rmc.locals ≤ rm.locals) : CW x RX3 RX3 98 yX3_askNext cX3_askNext 5 none rmc rmc.cells rmc.slots 1 := cw_V hC wd388 wd390 wsX3_askNext wd1 wd391 ⟨rfl, by decide, by decide, by decide +kernel⟩ hR
theorem cwX3_179 {x : MC} {cc : ByteArray} {rm rmc : Room} (hC : Ctx x RX3 cc rm) (hR : rmc.frames + 1 ≤ rm.frames ∧ 8 + (1 + 11) + rmc.locals ≤ rm.locals) : CW x RX3 RX1 179 yX1_giveUpSeat cX1_giveUpSeat 1 none rmc rmc.cells rmc.slots 0 := cw_V hC wd392 wd160 wd161 wd4 wd162 ⟨rfl, by decide, by decide, by decide +kernel⟩ hR
theorem cwX3_126 {x : MC} {cc : ByteArray} {rm rmc : Room} (hC : Ctx x RX3 cc rm) (hR : rmc.frames + 1 ≤ rm.frames ∧ 8 + (3 + 11) + rmc.locals ≤ rm.locals) : CW x RX3 RX1 126 yX1_sitAt cX1_sitAt 3 none rmc rmc.cells rmc.slots 2 := cw_V hC wd393 wd164 wd165 wd4 wd166 ⟨rfl, by decide, by decide, by decide +kernel⟩ hR
theorem cwL_32 {x : MC} {cc : ByteArray} {rm rmc : Room} (hC : Ctx x RL cc rm) (hR : rmc.frames + 1 ≤ rm.frames ∧ 8 + (2 + 11) + rmc.locals ≤ rm.locals) : CW x RL RX3 32 yX3_chain cX3_chain 2 (some .int) rmc rmc.cells rmc.slots 0 := cw_V hC wd397 wd398 wd399 wd1 wd400 ⟨rfl, by decide, by decide, by decide +kernel⟩ hR
theorem cwX3_120 {x : MC} {cc : ByteArray} {rm rmc : Room} (hC : Ctx x RX3 cc rm) (hR : rmc.frames + 1 ≤ rm.frames ∧ 8 + (4 + 11) + rmc.locals ≤ rm.locals) : CW x RX3 RX3 120 yX3_moveOne cX3_moveOne 4 (some .boolean) rmc rmc.cells rmc.slots 0 := cw_V hC wd401 wd403 wsX3_moveOne wd1 wd404 ⟨rfl, by decide, by decide, by decide +kernel⟩ hR
theorem cwX3_191 {x : MC} {cc : ByteArray} {rm rmc : Room} (hC : Ctx x RX3 cc rm) (hR : rmc.frames + 1 ≤ rm.frames ∧ 8 + (7 + 11) + rmc.locals ≤ rm.locals) : CW x RX3 RX3 191 yX3_firstWaiting cX3_firstWaiting 7 (some .int) rmc rmc.cells rmc.slots 2 := cw_V hC wd405 wd407 wsX3_firstWaiting wd1 wd408 ⟨rfl, by decide, by decide, by decide +kernel⟩ hR
theorem cwX3_194 {x : MC} {cc : ByteArray} {rm rmc : Room} (hC : Ctx x RX3 cc rm) (hR : rmc.frames + 1 ≤ rm.frames ∧ 8 + (2 + 11) + rmc.locals ≤ rm.locals) : CW x RX3 RX1 194 yX1_waitsFor cX1_waitsFor 2 (some .boolean) rmc rmc.cells rmc.slots 1 := cw_V hC wd409 wd410 wd411 wd4 wd412 ⟨rfl, by decide, by decide, by decide +kernel⟩ hR
theorem cwX1_39 {x : MC} {cc : ByteArray} {rm rmc : Room} (hC : Ctx x RX1 cc rm) (hR : rmc.frames + 1 ≤ rm.frames ∧ 8 + (3 + 11) + rmc.locals ≤ rm.locals) : CW x RX1 RX1 39 yX1_prefers cX1_prefers 3 (some .boolean) rmc rmc.cells rmc.slots 1 := cw_V hC wd413 wd220 wd221 wd4 wd222 ⟨rfl, by decide, by decide, by decide +kernel⟩ hR
theorem cwL_35 {x : MC} {cc : ByteArray} {rm rmc : Room} (hC : Ctx x RL cc rm) (hR : rmc.frames + 1 ≤ rm.frames ∧ 8 + (4 + 11) + rmc.locals ≤ rm.locals) : CW x RL RX3 35 yX3_over cX3_over 4 (some .boolean) rmc rmc.cells rmc.slots 2 := cw_V hC wd417 wd418 wd419 wd1 wd420 ⟨rfl, by decide, by decide, by decide +kernel⟩ hR
theorem cwL_39 {x : MC} {cc : ByteArray} {rm rmc : Room} (hC : Ctx x RL cc rm) (hR : rmc.frames + 1 ≤ rm.frames ∧ 8 + (6 + 11) + rmc.locals ≤ rm.locals) : CW x RL RX3 39 yX3_envies cX3_envies 6 (some .boolean) rmc rmc.cells rmc.slots 2 := cw_V hC wd424 wd425 wd426 wd1 wd427 ⟨rfl, by decide, by decide, by decide +kernel⟩ hR
theorem cwX4_73 {x : MC} {cc : ByteArray} {rm rmc : Room} (hC : Ctx x RX4 cc rm) (hR : rmc.frames + 1 ≤ rm.frames ∧ 8 + (2 + 11) + rmc.locals ≤ rm.locals) : CW x RX4 RX4 73 yX4_isSchool cX4_isSchool 2 (some .boolean) rmc rmc.cells rmc.slots 1 := cw_V hC wd508 wd510 wsX4_isSchool wd5 wd511 ⟨rfl, by decide, by decide, by decide +kernel⟩ hR
theorem cwX4_77 {x : MC} {cc : ByteArray} {rm rmc : Room} (hC : Ctx x RX4 cc rm) (hR : rmc.frames + 1 ≤ rm.frames ∧ 8 + (2 + 11) + rmc.locals ≤ rm.locals) : CW x RX4 RX4 77 yX4_isPupil cX4_isPupil 2 (some .boolean) rmc rmc.cells rmc.slots 1 := cw_V hC wd520 wd522 wsX4_isPupil wd5 wd523 ⟨rfl, by decide, by decide, by decide +kernel⟩ hR
theorem cwX4_80 {x : MC} {cc : ByteArray} {rm rmc : Room} (hC : Ctx x RX4 cc rm) (hR : rmc.frames + 1 ≤ rm.frames ∧ 8 + (4 + 11) + rmc.locals ≤ rm.locals) : CW x RX4 RX4 80 yX4_place cX4_place 4 (some .int) rmc rmc.cells rmc.slots 2 := cw_V hC wd524 wd526 wsX4_place wd5 wd527 ⟨rfl, by decide, by decide, by decide +kernel⟩ hR
theorem cwX4_100 {x : MC} {cc : ByteArray} {rm rmc : Room} (hC : Ctx x RX4 cc rm) (hR : rmc.frames + 1 ≤ rm.frames ∧ 8 + (4 + 11) + rmc.locals ≤ rm.locals) : CW x RX4 RX4 100 yX4_ask cX4_ask 4 none rmc rmc.cells rmc.slots 1 := cw_V hC wd536 wd538 wsX4_ask wd5 wd539 ⟨rfl, by decide, by decide, by decide +kernel⟩ hR
theorem cwX4_103 {x : MC} {cc : ByteArray} {rm rmc : Room} (hC : Ctx x RX4 cc rm) (hR : rmc.frames + 1 ≤ rm.frames ∧ 8 + (3 + 11) + rmc.locals ≤ rm.locals) : CW x RX4 RX4 103 yX4_placed cX4_placed 3 (some .int) rmc rmc.cells rmc.slots 0 := cw_V hC wd557 wd559 wsX4_placed wd5 wd560 ⟨rfl, by decide, by decide, by decide +kernel⟩ hR
theorem cwX4_96 {x : MC} {cc : ByteArray} {rm rmc : Room} (hC : Ctx x RX4 cc rm) (hR : rmc.frames + 1 ≤ rm.frames ∧ 8 + (7 + 11) + rmc.locals ≤ rm.locals) : CW x RX4 RX4 96 yX4_choose cX4_choose 7 none rmc rmc.cells rmc.slots 1 := cw_V hC wd540 wd542 wsX4_choose wd5 wd543 ⟨rfl, by decide, by decide, by decide +kernel⟩ hR
theorem cwX4_89 {x : MC} {cc : ByteArray} {rm rmc : Room} (hC : Ctx x RX4 cc rm) (hR : rmc.frames + 1 ≤ rm.frames ∧ 8 + (4 + 11) + rmc.locals ≤ rm.locals) : CW x RX4 RX4 89 yX4_eligible cX4_eligible 4 (some .boolean) rmc rmc.cells rmc.slots 3 := cw_V hC wd544 wd546 wsX4_eligible wd5 wd547 ⟨rfl, by decide, by decide, by decide +kernel⟩ hR
theorem cwX4_93 {x : MC} {cc : ByteArray} {rm rmc : Room} (hC : Ctx x RX4 cc rm) (hR : rmc.frames + 1 ≤ rm.frames ∧ 8 + (5 + 11) + rmc.locals ≤ rm.locals) : CW x RX4 RX4 93 yX4_rank cX4_rank 5 (some .int) rmc rmc.cells rmc.slots 3 := cw_V hC wd552 wd554 wsX4_rank wd5 wd555 ⟨rfl, by decide, by decide, by decide +kernel⟩ hR
theorem cwX4_84 {x : MC} {cc : ByteArray} {rm rmc : Room} (hC : Ctx x RX4 cc rm) (hR : rmc.frames + 1 ≤ rm.frames ∧ 8 + (6 + 11) + rmc.locals ≤ rm.locals) : CW x RX4 RX4 84 yX4_band cX4_band 6 (some .int) rmc rmc.cells rmc.slots 3 := cw_V hC wd548 wd550 wsX4_band wd5 wd551 ⟨rfl, by decide, by decide, by decide +kernel⟩ hR
theorem cwX4_107 {x : MC} {cc : ByteArray} {rm rmc : Room} (hC : Ctx x RX4 cc rm) (hR : rmc.frames + 1 ≤ rm.frames ∧ 8 + (2 + 11) + rmc.locals ≤ rm.locals) : CW x RX4 RX4 107 yX4_give cX4_give 2 none rmc rmc.cells rmc.slots 1 := cw_V hC wd565 wd567 wsX4_give wd5 wd568 ⟨rfl, by decide, by decide, by decide +kernel⟩ hR
theorem cwX4_121 {x : MC} {cc : ByteArray} {rm rmc : Room} (hC : Ctx x RX4 cc rm) (hR : rmc.frames + 1 ≤ rm.frames ∧ 8 + (6 + 11) + rmc.locals ≤ rm.locals) : CW x RX4 RX4 121 yX4_move cX4_move 6 (some .boolean) rmc rmc.cells rmc.slots 0 := cw_V hC wd577 wd579 wsX4_move wd5 wd580 ⟨rfl, by decide, by decide, by decide +kernel⟩ hR
theorem cwX4_114 {x : MC} {cc : ByteArray} {rm rmc : Room} (hC : Ctx x RX4 cc rm) (hR : rmc.frames + 1 ≤ rm.frames ∧ 8 + (5 + 11) + rmc.locals ≤ rm.locals) : CW x RX4 RX4 114 yX4_holders cX4_holders 5 (some .int) rmc rmc.cells rmc.slots 2 := cw_V hC wd581 wd583 wsX4_holders wd5 wd584 ⟨rfl, by decide, by decide, by decide +kernel⟩ hR
theorem cwX4_117 {x : MC} {cc : ByteArray} {rm rmc : Room} (hC : Ctx x RX4 cc rm) (hR : rmc.frames + 1 ≤ rm.frames ∧ 8 + (4 + 11) + rmc.locals ≤ rm.locals) : CW x RX4 RX4 117 yX4_waits cX4_waits 4 (some .boolean) rmc rmc.cells rmc.slots 2 := cw_V hC wd585 wd587 wsX4_waits wd5 wd588 ⟨rfl, by decide, by decide, by decide +kernel⟩ hR
theorem cwX4_110 {x : MC} {cc : ByteArray} {rm rmc : Room} (hC : Ctx x RX4 cc rm) (hR : rmc.frames + 1 ≤ rm.frames ∧ 8 + (2 + 11) + rmc.locals ≤ rm.locals) : CW x RX4 RX4 110 yX4_own cX4_own 2 (some .int) rmc rmc.cells rmc.slots 1 := cw_V hC wd589 wd591 wsX4_own wd5 wd592 ⟨rfl, by decide, by decide, by decide +kernel⟩ hR
theorem cwX4_125 {x : MC} {cc : ByteArray} {rm rmc : Room} (hC : Ctx x RX4 cc rm) (hR : rmc.frames + 1 ≤ rm.frames ∧ 8 + (4 + 11) + rmc.locals ≤ rm.locals) : CW x RX4 RX4 125 yX4_blocks cX4_blocks 4 (some .boolean) rmc rmc.cells rmc.slots 2 := cw_V hC wd613 wd615 wsX4_blocks wd5 wd616 ⟨rfl, by decide, by decide, by decide +kernel⟩ hR
theorem cwL_51 {x : MC} {cc : ByteArray} {rm rmc : Room} (hC : Ctx x RL cc rm) (hR : rmc.frames + 1 ≤ rm.frames ∧ 8 + (1 + 11) + rmc.locals ≤ rm.locals) : CW x RL RX4 51 yX4_school cX4_school 1 (some .int) rmc rmc.cells rmc.slots 0 := cw_V hC wd500 wd501 wd502 wd5 wd503 ⟨rfl, by decide, by decide, by decide +kernel⟩ hR
theorem cwL_52 {x : MC} {cc : ByteArray} {rm rmc : Room} (hC : Ctx x RL cc rm) (hR : rmc.frames + 1 ≤ rm.frames ∧ 8 + (1 + 11) + rmc.locals ≤ rm.locals) : CW x RL RX4 52 yX4_thrown cX4_thrown 1 (some .int) rmc rmc.cells rmc.slots 0 := cw_V hC wd496 wd497 wd498 wd5 wd499 ⟨rfl, by decide, by decide, by decide +kernel⟩ hR
theorem cwL_58 {x : MC} {cc : ByteArray} {rm rmc : Room} (hC : Ctx x RL cc rm) (hR : rmc.frames + 1 ≤ rm.frames ∧ 8 + (7 + 11) + rmc.locals ≤ rm.locals) : CW x RL RX4 58 yX4_kind cX4_kind 7 (some .int) rmc rmc.cells rmc.slots 5 := cw_V hC wd504 wd505 wd506 wd5 wd507 ⟨rfl, by decide, by decide, by decide +kernel⟩ hR
theorem cwL_62 {x : MC} {cc : ByteArray} {rm rmc : Room} (hC : Ctx x RL cc rm) (hR : rmc.frames + 1 ≤ rm.frames ∧ 8 + (3 + 11) + rmc.locals ≤ rm.locals) : CW x RL RX4 62 yX4_pupil cX4_pupil 3 (some .int) rmc rmc.cells rmc.slots 2 := cw_V hC wd512 wd513 wd514 wd5 wd515 ⟨rfl, by decide, by decide, by decide +kernel⟩ hR
theorem cwL_66 {x : MC} {cc : ByteArray} {rm rmc : Room} (hC : Ctx x RL cc rm) (hR : rmc.frames + 1 ≤ rm.frames ∧ 8 + (3 + 11) + rmc.locals ≤ rm.locals) : CW x RL RX4 66 yX4_wish cX4_wish 3 (some .int) rmc rmc.cells rmc.slots 2 := cw_V hC wd516 wd517 wd518 wd5 wd519 ⟨rfl, by decide, by decide, by decide +kernel⟩ hR
theorem cwL_67 {x : MC} {cc : ByteArray} {rm rmc : Room} (hC : Ctx x RL cc rm) (hR : rmc.frames + 1 ≤ rm.frames ∧ 8 + (5 + 11) + rmc.locals ≤ rm.locals) : CW x RL RX3 67 yX3_draw cX3_draw 5 (some .boolean) rmc rmc.cells rmc.slots 3 := cw_V hC wd123 wd124 wd125 wd1 wd126 ⟨rfl, by decide, by decide, by decide +kernel⟩ hR
theorem cwL_71 {x : MC} {cc : ByteArray} {rm rmc : Room} (hC : Ctx x RL cc rm) (hR : rmc.frames + 1 ≤ rm.frames ∧ 8 + (5 + 11) + rmc.locals ≤ rm.locals) : CW x RL RX4 71 yX4_draw cX4_draw 5 (some .boolean) rmc rmc.cells rmc.slots 3 := cw_V hC wd528 wd529 wd530 wd5 wd531 ⟨rfl, by decide, by decide, by decide +kernel⟩ hR
theorem cwL_74 {x : MC} {cc : ByteArray} {rm rmc : Room} (hC : Ctx x RL cc rm) (hR : rmc.frames + 1 ≤ rm.frames ∧ 8 + (3 + 11) + rmc.locals ≤ rm.locals) : CW x RL RX4 74 yX4_run cX4_run 3 (some .int) rmc rmc.cells rmc.slots 0 := cw_V hC wd532 wd533 wd534 wd5 wd535 ⟨rfl, by decide, by decide, by decide +kernel⟩ hR
theorem cwL_75 {x : MC} {cc : ByteArray} {rm rmc : Room} (hC : Ctx x RL cc rm) (hR : rmc.frames + 1 ≤ rm.frames ∧ 8 + (4 + 11) + rmc.locals ≤ rm.locals) : CW x RL RX3 75 yX3_answer cX3_answer 4 (some .boolean) rmc rmc.cells rmc.slots 2 := cw_V hC wd135 wd136 wd137 wd1 wd138 ⟨rfl, by decide, by decide, by decide +kernel⟩ hR
theorem cwL_78 {x : MC} {cc : ByteArray} {rm rmc : Room} (hC : Ctx x RL cc rm) (hR : rmc.frames + 1 ≤ rm.frames ∧ 8 + (3 + 11) + rmc.locals ≤ rm.locals) : CW x RL RX4 78 yX4_answer cX4_answer 3 (some .boolean) rmc rmc.cells rmc.slots 2 := cw_V hC wd561 wd562 wd563 wd5 wd564 ⟨rfl, by decide, by decide, by decide +kernel⟩ hR
theorem cwL_79 {x : MC} {cc : ByteArray} {rm rmc : Room} (hC : Ctx x RL cc rm) (hR : rmc.frames + 1 ≤ rm.frames ∧ 8 + (3 + 11) + rmc.locals ≤ rm.locals) : CW x RL RX3 79 yX3_stay cX3_stay 3 (some .boolean) rmc rmc.cells rmc.slots 2 := cw_V hC wd171 wd172 wd173 wd1 wd174 ⟨rfl, by decide, by decide, by decide +kernel⟩ hR
theorem cwL_82 {x : MC} {cc : ByteArray} {rm rmc : Room} (hC : Ctx x RL cc rm) (hR : rmc.frames + 1 ≤ rm.frames ∧ 8 + (3 + 11) + rmc.locals ≤ rm.locals) : CW x RL RX4 82 yX4_stay cX4_stay 3 (some .boolean) rmc rmc.cells rmc.slots 2 := cw_V hC wd569 wd570 wd571 wd5 wd572 ⟨rfl, by decide, by decide, by decide +kernel⟩ hR
theorem cwL_85 {x : MC} {cc : ByteArray} {rm rmc : Room} (hC : Ctx x RL cc rm) (hR : rmc.frames + 1 ≤ rm.frames ∧ 8 + (2 + 11) + rmc.locals ≤ rm.locals) : CW x RL RX4 85 yX4_chain cX4_chain 2 (some .int) rmc rmc.cells rmc.slots 0 := cw_V hC wd573 wd574 wd575 wd5 wd576 ⟨rfl, by decide, by decide, by decide +kernel⟩ hR
theorem cwL_86 {x : MC} {cc : ByteArray} {rm rmc : Room} (hC : Ctx x RL cc rm) (hR : rmc.frames + 1 ≤ rm.frames ∧ 8 + (3 + 11) + rmc.locals ≤ rm.locals) : CW x RL RX3 86 yX3_appeal cX3_appeal 3 (some .boolean) rmc rmc.cells rmc.slots 2 := cw_V hC wd175 wd176 wd177 wd1 wd178 ⟨rfl, by decide, by decide, by decide +kernel⟩ hR
theorem cwL_89 {x : MC} {cc : ByteArray} {rm rmc : Room} (hC : Ctx x RL cc rm) (hR : rmc.frames + 1 ≤ rm.frames ∧ 8 + (3 + 11) + rmc.locals ≤ rm.locals) : CW x RL RX4 89 yX4_appeal cX4_appeal 3 (some .boolean) rmc rmc.cells rmc.slots 2 := cw_V hC wd593 wd594 wd595 wd5 wd596 ⟨rfl, by decide, by decide, by decide +kernel⟩ hR
theorem cwL_92 {x : MC} {cc : ByteArray} {rm rmc : Room} (hC : Ctx x RL cc rm) (hR : rmc.frames + 1 ≤ rm.frames ∧ 8 + (3 + 11) + rmc.locals ≤ rm.locals) : CW x RL RX4 92 yX4_over cX4_over 3 (some .boolean) rmc rmc.cells rmc.slots 2 := cw_V hC wd597 wd598 wd599 wd5 wd600 ⟨rfl, by decide, by decide, by decide +kernel⟩ hR
theorem cwL_93 {x : MC} {cc : ByteArray} {rm rmc : Room} (hC : Ctx x RL cc rm) (hR : rmc.frames + 1 ≤ rm.frames ∧ 8 + (4 + 11) + rmc.locals ≤ rm.locals) : CW x RL RX3 93 yX3_seat cX3_seat 4 (some .int) rmc rmc.cells rmc.slots 2 := cw_V hC wd182 wd183 wd184 wd1 wd185 ⟨rfl, by decide, by decide, by decide +kernel⟩ hR
theorem cwL_96 {x : MC} {cc : ByteArray} {rm rmc : Room} (hC : Ctx x RL cc rm) (hR : rmc.frames + 1 ≤ rm.frames ∧ 8 + (3 + 11) + rmc.locals ≤ rm.locals) : CW x RL RX4 96 yX4_seat cX4_seat 3 (some .int) rmc rmc.cells rmc.slots 2 := cw_V hC wd601 wd602 wd603 wd5 wd604 ⟨rfl, by decide, by decide, by decide +kernel⟩ hR
theorem cwL_97 {x : MC} {cc : ByteArray} {rm rmc : Room} (hC : Ctx x RL cc rm) (hR : rmc.frames + 1 ≤ rm.frames ∧ 8 + (4 + 11) + rmc.locals ≤ rm.locals) : CW x RL RX3 97 yX3_held cX3_held 4 (some .int) rmc rmc.cells rmc.slots 3 := cw_V hC wd186 wd187 wd188 wd1 wd189 ⟨rfl, by decide, by decide, by decide +kernel⟩ hR
theorem cwL_101 {x : MC} {cc : ByteArray} {rm rmc : Room} (hC : Ctx x RL cc rm) (hR : rmc.frames + 1 ≤ rm.frames ∧ 8 + (9 + 11) + rmc.locals ≤ rm.locals) : CW x RL RX4 101 yX4_held cX4_held 9 (some .int) rmc rmc.cells rmc.slots 3 := cw_V hC wd605 wd606 wd607 wd5 wd608 ⟨rfl, by decide, by decide, by decide +kernel⟩ hR
theorem cwL_102 {x : MC} {cc : ByteArray} {rm rmc : Room} (hC : Ctx x RL cc rm) (hR : rmc.frames + 1 ≤ rm.frames ∧ 8 + (7 + 11) + rmc.locals ≤ rm.locals) : CW x RL RX3 102 yX3_blocking cX3_blocking 7 (some .int) rmc rmc.cells rmc.slots 1 := cw_V hC wd211 wd212 wd213 wd1 wd214 ⟨rfl, by decide, by decide, by decide +kernel⟩ hR
theorem cwL_106 {x : MC} {cc : ByteArray} {rm rmc : Room} (hC : Ctx x RL cc rm) (hR : rmc.frames + 1 ≤ rm.frames ∧ 8 + (5 + 11) + rmc.locals ≤ rm.locals) : CW x RL RX4 106 yX4_blocking cX4_blocking 5 (some .int) rmc rmc.cells rmc.slots 1 := cw_V hC wd609 wd610 wd611 wd5 wd612 ⟨rfl, by decide, by decide, by decide +kernel⟩ hR
theorem cwL_109 {x : MC} {cc : ByteArray} {rm rmc : Room} (hC : Ctx x RL cc rm) (hR : rmc.frames + 1 ≤ rm.frames ∧ 8 + (5 + 11) + rmc.locals ≤ rm.locals) : CW x RL RX4 109 yX4_envies cX4_envies 5 (some .boolean) rmc rmc.cells rmc.slots 2 := cw_V hC wd617 wd618 wd619 wd5 wd620 ⟨rfl, by decide, by decide, by decide +kernel⟩ hR
theorem cwL_110 {x : MC} {cc : ByteArray} {rm rmc : Room} (hC : Ctx x RL cc rm) (hR : rmc.frames + 1 ≤ rm.frames ∧ 8 + (4 + 11) + rmc.locals ≤ rm.locals) : CW x RL RX3 110 yX3_why cX3_why 4 (some .int) rmc rmc.cells rmc.slots 2 := cw_V hC wd243 wd244 wd245 wd1 wd246 ⟨rfl, by decide, by decide, by decide +kernel⟩ hR
theorem cwL_113 {x : MC} {cc : ByteArray} {rm rmc : Room} (hC : Ctx x RL cc rm) (hR : rmc.frames + 1 ≤ rm.frames ∧ 8 + (6 + 11) + rmc.locals ≤ rm.locals) : CW x RL RX4 113 yX4_why cX4_why 6 (some .int) rmc rmc.cells rmc.slots 2 := cw_V hC wd621 wd622 wd623 wd5 wd624 ⟨rfl, by decide, by decide, by decide +kernel⟩ hR
theorem cwL_114 {x : MC} {cc : ByteArray} {rm rmc : Room} (hC : Ctx x RL cc rm) (hR : rmc.frames + 1 ≤ rm.frames ∧ 8 + (2 + 11) + rmc.locals ≤ rm.locals) : CW x RL RX3 114 yX3_look cX3_look 2 (some .int) rmc rmc.cells rmc.slots 1 := cw_V hC wd253 wd254 wd255 wd1 wd256 ⟨rfl, by decide, by decide, by decide +kernel⟩ hR
theorem cwL_117 {x : MC} {cc : ByteArray} {rm rmc : Room} (hC : Ctx x RL cc rm) (hR : rmc.frames + 1 ≤ rm.frames ∧ 8 + (4 + 11) + rmc.locals ≤ rm.locals) : CW x RL RX4 117 yX4_look cX4_look 4 (some .int) rmc rmc.cells rmc.slots 1 := cw_V hC wd625 wd626 wd627 wd5 wd628 ⟨rfl, by decide, by decide, by decide +kernel⟩ hR
end
section
/-! What the methods answer: pure functions of the state. -/
/-- the first index from i on, among n, with P -/
def fnd (P : Nat → Bool) : Nat → Nat → Option Nat
  | _, 0 => none
  | i, n + 1 => if P i = true then some i else fnd P (i + 1) n
def itr {σ : Type} (f : Nat → σ → σ) : Nat → Nat → σ → σ
  | _, 0, a => a
  | i, n + 1, a => itr f (i + 1) n (f i a)
theorem fnd_done {P : Nat → Bool} {i n : Nat} (h : n ≤ i) : fnd P i (n - i) = none := by
  rw [Nat.sub_eq_zero_of_le h]; rfl
theorem fnd_yes {P : Nat → Bool} {i n : Nat} (h : i < n) (hp : P i = true) : fnd P i (n - i) = some i := by
  obtain ⟨m, e⟩ : ∃ m, n - i = m + 1 := ⟨n - i - 1, by omega⟩
  rw [e]; exact if_pos hp
theorem fnd_no {P : Nat → Bool} {i n : Nat} (h : i < n) (hp : ¬ P i = true) : fnd P i (n - i) = fnd P (i + 1) (n - (i + 1)) := by
  obtain ⟨m, e⟩ : ∃ m, n - i = m + 1 := ⟨n - i - 1, by omega⟩
  rw [e, show n - (i + 1) = m by omega]; exact if_neg hp
theorem itr_done {σ : Type} {f : Nat → σ → σ} {i n : Nat} {a : σ} (h : n ≤ i) : itr f i (n - i) a = a := by
  rw [Nat.sub_eq_zero_of_le h]; rfl
theorem itr_step {σ : Type} {f : Nat → σ → σ} {i n : Nat} {a : σ} (h : i < n) : itr f i (n - i) a = itr f (i + 1) (n - (i + 1)) (f i a) := by
  obtain ⟨m, e⟩ : ∃ m, n - i = m + 1 := ⟨n - i - 1, by omega⟩
  rw [e, show n - (i + 1) = m by omega]; rfl
theorem fnd_next {P : Nat → Bool} {i n : Nat} {T : Option Nat} (h : i < n) (hp : ¬ P i = true) (hT : fnd P i (n - i) = T) : fnd P (i + 1) (n - (i + 1)) = T := (fnd_no h hp).symm.trans hT
theorem itr_next {σ : Type} {f : Nat → σ → σ} {i n : Nat} {a a' T : σ} (h : i < n) (hs : f i a = a') (hT : itr f i (n - i) a = T) : itr f (i + 1) (n - (i + 1)) a' = T := by
  rw [← hT, ← hs]
  exact (itr_step h).symm
/-- a loop's rule for itr: an invariant that each step keeps -/
theorem itr_inv {σ : Type} {f : Nat → σ → σ} {P : Nat → σ → Prop} {n : Nat} : ∀ (m i : Nat) (a : σ), i + m = n → P i a → (∀ j b, j < n → P j b → P (j + 1) (f j b)) → P n (itr f i m a)
  | 0, i, a, e, h, _ => by
    have : i = n := by omega
    subst this; exact h
  | m + 1, i, a, e, h, hs => itr_inv m (i + 1) (f i a) (by omega) (hs i a (by omega) h) hs
theorem itr_congr {σ : Type} {f g : Nat → σ → σ} {n : Nat} : ∀ (m i : Nat) (a : σ), i + m ≤ n → (∀ j b, j < n → f j b = g j b) → itr f i m a = itr g i m a
  | 0, _, _, _, _ => rfl
  | m + 1, i, a, e, h => by
    show itr f (i + 1) m (f i a) = itr g (i + 1) m (g i a)
    rw [h i a (by omega)]
    exact itr_congr m (i + 1) (g i a) (by omega) h
theorem fnd_congr {P Q : Nat → Bool} {n : Nat} : ∀ (m i : Nat), i + m ≤ n → (∀ j, j < n → P j = Q j) → fnd P i m = fnd Q i m
  | 0, _, _, _ => rfl
  | m + 1, i, e, h => by
    show (if P i = true then some i else fnd P (i + 1) m) = (if Q i = true then some i else fnd Q (i + 1) m)
    rw [h i (by omega), fnd_congr m (i + 1) (by omega) h]
theorem fnd_some {P : Nat → Bool} {j : Nat} : ∀ (m i : Nat), fnd P i m = some j → i ≤ j ∧ j < i + m ∧ P j = true ∧ ∀ t, i ≤ t → t < j → P t = false
  | 0, _, h => by cases h
  | m + 1, i, h => by
    have h' : (if P i = true then some i else fnd P (i + 1) m) = some j := h
    by_cases hp : P i = true
    · rw [if_pos hp] at h'
      cases h'
      exact ⟨Nat.le_refl _, by omega, hp, fun t h1 h2 => by omega⟩
    · rw [if_neg hp] at h'
      obtain ⟨h1, h2, h3, h4⟩ := fnd_some m (i + 1) h'
      refine ⟨by omega, by omega, h3, fun t h5 h6 => ?_⟩
      by_cases e : t = i
      · subst e; exact Bool.eq_false_iff.mpr hp
      · exact h4 t (by omega) h6
theorem fnd_none {P : Nat → Bool} : ∀ (m i : Nat), fnd P i m = none → ∀ t, i ≤ t → t < i + m → P t = false
  | 0, _, _, t, h1, h2 => by omega
  | m + 1, i, h, t, h1, h2 => by
    have h' : (if P i = true then some i else fnd P (i + 1) m) = none := h
    by_cases hp : P i = true
    · rw [if_pos hp] at h'; cases h'
    · rw [if_neg hp] at h'
      by_cases e : t = i
      · subst e; exact Bool.eq_false_iff.mpr hp
      · exact fnd_none m (i + 1) h' t (by omega) (by omega)
def oI : Option Nat → Int
  | none => -1
  | some j => (j : Int)
def bI (P : Prop) [Decidable P] : Int := if P then 1 else 0
theorem bI_t {P : Prop} [Decidable P] (h : P) : 1 = bI P := (if_pos h).symm
theorem bI_f {P : Prop} [Decidable P] (h : ¬ P) : 0 = bI P := (if_neg h).symm
theorem bI_01 {P : Prop} [Decidable P] : bI P = 0 ∨ bI P = 1 := by
  unfold bI; split
  · exact Or.inr rfl
  · exact Or.inl rfl
theorem bI_z {P : Prop} [Decidable P] : bI P = 0 ↔ ¬ P := by
  unfold bI; split
  · rename_i h; exact ⟨fun q => by omega, fun q => absurd h q⟩
  · rename_i h; exact ⟨fun _ => h, fun _ => rfl⟩
theorem bI_n {P : Prop} [Decidable P] : ¬ bI P = 0 ↔ P := by
  unfold bI; split
  · rename_i h; exact ⟨fun _ => h, fun _ q => by omega⟩
  · rename_i h; exact ⟨fun q => absurd rfl q, fun q => absurd q h⟩
theorem oI_m {o : Option Nat} : oI o = -1 ↔ o = none := by
  cases o with
  | none => exact ⟨fun _ => rfl, fun _ => rfl⟩
  | some j => exact ⟨fun h => by have : (j : Int) = -1 := h; omega, fun h => by cases h⟩
/-- the class's words: a pupil's place for a school, a kind's band for flags, a school's eye on flags, the standing -/
def plF (μ : MU) (p : Nat) (w : Int) : Option Nat := fnd (fun j => decide (μ 10 (4 * p + j) = w)) 0 (μ 11 p).toNat
def bandF (μ : MU) (q : Nat) (fl : Int) : Option Nat := fnd (fun j => decide (andI fl (μ 7 (3 * q + j)) = μ 7 (3 * q + j))) 0 (μ 8 q).toNat
def admF (μ : MU) (s : Nat) (fl : Int) : Option Nat := fnd (fun k => (bandF μ (3 * s + k) fl).isSome) 0 (μ 6 s).toNat
def stdF (μ : MU) (p s k : Nat) : Int := if oI (bandF μ (3 * s + k) (μ 13 p)) = -1 then 100000 + (p : Int) else (if μ 14 p = 0 then oI (bandF μ (3 * s + k) (μ 13 p)) else 3 + oI (bandF μ (3 * s + k) (μ 13 p))) * 2000 + μ 12 (6 * p + s)
theorem oI_lt {P : Nat → Bool} {n m : Nat} (h : n ≤ m) : -1 ≤ oI (fnd P 0 n) ∧ oI (fnd P 0 n) < (m : Int) ∨ (m = 0 ∧ oI (fnd P 0 n) = -1) := by
  cases e : fnd P 0 n with
  | none =>
    by_cases hm : m = 0
    · exact Or.inr ⟨hm, rfl⟩
    · exact Or.inl ⟨by simp [oI], by simp only [oI]; omega⟩
  | some j =>
    have := fnd_some n 0 e
    exact Or.inl ⟨by simp only [oI]; omega, by simp only [oI]; omega⟩
theorem bandF_r {μ : MU} {q : Nat} (w : Int) (h2 : μ 8 q ≤ 3) : -1 ≤ oI (bandF μ q w) ∧ oI (bandF μ q w) < 3 := by
  rcases oI_lt (P := fun j => decide (andI w (μ 7 (3 * q + j)) = μ 7 (3 * q + j))) (n := (μ 8 q).toNat) (m := 3) (by omega) with h | h
  · exact h
  · omega
theorem plF_r {μ : MU} {p : Nat} (w : Int) (h2 : μ 11 p ≤ 4) : -1 ≤ oI (plF μ p w) ∧ oI (plF μ p w) < 4 := by
  rcases oI_lt (P := fun j => decide (μ 10 (4 * p + j) = w)) (n := (μ 11 p).toNat) (m := 4) (by omega) with h | h
  · exact h
  · omega
theorem stdF_r {μ : MU} {p s k : Nat} (hp : p < 20) (h2 : μ 8 (3 * s + k) ≤ 3) (h3 : 0 ≤ μ 12 (6 * p + s)) (h4 : μ 12 (6 * p + s) < 2000) : 0 ≤ stdF μ p s k ∧ stdF μ p s k < 200000 := by
  have := bandF_r (μ 13 p) h2
  unfold stdF
  split
  · omega
  · split <;> omega
/-- what the class's methods need of the state to run -/
def Sf (μ : MU) : Prop := (0 ≤ μ 0 0 ∧ μ 0 0 ≤ 6) ∧ (0 ≤ μ 1 0 ∧ μ 1 0 ≤ 20) ∧ (μ 2 0 = 0 ∨ μ 2 0 = 1) ∧ (∀ s, s < 6 → 0 ≤ μ 6 s ∧ μ 6 s ≤ 3) ∧ (∀ q, q < 18 → 0 ≤ μ 8 q ∧ μ 8 q ≤ 3 ∧ 0 ≤ μ 9 q ∧ μ 9 q ≤ 6) ∧
  (∀ p, p < 20 → 0 ≤ μ 11 p ∧ μ 11 p ≤ 4 ∧ 0 ≤ μ 17 p ∧ μ 17 p ≤ 4) ∧ (∀ j, j < 80 → 0 ≤ μ 10 j ∧ μ 10 j < 6) ∧ (∀ j, j < 120 → 0 ≤ μ 12 j ∧ μ 12 j < 2000)
theorem Sf.std {μ : MU} (h : Sf μ) {p s k : Nat} (hp : p < 20) (hs : s < 6) (hk : k < 3) : 0 ≤ stdF μ p s k ∧ stdF μ p s k < 200000 := by
  obtain ⟨-, -, -, -, hq, -, -, hn⟩ := h
  exact stdF_r hp (hq (3 * s + k) (by omega)).2.1 (hn _ (by omega)).1 (hn _ (by omega)).2
/-- it speaks of these places alone -/
theorem Sf.of {μ μ' : MU} (h : Sf μ) (e : ∀ f j, f ∈ [0, 1, 2, 6, 8, 9, 10, 11, 12, 17] → μ' f j = μ f j) : Sf μ' := by
  unfold Sf at h ⊢
  simp only [e 0 _ (by decide), e 1 _ (by decide), e 2 _ (by decide), e 6 _ (by decide), e 8 _ (by decide), e 9 _ (by decide), e 10 _ (by decide), e 11 _ (by decide), e 12 _ (by decide), e 17 _ (by decide)]
  exact h
theorem Sf.up {μ : MU} (h : Sf μ) {f j : Nat} {v : Int} (hf : f ∉ [0, 1, 2, 6, 8, 9, 10, 11, 12, 17]) : Sf (upM μ f j v) := h.of fun g k hg => upM_nef fun q => hf (q ▸ hg)
/-- how many below n -/
def cntS (P : Nat → Bool) (p : Nat) (a : Int) : Int := if P p = true then a + 1 else a
def cntF (P : Nat → Bool) (n : Nat) : Int := itr (cntS P) 0 n 0
theorem cntS_y {P : Nat → Bool} {p : Nat} {a : Int} (h : P p = true) : cntS P p a = a + 1 := if_pos h
theorem cntS_n {P : Nat → Bool} {p : Nat} {a : Int} (h : ¬ P p = true) : cntS P p a = a := if_neg h
/-- the best so far: a place and its standing -/
def minS (P : Nat → Bool) (g : Nat → Int) (p : Nat) (a : Int × Int) : Int × Int := if P p = true ∧ g p < a.2 then ((p : Int), g p) else a
def maxS (P : Nat → Bool) (g : Nat → Int) (p : Nat) (a : Int × Int) : Int × Int := if P p = true ∧ a.2 < g p then ((p : Int), g p) else a
abbrev prefP (μ : MU) (p : Nat) (w : Int) : Prop := ¬ oI (plF μ p w) = -1 ∧ (μ 15 p = -1 ∨ oI (plF μ p w) < oI (plF μ p (μ 15 p)))
abbrev waitP (μ : MU) (p : Nat) (w : Int) : Prop := prefP μ p w ∧ oI (plF μ p w) < μ 19 p
abbrev holdP (μ : MU) (p : Nat) (a k : Int) : Prop := μ 15 p = a ∧ μ 16 p = k
abbrev anyP (μ : MU) (p : Nat) (a : Int) : Prop := μ 15 p = a ∧ ¬ μ 16 p = -1
abbrev isS (μ : MU) (w : Int) : Prop := 0 ≤ w ∧ w < μ 0 0
abbrev isP (μ : MU) (w : Int) : Prop := 0 ≤ w ∧ w < μ 1 0
abbrev sitM (μ : MU) (p : Nat) (a k : Int) : MU := upM (upM μ 15 p a) 16 p k
end
section
/-! How a school chooses, and the round: pure. -/
theorem itr_rel {σ τ : Type} {f : Nat → σ → σ} {g : Nat → τ → τ} {R : σ → τ → Prop} (hs : ∀ j a b, R a b → R (f j a) (g j b)) : ∀ (m i : Nat) (a : σ) (b : τ), R a b → R (itr f i m a) (itr g i m b)
  | 0, _, _, _, h => h
  | m + 1, i, a, b, h => itr_rel hs m (i + 1) (f i a) (g i b) (hs i a b h)
/-- the least of those with E whose g lies under B; the first of them -/
def bst (n : Nat) (g : Nat → Int) (B : Int) (E : Nat → Bool) : Int := (itr (minS E g) 0 n (-1, B)).1
def bstP (n : Nat) (g : Nat → Int) (B : Int) (E : Nat → Bool) (c : Int × Int) : Prop :=
  (c = (-1, B) ∧ ∀ p, p < n → E p = true → B ≤ g p) ∨ ∃ p : Nat, p < n ∧ c = ((p : Int), g p) ∧ E p = true ∧ g p < B ∧ ∀ q, q < n → E q = true → g p ≤ g q ∧ (q < p → g p < g q)
theorem bstP_step {n : Nat} {g : Nat → Int} {B : Int} {E : Nat → Bool} {c : Int × Int} (h : bstP n g B E c) : bstP (n + 1) g B E (minS E g n c) := by
  unfold minS
  by_cases hc : E n = true ∧ g n < c.2
  · rw [if_pos hc]
    refine Or.inr ⟨n, Nat.lt_succ_self n, rfl, hc.1, ?_, fun q hq hE => ?_⟩
    · rcases h with ⟨rfl, -⟩ | ⟨p, -, rfl, -, hB, -⟩
      · exact hc.2
      · have := hc.2; dsimp only at this; omega
    · by_cases e : q = n
      · subst e; exact ⟨Int.le_refl _, fun h => absurd h (Nat.lt_irrefl _)⟩
      · rcases h with ⟨rfl, hall⟩ | ⟨p, hp, rfl, hEp, hB, hall⟩
        · have h1 := hall q (by omega) hE
          have h2 := hc.2
          dsimp only at h2
          exact ⟨by omega, fun _ => by omega⟩
        · have h1 := (hall q (by omega) hE).1
          have h2 := hc.2
          dsimp only at h2
          exact ⟨by omega, fun _ => by omega⟩
  · rw [if_neg hc]
    rcases h with ⟨rfl, hall⟩ | ⟨p, hp, rfl, hEp, hB, hall⟩
    · refine Or.inl ⟨rfl, fun q hq hE => ?_⟩
      by_cases e : q = n
      · subst e
        exact Int.not_lt.mp fun h => hc ⟨hE, h⟩
      · exact hall q (by omega) hE
    · refine Or.inr ⟨p, by omega, rfl, hEp, hB, fun q hq hE => ?_⟩
      by_cases e : q = n
      · subst e
        exact ⟨Int.not_lt.mp fun h => hc ⟨hE, h⟩, fun h => by omega⟩
      · exact hall q (by omega) hE
theorem bst_P (n : Nat) (g : Nat → Int) (B : Int) (E : Nat → Bool) : bstP n g B E (itr (minS E g) 0 n (-1, B)) := by
  refine itr_inv (P := fun i c => bstP i g B E c) (n := n) n 0 (-1, B) (by omega) (Or.inl ⟨rfl, fun p hp => by omega⟩) (fun j c _ h => bstP_step h)
theorem bst_spec (n : Nat) (g : Nat → Int) (B : Int) (E : Nat → Bool) : (bst n g B E = -1 ∧ ∀ p, p < n → E p = true → B ≤ g p) ∨ ∃ p : Nat, p < n ∧ bst n g B E = (p : Int) ∧ E p = true ∧ g p < B ∧ ∀ q, q < n → E q = true → g p ≤ g q ∧ (q < p → g p < g q) := by
  unfold bst
  rcases bst_P n g B E with ⟨e, h⟩ | ⟨p, h1, e, h2⟩
  · exact Or.inl ⟨by rw [e], h⟩
  · exact Or.inr ⟨p, h1, by rw [e], h2⟩
theorem bst_congr {n : Nat} {g g' : Nat → Int} {B : Int} {E E' : Nat → Bool} (hg : ∀ p, p < n → g p = g' p) (hE : ∀ p, p < n → E p = E' p) : bst n g B E = bst n g' B E' := by
  unfold bst
  exact congrArg Prod.fst (itr_congr (g := minS E' g') (n := n) n 0 (-1, B) (by omega) (fun j b hj => by unfold minS; rw [hg j hj, hE j hj]))
/-- one seat is given -/
def tk1 (n : Nat) (g : Nat → Int) (B : Int) (O : Nat → Bool) (k : Int) (T : Nat → Int) : Nat → Int := fun p =>
  if bst n g B (fun q => O q && decide (T q = -1)) = (p : Int) then k else T p
/-- a kind's seats; all kinds -/
def tkK (n : Nat) (g : Nat → Int) (B : Int) (O : Nat → Bool) (k : Int) (m : Nat) (T : Nat → Int) : Nat → Int := itr (fun _ T => tk1 n g B O k T) 0 m T
def chv (n : Nat) (g : Nat → Nat → Int) (B : Int) (O : Nat → Bool) (kc : Nat) (st : Nat → Nat) : Nat → Int := itr (fun k T => tkK n (g k) B O (k : Int) (st k) T) 0 kc (fun _ => -1)
section CH
variable {n : Nat} {g : Nat → Int} {B : Int} {O A : Nat → Bool} {k : Int} {T : Nat → Int}
theorem tk1_old {p : Nat} (h : T p ≠ -1) : tk1 n g B O k T p = T p := by
  unfold tk1
  rcases bst_spec n g B (fun q => O q && decide (T q = -1)) with ⟨e, -⟩ | ⟨q, hq, e, hE, -⟩
  · rw [e, if_neg (by omega)]
  · rw [e]
    refine if_neg fun h1 => h ?_
    have : q = p := by omega
    subst this
    simp at hE
    exact hE.2
theorem tk1_from {p : Nat} (h : tk1 n g B O k T p ≠ T p) : O p = true ∧ T p = -1 ∧ p < n := by
  unfold tk1 at h
  rcases bst_spec n g B (fun q => O q && decide (T q = -1)) with ⟨e, -⟩ | ⟨q, hq, e, hE, -⟩
  · rw [e, if_neg (by omega)] at h
    exact absurd rfl h
  · rw [e] at h
    by_cases h1 : (q : Int) = (p : Int)
    · have : q = p := by omega
      subst this
      simp at hE
      exact ⟨hE.1, hE.2, hq⟩
    · rw [if_neg h1] at h
      exact absurd rfl h
/-- who remains of fewer remains of more -/
theorem tk1_mono {TA TB : Nat → Int} (hk : k ≠ -1) (hAB : ∀ p, A p = true → O p = true) (h : ∀ p, A p = true → TA p = -1 → TB p = -1) : ∀ p, A p = true → tk1 n g B A k TA p = -1 → tk1 n g B O k TB p = -1 := by
  intro p hp h1
  have hA : TA p = -1 := by
    refine Decidable.byContradiction fun q => q ?_
    rw [tk1_old q] at h1
    exact h1
  have hB := h p hp hA
  unfold tk1 at h1 ⊢
  rcases bst_spec n g B (fun q => O q && decide (TB q = -1)) with ⟨e, -⟩ | ⟨b, hb, e, hE, hlt, hmin⟩
  · rw [e, if_neg (by omega)]; exact hB
  · rw [e]
    by_cases hpb : (b : Int) = (p : Int)
    · have hbp : b = p := by omega
      subst hbp
      exfalso
      rcases bst_spec n g B (fun q => A q && decide (TA q = -1)) with ⟨e', hall⟩ | ⟨a, ha, e', hE', hlt', hmin'⟩
      · have := hall b hb (by simp [hp, hA])
        omega
      · rw [e'] at h1
        have hab : a ≠ b := fun q => by
          subst q
          rw [if_pos rfl] at h1
          exact hk h1
        simp at hE'
        have m1 := hmin a ha (by simp [hAB a hE'.1, h a hE'.1 hE'.2])
        have m2 := hmin' b hb (by simp [hp, hA])
        by_cases hl : a < b
        · have := m1.2 hl
          omega
        · have := m2.2 (by omega)
          omega
    · rw [if_neg hpb]; exact hB
/-- where those that are taken lie among fewer, the fewer choose alike -/
theorem tk1_same (hk : k ≠ -1) (hAO : ∀ p, A p = true → O p = true) (h : ∀ p, tk1 n g B O k T p ≠ -1 → T p = -1 → A p = true) : tk1 n g B A k T = tk1 n g B O k T := by
  have e : bst n g B (fun q => A q && decide (T q = -1)) = bst n g B (fun q => O q && decide (T q = -1)) := by
    rcases bst_spec n g B (fun q => O q && decide (T q = -1)) with ⟨e, hall⟩ | ⟨b, hb, e, hE, hlt, hmin⟩
    · rw [e]
      rcases bst_spec n g B (fun q => A q && decide (T q = -1)) with ⟨e', -⟩ | ⟨a, ha, e', hE', hlt', -⟩
      · exact e'
      · simp at hE'
        have := hall a ha (by simp [hAO a hE'.1, hE'.2])
        omega
    · rw [e]
      simp at hE
      have hAb : A b = true := h b (by unfold tk1; rw [e, if_pos rfl]; exact hk) hE.2
      rcases bst_spec n g B (fun q => A q && decide (T q = -1)) with ⟨e', hall⟩ | ⟨a, ha, e', hE', hlt', hmin'⟩
      · have := hall b hb (by simp [hAb, hE.2])
        omega
      · simp at hE'
        have m1 := hmin a ha (by simp [hAO a hE'.1, hE'.2])
        have m2 := hmin' b hb (by simp [hAb, hE.2])
        rw [e']
        by_cases hl : a < b
        · have := m1.2 hl; omega
        · by_cases hl2 : b < a
          · have := m2.2 hl2; omega
          · have : a = b := by omega
            rw [this]
  funext p
  unfold tk1
  rw [e]
end CH
/-- steps that keep what is taken; steps that agree where the taken lie in A -/
def Kp (f : (Nat → Int) → Nat → Int) : Prop := ∀ T p, T p ≠ -1 → f T p = T p
def Ag (A : Nat → Bool) (f h : (Nat → Int) → Nat → Int) : Prop := ∀ T, (∀ p, h T p ≠ -1 → T p = -1 → A p = true) → f T = h T
theorem itr_Kp {f : Nat → (Nat → Int) → Nat → Int} (hf : ∀ j, Kp (f j)) : ∀ (m i : Nat), Kp (itr f i m)
  | 0, _ => fun _ _ _ => rfl
  | m + 1, i => fun T p h => by
    have h1 := hf i T p h
    show itr f (i + 1) m (f i T) p = T p
    rw [itr_Kp hf m (i + 1) (f i T) p (by rw [h1]; exact h), h1]
theorem itr_Ag {A : Nat → Bool} {f h : Nat → (Nat → Int) → Nat → Int} (hh : ∀ j, Kp (h j)) (ha : ∀ j, Ag A (f j) (h j)) : ∀ (m i : Nat), Ag A (itr f i m) (itr h i m)
  | 0, _ => fun _ _ => rfl
  | m + 1, i => fun T hT => by
    have hT' : ∀ p, itr h (i + 1) m (h i T) p ≠ -1 → T p = -1 → A p = true := hT
    have e : f i T = h i T := ha i T fun p hp h0 => hT' p (by rw [itr_Kp hh m (i + 1) (h i T) p hp]; exact hp) h0
    show itr f (i + 1) m (f i T) = itr h (i + 1) m (h i T)
    rw [e]
    refine itr_Ag hh ha m (i + 1) (h i T) fun p hp h0 => ?_
    refine hT' p hp (Decidable.byContradiction fun q => ?_)
    rw [hh i T p q] at h0
    exact q h0
section CV
variable {n : Nat} {g : Nat → Nat → Int} {B : Int} {O A : Nat → Bool} {kc : Nat} {st : Nat → Nat}
theorem tkK_Kp (g : Nat → Int) (k : Int) (m : Nat) : Kp (tkK n g B O k m) := itr_Kp (fun _ T p h => tk1_old h) m 0
theorem tkK_in {g : Nat → Int} {k : Int} {m : Nat} {T : Nat → Int} {p : Nat} (h : tkK n g B O k m T p ≠ -1) (h0 : T p = -1) : O p = true ∧ p < n := by
  suffices hs : ∀ (m i : Nat) (T : Nat → Int), itr (fun _ T => tk1 n g B O k T) i m T p ≠ -1 → T p = -1 → O p = true ∧ p < n from hs m 0 T h h0
  intro m
  induction m with
  | zero => intro i T h h0; exact absurd h0 h
  | succ m ih =>
    intro i T h h0
    by_cases hc : tk1 n g B O k T p = -1
    · exact ih (i + 1) (tk1 n g B O k T) h hc
    · have := tk1_from (n := n) (g := g) (B := B) (O := O) (k := k) (T := T) (p := p) (by rw [h0]; exact hc)
      exact ⟨this.1, this.2.2⟩
theorem chv_in {p : Nat} (h : chv n g B O kc st p ≠ -1) : O p = true ∧ p < n := by
  suffices hs : ∀ (m i : Nat) (T : Nat → Int), itr (fun k T => tkK n (g k) B O (k : Int) (st k) T) i m T p ≠ -1 → T p = -1 → O p = true ∧ p < n from hs kc 0 _ h rfl
  intro m
  induction m with
  | zero => intro i T h h0; exact absurd h0 h
  | succ m ih =>
    intro i T h h0
    by_cases hc : tkK n (g i) B O (i : Int) (st i) T p = -1
    · exact ih (i + 1) _ h hc
    · exact tkK_in hc h0
theorem chv_mono (hAO : ∀ p, A p = true → O p = true) {p : Nat} (hp : A p = true) (h : chv n g B A kc st p = -1) : chv n g B O kc st p = -1 := by
  refine itr_rel (R := fun (TA TB : Nat → Int) => ∀ p, A p = true → TA p = -1 → TB p = -1) (f := fun k T => tkK n (g k) B A (k : Int) (st k) T) (g := fun k T => tkK n (g k) B O (k : Int) (st k) T) ?_ kc 0 _ _ (fun _ _ h => h) p hp h
  intro j TA TB hR
  exact itr_rel (R := fun (TA TB : Nat → Int) => ∀ p, A p = true → TA p = -1 → TB p = -1) (f := fun _ T => tk1 n (g j) B A (j : Int) T) (g := fun _ T => tk1 n (g j) B O (j : Int) T) (fun _ a b hab => tk1_mono (by omega) hAO hab) (st j) 0 TA TB hR
theorem chv_same (hAO : ∀ p, A p = true → O p = true) (h : ∀ p, chv n g B O kc st p ≠ -1 → A p = true) : chv n g B A kc st = chv n g B O kc st := by
  refine itr_Ag (A := A) (f := fun k T => tkK n (g k) B A (k : Int) (st k) T) (h := fun k T => tkK n (g k) B O (k : Int) (st k) T) (fun j => tkK_Kp (g j) j (st j)) (fun j => ?_) kc 0 _ (fun p hp _ => h p hp)
  exact itr_Ag (A := A) (f := fun _ T => tk1 n (g j) B A (j : Int) T) (h := fun _ T => tk1 n (g j) B O (j : Int) T) (fun _ T p h => tk1_old h) (fun _ T hT => tk1_same (by omega) hAO hT) (st j) 0
end CV
theorem tk1_congr {n : Nat} {g g' : Nat → Int} {B : Int} {O O' : Nat → Bool} {k : Int} {T T' : Nat → Int} (hg : ∀ p, p < n → g p = g' p) (hO : ∀ p, p < n → O p = O' p) (hT : ∀ p, p < n → T p = T' p) : ∀ p, p < n → tk1 n g B O k T p = tk1 n g' B O' k T' p := by
  intro p hp
  unfold tk1
  rw [bst_congr (g' := g') (E' := fun q => O' q && decide (T' q = -1)) hg (fun q hq => by rw [hO q hq, hT q hq]), hT p hp]
theorem tkK_congr {n : Nat} {g g' : Nat → Int} {B : Int} {O O' : Nat → Bool} {k : Int} {m : Nat} {T T' : Nat → Int} (hg : ∀ p, p < n → g p = g' p) (hO : ∀ p, p < n → O p = O' p) (hT : ∀ p, p < n → T p = T' p) : ∀ p, p < n → tkK n g B O k m T p = tkK n g' B O' k m T' p :=
  itr_rel (R := fun (a b : Nat → Int) => ∀ p, p < n → a p = b p) (fun _ a b hab => tk1_congr hg hO hab) m 0 T T' hT
end
section
/-! Kinds, schools, pupils. -/
theorem upM_upM (μ : MU) (f j : Nat) (a b : Int) : upM (upM μ f j a) f j b = upM μ f j b := by
  funext g k
  unfold upM
  split <;> rfl
def bb3 (b0 b1 b2 : Int) (j : Nat) : Int := if j = 0 then b0 else if j = 1 then b1 else b2
def bcV (b0 b1 b2 : Int) : Nat := (fnd (fun j => decide (bb3 b0 b1 b2 j < 0)) 0 3).getD 3
abbrev bnd3 (μ : MU) (q : Nat) (b0 b1 b2 : Int) : MU := upM (upM (upM μ 7 (3 * q + 0) b0) 7 (3 * q + 1) b1) 7 (3 * q + 2) b2
theorem bnd3_at (μ : MU) (q : Nat) (b0 b1 b2 : Int) {j : Nat} (h : j < 3) : bnd3 μ q b0 b1 b2 7 (3 * q + j) = bb3 b0 b1 b2 j := by
  have : j = 0 ∨ j = 1 ∨ j = 2 := by omega
  unfold bnd3 bb3 upM
  rcases this with rfl | rfl | rfl <;> simp
abbrev mayP (μ : MU) (p : Nat) : Prop := μ 18 p = 0 ∧ ¬ μ 15 p = -1
def accM (μ : MU) (p : Nat) : MU := if mayP μ p then upM μ 18 p 1 else μ
abbrev leaM (μ : MU) (p : Nat) (a : Int) : MU := upM (sitM (upM μ 18 p a) p (-1) (-1)) 19 p 0
def decM (μ : MU) (p : Nat) : MU := if mayP μ p then leaM μ p 2 else μ
abbrev rmX0_setBands : Room := { frames := 0, cells := 0, slots := 0, locals := 0 }
set_option maxRecDepth 100000 in
set_option maxHeartbeats 4000000 in
/-- the bands, and how many count -/
theorem cX0_setBands_ok (q : Nat) (b0 b1 b2 : Int) (μ : MU) (hq : q < 18) : CTv yX0_setBands cX0_setBands 4 rmX0_setBands [aR 4 q, aI b0, aI b1, aI b2] μ (fun μ' => upM (bnd3 μ q b0 b1 b2) 8 q (bcV b0 b1 b2) = μ') := by
  intro l9 b9 D9 K9
  refine met_of (by decide) (Nat.le_of_ble_eq_true rfl) (fun x hC hR hM hA => ?_)
  have hC : Ctx x RX0 cX0_setBands rmX0_setBands := hC
  refine v_aload_n hC 0 dX0_setBands_0 rfl rfl ?_
  refine v_getR hC foX0_9 dX0_setBands_1 rfl rfl rfl (by decide) (by first | decide | (simp only [vdn]; omega)) ?_
  refine v_iconst hC dX0_setBands_4 ⟨by decide, by decide⟩ ?_
  refine v_iload_n hC 1 dX0_setBands_5 rfl rfl ?_
  refine v_iast hC dX0_setBands_6 rfl rfl rfl (by decide) (by first | decide | (simp only [vdn]; omega)) ⟨by first | omega | (simp only [mlen]; omega), by first | omega | (simp only [mlen]; omega)⟩ ?_
  try simp only [Int.toNat_natCast, upM_at, upM_nef, ne_eq, not_false_eq_true, Nat.reduceEqDiff, Nat.reduceAdd]
  refine v_aload_n hC 0 dX0_setBands_7 rfl rfl ?_
  refine v_getR hC foX0_9 dX0_setBands_8 rfl rfl rfl (by decide) (by first | decide | (simp only [vdn]; omega)) ?_
  refine v_iconst hC dX0_setBands_11 ⟨by decide, by decide⟩ ?_
  refine v_iload_n hC 2 dX0_setBands_12 rfl rfl ?_
  refine v_iast hC dX0_setBands_13 rfl rfl rfl (by decide) (by first | decide | (simp only [vdn]; omega)) ⟨by first | omega | (simp only [mlen]; omega), by first | omega | (simp only [mlen]; omega)⟩ ?_
  try simp only [Int.toNat_natCast, upM_at, upM_nef, ne_eq, not_false_eq_true, Nat.reduceEqDiff, Nat.reduceAdd]
  refine v_aload_n hC 0 dX0_setBands_14 rfl rfl ?_
  refine v_getR hC foX0_9 dX0_setBands_15 rfl rfl rfl (by decide) (by first | decide | (simp only [vdn]; omega)) ?_
  refine v_iconst hC dX0_setBands_18 ⟨by decide, by decide⟩ ?_
  refine v_iload_n hC 3 dX0_setBands_19 rfl rfl ?_
  refine v_iast hC dX0_setBands_20 rfl rfl rfl (by decide) (by first | decide | (simp only [vdn]; omega)) ⟨by first | omega | (simp only [mlen]; omega), by first | omega | (simp only [mlen]; omega)⟩ ?_
  try simp only [Int.toNat_natCast, upM_at, upM_nef, ne_eq, not_false_eq_true, Nat.reduceEqDiff, Nat.reduceAdd]
  refine v_aload_n hC 0 dX0_setBands_21 rfl rfl ?_
  refine v_iconst hC dX0_setBands_22 ⟨by decide, by decide⟩ ?_
  refine v_putI hC fwX0_15 dX0_setBands_23 rfl rfl rfl (by decide) (by first | decide | (simp only [vdn]; omega)) ?_
  refine v_loop (fun t : Nat => 3 - t) (fun t => t ≤ 3 ∧ fnd (fun j => decide (bb3 b0 b1 b2 j < 0)) t (3 - t) = fnd (fun j => decide (bb3 b0 b1 b2 j < 0)) 0 3) (fun t => V x 0 0 none 26 [some (aR 4 q), some (aI b0), some (aI b1), some (aI b2)] [] (upM (bnd3 μ q b0 b1 b2) 8 q (t : Int))) (fun t ht ih => ?_) 0 ⟨by omega, rfl⟩
  refine v_aload_n hC 0 dX0_setBands_26 rfl rfl ?_
  refine v_getI hC foX0_15 dX0_setBands_27 rfl rfl rfl (by first | decide | (simp only [vdn]; omega)) ?_
  try simp only [Int.toNat_natCast, upM_at, upM_nef, ne_eq, not_false_eq_true, Nat.reduceEqDiff, Nat.reduceAdd]
  refine v_iconst hC dX0_setBands_30 ⟨by decide, by decide⟩ ?_
  refine v_icmp_ge hC 59 dX0_setBands_31 rfl (fun h31 => ?_) (fun h31 => ?_)
  · exact v_vret hC hR (Nat.le_refl _) (Nat.le_refl _) dX0_setBands_59 (⟨rfl, by rw [bcV, ← ht.2, fnd_done (by omega)]; exact congrArg (fun y : Nat => upM (bnd3 μ q b0 b1 b2) 8 q (y : Int)) (show 3 = t by omega)⟩)
  · refine v_aload_n hC 0 dX0_setBands_34 rfl rfl ?_
    refine v_getR hC foX0_9 dX0_setBands_35 rfl rfl rfl (by decide) (by first | decide | (simp only [vdn]; omega)) ?_
    refine v_aload_n hC 0 dX0_setBands_38 rfl rfl ?_
    refine v_getI hC foX0_15 dX0_setBands_39 rfl rfl rfl (by first | decide | (simp only [vdn]; omega)) ?_
    try simp only [Int.toNat_natCast, upM_at, upM_nef, ne_eq, not_false_eq_true, Nat.reduceEqDiff, Nat.reduceAdd]
    refine v_iald hC dX0_setBands_42 rfl rfl rfl (by first | decide | (simp only [vdn]; omega)) ⟨by first | omega | (simp only [mlen]; omega), by first | omega | (simp only [mlen]; omega)⟩ ?_
    try simp only [Int.toNat_natCast, upM_at, upM_nef, ne_eq, not_false_eq_true, Nat.reduceEqDiff, Nat.reduceAdd]
    refine v_if_lt hC 59 dX0_setBands_43 rfl (fun h43 => ?_) (fun h43 => ?_)
    · exact v_vret hC hR (Nat.le_refl _) (Nat.le_refl _) dX0_setBands_59 (⟨rfl, by
          rw [bnd3_at μ q b0 b1 b2 (by omega)] at h43
          rw [bcV, ← ht.2, fnd_yes (by omega) (by simpa using h43)]
          rfl⟩)
    · refine v_aload_n hC 0 dX0_setBands_46 rfl rfl ?_
      refine v_dupR hC dX0_setBands_47 ?_
      refine v_getI hC foX0_15 dX0_setBands_48 rfl rfl rfl (by first | decide | (simp only [vdn]; omega)) ?_
      try simp only [Int.toNat_natCast, upM_at, upM_nef, ne_eq, not_false_eq_true, Nat.reduceEqDiff, Nat.reduceAdd]
      refine v_iconst hC dX0_setBands_51 ⟨by decide, by decide⟩ ?_
      refine v_iadd hC dX0_setBands_52 ⟨by omega, by omega⟩ ?_
      refine v_putI hC fwX0_15 dX0_setBands_53 rfl rfl rfl (by decide) (by first | decide | (simp only [vdn]; omega)) ?_
      refine v_goto hC 26 dX0_setBands_56 rfl ?_
      rw [bnd3_at μ q b0 b1 b2 (by omega)] at h43
      rw [upM_upM]
      exact ih (t + 1) ⟨by omega, fnd_next (by omega) (by simpa using h43) ht.2⟩ (by omega)
abbrev rmX0_bandOf : Room := { frames := 0, cells := 0, slots := 0, locals := 0 }
set_option maxRecDepth 100000 in
set_option maxHeartbeats 4000000 in
/-- the first band that the flags have -/
theorem cX0_bandOf_ok (q : Nat) (w : Int) (μ : MU) (hq : q < 18) (h1 : 0 ≤ μ 8 q) (h2 : μ 8 q ≤ 3) : CTi yX0_bandOf cX0_bandOf 3 (some .int) rmX0_bandOf [aR 4 q, aI w] μ (fun r μ' => μ = μ' ∧ r = oI (bandF μ q w)) := by
  intro l9 b9 D9 K9
  refine met_of (by decide) (Nat.le_of_ble_eq_true rfl) (fun x hC hR hM hA => ?_)
  have hC : Ctx x RX0 cX0_bandOf rmX0_bandOf := hC
  refine v_iconst hC dX0_bandOf_0 ⟨by decide, by decide⟩ ?_
  refine v_istore_n hC 2 dX0_bandOf_1 rfl (Nat.le_of_ble_eq_true rfl) ?_
  refine v_loop (fun i : Nat => (μ 8 q).toNat - i) (fun i => fnd (fun j => decide (andI w (μ 7 (3 * q + j)) = μ 7 (3 * q + j))) i ((μ 8 q).toNat - i) = bandF μ q w) (fun i => V x 0 0 none 2 [some (aR 4 q), some (aI w), some (aI (i : Int))] [] μ) (fun i hi ih => ?_) 0 rfl
  refine v_iload_n hC 2 dX0_bandOf_2 rfl rfl ?_
  refine v_aload_n hC 0 dX0_bandOf_3 rfl rfl ?_
  refine v_getI hC foX0_15 dX0_bandOf_4 rfl rfl rfl (by first | decide | (simp only [vdn]; omega)) ?_
  try simp only [Int.toNat_natCast, upM_at, upM_nef, ne_eq, not_false_eq_true, Nat.reduceEqDiff, Nat.reduceAdd]
  refine v_icmp_ge hC 35 dX0_bandOf_7 rfl (fun h7 => ?_) (fun h7 => ?_)
  · refine v_iconst hC dX0_bandOf_35 ⟨by decide, by decide⟩ ?_
    exact v_iret hC hR dX0_bandOf_36 (⟨_, rfl, rfl, by rw [← hi, fnd_done (by omega)]; rfl⟩)
  · refine v_iload_n hC 1 dX0_bandOf_10 rfl rfl ?_
    refine v_aload_n hC 0 dX0_bandOf_11 rfl rfl ?_
    refine v_getR hC foX0_9 dX0_bandOf_12 rfl rfl rfl (by decide) (by first | decide | (simp only [vdn]; omega)) ?_
    refine v_iload_n hC 2 dX0_bandOf_15 rfl rfl ?_
    refine v_iald hC dX0_bandOf_16 rfl rfl rfl (by first | decide | (simp only [vdn]; omega)) ⟨by first | omega | (simp only [mlen]; omega), by first | omega | (simp only [mlen]; omega)⟩ ?_
    try simp only [Int.toNat_natCast, upM_at, upM_nef, ne_eq, not_false_eq_true, Nat.reduceEqDiff, Nat.reduceAdd]
    refine v_iand hC dX0_bandOf_17 ?_
    refine v_aload_n hC 0 dX0_bandOf_18 rfl rfl ?_
    refine v_getR hC foX0_9 dX0_bandOf_19 rfl rfl rfl (by decide) (by first | decide | (simp only [vdn]; omega)) ?_
    refine v_iload_n hC 2 dX0_bandOf_22 rfl rfl ?_
    refine v_iald hC dX0_bandOf_23 rfl rfl rfl (by first | decide | (simp only [vdn]; omega)) ⟨by first | omega | (simp only [mlen]; omega), by first | omega | (simp only [mlen]; omega)⟩ ?_
    try simp only [Int.toNat_natCast, upM_at, upM_nef, ne_eq, not_false_eq_true, Nat.reduceEqDiff, Nat.reduceAdd]
    refine v_icmp_ne hC 29 dX0_bandOf_24 rfl (fun h24 => ?_) (fun h24 => ?_)
    · refine v_iinc hC dX0_bandOf_29 rfl ⟨by omega, by omega⟩ ?_
      refine v_goto hC 2 dX0_bandOf_32 rfl ?_
      exact ih (i + 1) (fnd_next (by omega) (by simpa using h24) hi) (by omega)
    · refine v_iload_n hC 2 dX0_bandOf_27 rfl rfl ?_
      exact v_iret hC hR dX0_bandOf_28 (⟨_, rfl, rfl, by rw [← hi, fnd_yes (by omega) (by simpa using h24)]; rfl⟩)
abbrev rmX2_admits : Room := { frames := 1, cells := 0, slots := 0, locals := 22 }
set_option maxRecDepth 100000 in
set_option maxHeartbeats 4000000 in
/-- has some kind a band for the flags -/
theorem cX2_admits_ok (s : Nat) (w : Int) (μ : MU) (hs : s < 6) (h1 : 0 ≤ μ 6 s) (h2 : μ 6 s ≤ 3) (hb : ∀ q, q < 18 → 0 ≤ μ 8 q ∧ μ 8 q ≤ 3) : CTi yX2_admits cX2_admits 3 (some .boolean) rmX2_admits [aR 2 s, aI w] μ (fun r μ' => μ = μ' ∧ r = bI ((admF μ s w).isSome = true)) := by
  intro l9 b9 D9 K9
  refine met_of (by decide) (Nat.le_of_ble_eq_true rfl) (fun x hC hR hM hA => ?_)
  have hC : Ctx x RX2 cX2_admits rmX2_admits := hC
  refine v_iconst hC dX2_admits_0 ⟨by decide, by decide⟩ ?_
  refine v_istore_n hC 2 dX2_admits_1 rfl (Nat.le_of_ble_eq_true rfl) ?_
  refine v_loop (fun i : Nat => (μ 6 s).toNat - i) (fun i => fnd (fun k => (bandF μ (3 * s + k) w).isSome) i ((μ 6 s).toNat - i) = admF μ s w) (fun i => V x 0 0 none 2 [some (aR 2 s), some (aI w), some (aI (i : Int))] [] μ) (fun i hi ih => ?_) 0 rfl
  refine v_iload_n hC 2 dX2_admits_2 rfl rfl ?_
  refine v_aload_n hC 0 dX2_admits_3 rfl rfl ?_
  refine v_getI hC foX2_18 dX2_admits_4 rfl rfl rfl (by first | decide | (simp only [vdn]; omega)) ?_
  try simp only [Int.toNat_natCast, upM_at, upM_nef, ne_eq, not_false_eq_true, Nat.reduceEqDiff, Nat.reduceAdd]
  refine v_icmp_ge hC 32 dX2_admits_7 rfl (fun h7 => ?_) (fun h7 => ?_)
  · refine v_iconst hC dX2_admits_32 ⟨by decide, by decide⟩ ?_
    exact v_bret hC hR dX2_admits_33 (by omega) (⟨_, rfl, rfl, bI_f (by rw [← hi, fnd_done (by omega)]; exact Bool.false_ne_true)⟩)
  · refine v_aload_n hC 0 dX2_admits_10 rfl rfl ?_
    refine v_getR hC foX2_11 dX2_admits_11 rfl rfl rfl (by decide) (by first | decide | (simp only [vdn]; omega)) ?_
    refine v_iload_n hC 2 dX2_admits_14 rfl rfl ?_
    refine v_aald hC dX2_admits_15 rfl rfl (fun _ => rfl) rfl (by decide) (by first | decide | (simp only [vdn]; omega)) ⟨by first | omega | (simp only [mlen]; omega), by first | omega | (simp only [mlen]; omega)⟩ ?_
    try simp only [Int.toNat_natCast, upM_at, upM_nef, ne_eq, not_false_eq_true, Nat.reduceEqDiff, Nat.reduceAdd]
    refine v_iload_n hC 1 dX2_admits_16 rfl rfl ?_
    refine v_callI1 hC (cwX2_22 hC ⟨Nat.le_of_ble_eq_true rfl, Nat.le_of_ble_eq_true rfl⟩) dX2_admits_17 rfl rfl rfl (Nat.zero_le _) (Nat.zero_le _) (Nat.le_of_ble_eq_true rfl) (by first | decide | (simp only [vdn]; omega)) (cX0_bandOf_ok (3 * s + i) w μ (by omega) (hb _ (by omega)).1 (hb _ (by omega)).2) (fun r1 μ1 hp => ?_)
    obtain ⟨rfl, rfl⟩ := hp
    refine v_iconst hC dX2_admits_20 ⟨by decide, by decide⟩ ?_
    refine v_icmp_eq hC 26 dX2_admits_21 rfl (fun h21 => ?_) (fun h21 => ?_)
    · refine v_iinc hC dX2_admits_26 rfl ⟨by omega, by omega⟩ ?_
      refine v_goto hC 2 dX2_admits_29 rfl ?_
      exact ih (i + 1) (fnd_next (by omega) (by rw [oI_m.1 h21]; exact Bool.false_ne_true) hi) (by omega)
    · refine v_iconst hC dX2_admits_24 ⟨by decide, by decide⟩ ?_
      exact v_bret hC hR dX2_admits_25 (by omega) (⟨_, rfl, rfl, bI_t (by rw [← hi, fnd_yes (by omega) (Option.isSome_iff_ne_none.mpr (fun q => h21 (oI_m.2 q)))]; rfl)⟩)
abbrev rmX1_placeOf : Room := { frames := 0, cells := 0, slots := 0, locals := 0 }
set_option maxRecDepth 100000 in
set_option maxHeartbeats 4000000 in
/-- the place of a school in the list -/
theorem cX1_placeOf_ok (p : Nat) (w : Int) (μ : MU) (hp : p < 20) (h1 : 0 ≤ μ 11 p) (h2 : μ 11 p ≤ 4) : CTi yX1_placeOf cX1_placeOf 3 (some .int) rmX1_placeOf [aR 7 p, aI w] μ (fun r μ' => μ = μ' ∧ r = oI (plF μ p w)) := by
  intro l9 b9 D9 K9
  refine met_of (by decide) (Nat.le_of_ble_eq_true rfl) (fun x hC hR hM hA => ?_)
  have hC : Ctx x RX1 cX1_placeOf rmX1_placeOf := hC
  refine v_iconst hC dX1_placeOf_0 ⟨by decide, by decide⟩ ?_
  refine v_istore_n hC 2 dX1_placeOf_1 rfl (Nat.le_of_ble_eq_true rfl) ?_
  refine v_loop (fun i : Nat => (μ 11 p).toNat - i) (fun i => fnd (fun j => decide (μ 10 (4 * p + j) = w)) i ((μ 11 p).toNat - i) = plF μ p w) (fun i => V x 0 0 none 2 [some (aR 7 p), some (aI w), some (aI (i : Int))] [] μ) (fun i hi ih => ?_) 0 rfl
  refine v_iload_n hC 2 dX1_placeOf_2 rfl rfl ?_
  refine v_aload_n hC 0 dX1_placeOf_3 rfl rfl ?_
  refine v_getI hC foX1_28 dX1_placeOf_4 rfl rfl rfl (by first | decide | (simp only [vdn]; omega)) ?_
  try simp only [Int.toNat_natCast, upM_at, upM_nef, ne_eq, not_false_eq_true, Nat.reduceEqDiff, Nat.reduceAdd]
  refine v_icmp_ge hC 28 dX1_placeOf_7 rfl (fun h7 => ?_) (fun h7 => ?_)
  · refine v_iconst hC dX1_placeOf_28 ⟨by decide, by decide⟩ ?_
    exact v_iret hC hR dX1_placeOf_29 (⟨_, rfl, rfl, by rw [← hi, fnd_done (by omega)]; rfl⟩)
  · refine v_aload_n hC 0 dX1_placeOf_10 rfl rfl ?_
    refine v_getR hC foX1_9 dX1_placeOf_11 rfl rfl rfl (by decide) (by first | decide | (simp only [vdn]; omega)) ?_
    refine v_iload_n hC 2 dX1_placeOf_14 rfl rfl ?_
    refine v_iald hC dX1_placeOf_15 rfl rfl rfl (by first | decide | (simp only [vdn]; omega)) ⟨by first | omega | (simp only [mlen]; omega), by first | omega | (simp only [mlen]; omega)⟩ ?_
    try simp only [Int.toNat_natCast, upM_at, upM_nef, ne_eq, not_false_eq_true, Nat.reduceEqDiff, Nat.reduceAdd]
    refine v_iload_n hC 1 dX1_placeOf_16 rfl rfl ?_
    refine v_icmp_ne hC 22 dX1_placeOf_17 rfl (fun h17 => ?_) (fun h17 => ?_)
    · refine v_iinc hC dX1_placeOf_22 rfl ⟨by omega, by omega⟩ ?_
      refine v_goto hC 2 dX1_placeOf_25 rfl ?_
      exact ih (i + 1) (fnd_next (by omega) (by simpa using h17) hi) (by omega)
    · refine v_iload_n hC 2 dX1_placeOf_20 rfl rfl ?_
      exact v_iret hC hR dX1_placeOf_21 (⟨_, rfl, rfl, by rw [← hi, fnd_yes (by omega) (by simpa using h17)]; rfl⟩)
abbrev rmX1_isPlaced : Room := { frames := 0, cells := 0, slots := 0, locals := 0 }
set_option maxRecDepth 100000 in
set_option maxHeartbeats 4000000 in
theorem cX1_isPlaced_ok (p : Nat) (μ : MU) (hp : p < 20) : CTi yX1_isPlaced cX1_isPlaced 1 (some .boolean) rmX1_isPlaced [aR 7 p] μ (fun r μ' => μ = μ' ∧ r = bI (¬ μ 15 p = -1)) := by
  intro l9 b9 D9 K9
  refine met_of (by decide) (Nat.le_of_ble_eq_true rfl) (fun x hC hR hM hA => ?_)
  have hC : Ctx x RX1 cX1_isPlaced rmX1_isPlaced := hC
  refine v_aload_n hC 0 dX1_isPlaced_0 rfl rfl ?_
  refine v_getI hC foX1_18 dX1_isPlaced_1 rfl rfl rfl (by first | decide | (simp only [vdn]; omega)) ?_
  try simp only [Int.toNat_natCast, upM_at, upM_nef, ne_eq, not_false_eq_true, Nat.reduceEqDiff, Nat.reduceAdd]
  refine v_iconst hC dX1_isPlaced_4 ⟨by decide, by decide⟩ ?_
  refine v_icmp_eq hC 12 dX1_isPlaced_5 rfl (fun h5 => ?_) (fun h5 => ?_)
  · refine v_iconst hC dX1_isPlaced_12 ⟨by decide, by decide⟩ ?_
    exact v_bret hC hR dX1_isPlaced_13 (by omega) (⟨_, rfl, rfl, bI_f (fun q => q h5)⟩)
  · refine v_iconst hC dX1_isPlaced_8 ⟨by decide, by decide⟩ ?_
    refine v_goto hC 13 dX1_isPlaced_9 rfl ?_
    exact v_bret hC hR dX1_isPlaced_13 (by omega) (⟨_, rfl, rfl, bI_t h5⟩)
abbrev rmX1_hasLeft : Room := { frames := 0, cells := 0, slots := 0, locals := 0 }
set_option maxRecDepth 100000 in
set_option maxHeartbeats 4000000 in
theorem cX1_hasLeft_ok (p : Nat) (μ : MU) (hp : p < 20) : CTi yX1_hasLeft cX1_hasLeft 1 (some .boolean) rmX1_hasLeft [aR 7 p] μ (fun r μ' => μ = μ' ∧ r = bI (μ 18 p = 3)) := by
  intro l9 b9 D9 K9
  refine met_of (by decide) (Nat.le_of_ble_eq_true rfl) (fun x hC hR hM hA => ?_)
  have hC : Ctx x RX1 cX1_hasLeft rmX1_hasLeft := hC
  refine v_aload_n hC 0 dX1_hasLeft_0 rfl rfl ?_
  refine v_getI hC foX1_25 dX1_hasLeft_1 rfl rfl rfl (by first | decide | (simp only [vdn]; omega)) ?_
  try simp only [Int.toNat_natCast, upM_at, upM_nef, ne_eq, not_false_eq_true, Nat.reduceEqDiff, Nat.reduceAdd]
  refine v_iconst hC dX1_hasLeft_4 ⟨by decide, by decide⟩ ?_
  refine v_icmp_ne hC 12 dX1_hasLeft_5 rfl (fun h5 => ?_) (fun h5 => ?_)
  · refine v_iconst hC dX1_hasLeft_12 ⟨by decide, by decide⟩ ?_
    exact v_bret hC hR dX1_hasLeft_13 (by omega) (⟨_, rfl, rfl, bI_f h5⟩)
  · refine v_iconst hC dX1_hasLeft_8 ⟨by decide, by decide⟩ ?_
    refine v_goto hC 13 dX1_hasLeft_9 rfl ?_
    exact v_bret hC hR dX1_hasLeft_13 (by omega) (⟨_, rfl, rfl, bI_t h5⟩)
abbrev rmX1_holds : Room := { frames := 0, cells := 0, slots := 0, locals := 0 }
set_option maxRecDepth 100000 in
set_option maxHeartbeats 4000000 in
theorem cX1_holds_ok (p : Nat) (a k : Int) (μ : MU) (hp : p < 20) : CTi yX1_holds cX1_holds 3 (some .boolean) rmX1_holds [aR 7 p, aI a, aI k] μ (fun r μ' => μ = μ' ∧ r = bI (holdP μ p a k)) := by
  intro l9 b9 D9 K9
  refine met_of (by decide) (Nat.le_of_ble_eq_true rfl) (fun x hC hR hM hA => ?_)
  have hC : Ctx x RX1 cX1_holds rmX1_holds := hC
  refine v_aload_n hC 0 dX1_holds_0 rfl rfl ?_
  refine v_getI hC foX1_18 dX1_holds_1 rfl rfl rfl (by first | decide | (simp only [vdn]; omega)) ?_
  try simp only [Int.toNat_natCast, upM_at, upM_nef, ne_eq, not_false_eq_true, Nat.reduceEqDiff, Nat.reduceAdd]
  refine v_iload_n hC 1 dX1_holds_4 rfl rfl ?_
  refine v_icmp_ne hC 20 dX1_holds_5 rfl (fun h5 => ?_) (fun h5 => ?_)
  · refine v_iconst hC dX1_holds_20 ⟨by decide, by decide⟩ ?_
    exact v_bret hC hR dX1_holds_21 (by omega) (⟨_, rfl, rfl, bI_f (fun q => h5 q.1)⟩)
  · refine v_aload_n hC 0 dX1_holds_8 rfl rfl ?_
    refine v_getI hC foX1_22 dX1_holds_9 rfl rfl rfl (by first | decide | (simp only [vdn]; omega)) ?_
    try simp only [Int.toNat_natCast, upM_at, upM_nef, ne_eq, not_false_eq_true, Nat.reduceEqDiff, Nat.reduceAdd]
    refine v_iload_n hC 2 dX1_holds_12 rfl rfl ?_
    refine v_icmp_ne hC 20 dX1_holds_13 rfl (fun h13 => ?_) (fun h13 => ?_)
    · refine v_iconst hC dX1_holds_20 ⟨by decide, by decide⟩ ?_
      exact v_bret hC hR dX1_holds_21 (by omega) (⟨_, rfl, rfl, bI_f (fun q => h13 q.2)⟩)
    · refine v_iconst hC dX1_holds_16 ⟨by decide, by decide⟩ ?_
      refine v_goto hC 21 dX1_holds_17 rfl ?_
      exact v_bret hC hR dX1_holds_21 (by omega) (⟨_, rfl, rfl, bI_t ⟨h5, h13⟩⟩)
abbrev rmX1_holdsAnyKind : Room := { frames := 0, cells := 0, slots := 0, locals := 0 }
set_option maxRecDepth 100000 in
set_option maxHeartbeats 4000000 in
theorem cX1_holdsAnyKind_ok (p : Nat) (a : Int) (μ : MU) (hp : p < 20) : CTi yX1_holdsAnyKind cX1_holdsAnyKind 2 (some .boolean) rmX1_holdsAnyKind [aR 7 p, aI a] μ (fun r μ' => μ = μ' ∧ r = bI (anyP μ p a)) := by
  intro l9 b9 D9 K9
  refine met_of (by decide) (Nat.le_of_ble_eq_true rfl) (fun x hC hR hM hA => ?_)
  have hC : Ctx x RX1 cX1_holdsAnyKind rmX1_holdsAnyKind := hC
  refine v_aload_n hC 0 dX1_holdsAnyKind_0 rfl rfl ?_
  refine v_getI hC foX1_18 dX1_holdsAnyKind_1 rfl rfl rfl (by first | decide | (simp only [vdn]; omega)) ?_
  try simp only [Int.toNat_natCast, upM_at, upM_nef, ne_eq, not_false_eq_true, Nat.reduceEqDiff, Nat.reduceAdd]
  refine v_iload_n hC 1 dX1_holdsAnyKind_4 rfl rfl ?_
  refine v_icmp_ne hC 20 dX1_holdsAnyKind_5 rfl (fun h5 => ?_) (fun h5 => ?_)
  · refine v_iconst hC dX1_holdsAnyKind_20 ⟨by decide, by decide⟩ ?_
    exact v_bret hC hR dX1_holdsAnyKind_21 (by omega) (⟨_, rfl, rfl, bI_f (fun q => h5 q.1)⟩)
  · refine v_aload_n hC 0 dX1_holdsAnyKind_8 rfl rfl ?_
    refine v_getI hC foX1_22 dX1_holdsAnyKind_9 rfl rfl rfl (by first | decide | (simp only [vdn]; omega)) ?_
    try simp only [Int.toNat_natCast, upM_at, upM_nef, ne_eq, not_false_eq_true, Nat.reduceEqDiff, Nat.reduceAdd]
    refine v_iconst hC dX1_holdsAnyKind_12 ⟨by decide, by decide⟩ ?_
    refine v_icmp_eq hC 20 dX1_holdsAnyKind_13 rfl (fun h13 => ?_) (fun h13 => ?_)
    · refine v_iconst hC dX1_holdsAnyKind_20 ⟨by decide, by decide⟩ ?_
      exact v_bret hC hR dX1_holdsAnyKind_21 (by omega) (⟨_, rfl, rfl, bI_f (fun q => q.2 h13)⟩)
    · refine v_iconst hC dX1_holdsAnyKind_16 ⟨by decide, by decide⟩ ?_
      refine v_goto hC 21 dX1_holdsAnyKind_17 rfl ?_
      exact v_bret hC hR dX1_holdsAnyKind_21 (by omega) (⟨_, rfl, rfl, bI_t ⟨h5, h13⟩⟩)
abbrev rmX1_prefers : Room := { frames := 1, cells := 0, slots := 0, locals := 22 }
set_option maxRecDepth 100000 in
set_option maxHeartbeats 4000000 in
theorem cX1_prefers_ok (p : Nat) (w : Int) (μ : MU) (hp : p < 20) (h1 : 0 ≤ μ 11 p) (h2 : μ 11 p ≤ 4) : CTi yX1_prefers cX1_prefers 3 (some .boolean) rmX1_prefers [aR 7 p, aI w] μ (fun r μ' => μ = μ' ∧ r = bI (prefP μ p w)) := by
  intro l9 b9 D9 K9
  refine met_of (by decide) (Nat.le_of_ble_eq_true rfl) (fun x hC hR hM hA => ?_)
  have hC : Ctx x RX1 cX1_prefers rmX1_prefers := hC
  refine v_aload_n hC 0 dX1_prefers_0 rfl rfl ?_
  refine v_iload_n hC 1 dX1_prefers_1 rfl rfl ?_
  refine v_callI1 hC (cwX1_31 hC ⟨Nat.le_of_ble_eq_true rfl, Nat.le_of_ble_eq_true rfl⟩) dX1_prefers_2 rfl rfl rfl (Nat.zero_le _) (Nat.zero_le _) (Nat.le_of_ble_eq_true rfl) (by first | decide | (simp only [vdn]; omega)) (cX1_placeOf_ok p w μ hp h1 h2) (fun r1 μ1 hp => ?_)
  obtain ⟨rfl, rfl⟩ := hp
  refine v_istore_n hC 2 dX1_prefers_5 rfl (Nat.le_of_ble_eq_true rfl) ?_
  refine v_iload_n hC 2 dX1_prefers_6 rfl rfl ?_
  refine v_iconst hC dX1_prefers_7 ⟨by decide, by decide⟩ ?_
  refine v_icmp_eq hC 34 dX1_prefers_8 rfl (fun h8 => ?_) (fun h8 => ?_)
  · refine v_iconst hC dX1_prefers_34 ⟨by decide, by decide⟩ ?_
    exact v_bret hC hR dX1_prefers_35 (by omega) (⟨_, rfl, rfl, bI_f (fun q => q.1 h8)⟩)
  · refine v_aload_n hC 0 dX1_prefers_11 rfl rfl ?_
    refine v_callI0 hC (cwX1_35 hC ⟨Nat.le_of_ble_eq_true rfl, Nat.le_of_ble_eq_true rfl⟩) dX1_prefers_12 rfl rfl rfl (Nat.zero_le _) (Nat.zero_le _) (Nat.le_of_ble_eq_true rfl) (by first | decide | (simp only [vdn]; omega)) (cX1_isPlaced_ok p μ hp) (fun r1 μ1 hp => ?_)
    obtain ⟨rfl, rfl⟩ := hp
    refine v_if_eq hC 30 dX1_prefers_15 rfl (fun h15 => ?_) (fun h15 => ?_)
    · refine v_iconst hC dX1_prefers_30 ⟨by decide, by decide⟩ ?_
      refine v_goto hC 35 dX1_prefers_31 rfl ?_
      exact v_bret hC hR dX1_prefers_35 (by omega) (⟨_, rfl, rfl, bI_t ⟨h8, Or.inl (Decidable.not_not.mp (bI_z.1 h15))⟩⟩)
    · refine v_iload_n hC 2 dX1_prefers_18 rfl rfl ?_
      refine v_aload_n hC 0 dX1_prefers_19 rfl rfl ?_
      refine v_aload_n hC 0 dX1_prefers_20 rfl rfl ?_
      refine v_getI hC foX1_18 dX1_prefers_21 rfl rfl rfl (by first | decide | (simp only [vdn]; omega)) ?_
      try simp only [Int.toNat_natCast, upM_at, upM_nef, ne_eq, not_false_eq_true, Nat.reduceEqDiff, Nat.reduceAdd]
      refine v_callI1 hC (cwX1_31 hC ⟨Nat.le_of_ble_eq_true rfl, Nat.le_of_ble_eq_true rfl⟩) dX1_prefers_24 rfl rfl rfl (Nat.zero_le _) (Nat.zero_le _) (Nat.le_of_ble_eq_true rfl) (by first | decide | (simp only [vdn]; omega)) (cX1_placeOf_ok p (μ 15 p) μ hp h1 h2) (fun r1 μ1 hp => ?_)
      obtain ⟨rfl, rfl⟩ := hp
      refine v_icmp_ge hC 34 dX1_prefers_27 rfl (fun h27 => ?_) (fun h27 => ?_)
      · refine v_iconst hC dX1_prefers_34 ⟨by decide, by decide⟩ ?_
        exact v_bret hC hR dX1_prefers_35 (by omega) (⟨_, rfl, rfl, bI_f (fun q => q.2.elim (show ¬ μ 15 p = -1 from bI_n.1 h15) (fun q => by omega))⟩)
      · refine v_iconst hC dX1_prefers_30 ⟨by decide, by decide⟩ ?_
        refine v_goto hC 35 dX1_prefers_31 rfl ?_
        exact v_bret hC hR dX1_prefers_35 (by omega) (⟨_, rfl, rfl, bI_t ⟨h8, Or.inr (by omega)⟩⟩)
abbrev rmX1_waitsFor : Room := { frames := 2, cells := 0, slots := 0, locals := 44 }
set_option maxRecDepth 100000 in
set_option maxHeartbeats 4000000 in
theorem cX1_waitsFor_ok (p : Nat) (w : Int) (μ : MU) (hp : p < 20) (h1 : 0 ≤ μ 11 p) (h2 : μ 11 p ≤ 4) : CTi yX1_waitsFor cX1_waitsFor 2 (some .boolean) rmX1_waitsFor [aR 7 p, aI w] μ (fun r μ' => μ = μ' ∧ r = bI (waitP μ p w)) := by
  intro l9 b9 D9 K9
  refine met_of (by decide) (Nat.le_of_ble_eq_true rfl) (fun x hC hR hM hA => ?_)
  have hC : Ctx x RX1 cX1_waitsFor rmX1_waitsFor := hC
  refine v_aload_n hC 0 dX1_waitsFor_0 rfl rfl ?_
  refine v_iload_n hC 1 dX1_waitsFor_1 rfl rfl ?_
  refine v_callI1 hC (cwX1_39 hC ⟨Nat.le_of_ble_eq_true rfl, Nat.le_of_ble_eq_true rfl⟩) dX1_waitsFor_2 rfl rfl rfl (Nat.zero_le _) (Nat.zero_le _) (Nat.le_of_ble_eq_true rfl) (by first | decide | (simp only [vdn]; omega)) (cX1_prefers_ok p w μ hp h1 h2) (fun r1 μ1 hp => ?_)
  obtain ⟨rfl, rfl⟩ := hp
  refine v_if_eq hC 24 dX1_waitsFor_5 rfl (fun h5 => ?_) (fun h5 => ?_)
  · refine v_iconst hC dX1_waitsFor_24 ⟨by decide, by decide⟩ ?_
    exact v_bret hC hR dX1_waitsFor_25 (by omega) (⟨_, rfl, rfl, bI_f (fun q => bI_z.1 h5 q.1)⟩)
  · refine v_aload_n hC 0 dX1_waitsFor_8 rfl rfl ?_
    refine v_iload_n hC 1 dX1_waitsFor_9 rfl rfl ?_
    refine v_callI1 hC (cwX1_31 hC ⟨Nat.le_of_ble_eq_true rfl, Nat.le_of_ble_eq_true rfl⟩) dX1_waitsFor_10 rfl rfl rfl (Nat.zero_le _) (Nat.zero_le _) (Nat.le_of_ble_eq_true rfl) (by first | decide | (simp only [vdn]; omega)) (cX1_placeOf_ok p w μ hp h1 h2) (fun r1 μ1 hp => ?_)
    obtain ⟨rfl, rfl⟩ := hp
    refine v_aload_n hC 0 dX1_waitsFor_13 rfl rfl ?_
    refine v_getI hC foX1_43 dX1_waitsFor_14 rfl rfl rfl (by first | decide | (simp only [vdn]; omega)) ?_
    try simp only [Int.toNat_natCast, upM_at, upM_nef, ne_eq, not_false_eq_true, Nat.reduceEqDiff, Nat.reduceAdd]
    refine v_icmp_ge hC 24 dX1_waitsFor_17 rfl (fun h17 => ?_) (fun h17 => ?_)
    · refine v_iconst hC dX1_waitsFor_24 ⟨by decide, by decide⟩ ?_
      exact v_bret hC hR dX1_waitsFor_25 (by omega) (⟨_, rfl, rfl, bI_f (fun q => by have := q.2; omega)⟩)
    · refine v_iconst hC dX1_waitsFor_20 ⟨by decide, by decide⟩ ?_
      refine v_goto hC 25 dX1_waitsFor_21 rfl ?_
      exact v_bret hC hR dX1_waitsFor_25 (by omega) (⟨_, rfl, rfl, bI_t ⟨bI_n.1 h5, by omega⟩⟩)
abbrev rmX1_sitAt : Room := { frames := 0, cells := 0, slots := 0, locals := 0 }
set_option maxRecDepth 100000 in
set_option maxHeartbeats 4000000 in
theorem cX1_sitAt_ok (p : Nat) (a k : Int) (μ : MU) (hp : p < 20) : CTv yX1_sitAt cX1_sitAt 3 rmX1_sitAt [aR 7 p, aI a, aI k] μ (fun μ' => sitM μ p a k = μ') := by
  intro l9 b9 D9 K9
  refine met_of (by decide) (Nat.le_of_ble_eq_true rfl) (fun x hC hR hM hA => ?_)
  have hC : Ctx x RX1 cX1_sitAt rmX1_sitAt := hC
  refine v_aload_n hC 0 dX1_sitAt_0 rfl rfl ?_
  refine v_iload_n hC 1 dX1_sitAt_1 rfl rfl ?_
  refine v_putI hC fwX1_18 dX1_sitAt_2 rfl rfl rfl (by decide) (by first | decide | (simp only [vdn]; omega)) ?_
  refine v_aload_n hC 0 dX1_sitAt_5 rfl rfl ?_
  refine v_iload_n hC 2 dX1_sitAt_6 rfl rfl ?_
  refine v_putI hC fwX1_22 dX1_sitAt_7 rfl rfl rfl (by decide) (by first | decide | (simp only [vdn]; omega)) ?_
  exact v_vret hC hR (Nat.le_refl _) (Nat.le_refl _) dX1_sitAt_10 (⟨rfl, rfl⟩)
abbrev rmX1_giveUpSeat : Room := { frames := 1, cells := 0, slots := 0, locals := 22 }
set_option maxRecDepth 100000 in
set_option maxHeartbeats 4000000 in
theorem cX1_giveUpSeat_ok (p : Nat) (μ : MU) (hp : p < 20) : CTv yX1_giveUpSeat cX1_giveUpSeat 1 rmX1_giveUpSeat [aR 7 p] μ (fun μ' => sitM μ p (-1) (-1) = μ') := by
  intro l9 b9 D9 K9
  refine met_of (by decide) (Nat.le_of_ble_eq_true rfl) (fun x hC hR hM hA => ?_)
  have hC : Ctx x RX1 cX1_giveUpSeat rmX1_giveUpSeat := hC
  refine v_aload_n hC 0 dX1_giveUpSeat_0 rfl rfl ?_
  refine v_iconst hC dX1_giveUpSeat_1 ⟨by decide, by decide⟩ ?_
  refine v_iconst hC dX1_giveUpSeat_2 ⟨by decide, by decide⟩ ?_
  refine v_callV2 hC (cwX1_46 hC ⟨Nat.le_of_ble_eq_true rfl, Nat.le_of_ble_eq_true rfl⟩) dX1_giveUpSeat_3 rfl rfl rfl (Nat.zero_le _) (Nat.zero_le _) (Nat.le_of_ble_eq_true rfl) (by first | decide | (simp only [vdn]; omega)) (cX1_sitAt_ok p (-1) (-1) μ hp) (fun μ1 hp => ?_)
  subst hp
  exact v_vret hC hR (Nat.le_refl _) (Nat.le_refl _) dX1_giveUpSeat_6 (⟨rfl, rfl⟩)
abbrev rmX1_mayAnswer : Room := { frames := 1, cells := 0, slots := 0, locals := 20 }
set_option maxRecDepth 100000 in
set_option maxHeartbeats 4000000 in
theorem cX1_mayAnswer_ok (p : Nat) (μ : MU) (hp : p < 20) : CTi yX1_mayAnswer cX1_mayAnswer 1 (some .boolean) rmX1_mayAnswer [aR 7 p] μ (fun r μ' => μ = μ' ∧ r = bI (mayP μ p)) := by
  intro l9 b9 D9 K9
  refine met_of (by decide) (Nat.le_of_ble_eq_true rfl) (fun x hC hR hM hA => ?_)
  have hC : Ctx x RX1 cX1_mayAnswer rmX1_mayAnswer := hC
  refine v_aload_n hC 0 dX1_mayAnswer_0 rfl rfl ?_
  refine v_getI hC foX1_25 dX1_mayAnswer_1 rfl rfl rfl (by first | decide | (simp only [vdn]; omega)) ?_
  try simp only [Int.toNat_natCast, upM_at, upM_nef, ne_eq, not_false_eq_true, Nat.reduceEqDiff, Nat.reduceAdd]
  refine v_if_ne hC 18 dX1_mayAnswer_4 rfl (fun h4 => ?_) (fun h4 => ?_)
  · refine v_iconst hC dX1_mayAnswer_18 ⟨by decide, by decide⟩ ?_
    exact v_bret hC hR dX1_mayAnswer_19 (by omega) (⟨_, rfl, rfl, bI_f (fun q => h4 q.1)⟩)
  · refine v_aload_n hC 0 dX1_mayAnswer_7 rfl rfl ?_
    refine v_callI0 hC (cwX1_35 hC ⟨Nat.le_of_ble_eq_true rfl, Nat.le_of_ble_eq_true rfl⟩) dX1_mayAnswer_8 rfl rfl rfl (Nat.zero_le _) (Nat.zero_le _) (Nat.le_of_ble_eq_true rfl) (by first | decide | (simp only [vdn]; omega)) (cX1_isPlaced_ok p μ hp) (fun r1 μ1 hp => ?_)
    obtain ⟨rfl, rfl⟩ := hp
    refine v_if_eq hC 18 dX1_mayAnswer_11 rfl (fun h11 => ?_) (fun h11 => ?_)
    · refine v_iconst hC dX1_mayAnswer_18 ⟨by decide, by decide⟩ ?_
      exact v_bret hC hR dX1_mayAnswer_19 (by omega) (⟨_, rfl, rfl, bI_f (fun q => bI_z.1 h11 q.2)⟩)
    · refine v_iconst hC dX1_mayAnswer_14 ⟨by decide, by decide⟩ ?_
      refine v_goto hC 19 dX1_mayAnswer_15 rfl ?_
      exact v_bret hC hR dX1_mayAnswer_19 (by omega) (⟨_, rfl, rfl, bI_t ⟨h4, bI_n.1 h11⟩⟩)
abbrev rmX1_accept : Room := { frames := 2, cells := 0, slots := 0, locals := 40 }
set_option maxRecDepth 100000 in
set_option maxHeartbeats 4000000 in
theorem cX1_accept_ok (p : Nat) (μ : MU) (hp : p < 20) : CTi yX1_accept cX1_accept 1 (some .boolean) rmX1_accept [aR 7 p] μ (fun r μ' => accM μ p = μ' ∧ r = bI (mayP μ p)) := by
  intro l9 b9 D9 K9
  refine met_of (by decide) (Nat.le_of_ble_eq_true rfl) (fun x hC hR hM hA => ?_)
  have hC : Ctx x RX1 cX1_accept rmX1_accept := hC
  refine v_aload_n hC 0 dX1_accept_0 rfl rfl ?_
  refine v_callI0 hC (cwX1_50 hC ⟨Nat.le_of_ble_eq_true rfl, Nat.le_of_ble_eq_true rfl⟩) dX1_accept_1 rfl rfl rfl (Nat.zero_le _) (Nat.zero_le _) (Nat.le_of_ble_eq_true rfl) (by first | decide | (simp only [vdn]; omega)) (cX1_mayAnswer_ok p μ hp) (fun r1 μ1 hp => ?_)
  obtain ⟨rfl, rfl⟩ := hp
  refine v_if_ne hC 9 dX1_accept_4 rfl (fun h4 => ?_) (fun h4 => ?_)
  · refine v_aload_n hC 0 dX1_accept_9 rfl rfl ?_
    refine v_iconst hC dX1_accept_10 ⟨by decide, by decide⟩ ?_
    refine v_putI hC fwX1_25 dX1_accept_11 rfl rfl rfl (by decide) (by first | decide | (simp only [vdn]; omega)) ?_
    refine v_iconst hC dX1_accept_14 ⟨by decide, by decide⟩ ?_
    exact v_bret hC hR dX1_accept_15 (by omega) (⟨_, rfl, if_pos (bI_n.1 h4), bI_t (bI_n.1 h4)⟩)
  · refine v_iconst hC dX1_accept_7 ⟨by decide, by decide⟩ ?_
    exact v_bret hC hR dX1_accept_8 (by omega) (⟨_, rfl, if_neg (bI_z.1 h4), bI_f (bI_z.1 h4)⟩)
abbrev rmX1_decline : Room := { frames := 2, cells := 0, slots := 0, locals := 42 }
set_option maxRecDepth 100000 in
set_option maxHeartbeats 4000000 in
theorem cX1_decline_ok (p : Nat) (μ : MU) (hp : p < 20) : CTi yX1_decline cX1_decline 1 (some .boolean) rmX1_decline [aR 7 p] μ (fun r μ' => decM μ p = μ' ∧ r = bI (mayP μ p)) := by
  intro l9 b9 D9 K9
  refine met_of (by decide) (Nat.le_of_ble_eq_true rfl) (fun x hC hR hM hA => ?_)
  have hC : Ctx x RX1 cX1_decline rmX1_decline := hC
  refine v_aload_n hC 0 dX1_decline_0 rfl rfl ?_
  refine v_callI0 hC (cwX1_50 hC ⟨Nat.le_of_ble_eq_true rfl, Nat.le_of_ble_eq_true rfl⟩) dX1_decline_1 rfl rfl rfl (Nat.zero_le _) (Nat.zero_le _) (Nat.le_of_ble_eq_true rfl) (by first | decide | (simp only [vdn]; omega)) (cX1_mayAnswer_ok p μ hp) (fun r1 μ1 hp => ?_)
  obtain ⟨rfl, rfl⟩ := hp
  refine v_if_ne hC 9 dX1_decline_4 rfl (fun h4 => ?_) (fun h4 => ?_)
  · refine v_aload_n hC 0 dX1_decline_9 rfl rfl ?_
    refine v_iconst hC dX1_decline_10 ⟨by decide, by decide⟩ ?_
    refine v_putI hC fwX1_25 dX1_decline_11 rfl rfl rfl (by decide) (by first | decide | (simp only [vdn]; omega)) ?_
    refine v_aload_n hC 0 dX1_decline_14 rfl rfl ?_
    refine v_callV0 hC (cwX1_53 hC ⟨Nat.le_of_ble_eq_true rfl, Nat.le_of_ble_eq_true rfl⟩) dX1_decline_15 rfl rfl rfl (Nat.zero_le _) (Nat.zero_le _) (Nat.le_of_ble_eq_true rfl) (by first | decide | (simp only [vdn]; omega)) (cX1_giveUpSeat_ok p _ hp) (fun μ1 hp => ?_)
    subst hp
    refine v_aload_n hC 0 dX1_decline_18 rfl rfl ?_
    refine v_iconst hC dX1_decline_19 ⟨by decide, by decide⟩ ?_
    refine v_putI hC fwX1_43 dX1_decline_20 rfl rfl rfl (by decide) (by first | decide | (simp only [vdn]; omega)) ?_
    refine v_iconst hC dX1_decline_23 ⟨by decide, by decide⟩ ?_
    exact v_bret hC hR dX1_decline_24 (by omega) (⟨_, rfl, if_pos (bI_n.1 h4), bI_t (bI_n.1 h4)⟩)
  · refine v_iconst hC dX1_decline_7 ⟨by decide, by decide⟩ ?_
    exact v_bret hC hR dX1_decline_8 (by omega) (⟨_, rfl, if_neg (bI_z.1 h4), bI_f (bI_z.1 h4)⟩)
abbrev rmX1_leave : Room := { frames := 2, cells := 0, slots := 0, locals := 42 }
set_option maxRecDepth 100000 in
set_option maxHeartbeats 4000000 in
theorem cX1_leave_ok (p : Nat) (μ : MU) (hp : p < 20) : CTv yX1_leave cX1_leave 1 rmX1_leave [aR 7 p] μ (fun μ' => leaM μ p 3 = μ') := by
  intro l9 b9 D9 K9
  refine met_of (by decide) (Nat.le_of_ble_eq_true rfl) (fun x hC hR hM hA => ?_)
  have hC : Ctx x RX1 cX1_leave rmX1_leave := hC
  refine v_aload_n hC 0 dX1_leave_0 rfl rfl ?_
  refine v_iconst hC dX1_leave_1 ⟨by decide, by decide⟩ ?_
  refine v_putI hC fwX1_25 dX1_leave_2 rfl rfl rfl (by decide) (by first | decide | (simp only [vdn]; omega)) ?_
  refine v_aload_n hC 0 dX1_leave_5 rfl rfl ?_
  refine v_callV0 hC (cwX1_53 hC ⟨Nat.le_of_ble_eq_true rfl, Nat.le_of_ble_eq_true rfl⟩) dX1_leave_6 rfl rfl rfl (Nat.zero_le _) (Nat.zero_le _) (Nat.le_of_ble_eq_true rfl) (by first | decide | (simp only [vdn]; omega)) (cX1_giveUpSeat_ok p _ hp) (fun μ1 hp => ?_)
  subst hp
  refine v_aload_n hC 0 dX1_leave_9 rfl rfl ?_
  refine v_iconst hC dX1_leave_10 ⟨by decide, by decide⟩ ?_
  refine v_putI hC fwX1_43 dX1_leave_11 rfl rfl rfl (by decide) (by first | decide | (simp only [vdn]; omega)) ?_
  exact v_vret hC hR (Nat.le_refl _) (Nat.le_refl _) dX1_leave_14 (⟨rfl, rfl⟩)
end
section
/-! The office: what it asks itself. -/
abbrev rmX3_isSchool : Room := { frames := 0, cells := 0, slots := 0, locals := 0 }
set_option maxRecDepth 100000 in
set_option maxHeartbeats 4000000 in
theorem cX3_isSchool_ok (w : Int) (μ : MU) : CTi yX3_isSchool cX3_isSchool 2 (some .boolean) rmX3_isSchool [aR 0 0, aI w] μ (fun r μ' => μ = μ' ∧ r = bI (isS μ w)) := by
  intro l9 b9 D9 K9
  refine met_of (by decide) (Nat.le_of_ble_eq_true rfl) (fun x hC hR hM hA => ?_)
  have hC : Ctx x RX3 cX3_isSchool rmX3_isSchool := hC
  refine v_iload_n hC 1 dX3_isSchool_0 rfl rfl ?_
  refine v_if_lt hC 16 dX3_isSchool_1 rfl (fun h1 => ?_) (fun h1 => ?_)
  · refine v_iconst hC dX3_isSchool_16 ⟨by decide, by decide⟩ ?_
    exact v_bret hC hR dX3_isSchool_17 (by omega) (⟨_, rfl, rfl, bI_f (fun q => by have := q.1; omega)⟩)
  · refine v_iload_n hC 1 dX3_isSchool_4 rfl rfl ?_
    refine v_aload_n hC 0 dX3_isSchool_5 rfl rfl ?_
    refine v_getI hC foX3_36 dX3_isSchool_6 rfl rfl rfl (by first | decide | (simp only [vdn]; omega)) ?_
    try simp only [Int.toNat_natCast, upM_at, upM_nef, ne_eq, not_false_eq_true, Nat.reduceEqDiff, Nat.reduceAdd]
    refine v_icmp_ge hC 16 dX3_isSchool_9 rfl (fun h9 => ?_) (fun h9 => ?_)
    · refine v_iconst hC dX3_isSchool_16 ⟨by decide, by decide⟩ ?_
      exact v_bret hC hR dX3_isSchool_17 (by omega) (⟨_, rfl, rfl, bI_f (fun q => by have := q.2; omega)⟩)
    · refine v_iconst hC dX3_isSchool_12 ⟨by decide, by decide⟩ ?_
      refine v_goto hC 17 dX3_isSchool_13 rfl ?_
      exact v_bret hC hR dX3_isSchool_17 (by omega) (⟨_, rfl, rfl, bI_t ⟨by omega, by omega⟩⟩)
abbrev rmX3_isPupil : Room := { frames := 0, cells := 0, slots := 0, locals := 0 }
set_option maxRecDepth 100000 in
set_option maxHeartbeats 4000000 in
theorem cX3_isPupil_ok (w : Int) (μ : MU) : CTi yX3_isPupil cX3_isPupil 2 (some .boolean) rmX3_isPupil [aR 0 0, aI w] μ (fun r μ' => μ = μ' ∧ r = bI (isP μ w)) := by
  intro l9 b9 D9 K9
  refine met_of (by decide) (Nat.le_of_ble_eq_true rfl) (fun x hC hR hM hA => ?_)
  have hC : Ctx x RX3 cX3_isPupil rmX3_isPupil := hC
  refine v_iload_n hC 1 dX3_isPupil_0 rfl rfl ?_
  refine v_if_lt hC 16 dX3_isPupil_1 rfl (fun h1 => ?_) (fun h1 => ?_)
  · refine v_iconst hC dX3_isPupil_16 ⟨by decide, by decide⟩ ?_
    exact v_bret hC hR dX3_isPupil_17 (by omega) (⟨_, rfl, rfl, bI_f (fun q => by have := q.1; omega)⟩)
  · refine v_iload_n hC 1 dX3_isPupil_4 rfl rfl ?_
    refine v_aload_n hC 0 dX3_isPupil_5 rfl rfl ?_
    refine v_getI hC foX3_69 dX3_isPupil_6 rfl rfl rfl (by first | decide | (simp only [vdn]; omega)) ?_
    try simp only [Int.toNat_natCast, upM_at, upM_nef, ne_eq, not_false_eq_true, Nat.reduceEqDiff, Nat.reduceAdd]
    refine v_icmp_ge hC 16 dX3_isPupil_9 rfl (fun h9 => ?_) (fun h9 => ?_)
    · refine v_iconst hC dX3_isPupil_16 ⟨by decide, by decide⟩ ?_
      exact v_bret hC hR dX3_isPupil_17 (by omega) (⟨_, rfl, rfl, bI_f (fun q => by have := q.2; omega)⟩)
    · refine v_iconst hC dX3_isPupil_12 ⟨by decide, by decide⟩ ?_
      refine v_goto hC 17 dX3_isPupil_13 rfl ?_
      exact v_bret hC hR dX3_isPupil_17 (by omega) (⟨_, rfl, rfl, bI_t ⟨by omega, by omega⟩⟩)
abbrev rmX3_areFlags : Room := { frames := 0, cells := 0, slots := 0, locals := 0 }
set_option maxRecDepth 100000 in
set_option maxHeartbeats 4000000 in
theorem cX3_areFlags_ok (w : Int) (μ : MU) : CTi yX3_areFlags cX3_areFlags 1 (some .boolean) rmX3_areFlags [aI w] μ (fun r μ' => μ = μ' ∧ r = bI (0 ≤ w ∧ w ≤ 15)) := by
  intro l9 b9 D9 K9
  refine met_of (by decide) (Nat.le_of_ble_eq_true rfl) (fun x hC hR hM hA => ?_)
  have hC : Ctx x RX3 cX3_areFlags rmX3_areFlags := hC
  refine v_iload_n hC 0 dX3_areFlags_0 rfl rfl ?_
  refine v_if_lt hC 14 dX3_areFlags_1 rfl (fun h1 => ?_) (fun h1 => ?_)
  · refine v_iconst hC dX3_areFlags_14 ⟨by decide, by decide⟩ ?_
    exact v_bret hC hR dX3_areFlags_15 (by omega) (⟨_, rfl, rfl, bI_f (fun q => by have := q.1; omega)⟩)
  · refine v_iload_n hC 0 dX3_areFlags_4 rfl rfl ?_
    refine v_bipush hC dX3_areFlags_5 ⟨by decide, by decide⟩ ?_
    refine v_icmp_gt hC 14 dX3_areFlags_7 rfl (fun h7 => ?_) (fun h7 => ?_)
    · refine v_iconst hC dX3_areFlags_14 ⟨by decide, by decide⟩ ?_
      exact v_bret hC hR dX3_areFlags_15 (by omega) (⟨_, rfl, rfl, bI_f (fun q => by have := q.2; omega)⟩)
    · refine v_iconst hC dX3_areFlags_10 ⟨by decide, by decide⟩ ?_
      refine v_goto hC 15 dX3_areFlags_11 rfl ?_
      exact v_bret hC hR dX3_areFlags_15 (by omega) (⟨_, rfl, rfl, bI_t ⟨by omega, by omega⟩⟩)
abbrev rmX3_countPlaced : Room := { frames := 1, cells := 0, slots := 0, locals := 20 }
set_option maxRecDepth 100000 in
set_option maxHeartbeats 4000000 in
theorem cX3_countPlaced_ok (μ : MU) (hSf : Sf μ) : CTi yX3_countPlaced cX3_countPlaced 3 (some .int) rmX3_countPlaced [aR 0 0] μ (fun r μ' => μ = μ' ∧ r = cntF (fun p => decide (¬ μ 15 p = -1)) (μ 1 0).toNat) := by
  intro l9 b9 D9 K9
  refine met_of (by decide) (Nat.le_of_ble_eq_true rfl) (fun x hC hR hM hA => ?_)
  have hC : Ctx x RX3 cX3_countPlaced rmX3_countPlaced := hC
  refine v_iconst hC dX3_countPlaced_0 ⟨by decide, by decide⟩ ?_
  refine v_istore_n hC 1 dX3_countPlaced_1 rfl (Nat.le_of_ble_eq_true rfl) ?_
  refine v_iconst hC dX3_countPlaced_2 ⟨by decide, by decide⟩ ?_
  refine v_istore_n hC 2 dX3_countPlaced_3 rfl (Nat.le_of_ble_eq_true rfl) ?_
  obtain ⟨⟨s1, s2⟩, ⟨n1, n2⟩, hr, hk, hq, hpp, hli, hnu⟩ := hSf
  refine v_loop (fun i : Nat => (μ 1 0).toNat - i) (fun _ => True) (fun i => ∀ c : Int, i ≤ 20 → 0 ≤ c → c ≤ i → itr (cntS (fun p => decide (¬ μ 15 p = -1))) i ((μ 1 0).toNat - i) c = cntF (fun p => decide (¬ μ 15 p = -1)) (μ 1 0).toNat → V x 0 0 none 4 [some (aR 0 0), some (aI c), some (aI (i : Int))] [] μ) (fun i _ ih c a1 a2 a3 a4 => ?_) 0 trivial 0 (by decide) (by decide) (by decide) rfl
  refine v_iload_n hC 2 dX3_countPlaced_4 rfl rfl ?_
  refine v_aload_n hC 0 dX3_countPlaced_5 rfl rfl ?_
  refine v_getI hC foX3_69 dX3_countPlaced_6 rfl rfl rfl (by first | decide | (simp only [vdn]; omega)) ?_
  try simp only [Int.toNat_natCast, upM_at, upM_nef, ne_eq, not_false_eq_true, Nat.reduceEqDiff, Nat.reduceAdd]
  refine v_icmp_ge hC 33 dX3_countPlaced_9 rfl (fun h9 => ?_) (fun h9 => ?_)
  · refine v_iload_n hC 1 dX3_countPlaced_33 rfl rfl ?_
    exact v_iret hC hR dX3_countPlaced_34 (⟨_, rfl, rfl, by rw [← a4, itr_done (by omega)]⟩)
  · refine v_aload_n hC 0 dX3_countPlaced_12 rfl rfl ?_
    refine v_getR hC foX3_18 dX3_countPlaced_13 rfl rfl rfl (by decide) (by first | decide | (simp only [vdn]; omega)) ?_
    refine v_iload_n hC 2 dX3_countPlaced_16 rfl rfl ?_
    refine v_aald hC dX3_countPlaced_17 rfl rfl (fun _ => rfl) rfl (by decide) (by first | decide | (simp only [vdn]; omega)) ⟨by first | omega | (simp only [mlen]; omega), by first | omega | (simp only [mlen]; omega)⟩ ?_
    try simp only [Int.toNat_natCast, upM_at, upM_nef, ne_eq, not_false_eq_true, Nat.reduceEqDiff, Nat.reduceAdd]
    refine v_callI0 hC (cwX3_164 hC ⟨Nat.le_of_ble_eq_true rfl, Nat.le_of_ble_eq_true rfl⟩) dX3_countPlaced_18 rfl rfl rfl (Nat.zero_le _) (Nat.zero_le _) (Nat.le_of_ble_eq_true rfl) (by first | decide | (simp only [vdn]; omega)) (cX1_isPlaced_ok i μ (by omega)) (fun r1 μ1 hp => ?_)
    obtain ⟨rfl, rfl⟩ := hp
    refine v_if_eq hC 27 dX3_countPlaced_21 rfl (fun h21 => ?_) (fun h21 => ?_)
    · refine v_iinc hC dX3_countPlaced_27 rfl ⟨by omega, by omega⟩ ?_
      refine v_goto hC 4 dX3_countPlaced_30 rfl ?_
      exact ih (i + 1) trivial (by omega) c (by omega) (by omega) (by omega) (itr_next (by omega) (by rw [cntS_n (by simpa using bI_z.1 h21)]) a4)
    · refine v_iinc hC dX3_countPlaced_24 rfl ⟨by omega, by omega⟩ ?_
      refine v_iinc hC dX3_countPlaced_27 rfl ⟨by omega, by omega⟩ ?_
      refine v_goto hC 4 dX3_countPlaced_30 rfl ?_
      exact ih (i + 1) trivial (by omega) (c + 1) (by omega) (by omega) (by omega) (itr_next (by omega) (by rw [cntS_y (by simpa using bI_n.1 h21)]) a4)
abbrev rmX3_countAsks : Room := { frames := 0, cells := 0, slots := 0, locals := 0 }
set_option maxRecDepth 100000 in
set_option maxHeartbeats 4000000 in
theorem cX3_countAsks_ok (μ : MU) (hSf : Sf μ) : CTi yX3_countAsks cX3_countAsks 3 (some .int) rmX3_countAsks [aR 0 0] μ (fun r μ' => μ = μ' ∧ r = itr (fun p a => a + μ 17 p) 0 (μ 1 0).toNat (0 : Int)) := by
  intro l9 b9 D9 K9
  refine met_of (by decide) (Nat.le_of_ble_eq_true rfl) (fun x hC hR hM hA => ?_)
  have hC : Ctx x RX3 cX3_countAsks rmX3_countAsks := hC
  refine v_iconst hC dX3_countAsks_0 ⟨by decide, by decide⟩ ?_
  refine v_istore_n hC 1 dX3_countAsks_1 rfl (Nat.le_of_ble_eq_true rfl) ?_
  refine v_iconst hC dX3_countAsks_2 ⟨by decide, by decide⟩ ?_
  refine v_istore_n hC 2 dX3_countAsks_3 rfl (Nat.le_of_ble_eq_true rfl) ?_
  obtain ⟨⟨s1, s2⟩, ⟨n1, n2⟩, hr, hk, hq, hpp, hli, hnu⟩ := hSf
  refine v_loop (fun i : Nat => (μ 1 0).toNat - i) (fun _ => True) (fun i => ∀ c : Int, i ≤ 20 → 0 ≤ c → c ≤ 4 * i → itr (fun p a => a + μ 17 p) i ((μ 1 0).toNat - i) c = itr (fun p a => a + μ 17 p) 0 (μ 1 0).toNat (0 : Int) → V x 0 0 none 4 [some (aR 0 0), some (aI c), some (aI (i : Int))] [] μ) (fun i _ ih c a1 a2 a3 a4 => ?_) 0 trivial 0 (by decide) (by decide) (by decide) rfl
  refine v_iload_n hC 2 dX3_countAsks_4 rfl rfl ?_
  refine v_aload_n hC 0 dX3_countAsks_5 rfl rfl ?_
  refine v_getI hC foX3_69 dX3_countAsks_6 rfl rfl rfl (by first | decide | (simp only [vdn]; omega)) ?_
  try simp only [Int.toNat_natCast, upM_at, upM_nef, ne_eq, not_false_eq_true, Nat.reduceEqDiff, Nat.reduceAdd]
  refine v_icmp_ge hC 30 dX3_countAsks_9 rfl (fun h9 => ?_) (fun h9 => ?_)
  · refine v_iload_n hC 1 dX3_countAsks_30 rfl rfl ?_
    exact v_iret hC hR dX3_countAsks_31 (⟨_, rfl, rfl, by rw [← a4, itr_done (by omega)]⟩)
  · refine v_iload_n hC 1 dX3_countAsks_12 rfl rfl ?_
    refine v_aload_n hC 0 dX3_countAsks_13 rfl rfl ?_
    refine v_getR hC foX3_18 dX3_countAsks_14 rfl rfl rfl (by decide) (by first | decide | (simp only [vdn]; omega)) ?_
    refine v_iload_n hC 2 dX3_countAsks_17 rfl rfl ?_
    refine v_aald hC dX3_countAsks_18 rfl rfl (fun _ => rfl) rfl (by decide) (by first | decide | (simp only [vdn]; omega)) ⟨by first | omega | (simp only [mlen]; omega), by first | omega | (simp only [mlen]; omega)⟩ ?_
    try simp only [Int.toNat_natCast, upM_at, upM_nef, ne_eq, not_false_eq_true, Nat.reduceEqDiff, Nat.reduceAdd]
    refine v_getI hC foX3_133 dX3_countAsks_19 rfl rfl rfl (by first | decide | (simp only [vdn]; omega)) ?_
    try simp only [Int.toNat_natCast, upM_at, upM_nef, ne_eq, not_false_eq_true, Nat.reduceEqDiff, Nat.reduceAdd]
    have h17 := (hpp i (by omega)).2.2
    refine v_iadd hC dX3_countAsks_22 ⟨by omega, by omega⟩ ?_
    refine v_istore_n hC 1 dX3_countAsks_23 rfl (Nat.le_of_ble_eq_true rfl) ?_
    refine v_iinc hC dX3_countAsks_24 rfl ⟨by omega, by omega⟩ ?_
    refine v_goto hC 4 dX3_countAsks_27 rfl ?_
    exact ih (i + 1) trivial (by omega) (c + μ 17 i) (by omega) (by omega) (by omega) (itr_next (by omega) rfl a4)
abbrev rmX3_countHolders : Room := { frames := 1, cells := 0, slots := 0, locals := 22 }
set_option maxRecDepth 100000 in
set_option maxHeartbeats 4000000 in
theorem cX3_countHolders_ok (s k : Nat) (μ : MU) (hSf : Sf μ) : CTi yX3_countHolders cX3_countHolders 5 (some .int) rmX3_countHolders [aR 0 0, aI s, aI k] μ (fun r μ' => μ = μ' ∧ r = cntF (fun p => decide (holdP μ p s k)) (μ 1 0).toNat) := by
  intro l9 b9 D9 K9
  refine met_of (by decide) (Nat.le_of_ble_eq_true rfl) (fun x hC hR hM hA => ?_)
  have hC : Ctx x RX3 cX3_countHolders rmX3_countHolders := hC
  refine v_iconst hC dX3_countHolders_0 ⟨by decide, by decide⟩ ?_
  refine v_istore_n hC 3 dX3_countHolders_1 rfl (Nat.le_of_ble_eq_true rfl) ?_
  refine v_iconst hC dX3_countHolders_2 ⟨by decide, by decide⟩ ?_
  refine v_istore hC dX3_countHolders_3 (Nat.le_of_ble_eq_true rfl) ?_
  obtain ⟨⟨s1, s2⟩, ⟨n1, n2⟩, hr, hk, hq, hpp, hli, hnu⟩ := hSf
  refine v_loop (fun i : Nat => (μ 1 0).toNat - i) (fun _ => True) (fun i => ∀ c : Int, i ≤ 20 → 0 ≤ c → c ≤ i → itr (cntS (fun p => decide (holdP μ p s k))) i ((μ 1 0).toNat - i) c = cntF (fun p => decide (holdP μ p s k)) (μ 1 0).toNat → V x 0 0 none 5 [some (aR 0 0), some (aI s), some (aI k), some (aI c), some (aI (i : Int))] [] μ) (fun i _ ih c a1 a2 a3 a4 => ?_) 0 trivial 0 (by decide) (by decide) (by decide) rfl
  refine v_iload hC dX3_countHolders_5 rfl ?_
  refine v_aload_n hC 0 dX3_countHolders_7 rfl rfl ?_
  refine v_getI hC foX3_69 dX3_countHolders_8 rfl rfl rfl (by first | decide | (simp only [vdn]; omega)) ?_
  try simp only [Int.toNat_natCast, upM_at, upM_nef, ne_eq, not_false_eq_true, Nat.reduceEqDiff, Nat.reduceAdd]
  refine v_icmp_ge hC 38 dX3_countHolders_11 rfl (fun h11 => ?_) (fun h11 => ?_)
  · refine v_iload_n hC 3 dX3_countHolders_38 rfl rfl ?_
    exact v_iret hC hR dX3_countHolders_39 (⟨_, rfl, rfl, by rw [← a4, itr_done (by omega)]⟩)
  · refine v_aload_n hC 0 dX3_countHolders_14 rfl rfl ?_
    refine v_getR hC foX3_18 dX3_countHolders_15 rfl rfl rfl (by decide) (by first | decide | (simp only [vdn]; omega)) ?_
    refine v_iload hC dX3_countHolders_18 rfl ?_
    refine v_aald hC dX3_countHolders_20 rfl rfl (fun _ => rfl) rfl (by decide) (by first | decide | (simp only [vdn]; omega)) ⟨by first | omega | (simp only [mlen]; omega), by first | omega | (simp only [mlen]; omega)⟩ ?_
    try simp only [Int.toNat_natCast, upM_at, upM_nef, ne_eq, not_false_eq_true, Nat.reduceEqDiff, Nat.reduceAdd]
    refine v_iload_n hC 1 dX3_countHolders_21 rfl rfl ?_
    refine v_iload_n hC 2 dX3_countHolders_22 rfl rfl ?_
    refine v_callI2 hC (cwX3_167 hC ⟨Nat.le_of_ble_eq_true rfl, Nat.le_of_ble_eq_true rfl⟩) dX3_countHolders_23 rfl rfl rfl (Nat.zero_le _) (Nat.zero_le _) (Nat.le_of_ble_eq_true rfl) (by first | decide | (simp only [vdn]; omega)) (cX1_holds_ok i s k μ (by omega)) (fun r1 μ1 hp => ?_)
    obtain ⟨rfl, rfl⟩ := hp
    refine v_if_eq hC 32 dX3_countHolders_26 rfl (fun h26 => ?_) (fun h26 => ?_)
    · refine v_iinc hC dX3_countHolders_32 rfl ⟨by omega, by omega⟩ ?_
      refine v_goto hC 5 dX3_countHolders_35 rfl ?_
      exact ih (i + 1) trivial (by omega) c (by omega) (by omega) (by omega) (itr_next (by omega) (by rw [cntS_n (by simpa using bI_z.1 h26)]) a4)
    · refine v_iinc hC dX3_countHolders_29 rfl ⟨by omega, by omega⟩ ?_
      refine v_iinc hC dX3_countHolders_32 rfl ⟨by omega, by omega⟩ ?_
      refine v_goto hC 5 dX3_countHolders_35 rfl ?_
      exact ih (i + 1) trivial (by omega) (c + 1) (by omega) (by omega) (by omega) (itr_next (by omega) (by rw [cntS_y (by simpa using bI_n.1 h26)]) a4)
abbrev rmX3_standing : Room := { frames := 1, cells := 0, slots := 0, locals := 22 }
set_option maxRecDepth 100000 in
set_option maxHeartbeats 4000000 in
theorem cX3_standing_ok (p s k : Nat) (μ : MU) (hp : p < 20) (hs : s < 6) (hk : k < 3) (hSf : Sf μ) : CTi yX3_standing cX3_standing 7 (some .int) rmX3_standing [aR 0 0, aI p, aI s, aI k] μ (fun r μ' => μ = μ' ∧ r = stdF μ p s k) := by
  intro l9 b9 D9 K9
  refine met_of (by decide) (Nat.le_of_ble_eq_true rfl) (fun x hC hR hM hA => ?_)
  have hC : Ctx x RX3 cX3_standing rmX3_standing := hC
  obtain ⟨⟨s1, s2⟩, ⟨n1, n2⟩, hr, hkc, hq, hpp, hli, hnu⟩ := hSf
  have hq1 := hq (3 * s + k) (by omega)
  have hn1 := hnu (6 * p + s) (by omega)
  refine v_aload_n hC 0 dX3_standing_0 rfl rfl ?_
  refine v_getR hC foX3_18 dX3_standing_1 rfl rfl rfl (by decide) (by first | decide | (simp only [vdn]; omega)) ?_
  refine v_iload_n hC 1 dX3_standing_4 rfl rfl ?_
  refine v_aald hC dX3_standing_5 rfl rfl (fun _ => rfl) rfl (by decide) (by first | decide | (simp only [vdn]; omega)) ⟨by first | omega | (simp only [mlen]; omega), by first | omega | (simp only [mlen]; omega)⟩ ?_
  try simp only [Int.toNat_natCast, upM_at, upM_nef, ne_eq, not_false_eq_true, Nat.reduceEqDiff, Nat.reduceAdd]
  refine v_astore hC dX3_standing_6 (Nat.le_of_ble_eq_true rfl) ?_
  refine v_aload_n hC 0 dX3_standing_8 rfl rfl ?_
  refine v_getR hC foX3_11 dX3_standing_9 rfl rfl rfl (by decide) (by first | decide | (simp only [vdn]; omega)) ?_
  refine v_iload_n hC 2 dX3_standing_12 rfl rfl ?_
  refine v_aald hC dX3_standing_13 rfl rfl (fun _ => rfl) rfl (by decide) (by first | decide | (simp only [vdn]; omega)) ⟨by first | omega | (simp only [mlen]; omega), by first | omega | (simp only [mlen]; omega)⟩ ?_
  try simp only [Int.toNat_natCast, upM_at, upM_nef, ne_eq, not_false_eq_true, Nat.reduceEqDiff, Nat.reduceAdd]
  refine v_getR hC foX3_53 dX3_standing_14 rfl rfl rfl (by decide) (by first | decide | (simp only [vdn]; omega)) ?_
  refine v_iload_n hC 3 dX3_standing_17 rfl rfl ?_
  refine v_aald hC dX3_standing_18 rfl rfl (fun _ => rfl) rfl (by decide) (by first | decide | (simp only [vdn]; omega)) ⟨by first | omega | (simp only [mlen]; omega), by first | omega | (simp only [mlen]; omega)⟩ ?_
  try simp only [Int.toNat_natCast, upM_at, upM_nef, ne_eq, not_false_eq_true, Nat.reduceEqDiff, Nat.reduceAdd]
  refine v_aload hC dX3_standing_19 rfl ?_
  refine v_getI hC foX3_72 dX3_standing_21 rfl rfl rfl (by first | decide | (simp only [vdn]; omega)) ?_
  try simp only [Int.toNat_natCast, upM_at, upM_nef, ne_eq, not_false_eq_true, Nat.reduceEqDiff, Nat.reduceAdd]
  refine v_callI1 hC (cwX3_170 hC ⟨Nat.le_of_ble_eq_true rfl, Nat.le_of_ble_eq_true rfl⟩) dX3_standing_24 rfl rfl rfl (Nat.zero_le _) (Nat.zero_le _) (Nat.le_of_ble_eq_true rfl) (by first | decide | (simp only [vdn]; omega)) (cX0_bandOf_ok (3 * s + k) (μ 13 p) μ (by omega) hq1.1 hq1.2.1) (fun r1 μ1 hp => ?_)
  obtain ⟨rfl, rfl⟩ := hp
  have hb3 := bandF_r (μ 13 p) hq1.2.1
  refine v_istore hC dX3_standing_27 (Nat.le_of_ble_eq_true rfl) ?_
  refine v_iload hC dX3_standing_29 rfl ?_
  refine v_iconst hC dX3_standing_31 ⟨by decide, by decide⟩ ?_
  refine v_icmp_ne hC 40 dX3_standing_32 rfl (fun h32 => ?_) (fun h32 => ?_)
  · refine v_aload hC dX3_standing_40 rfl ?_
    refine v_getI hC foX3_75 dX3_standing_42 rfl rfl rfl (by first | decide | (simp only [vdn]; omega)) ?_
    try simp only [Int.toNat_natCast, upM_at, upM_nef, ne_eq, not_false_eq_true, Nat.reduceEqDiff, Nat.reduceAdd]
    refine v_if_eq hC 55 dX3_standing_45 rfl (fun h45 => ?_) (fun h45 => ?_)
    · refine v_iload hC dX3_standing_55 rfl ?_
      refine v_istore hC dX3_standing_57 (Nat.le_of_ble_eq_true rfl) ?_
      refine v_iload hC dX3_standing_59 rfl ?_
      refine v_sipush hC dX3_standing_61 ⟨by decide, by decide⟩ ?_
      refine v_imul hC dX3_standing_64 ⟨by omega, by omega⟩ ?_
      refine v_aload hC dX3_standing_65 rfl ?_
      refine v_getR hC foX3_91 dX3_standing_67 rfl rfl rfl (by decide) (by first | decide | (simp only [vdn]; omega)) ?_
      refine v_iload_n hC 2 dX3_standing_70 rfl rfl ?_
      refine v_iald hC dX3_standing_71 rfl rfl rfl (by first | decide | (simp only [vdn]; omega)) ⟨by first | omega | (simp only [mlen]; omega), by first | omega | (simp only [mlen]; omega)⟩ ?_
      try simp only [Int.toNat_natCast, upM_at, upM_nef, ne_eq, not_false_eq_true, Nat.reduceEqDiff, Nat.reduceAdd]
      refine v_iadd hC dX3_standing_72 ⟨by omega, by omega⟩ ?_
      exact v_iret hC hR dX3_standing_73 (⟨_, rfl, rfl, by rw [stdF, if_neg h32, if_pos h45]⟩)
    · refine v_iconst hC dX3_standing_48 ⟨by decide, by decide⟩ ?_
      refine v_iload hC dX3_standing_49 rfl ?_
      refine v_iadd hC dX3_standing_51 ⟨by omega, by omega⟩ ?_
      refine v_goto hC 57 dX3_standing_52 rfl ?_
      refine v_istore hC dX3_standing_57 (Nat.le_of_ble_eq_true rfl) ?_
      refine v_iload hC dX3_standing_59 rfl ?_
      refine v_sipush hC dX3_standing_61 ⟨by decide, by decide⟩ ?_
      refine v_imul hC dX3_standing_64 ⟨by omega, by omega⟩ ?_
      refine v_aload hC dX3_standing_65 rfl ?_
      refine v_getR hC foX3_91 dX3_standing_67 rfl rfl rfl (by decide) (by first | decide | (simp only [vdn]; omega)) ?_
      refine v_iload_n hC 2 dX3_standing_70 rfl rfl ?_
      refine v_iald hC dX3_standing_71 rfl rfl rfl (by first | decide | (simp only [vdn]; omega)) ⟨by first | omega | (simp only [mlen]; omega), by first | omega | (simp only [mlen]; omega)⟩ ?_
      try simp only [Int.toNat_natCast, upM_at, upM_nef, ne_eq, not_false_eq_true, Nat.reduceEqDiff, Nat.reduceAdd]
      refine v_iadd hC dX3_standing_72 ⟨by omega, by omega⟩ ?_
      exact v_iret hC hR dX3_standing_73 (⟨_, rfl, rfl, by rw [stdF, if_neg h32, if_neg h45]⟩)
  · refine v_ldc (v := 100000) hC dX3_standing_35 ldX3_157 ⟨by decide, by decide⟩ ?_
    refine v_iload_n hC 1 dX3_standing_37 rfl rfl ?_
    refine v_iadd hC dX3_standing_38 ⟨by omega, by omega⟩ ?_
    exact v_iret hC hR dX3_standing_39 (⟨_, rfl, rfl, by rw [stdF, if_pos h32]⟩)
abbrev rmX3_nextAsker : Room := { frames := 1, cells := 0, slots := 0, locals := 20 }
set_option maxRecDepth 100000 in
set_option maxHeartbeats 4000000 in
theorem cX3_nextAsker_ok (μ : MU) (hSf : Sf μ) : CTi yX3_nextAsker cX3_nextAsker 2 (some .int) rmX3_nextAsker [aR 0 0] μ (fun r μ' => μ = μ' ∧ r = oI (fnd (fun p => decide (μ 15 p = -1 ∧ μ 17 p < μ 11 p)) 0 (μ 1 0).toNat)) := by
  intro l9 b9 D9 K9
  refine met_of (by decide) (Nat.le_of_ble_eq_true rfl) (fun x hC hR hM hA => ?_)
  have hC : Ctx x RX3 cX3_nextAsker rmX3_nextAsker := hC
  refine v_iconst hC dX3_nextAsker_0 ⟨by decide, by decide⟩ ?_
  refine v_istore_n hC 1 dX3_nextAsker_1 rfl (Nat.le_of_ble_eq_true rfl) ?_
  obtain ⟨⟨s1, s2⟩, ⟨n1, n2⟩, hr, hk, hq, hpp, hli, hnu⟩ := hSf
  refine v_loop (fun i : Nat => (μ 1 0).toNat - i) (fun i => i ≤ 20 ∧ fnd (fun p => decide (μ 15 p = -1 ∧ μ 17 p < μ 11 p)) i ((μ 1 0).toNat - i) = fnd (fun p => decide (μ 15 p = -1 ∧ μ 17 p < μ 11 p)) 0 (μ 1 0).toNat) (fun i => V x 0 0 none 2 [some (aR 0 0), some (aI (i : Int))] [] μ) (fun i hi ih => ?_) 0 ⟨by decide, rfl⟩
  refine v_iload_n hC 1 dX3_nextAsker_2 rfl rfl ?_
  refine v_aload_n hC 0 dX3_nextAsker_3 rfl rfl ?_
  refine v_getI hC foX3_69 dX3_nextAsker_4 rfl rfl rfl (by first | decide | (simp only [vdn]; omega)) ?_
  try simp only [Int.toNat_natCast, upM_at, upM_nef, ne_eq, not_false_eq_true, Nat.reduceEqDiff, Nat.reduceAdd]
  refine v_icmp_ge hC 51 dX3_nextAsker_7 rfl (fun h7 => ?_) (fun h7 => ?_)
  · refine v_iconst hC dX3_nextAsker_51 ⟨by decide, by decide⟩ ?_
    exact v_iret hC hR dX3_nextAsker_52 (⟨_, rfl, rfl, by rw [← hi.2, fnd_done (by omega)]; rfl⟩)
  · refine v_aload_n hC 0 dX3_nextAsker_10 rfl rfl ?_
    refine v_getR hC foX3_18 dX3_nextAsker_11 rfl rfl rfl (by decide) (by first | decide | (simp only [vdn]; omega)) ?_
    refine v_iload_n hC 1 dX3_nextAsker_14 rfl rfl ?_
    refine v_aald hC dX3_nextAsker_15 rfl rfl (fun _ => rfl) rfl (by decide) (by first | decide | (simp only [vdn]; omega)) ⟨by first | omega | (simp only [mlen]; omega), by first | omega | (simp only [mlen]; omega)⟩ ?_
    try simp only [Int.toNat_natCast, upM_at, upM_nef, ne_eq, not_false_eq_true, Nat.reduceEqDiff, Nat.reduceAdd]
    refine v_callI0 hC (cwX3_164 hC ⟨Nat.le_of_ble_eq_true rfl, Nat.le_of_ble_eq_true rfl⟩) dX3_nextAsker_16 rfl rfl rfl (Nat.zero_le _) (Nat.zero_le _) (Nat.le_of_ble_eq_true rfl) (by first | decide | (simp only [vdn]; omega)) (cX1_isPlaced_ok i μ (by omega)) (fun r1 μ1 hp => ?_)
    obtain ⟨rfl, rfl⟩ := hp
    refine v_if_ne hC 45 dX3_nextAsker_19 rfl (fun h19 => ?_) (fun h19 => ?_)
    · refine v_iinc hC dX3_nextAsker_45 rfl ⟨by omega, by omega⟩ ?_
      refine v_goto hC 2 dX3_nextAsker_48 rfl ?_
      exact ih (i + 1) ⟨by omega, fnd_next (by omega) (by have := bI_n.1 h19; simp [this]) hi.2⟩ (by omega)
    · refine v_aload_n hC 0 dX3_nextAsker_22 rfl rfl ?_
      refine v_getR hC foX3_18 dX3_nextAsker_23 rfl rfl rfl (by decide) (by first | decide | (simp only [vdn]; omega)) ?_
      refine v_iload_n hC 1 dX3_nextAsker_26 rfl rfl ?_
      refine v_aald hC dX3_nextAsker_27 rfl rfl (fun _ => rfl) rfl (by decide) (by first | decide | (simp only [vdn]; omega)) ⟨by first | omega | (simp only [mlen]; omega), by first | omega | (simp only [mlen]; omega)⟩ ?_
      try simp only [Int.toNat_natCast, upM_at, upM_nef, ne_eq, not_false_eq_true, Nat.reduceEqDiff, Nat.reduceAdd]
      refine v_getI hC foX3_133 dX3_nextAsker_28 rfl rfl rfl (by first | decide | (simp only [vdn]; omega)) ?_
      try simp only [Int.toNat_natCast, upM_at, upM_nef, ne_eq, not_false_eq_true, Nat.reduceEqDiff, Nat.reduceAdd]
      refine v_aload_n hC 0 dX3_nextAsker_31 rfl rfl ?_
      refine v_getR hC foX3_18 dX3_nextAsker_32 rfl rfl rfl (by decide) (by first | decide | (simp only [vdn]; omega)) ?_
      refine v_iload_n hC 1 dX3_nextAsker_35 rfl rfl ?_
      refine v_aald hC dX3_nextAsker_36 rfl rfl (fun _ => rfl) rfl (by decide) (by first | decide | (simp only [vdn]; omega)) ⟨by first | omega | (simp only [mlen]; omega), by first | omega | (simp only [mlen]; omega)⟩ ?_
      try simp only [Int.toNat_natCast, upM_at, upM_nef, ne_eq, not_false_eq_true, Nat.reduceEqDiff, Nat.reduceAdd]
      refine v_getI hC foX3_85 dX3_nextAsker_37 rfl rfl rfl (by first | decide | (simp only [vdn]; omega)) ?_
      try simp only [Int.toNat_natCast, upM_at, upM_nef, ne_eq, not_false_eq_true, Nat.reduceEqDiff, Nat.reduceAdd]
      refine v_icmp_ge hC 45 dX3_nextAsker_40 rfl (fun h40 => ?_) (fun h40 => ?_)
      · refine v_iinc hC dX3_nextAsker_45 rfl ⟨by omega, by omega⟩ ?_
        refine v_goto hC 2 dX3_nextAsker_48 rfl ?_
        exact ih (i + 1) ⟨by omega, fnd_next (by omega) (by simp; intro _; omega) hi.2⟩ (by omega)
      · refine v_iload_n hC 1 dX3_nextAsker_43 rfl rfl ?_
        exact v_iret hC hR dX3_nextAsker_44 (⟨_, rfl, rfl, by rw [← hi.2, fnd_yes (by omega) (by have := bI_z.1 h19; simp at this; simp [this]; omega)]; rfl⟩)
abbrev rmX3_lastHolder : Room := { frames := 2, cells := 0, slots := 0, locals := 48 }
set_option maxRecDepth 100000 in
set_option maxHeartbeats 4000000 in
theorem cX3_lastHolder_ok (s k : Nat) (μ : MU) (hs : s < 6) (hkk : k < 3) (hSf : Sf μ) : CTi yX3_lastHolder cX3_lastHolder 7 (some .int) rmX3_lastHolder [aR 0 0, aI s, aI k] μ (fun r μ' => μ = μ' ∧ r = (itr (maxS (fun p => decide (holdP μ p s k)) (fun p => stdF μ p s k)) 0 (μ 1 0).toNat (-1, -1)).1) := by
  intro l9 b9 D9 K9
  refine met_of (by decide) (Nat.le_of_ble_eq_true rfl) (fun x hC hR hM hA => ?_)
  have hC : Ctx x RX3 cX3_lastHolder rmX3_lastHolder := hC
  refine v_iconst hC dX3_lastHolder_0 ⟨by decide, by decide⟩ ?_
  refine v_istore_n hC 3 dX3_lastHolder_1 rfl (Nat.le_of_ble_eq_true rfl) ?_
  refine v_iconst hC dX3_lastHolder_2 ⟨by decide, by decide⟩ ?_
  refine v_istore hC dX3_lastHolder_3 (Nat.le_of_ble_eq_true rfl) ?_
  refine v_iconst hC dX3_lastHolder_5 ⟨by decide, by decide⟩ ?_
  refine v_istore hC dX3_lastHolder_6 (Nat.le_of_ble_eq_true rfl) ?_
  have hSf0 := hSf
  obtain ⟨⟨s1, s2⟩, ⟨n1, n2⟩, hr, hk, hq, hpp, hli, hnu⟩ := hSf
  refine v_loop (fun i : Nat => (μ 1 0).toNat - i) (fun _ => True) (fun i => ∀ c d : Int, i ≤ 20 → itr (maxS (fun p => decide (holdP μ p s k)) (fun p => stdF μ p s k)) i ((μ 1 0).toNat - i) (c, d) = itr (maxS (fun p => decide (holdP μ p s k)) (fun p => stdF μ p s k)) 0 (μ 1 0).toNat (-1, -1) → V x 0 0 none 8 [some (aR 0 0), some (aI s), some (aI k), some (aI c), some (aI d), some (aI (i : Int)), none] [] μ) (fun i _ ih c d a1 a4 => ?_) 0 trivial (-1) (-1) (by decide) rfl
  refine v_iload hC dX3_lastHolder_8 rfl ?_
  refine v_aload_n hC 0 dX3_lastHolder_10 rfl rfl ?_
  refine v_getI hC foX3_69 dX3_lastHolder_11 rfl rfl rfl (by first | decide | (simp only [vdn]; omega)) ?_
  try simp only [Int.toNat_natCast, upM_at, upM_nef, ne_eq, not_false_eq_true, Nat.reduceEqDiff, Nat.reduceAdd]
  refine v_icmp_ge hC 62 dX3_lastHolder_14 rfl (fun h14 => ?_) (fun h14 => ?_)
  · refine v_iload_n hC 3 dX3_lastHolder_62 rfl rfl ?_
    exact v_iret hC hR dX3_lastHolder_63 (⟨_, rfl, rfl, by rw [← a4, itr_done (by omega)]⟩)
  · refine v_aload_n hC 0 dX3_lastHolder_17 rfl rfl ?_
    refine v_getR hC foX3_18 dX3_lastHolder_18 rfl rfl rfl (by decide) (by first | decide | (simp only [vdn]; omega)) ?_
    refine v_iload hC dX3_lastHolder_21 rfl ?_
    refine v_aald hC dX3_lastHolder_23 rfl rfl (fun _ => rfl) rfl (by decide) (by first | decide | (simp only [vdn]; omega)) ⟨by first | omega | (simp only [mlen]; omega), by first | omega | (simp only [mlen]; omega)⟩ ?_
    try simp only [Int.toNat_natCast, upM_at, upM_nef, ne_eq, not_false_eq_true, Nat.reduceEqDiff, Nat.reduceAdd]
    refine v_iload_n hC 1 dX3_lastHolder_24 rfl rfl ?_
    refine v_iload_n hC 2 dX3_lastHolder_25 rfl rfl ?_
    refine v_callI2 hC (cwX3_167 hC ⟨Nat.le_of_ble_eq_true rfl, Nat.le_of_ble_eq_true rfl⟩) dX3_lastHolder_26 rfl rfl rfl (Nat.zero_le _) (Nat.zero_le _) (Nat.le_of_ble_eq_true rfl) (by first | decide | (simp only [vdn]; omega)) (cX1_holds_ok i s k μ (by omega)) (fun r1 μ1 hp => ?_)
    obtain ⟨rfl, rfl⟩ := hp
    refine v_if_eq hC 56 dX3_lastHolder_29 rfl (fun h29 => ?_) (fun h29 => ?_)
    · refine v_iinc hC dX3_lastHolder_56 rfl ⟨by omega, by omega⟩ ?_
      refine v_goto hC 8 dX3_lastHolder_59 rfl ?_
      exact ih (i + 1) trivial (by omega) c d (by omega) (itr_next (by omega) (by rw [maxS, if_neg (fun q => bI_z.1 h29 (by simpa using q.1))]) a4)
    · refine v_aload_n hC 0 dX3_lastHolder_32 rfl rfl ?_
      refine v_iload hC dX3_lastHolder_33 rfl ?_
      refine v_iload_n hC 1 dX3_lastHolder_35 rfl rfl ?_
      refine v_iload_n hC 2 dX3_lastHolder_36 rfl rfl ?_
      refine v_callI3 hC (cwX3_153 hC ⟨Nat.le_of_ble_eq_true rfl, Nat.le_of_ble_eq_true rfl⟩) dX3_lastHolder_37 rfl rfl rfl (Nat.zero_le _) (Nat.zero_le _) (Nat.le_of_ble_eq_true rfl) (by first | decide | (simp only [vdn]; omega)) (cX3_standing_ok i s k μ (by omega) hs hkk hSf0) (fun r1 μ1 hp => ?_)
      obtain ⟨rfl, rfl⟩ := hp
      refine v_istore hC dX3_lastHolder_40 (Nat.le_of_ble_eq_true rfl) ?_
      refine v_iload hC dX3_lastHolder_42 rfl ?_
      refine v_iload hC dX3_lastHolder_44 rfl ?_
      refine v_icmp_le hC 56 dX3_lastHolder_46 rfl (fun h46 => ?_) (fun h46 => ?_)
      · refine v_iinc hC dX3_lastHolder_56 rfl ⟨by omega, by omega⟩ ?_
        refine v_goto hC 8 dX3_lastHolder_59 rfl ?_
        refine v_forget 6 ?_
        exact ih (i + 1) trivial (by omega) c d (by omega) (itr_next (by omega) (by rw [maxS, if_neg (fun q => by have := q.2; dsimp only at this; omega)]) a4)
      · refine v_iload hC dX3_lastHolder_49 rfl ?_
        refine v_istore_n hC 3 dX3_lastHolder_51 rfl (Nat.le_of_ble_eq_true rfl) ?_
        refine v_iload hC dX3_lastHolder_52 rfl ?_
        refine v_istore hC dX3_lastHolder_54 (Nat.le_of_ble_eq_true rfl) ?_
        refine v_iinc hC dX3_lastHolder_56 rfl ⟨by omega, by omega⟩ ?_
        refine v_goto hC 8 dX3_lastHolder_59 rfl ?_
        refine v_forget 6 ?_
        exact ih (i + 1) trivial (by omega) i (stdF μ i s k) (by omega) (itr_next (by omega) (by rw [maxS, if_pos ⟨by simpa using bI_n.1 h29, by dsimp only; omega⟩]) a4)
abbrev rmX3_firstInPool : Room := { frames := 2, cells := 0, slots := 0, locals := 48 }
set_option maxRecDepth 100000 in
set_option maxHeartbeats 4000000 in
theorem cX3_firstInPool_ok (s k : Nat) (μ : MU) (hs : s < 6) (hkk : k < 3) (hSf : Sf μ) (hz : 0 ≤ μ 3 0 ∧ μ 3 0 ≤ 20) (hpo : ∀ j : Nat, (j : Int) < μ 3 0 → 0 ≤ μ 4 j ∧ μ 4 j < 20) : CTi yX3_firstInPool cX3_firstInPool 7 (some .int) rmX3_firstInPool [aR 0 0, aI s, aI k] μ (fun r μ' => μ = μ' ∧ r = bst (μ 3 0).toNat (fun j => stdF μ (μ 4 j).toNat s k) 100000 (fun _ => true)) := by
  intro l9 b9 D9 K9
  refine met_of (by decide) (Nat.le_of_ble_eq_true rfl) (fun x hC hR hM hA => ?_)
  have hC : Ctx x RX3 cX3_firstInPool rmX3_firstInPool := hC
  refine v_iconst hC dX3_firstInPool_0 ⟨by decide, by decide⟩ ?_
  refine v_istore_n hC 3 dX3_firstInPool_1 rfl (Nat.le_of_ble_eq_true rfl) ?_
  refine v_ldc (v := 100000) hC dX3_firstInPool_2 ldX3_157 ⟨by decide, by decide⟩ ?_
  refine v_istore hC dX3_firstInPool_4 (Nat.le_of_ble_eq_true rfl) ?_
  refine v_iconst hC dX3_firstInPool_6 ⟨by decide, by decide⟩ ?_
  refine v_istore hC dX3_firstInPool_7 (Nat.le_of_ble_eq_true rfl) ?_
  have hSf0 := hSf
  obtain ⟨⟨s1, s2⟩, ⟨n1, n2⟩, hr, hk, hq, hpp, hli, hnu⟩ := hSf
  refine v_loop (fun i : Nat => (μ 3 0).toNat - i) (fun _ => True) (fun i => ∀ c d : Int, i ≤ 20 → itr (minS (fun _ => true) (fun j => stdF μ (μ 4 j).toNat s k)) i ((μ 3 0).toNat - i) (c, d) = itr (minS (fun _ => true) (fun j => stdF μ (μ 4 j).toNat s k)) 0 (μ 3 0).toNat (-1, 100000) → V x 0 0 none 9 [some (aR 0 0), some (aI s), some (aI k), some (aI c), some (aI d), some (aI (i : Int)), none] [] μ) (fun i _ ih c d a1 a4 => ?_) 0 trivial (-1) 100000 (by decide) rfl
  refine v_iload hC dX3_firstInPool_9 rfl ?_
  refine v_aload_n hC 0 dX3_firstInPool_11 rfl rfl ?_
  refine v_getI hC foX3_176 dX3_firstInPool_12 rfl rfl rfl (by first | decide | (simp only [vdn]; omega)) ?_
  try simp only [Int.toNat_natCast, upM_at, upM_nef, ne_eq, not_false_eq_true, Nat.reduceEqDiff, Nat.reduceAdd]
  refine v_icmp_ge hC 53 dX3_firstInPool_15 rfl (fun h15 => ?_) (fun h15 => ?_)
  · refine v_iload_n hC 3 dX3_firstInPool_53 rfl rfl ?_
    exact v_iret hC hR dX3_firstInPool_54 (⟨_, rfl, rfl, by rw [bst, ← a4, itr_done (by omega)]⟩)
  · refine v_aload_n hC 0 dX3_firstInPool_18 rfl rfl ?_
    refine v_aload_n hC 0 dX3_firstInPool_19 rfl rfl ?_
    refine v_getR hC foX3_25 dX3_firstInPool_20 rfl rfl rfl (by decide) (by first | decide | (simp only [vdn]; omega)) ?_
    refine v_iload hC dX3_firstInPool_23 rfl ?_
    refine v_iald hC dX3_firstInPool_25 rfl rfl rfl (by first | decide | (simp only [vdn]; omega)) ⟨by first | omega | (simp only [mlen]; omega), by first | omega | (simp only [mlen]; omega)⟩ ?_
    try simp only [Int.toNat_natCast, upM_at, upM_nef, ne_eq, not_false_eq_true, Nat.reduceEqDiff, Nat.reduceAdd]
    refine v_iload_n hC 1 dX3_firstInPool_26 rfl rfl ?_
    refine v_iload_n hC 2 dX3_firstInPool_27 rfl rfl ?_
    have hpi := hpo i (by omega)
    obtain ⟨pj, hpj⟩ := Int.eq_ofNat_of_zero_le hpi.1
    rw [hpj]
    refine v_callI3 hC (cwX3_153 hC ⟨Nat.le_of_ble_eq_true rfl, Nat.le_of_ble_eq_true rfl⟩) dX3_firstInPool_28 rfl rfl rfl (Nat.zero_le _) (Nat.zero_le _) (Nat.le_of_ble_eq_true rfl) (by first | decide | (simp only [vdn]; omega)) (cX3_standing_ok pj s k μ (by omega) hs hkk hSf0) (fun r1 μ1 hp => ?_)
    obtain ⟨rfl, rfl⟩ := hp
    have hpe : (μ 4 i).toNat = pj := by omega
    rw [← hpe]
    refine v_istore hC dX3_firstInPool_31 (Nat.le_of_ble_eq_true rfl) ?_
    refine v_iload hC dX3_firstInPool_33 rfl ?_
    refine v_iload hC dX3_firstInPool_35 rfl ?_
    refine v_icmp_ge hC 47 dX3_firstInPool_37 rfl (fun h37 => ?_) (fun h37 => ?_)
    · refine v_iinc hC dX3_firstInPool_47 rfl ⟨by omega, by omega⟩ ?_
      refine v_goto hC 9 dX3_firstInPool_50 rfl ?_
      refine v_forget 6 ?_
      exact ih (i + 1) trivial (by omega) c d (by omega) (itr_next (by omega) (by rw [minS, if_neg (fun q => by have := q.2; dsimp only at this; omega)]) a4)
    · refine v_iload hC dX3_firstInPool_40 rfl ?_
      refine v_istore_n hC 3 dX3_firstInPool_42 rfl (Nat.le_of_ble_eq_true rfl) ?_
      refine v_iload hC dX3_firstInPool_43 rfl ?_
      refine v_istore hC dX3_firstInPool_45 (Nat.le_of_ble_eq_true rfl) ?_
      refine v_iinc hC dX3_firstInPool_47 rfl ⟨by omega, by omega⟩ ?_
      refine v_goto hC 9 dX3_firstInPool_50 rfl ?_
      refine v_forget 6 ?_
      exact ih (i + 1) trivial (by omega) i (stdF μ (μ 4 i).toNat s k) (by omega) (itr_next (by omega) (by rw [minS, if_pos ⟨rfl, by dsimp only; omega⟩]) a4)
abbrev rmX3_firstWaiting : Room := { frames := 3, cells := 0, slots := 0, locals := 65 }
set_option maxRecDepth 100000 in
set_option maxHeartbeats 4000000 in
theorem cX3_firstWaiting_ok (s k : Nat) (μ : MU) (hs : s < 6) (hkk : k < 3) (hSf : Sf μ) : CTi yX3_firstWaiting cX3_firstWaiting 7 (some .int) rmX3_firstWaiting [aR 0 0, aI s, aI k] μ (fun r μ' => μ = μ' ∧ r = bst (μ 1 0).toNat (fun p => stdF μ p s k) 100000 (fun p => decide (waitP μ p s))) := by
  intro l9 b9 D9 K9
  refine met_of (by decide) (Nat.le_of_ble_eq_true rfl) (fun x hC hR hM hA => ?_)
  have hC : Ctx x RX3 cX3_firstWaiting rmX3_firstWaiting := hC
  refine v_iconst hC dX3_firstWaiting_0 ⟨by decide, by decide⟩ ?_
  refine v_istore_n hC 3 dX3_firstWaiting_1 rfl (Nat.le_of_ble_eq_true rfl) ?_
  refine v_ldc (v := 100000) hC dX3_firstWaiting_2 ldX3_157 ⟨by decide, by decide⟩ ?_
  refine v_istore hC dX3_firstWaiting_4 (Nat.le_of_ble_eq_true rfl) ?_
  refine v_iconst hC dX3_firstWaiting_6 ⟨by decide, by decide⟩ ?_
  refine v_istore hC dX3_firstWaiting_7 (Nat.le_of_ble_eq_true rfl) ?_
  have hSf0 := hSf
  obtain ⟨⟨s1, s2⟩, ⟨n1, n2⟩, hr, hk, hq, hpp, hli, hnu⟩ := hSf
  refine v_loop (fun i : Nat => (μ 1 0).toNat - i) (fun _ => True) (fun i => ∀ c d : Int, i ≤ 20 → itr (minS (fun p => decide (waitP μ p s)) (fun p => stdF μ p s k)) i ((μ 1 0).toNat - i) (c, d) = itr (minS (fun p => decide (waitP μ p s)) (fun p => stdF μ p s k)) 0 (μ 1 0).toNat (-1, 100000) → V x 0 0 none 9 [some (aR 0 0), some (aI s), some (aI k), some (aI c), some (aI d), some (aI (i : Int)), none] [] μ) (fun i _ ih c d a1 a4 => ?_) 0 trivial (-1) 100000 (by decide) rfl
  refine v_iload hC dX3_firstWaiting_9 rfl ?_
  refine v_aload_n hC 0 dX3_firstWaiting_11 rfl rfl ?_
  refine v_getI hC foX3_69 dX3_firstWaiting_12 rfl rfl rfl (by first | decide | (simp only [vdn]; omega)) ?_
  try simp only [Int.toNat_natCast, upM_at, upM_nef, ne_eq, not_false_eq_true, Nat.reduceEqDiff, Nat.reduceAdd]
  refine v_icmp_ge hC 62 dX3_firstWaiting_15 rfl (fun h15 => ?_) (fun h15 => ?_)
  · refine v_iload_n hC 3 dX3_firstWaiting_62 rfl rfl ?_
    exact v_iret hC hR dX3_firstWaiting_63 (⟨_, rfl, rfl, by rw [bst, ← a4, itr_done (by omega)]⟩)
  · refine v_aload_n hC 0 dX3_firstWaiting_18 rfl rfl ?_
    refine v_getR hC foX3_18 dX3_firstWaiting_19 rfl rfl rfl (by decide) (by first | decide | (simp only [vdn]; omega)) ?_
    refine v_iload hC dX3_firstWaiting_22 rfl ?_
    refine v_aald hC dX3_firstWaiting_24 rfl rfl (fun _ => rfl) rfl (by decide) (by first | decide | (simp only [vdn]; omega)) ⟨by first | omega | (simp only [mlen]; omega), by first | omega | (simp only [mlen]; omega)⟩ ?_
    try simp only [Int.toNat_natCast, upM_at, upM_nef, ne_eq, not_false_eq_true, Nat.reduceEqDiff, Nat.reduceAdd]
    refine v_iload_n hC 1 dX3_firstWaiting_25 rfl rfl ?_
    refine v_callI1 hC (cwX3_194 hC ⟨Nat.le_of_ble_eq_true rfl, Nat.le_of_ble_eq_true rfl⟩) dX3_firstWaiting_26 rfl rfl rfl (Nat.zero_le _) (Nat.zero_le _) (Nat.le_of_ble_eq_true rfl) (by first | decide | (simp only [vdn]; omega)) (cX1_waitsFor_ok i s μ (by omega) (hpp i (by omega)).1 (hpp i (by omega)).2.1) (fun r1 μ1 hp => ?_)
    obtain ⟨rfl, rfl⟩ := hp
    refine v_if_eq hC 56 dX3_firstWaiting_29 rfl (fun h29 => ?_) (fun h29 => ?_)
    · refine v_iinc hC dX3_firstWaiting_56 rfl ⟨by omega, by omega⟩ ?_
      refine v_goto hC 9 dX3_firstWaiting_59 rfl ?_
      exact ih (i + 1) trivial (by omega) c d (by omega) (itr_next (by omega) (by rw [minS, if_neg (fun q => bI_z.1 h29 (of_decide_eq_true q.1))]) a4)
    · refine v_aload_n hC 0 dX3_firstWaiting_32 rfl rfl ?_
      refine v_iload hC dX3_firstWaiting_33 rfl ?_
      refine v_iload_n hC 1 dX3_firstWaiting_35 rfl rfl ?_
      refine v_iload_n hC 2 dX3_firstWaiting_36 rfl rfl ?_
      refine v_callI3 hC (cwX3_153 hC ⟨Nat.le_of_ble_eq_true rfl, Nat.le_of_ble_eq_true rfl⟩) dX3_firstWaiting_37 rfl rfl rfl (Nat.zero_le _) (Nat.zero_le _) (Nat.le_of_ble_eq_true rfl) (by first | decide | (simp only [vdn]; omega)) (cX3_standing_ok i s k μ (by omega) hs hkk hSf0) (fun r1 μ1 hp => ?_)
      obtain ⟨rfl, rfl⟩ := hp
      refine v_istore hC dX3_firstWaiting_40 (Nat.le_of_ble_eq_true rfl) ?_
      refine v_iload hC dX3_firstWaiting_42 rfl ?_
      refine v_iload hC dX3_firstWaiting_44 rfl ?_
      refine v_icmp_ge hC 56 dX3_firstWaiting_46 rfl (fun h46 => ?_) (fun h46 => ?_)
      · refine v_iinc hC dX3_firstWaiting_56 rfl ⟨by omega, by omega⟩ ?_
        refine v_goto hC 9 dX3_firstWaiting_59 rfl ?_
        refine v_forget 6 ?_
        exact ih (i + 1) trivial (by omega) c d (by omega) (itr_next (by omega) (by rw [minS, if_neg (fun q => by have := q.2; dsimp only at this; omega)]) a4)
      · refine v_iload hC dX3_firstWaiting_49 rfl ?_
        refine v_istore_n hC 3 dX3_firstWaiting_51 rfl (Nat.le_of_ble_eq_true rfl) ?_
        refine v_iload hC dX3_firstWaiting_52 rfl ?_
        refine v_istore hC dX3_firstWaiting_54 (Nat.le_of_ble_eq_true rfl) ?_
        refine v_iinc hC dX3_firstWaiting_56 rfl ⟨by omega, by omega⟩ ?_
        refine v_goto hC 9 dX3_firstWaiting_59 rfl ?_
        refine v_forget 6 ?_
        exact ih (i + 1) trivial (by omega) i (stdF μ i s k) (by omega) (itr_next (by omega) (by rw [minS, if_pos ⟨decide_eq_true (bI_n.1 h29), by dsimp only; omega⟩]) a4)
end
section
/-! The reference: its words, and what it asks itself. -/
def o9 : Option Nat → Int
  | none => 9
  | some j => (j : Int)
def mplF (μ : MU) (p : Nat) (w : Int) : Option Nat := fnd (fun j => decide (μ 30 (4 * p + j) = w)) 0 (μ 29 p).toNat
def mbnF (μ : MU) (p s k : Nat) : Option Nat := fnd (fun j => decide (0 ≤ μ 26 (9 * s + 3 * k + j) ∧ andI (μ 27 p) (μ 26 (9 * s + 3 * k + j)) = μ 26 (9 * s + 3 * k + j))) 0 3
def rkF (μ : MU) (p s k : Nat) : Int := (if μ 28 p = 0 then 0 else 100000) + 10000 * o9 (mbnF μ p s k) + (if μ 31 (6 * p + s) < 0 then 1000 + (p : Int) else μ 31 (6 * p + s))
theorem o9_r {P : Nat → Bool} {n : Nat} (h : n ≤ 9) : 0 ≤ o9 (fnd P 0 n) ∧ o9 (fnd P 0 n) ≤ 9 := by
  cases e : fnd P 0 n with
  | none => exact ⟨by decide, by decide⟩
  | some j => have := fnd_some n 0 e; simp only [o9]; omega
theorem o9_9 {P : Nat → Bool} {n : Nat} (h : n ≤ 8) : o9 (fnd P 0 n) < 9 ↔ (fnd P 0 n).isSome = true := by
  cases e : fnd P 0 n with
  | none => simp [o9]
  | some j => have := fnd_some n 0 e; simp [o9]; omega
/-- what the reference's methods need of the state to run -/
def Sm (μ : MU) : Prop := (0 ≤ μ 22 0 ∧ μ 22 0 ≤ 6) ∧ (0 ≤ μ 23 0 ∧ μ 23 0 ≤ 20) ∧ (μ 21 0 = 0 ∨ μ 21 0 = 1) ∧ (∀ s, s < 6 → 0 ≤ μ 24 s ∧ μ 24 s ≤ 3) ∧ (∀ q, q < 18 → 0 ≤ μ 25 q ∧ μ 25 q ≤ 6) ∧
  (∀ p, p < 20 → 0 ≤ μ 29 p ∧ μ 29 p ≤ 4 ∧ 0 ≤ μ 32 p ∧ μ 32 p ≤ 4) ∧ (∀ j, j < 80 → 0 ≤ μ 30 j ∧ μ 30 j < 6) ∧ (∀ j, j < 120 → -1 ≤ μ 31 j ∧ μ 31 j < 2000)
theorem Sm.of {μ μ' : MU} (h : Sm μ) (e : ∀ f j, f ∈ [21, 22, 23, 24, 25, 29, 30, 31, 32] → μ' f j = μ f j) : Sm μ' := by
  unfold Sm at h ⊢
  simp only [e 21 _ (by decide), e 22 _ (by decide), e 23 _ (by decide), e 24 _ (by decide), e 25 _ (by decide), e 29 _ (by decide), e 30 _ (by decide), e 31 _ (by decide), e 32 _ (by decide)]
  exact h
theorem Sm.up {μ : MU} (h : Sm μ) {f j : Nat} {v : Int} (hf : f ∉ [21, 22, 23, 24, 25, 29, 30, 31, 32]) : Sm (upM μ f j v) := h.of fun g k hg => upM_nef fun q => hf (q ▸ hg)
theorem rkF_r {μ : MU} (h : Sm μ) {p s k : Nat} (hp : p < 20) (hs : s < 6) : 0 ≤ rkF μ p s k ∧ rkF μ p s k < 1000000 := by
  obtain ⟨-, -, -, -, -, -, -, hn⟩ := h
  have := hn (6 * p + s) (by omega)
  have := o9_r (P := fun j => decide (0 ≤ μ 26 (9 * s + 3 * k + j) ∧ andI (μ 27 p) (μ 26 (9 * s + 3 * k + j)) = μ 26 (9 * s + 3 * k + j))) (n := 3) (by omega)
  unfold rkF mbnF
  split <;> split <;> omega
abbrev rmX4_thrown : Room := { frames := 0, cells := 0, slots := 0, locals := 0 }
set_option maxRecDepth 100000 in
set_option maxHeartbeats 4000000 in
theorem cX4_thrown_ok (μ : MU) : CTi yX4_thrown cX4_thrown 1 (some .int) rmX4_thrown [aR 12 0] μ (fun r μ' => μ = μ' ∧ r = μ 20 0) := by
  intro l9 b9 D9 K9
  refine met_of (by decide) (Nat.le_of_ble_eq_true rfl) (fun x hC hR hM hA => ?_)
  have hC : Ctx x RX4 cX4_thrown rmX4_thrown := hC
  refine v_aload_n hC 0 dX4_thrown_0 rfl rfl ?_
  refine v_getI hC foX4_59 dX4_thrown_1 rfl rfl rfl (by first | decide | (simp only [vdn]; omega)) ?_
  try simp only [Int.toNat_natCast, upM_at, upM_nef, ne_eq, not_false_eq_true, Nat.reduceEqDiff, Nat.reduceAdd]
  exact v_iret hC hR dX4_thrown_4 (⟨_, rfl, rfl, rfl⟩)
abbrev rmX4_isSchool : Room := { frames := 0, cells := 0, slots := 0, locals := 0 }
set_option maxRecDepth 100000 in
set_option maxHeartbeats 4000000 in
theorem cX4_isSchool_ok (w : Int) (μ : MU) : CTi yX4_isSchool cX4_isSchool 2 (some .boolean) rmX4_isSchool [aR 12 0, aI w] μ (fun r μ' => μ = μ' ∧ r = bI (0 ≤ w ∧ w < μ 22 0)) := by
  intro l9 b9 D9 K9
  refine met_of (by decide) (Nat.le_of_ble_eq_true rfl) (fun x hC hR hM hA => ?_)
  have hC : Ctx x RX4 cX4_isSchool rmX4_isSchool := hC
  refine v_iload_n hC 1 dX4_isSchool_0 rfl rfl ?_
  refine v_if_lt hC 16 dX4_isSchool_1 rfl (fun h1 => ?_) (fun h1 => ?_)
  · refine v_iconst hC dX4_isSchool_16 ⟨by decide, by decide⟩ ?_
    exact v_bret hC hR dX4_isSchool_17 (by omega) (⟨_, rfl, rfl, bI_f (fun q => by have := q.1; omega)⟩)
  · refine v_iload_n hC 1 dX4_isSchool_4 rfl rfl ?_
    refine v_aload_n hC 0 dX4_isSchool_5 rfl rfl ?_
    refine v_getI hC foX4_63 dX4_isSchool_6 rfl rfl rfl (by first | decide | (simp only [vdn]; omega)) ?_
    try simp only [Int.toNat_natCast, upM_at, upM_nef, ne_eq, not_false_eq_true, Nat.reduceEqDiff, Nat.reduceAdd]
    refine v_icmp_ge hC 16 dX4_isSchool_9 rfl (fun h9 => ?_) (fun h9 => ?_)
    · refine v_iconst hC dX4_isSchool_16 ⟨by decide, by decide⟩ ?_
      exact v_bret hC hR dX4_isSchool_17 (by omega) (⟨_, rfl, rfl, bI_f (fun q => by have := q.2; omega)⟩)
    · refine v_iconst hC dX4_isSchool_12 ⟨by decide, by decide⟩ ?_
      refine v_goto hC 17 dX4_isSchool_13 rfl ?_
      exact v_bret hC hR dX4_isSchool_17 (by omega) (⟨_, rfl, rfl, bI_t ⟨by omega, by omega⟩⟩)
abbrev rmX4_isPupil : Room := { frames := 0, cells := 0, slots := 0, locals := 0 }
set_option maxRecDepth 100000 in
set_option maxHeartbeats 4000000 in
theorem cX4_isPupil_ok (w : Int) (μ : MU) : CTi yX4_isPupil cX4_isPupil 2 (some .boolean) rmX4_isPupil [aR 12 0, aI w] μ (fun r μ' => μ = μ' ∧ r = bI (0 ≤ w ∧ w < μ 23 0)) := by
  intro l9 b9 D9 K9
  refine met_of (by decide) (Nat.le_of_ble_eq_true rfl) (fun x hC hR hM hA => ?_)
  have hC : Ctx x RX4 cX4_isPupil rmX4_isPupil := hC
  refine v_iload_n hC 1 dX4_isPupil_0 rfl rfl ?_
  refine v_if_lt hC 16 dX4_isPupil_1 rfl (fun h1 => ?_) (fun h1 => ?_)
  · refine v_iconst hC dX4_isPupil_16 ⟨by decide, by decide⟩ ?_
    exact v_bret hC hR dX4_isPupil_17 (by omega) (⟨_, rfl, rfl, bI_f (fun q => by have := q.1; omega)⟩)
  · refine v_iload_n hC 1 dX4_isPupil_4 rfl rfl ?_
    refine v_aload_n hC 0 dX4_isPupil_5 rfl rfl ?_
    refine v_getI hC foX4_66 dX4_isPupil_6 rfl rfl rfl (by first | decide | (simp only [vdn]; omega)) ?_
    try simp only [Int.toNat_natCast, upM_at, upM_nef, ne_eq, not_false_eq_true, Nat.reduceEqDiff, Nat.reduceAdd]
    refine v_icmp_ge hC 16 dX4_isPupil_9 rfl (fun h9 => ?_) (fun h9 => ?_)
    · refine v_iconst hC dX4_isPupil_16 ⟨by decide, by decide⟩ ?_
      exact v_bret hC hR dX4_isPupil_17 (by omega) (⟨_, rfl, rfl, bI_f (fun q => by have := q.2; omega)⟩)
    · refine v_iconst hC dX4_isPupil_12 ⟨by decide, by decide⟩ ?_
      refine v_goto hC 17 dX4_isPupil_13 rfl ?_
      exact v_bret hC hR dX4_isPupil_17 (by omega) (⟨_, rfl, rfl, bI_t ⟨by omega, by omega⟩⟩)
abbrev rmX4_place : Room := { frames := 0, cells := 0, slots := 0, locals := 0 }
set_option maxRecDepth 100000 in
set_option maxHeartbeats 4000000 in
theorem cX4_place_ok (p : Nat) (w : Int) (μ : MU) (hp : p < 20) (hSm : Sm μ) : CTi yX4_place cX4_place 4 (some .int) rmX4_place [aR 12 0, aI p, aI w] μ (fun r μ' => μ = μ' ∧ r = o9 (mplF μ p w)) := by
  intro l9 b9 D9 K9
  refine met_of (by decide) (Nat.le_of_ble_eq_true rfl) (fun x hC hR hM hA => ?_)
  have hC : Ctx x RX4 cX4_place rmX4_place := hC
  obtain ⟨⟨s1, s2⟩, ⟨n1, n2⟩, hr, hkc, hq, hpp, hli, hnu⟩ := hSm
  have hp1 := hpp p hp
  refine v_iconst hC dX4_place_0 ⟨by decide, by decide⟩ ?_
  refine v_istore_n hC 3 dX4_place_1 rfl (Nat.le_of_ble_eq_true rfl) ?_
  refine v_loop (fun i : Nat => (μ 29 p).toNat - i) (fun i => fnd (fun j => decide (μ 30 (4 * p + j) = w)) i ((μ 29 p).toNat - i) = mplF μ p w) (fun i => V x 0 0 none 2 [some (aR 12 0), some (aI p), some (aI w), some (aI (i : Int))] [] μ) (fun i hi ih => ?_) 0 rfl
  have ei : ((4 : Int) * (p : Int) + (i : Int)).toNat = 4 * p + i := by omega
  refine v_iload_n hC 3 dX4_place_2 rfl rfl ?_
  refine v_aload_n hC 0 dX4_place_3 rfl rfl ?_
  refine v_getR hC foX4_26 dX4_place_4 rfl rfl rfl (by decide) (by first | decide | (simp only [vdn]; omega)) ?_
  refine v_iload_n hC 1 dX4_place_7 rfl rfl ?_
  refine v_iald hC dX4_place_8 rfl rfl rfl (by first | decide | (simp only [vdn]; omega)) ⟨by first | omega | (simp only [mlen]; omega), by first | omega | (simp only [mlen]; omega)⟩ ?_
  try simp only [Int.toNat_natCast, upM_at, upM_nef, ne_eq, not_false_eq_true, Nat.reduceEqDiff, Nat.reduceAdd]
  refine v_icmp_ge hC 34 dX4_place_9 rfl (fun h9 => ?_) (fun h9 => ?_)
  · refine v_bipush hC dX4_place_34 ⟨by decide, by decide⟩ ?_
    exact v_iret hC hR dX4_place_36 (⟨_, rfl, rfl, by rw [← hi, fnd_done (by omega)]; rfl⟩)
  · refine v_aload_n hC 0 dX4_place_12 rfl rfl ?_
    refine v_getR hC foX4_29 dX4_place_13 rfl rfl rfl (by decide) (by first | decide | (simp only [vdn]; omega)) ?_
    refine v_iconst hC dX4_place_16 ⟨by decide, by decide⟩ ?_
    refine v_iload_n hC 1 dX4_place_17 rfl rfl ?_
    refine v_imul hC dX4_place_18 ⟨by omega, by omega⟩ ?_
    refine v_iload_n hC 3 dX4_place_19 rfl rfl ?_
    refine v_iadd hC dX4_place_20 ⟨by omega, by omega⟩ ?_
    refine v_iald hC dX4_place_21 rfl rfl rfl (by first | decide | (simp only [vdn]; omega)) ⟨by first | omega | (simp only [mlen]; omega), by first | omega | (simp only [mlen]; omega)⟩ ?_
    try simp only [Int.toNat_natCast, upM_at, upM_nef, ne_eq, not_false_eq_true, Nat.reduceEqDiff, Nat.reduceAdd]
    rw [ei]
    refine v_iload_n hC 2 dX4_place_22 rfl rfl ?_
    refine v_icmp_ne hC 28 dX4_place_23 rfl (fun h23 => ?_) (fun h23 => ?_)
    · refine v_iinc hC dX4_place_28 rfl ⟨by omega, by omega⟩ ?_
      refine v_goto hC 2 dX4_place_31 rfl ?_
      exact ih (i + 1) (fnd_next (by omega) (by simpa using h23) hi) (by omega)
    · refine v_iload_n hC 3 dX4_place_26 rfl rfl ?_
      exact v_iret hC hR dX4_place_27 (⟨_, rfl, rfl, by rw [← hi, fnd_yes (by omega) (by simpa using h23)]; rfl⟩)
abbrev rmX4_band : Room := { frames := 0, cells := 0, slots := 0, locals := 0 }
set_option maxRecDepth 100000 in
set_option maxHeartbeats 4000000 in
theorem cX4_band_ok (p s k : Nat) (μ : MU) (hp : p < 20) (hs : s < 6) (hk : k < 3) : CTi yX4_band cX4_band 6 (some .int) rmX4_band [aR 12 0, aI p, aI s, aI k] μ (fun r μ' => μ = μ' ∧ r = o9 (mbnF μ p s k)) := by
  intro l9 b9 D9 K9
  refine met_of (by decide) (Nat.le_of_ble_eq_true rfl) (fun x hC hR hM hA => ?_)
  have hC : Ctx x RX4 cX4_band rmX4_band := hC
  refine v_iconst hC dX4_band_0 ⟨by decide, by decide⟩ ?_
  refine v_istore hC dX4_band_1 (Nat.le_of_ble_eq_true rfl) ?_
  refine v_loop (fun i : Nat => 3 - i) (fun i => fnd (fun j => decide (0 ≤ μ 26 (9 * s + 3 * k + j) ∧ andI (μ 27 p) (μ 26 (9 * s + 3 * k + j)) = μ 26 (9 * s + 3 * k + j))) i (3 - i) = mbnF μ p s k) (fun i => V x 0 0 none 3 [some (aR 12 0), some (aI p), some (aI s), some (aI k), some (aI (i : Int)), none] [] μ) (fun i hi ih => ?_) 0 rfl
  have ei : ((9 : Int) * (s : Int) + (3 : Int) * (k : Int) + (i : Int)).toNat = 9 * s + 3 * k + i := by omega
  refine v_iload hC dX4_band_3 rfl ?_
  refine v_iconst hC dX4_band_5 ⟨by decide, by decide⟩ ?_
  refine v_icmp_ge hC 55 dX4_band_6 rfl (fun h6 => ?_) (fun h6 => ?_)
  · refine v_bipush hC dX4_band_55 ⟨by decide, by decide⟩ ?_
    exact v_iret hC hR dX4_band_57 (⟨_, rfl, rfl, by rw [← hi, fnd_done (by omega)]; rfl⟩)
  · refine v_aload_n hC 0 dX4_band_9 rfl rfl ?_
    refine v_getR hC foX4_16 dX4_band_10 rfl rfl rfl (by decide) (by first | decide | (simp only [vdn]; omega)) ?_
    refine v_bipush hC dX4_band_13 ⟨by decide, by decide⟩ ?_
    refine v_iload_n hC 2 dX4_band_15 rfl rfl ?_
    refine v_imul hC dX4_band_16 ⟨by omega, by omega⟩ ?_
    refine v_iconst hC dX4_band_17 ⟨by decide, by decide⟩ ?_
    refine v_iload_n hC 3 dX4_band_18 rfl rfl ?_
    refine v_imul hC dX4_band_19 ⟨by omega, by omega⟩ ?_
    refine v_iadd hC dX4_band_20 ⟨by omega, by omega⟩ ?_
    refine v_iload hC dX4_band_21 rfl ?_
    refine v_iadd hC dX4_band_23 ⟨by omega, by omega⟩ ?_
    refine v_iald hC dX4_band_24 rfl rfl rfl (by first | decide | (simp only [vdn]; omega)) ⟨by first | omega | (simp only [mlen]; omega), by first | omega | (simp only [mlen]; omega)⟩ ?_
    try simp only [Int.toNat_natCast, upM_at, upM_nef, ne_eq, not_false_eq_true, Nat.reduceEqDiff, Nat.reduceAdd]
    rw [ei]
    refine v_istore hC dX4_band_25 (Nat.le_of_ble_eq_true rfl) ?_
    refine v_iload hC dX4_band_27 rfl ?_
    refine v_if_lt hC 49 dX4_band_29 rfl (fun h29 => ?_) (fun h29 => ?_)
    · refine v_iinc hC dX4_band_49 rfl ⟨by omega, by omega⟩ ?_
      refine v_goto hC 3 dX4_band_52 rfl ?_
      refine v_forget 5 ?_
      exact ih (i + 1) (fnd_next (by omega) (by simp; intro h; omega) hi) (by omega)
    · refine v_aload_n hC 0 dX4_band_32 rfl rfl ?_
      refine v_getR hC foX4_19 dX4_band_33 rfl rfl rfl (by decide) (by first | decide | (simp only [vdn]; omega)) ?_
      refine v_iload_n hC 1 dX4_band_36 rfl rfl ?_
      refine v_iald hC dX4_band_37 rfl rfl rfl (by first | decide | (simp only [vdn]; omega)) ⟨by first | omega | (simp only [mlen]; omega), by first | omega | (simp only [mlen]; omega)⟩ ?_
      try simp only [Int.toNat_natCast, upM_at, upM_nef, ne_eq, not_false_eq_true, Nat.reduceEqDiff, Nat.reduceAdd]
      refine v_iload hC dX4_band_38 rfl ?_
      refine v_iand hC dX4_band_40 ?_
      refine v_iload hC dX4_band_41 rfl ?_
      refine v_icmp_ne hC 49 dX4_band_43 rfl (fun h43 => ?_) (fun h43 => ?_)
      · refine v_iinc hC dX4_band_49 rfl ⟨by omega, by omega⟩ ?_
        refine v_goto hC 3 dX4_band_52 rfl ?_
        refine v_forget 5 ?_
        exact ih (i + 1) (fnd_next (by omega) (by simp; intro _; exact h43) hi) (by omega)
      · refine v_iload hC dX4_band_46 rfl ?_
        exact v_iret hC hR dX4_band_48 (⟨_, rfl, rfl, by rw [← hi, fnd_yes (by omega) (by simp; exact ⟨by omega, h43⟩)]; rfl⟩)
abbrev rmX4_eligible : Room := { frames := 1, cells := 0, slots := 0, locals := 25 }
set_option maxRecDepth 100000 in
set_option maxHeartbeats 4000000 in
theorem cX4_eligible_ok (p s k : Nat) (μ : MU) (hp : p < 20) (hs : s < 6) (hk : k < 3) : CTi yX4_eligible cX4_eligible 4 (some .boolean) rmX4_eligible [aR 12 0, aI p, aI s, aI k] μ (fun r μ' => μ = μ' ∧ r = bI ((mbnF μ p s k).isSome = true)) := by
  intro l9 b9 D9 K9
  refine met_of (by decide) (Nat.le_of_ble_eq_true rfl) (fun x hC hR hM hA => ?_)
  have hC : Ctx x RX4 cX4_eligible rmX4_eligible := hC
  refine v_aload_n hC 0 dX4_eligible_0 rfl rfl ?_
  refine v_iload_n hC 1 dX4_eligible_1 rfl rfl ?_
  refine v_iload_n hC 2 dX4_eligible_2 rfl rfl ?_
  refine v_iload_n hC 3 dX4_eligible_3 rfl rfl ?_
  refine v_callI3 hC (cwX4_84 hC ⟨Nat.le_of_ble_eq_true rfl, Nat.le_of_ble_eq_true rfl⟩) dX4_eligible_4 rfl rfl rfl (Nat.zero_le _) (Nat.zero_le _) (Nat.le_of_ble_eq_true rfl) (by first | decide | (simp only [vdn]; omega)) (cX4_band_ok p s k μ hp hs hk) (fun r1 μ1 hp => ?_)
  obtain ⟨rfl, rfl⟩ := hp
  refine v_bipush hC dX4_eligible_7 ⟨by decide, by decide⟩ ?_
  refine v_icmp_ge hC 16 dX4_eligible_9 rfl (fun h9 => ?_) (fun h9 => ?_)
  · refine v_iconst hC dX4_eligible_16 ⟨by decide, by decide⟩ ?_
    exact v_bret hC hR dX4_eligible_17 (by omega) (⟨_, rfl, rfl, bI_f (fun q => by have := (o9_9 (n := 3) (by omega)).2 q; unfold mbnF at h9; omega)⟩)
  · refine v_iconst hC dX4_eligible_12 ⟨by decide, by decide⟩ ?_
    refine v_goto hC 17 dX4_eligible_13 rfl ?_
    exact v_bret hC hR dX4_eligible_17 (by omega) (⟨_, rfl, rfl, bI_t ((o9_9 (n := 3) (by omega)).1 (by unfold mbnF at h9; omega))⟩)
abbrev rmX4_rank : Room := { frames := 1, cells := 0, slots := 0, locals := 25 }
set_option maxRecDepth 100000 in
set_option maxHeartbeats 4000000 in
theorem cX4_rank_ok (p s k : Nat) (μ : MU) (hp : p < 20) (hs : s < 6) (hk : k < 3) (hSm : Sm μ) : CTi yX4_rank cX4_rank 5 (some .int) rmX4_rank [aR 12 0, aI p, aI s, aI k] μ (fun r μ' => μ = μ' ∧ r = rkF μ p s k) := by
  intro l9 b9 D9 K9
  refine met_of (by decide) (Nat.le_of_ble_eq_true rfl) (fun x hC hR hM hA => ?_)
  have hC : Ctx x RX4 cX4_rank rmX4_rank := hC
  obtain ⟨⟨s1, s2⟩, ⟨n1, n2⟩, hr, hkc, hq, hpp, hli, hnu⟩ := hSm
  have hn1 := hnu (6 * p + s) (by omega)
  have ei : ((6 : Int) * (p : Int) + (s : Int)).toNat = 6 * p + s := by omega
  have ho := o9_r (P := fun j => decide (0 ≤ μ 26 (9 * s + 3 * k + j) ∧ andI (μ 27 p) (μ 26 (9 * s + 3 * k + j)) = μ 26 (9 * s + 3 * k + j))) (n := 3) (by omega)
  have ho : 0 ≤ o9 (mbnF μ p s k) ∧ o9 (mbnF μ p s k) ≤ 9 := ho
  refine v_aload_n hC 0 dX4_rank_0 rfl rfl ?_
  refine v_getR hC foX4_32 dX4_rank_1 rfl rfl rfl (by decide) (by first | decide | (simp only [vdn]; omega)) ?_
  refine v_bipush hC dX4_rank_4 ⟨by decide, by decide⟩ ?_
  refine v_iload_n hC 1 dX4_rank_6 rfl rfl ?_
  refine v_imul hC dX4_rank_7 ⟨by omega, by omega⟩ ?_
  refine v_iload_n hC 2 dX4_rank_8 rfl rfl ?_
  refine v_iadd hC dX4_rank_9 ⟨by omega, by omega⟩ ?_
  refine v_iald hC dX4_rank_10 rfl rfl rfl (by first | decide | (simp only [vdn]; omega)) ⟨by first | omega | (simp only [mlen]; omega), by first | omega | (simp only [mlen]; omega)⟩ ?_
  try simp only [Int.toNat_natCast, upM_at, upM_nef, ne_eq, not_false_eq_true, Nat.reduceEqDiff, Nat.reduceAdd]
  rw [ei]
  refine v_istore hC dX4_rank_11 (Nat.le_of_ble_eq_true rfl) ?_
  refine v_aload_n hC 0 dX4_rank_13 rfl rfl ?_
  refine v_getR hC foX4_22 dX4_rank_14 rfl rfl rfl (by decide) (by first | decide | (simp only [vdn]; omega)) ?_
  refine v_iload_n hC 1 dX4_rank_17 rfl rfl ?_
  refine v_zald hC dX4_rank_18 rfl rfl rfl (by first | decide | (simp only [vdn]; omega)) ⟨by first | omega | (simp only [mlen]; omega), by first | omega | (simp only [mlen]; omega)⟩ ?_
  try simp only [Int.toNat_natCast, upM_at, upM_nef, ne_eq, not_false_eq_true, Nat.reduceEqDiff, Nat.reduceAdd]
  refine v_if_eq hC 27 dX4_rank_19 rfl (fun h19 => ?_) (fun h19 => ?_)
  · refine v_iconst hC dX4_rank_27 ⟨by decide, by decide⟩ ?_
    refine v_sipush hC dX4_rank_28 ⟨by decide, by decide⟩ ?_
    refine v_aload_n hC 0 dX4_rank_31 rfl rfl ?_
    refine v_iload_n hC 1 dX4_rank_32 rfl rfl ?_
    refine v_iload_n hC 2 dX4_rank_33 rfl rfl ?_
    refine v_iload_n hC 3 dX4_rank_34 rfl rfl ?_
    refine v_callI3 hC (cwX4_84 hC ⟨Nat.le_of_ble_eq_true rfl, Nat.le_of_ble_eq_true rfl⟩) dX4_rank_35 rfl rfl rfl (Nat.zero_le _) (Nat.zero_le _) (Nat.le_of_ble_eq_true rfl) (by first | decide | (simp only [vdn]; omega)) (cX4_band_ok p s k μ hp hs hk) (fun r1 μ1 hp => ?_)
    obtain ⟨rfl, rfl⟩ := hp
    refine v_imul hC dX4_rank_38 ⟨by omega, by omega⟩ ?_
    refine v_iadd hC dX4_rank_39 ⟨by omega, by omega⟩ ?_
    refine v_iload hC dX4_rank_40 rfl ?_
    refine v_if_ge hC 53 dX4_rank_42 rfl (fun h42 => ?_) (fun h42 => ?_)
    · refine v_iload hC dX4_rank_53 rfl ?_
      refine v_iadd hC dX4_rank_55 ⟨by omega, by omega⟩ ?_
      exact v_iret hC hR dX4_rank_56 (⟨_, rfl, rfl, by rw [rkF, if_pos h19, if_neg (by omega)]⟩)
    · refine v_sipush hC dX4_rank_45 ⟨by decide, by decide⟩ ?_
      refine v_iload_n hC 1 dX4_rank_48 rfl rfl ?_
      refine v_iadd hC dX4_rank_49 ⟨by omega, by omega⟩ ?_
      refine v_goto hC 55 dX4_rank_50 rfl ?_
      refine v_iadd hC dX4_rank_55 ⟨by omega, by omega⟩ ?_
      exact v_iret hC hR dX4_rank_56 (⟨_, rfl, rfl, by rw [rkF, if_pos h19, if_pos (by omega)]⟩)
  · refine v_ldc (v := 100000) hC dX4_rank_22 ldX4_88 ⟨by decide, by decide⟩ ?_
    refine v_goto hC 28 dX4_rank_24 rfl ?_
    refine v_sipush hC dX4_rank_28 ⟨by decide, by decide⟩ ?_
    refine v_aload_n hC 0 dX4_rank_31 rfl rfl ?_
    refine v_iload_n hC 1 dX4_rank_32 rfl rfl ?_
    refine v_iload_n hC 2 dX4_rank_33 rfl rfl ?_
    refine v_iload_n hC 3 dX4_rank_34 rfl rfl ?_
    refine v_callI3 hC (cwX4_84 hC ⟨Nat.le_of_ble_eq_true rfl, Nat.le_of_ble_eq_true rfl⟩) dX4_rank_35 rfl rfl rfl (Nat.zero_le _) (Nat.zero_le _) (Nat.le_of_ble_eq_true rfl) (by first | decide | (simp only [vdn]; omega)) (cX4_band_ok p s k μ hp hs hk) (fun r1 μ1 hp => ?_)
    obtain ⟨rfl, rfl⟩ := hp
    refine v_imul hC dX4_rank_38 ⟨by omega, by omega⟩ ?_
    refine v_iadd hC dX4_rank_39 ⟨by omega, by omega⟩ ?_
    refine v_iload hC dX4_rank_40 rfl ?_
    refine v_if_ge hC 53 dX4_rank_42 rfl (fun h42 => ?_) (fun h42 => ?_)
    · refine v_iload hC dX4_rank_53 rfl ?_
      refine v_iadd hC dX4_rank_55 ⟨by omega, by omega⟩ ?_
      exact v_iret hC hR dX4_rank_56 (⟨_, rfl, rfl, by rw [rkF, if_neg h19, if_neg (by omega)]⟩)
    · refine v_sipush hC dX4_rank_45 ⟨by decide, by decide⟩ ?_
      refine v_iload_n hC 1 dX4_rank_48 rfl rfl ?_
      refine v_iadd hC dX4_rank_49 ⟨by omega, by omega⟩ ?_
      refine v_goto hC 55 dX4_rank_50 rfl ?_
      refine v_iadd hC dX4_rank_55 ⟨by omega, by omega⟩ ?_
      exact v_iret hC hR dX4_rank_56 (⟨_, rfl, rfl, by rw [rkF, if_neg h19, if_pos (by omega)]⟩)
abbrev rmX4_placed : Room := { frames := 0, cells := 0, slots := 0, locals := 0 }
set_option maxRecDepth 100000 in
set_option maxHeartbeats 4000000 in
theorem cX4_placed_ok (μ : MU) (hSm : Sm μ) : CTi yX4_placed cX4_placed 3 (some .int) rmX4_placed [aR 12 0] μ (fun r μ' => μ = μ' ∧ r = cntF (fun p => decide (¬ μ 21 0 = 0 ∧ 0 ≤ μ 33 p)) (μ 23 0).toNat) := by
  intro l9 b9 D9 K9
  refine met_of (by decide) (Nat.le_of_ble_eq_true rfl) (fun x hC hR hM hA => ?_)
  have hC : Ctx x RX4 cX4_placed rmX4_placed := hC
  refine v_iconst hC dX4_placed_0 ⟨by decide, by decide⟩ ?_
  refine v_istore_n hC 1 dX4_placed_1 rfl (Nat.le_of_ble_eq_true rfl) ?_
  refine v_iconst hC dX4_placed_2 ⟨by decide, by decide⟩ ?_
  refine v_istore_n hC 2 dX4_placed_3 rfl (Nat.le_of_ble_eq_true rfl) ?_
  obtain ⟨⟨s1, s2⟩, ⟨n1, n2⟩, hr, hkc, hq, hpp, hli, hnu⟩ := hSm
  refine v_loop (fun i : Nat => (μ 23 0).toNat - i) (fun _ => True) (fun i => ∀ c : Int, i ≤ 20 → 0 ≤ c → c ≤ i → itr (cntS (fun p => decide (¬ μ 21 0 = 0 ∧ 0 ≤ μ 33 p))) i ((μ 23 0).toNat - i) c = cntF (fun p => decide (¬ μ 21 0 = 0 ∧ 0 ≤ μ 33 p)) (μ 23 0).toNat → V x 0 0 none 4 [some (aR 12 0), some (aI c), some (aI (i : Int))] [] μ) (fun i _ ih c a1 a2 a3 a4 => ?_) 0 trivial 0 (by decide) (by decide) (by decide) rfl
  refine v_iload_n hC 2 dX4_placed_4 rfl rfl ?_
  refine v_aload_n hC 0 dX4_placed_5 rfl rfl ?_
  refine v_getI hC foX4_66 dX4_placed_6 rfl rfl rfl (by first | decide | (simp only [vdn]; omega)) ?_
  try simp only [Int.toNat_natCast, upM_at, upM_nef, ne_eq, not_false_eq_true, Nat.reduceEqDiff, Nat.reduceAdd]
  refine v_icmp_ge hC 42 dX4_placed_9 rfl (fun h9 => ?_) (fun h9 => ?_)
  · refine v_iload_n hC 1 dX4_placed_42 rfl rfl ?_
    exact v_iret hC hR dX4_placed_43 (⟨_, rfl, rfl, by rw [← a4, itr_done (by omega)]⟩)
  · refine v_iload_n hC 1 dX4_placed_12 rfl rfl ?_
    refine v_aload_n hC 0 dX4_placed_13 rfl rfl ?_
    refine v_getI hC foX4_69 dX4_placed_14 rfl rfl rfl (by first | decide | (simp only [vdn]; omega)) ?_
    try simp only [Int.toNat_natCast, upM_at, upM_nef, ne_eq, not_false_eq_true, Nat.reduceEqDiff, Nat.reduceAdd]
    refine v_if_eq hC 33 dX4_placed_17 rfl (fun h17 => ?_) (fun h17 => ?_)
    · refine v_iconst hC dX4_placed_33 ⟨by decide, by decide⟩ ?_
      refine v_iadd hC dX4_placed_34 ⟨by omega, by omega⟩ ?_
      refine v_istore_n hC 1 dX4_placed_35 rfl (Nat.le_of_ble_eq_true rfl) ?_
      refine v_iinc hC dX4_placed_36 rfl ⟨by omega, by omega⟩ ?_
      refine v_goto hC 4 dX4_placed_39 rfl ?_
      exact ih (i + 1) trivial (by omega) (c + 0) (by omega) (by omega) (by omega) (itr_next (by omega) (by rw [cntS_n (by simp [h17]), Int.add_zero]) a4)
    · refine v_aload_n hC 0 dX4_placed_20 rfl rfl ?_
      refine v_getR hC foX4_38 dX4_placed_21 rfl rfl rfl (by decide) (by first | decide | (simp only [vdn]; omega)) ?_
      refine v_iload_n hC 2 dX4_placed_24 rfl rfl ?_
      refine v_iald hC dX4_placed_25 rfl rfl rfl (by first | decide | (simp only [vdn]; omega)) ⟨by first | omega | (simp only [mlen]; omega), by first | omega | (simp only [mlen]; omega)⟩ ?_
      try simp only [Int.toNat_natCast, upM_at, upM_nef, ne_eq, not_false_eq_true, Nat.reduceEqDiff, Nat.reduceAdd]
      refine v_if_lt hC 33 dX4_placed_26 rfl (fun h26 => ?_) (fun h26 => ?_)
      · refine v_iconst hC dX4_placed_33 ⟨by decide, by decide⟩ ?_
        refine v_iadd hC dX4_placed_34 ⟨by omega, by omega⟩ ?_
        refine v_istore_n hC 1 dX4_placed_35 rfl (Nat.le_of_ble_eq_true rfl) ?_
        refine v_iinc hC dX4_placed_36 rfl ⟨by omega, by omega⟩ ?_
        refine v_goto hC 4 dX4_placed_39 rfl ?_
        exact ih (i + 1) trivial (by omega) (c + 0) (by omega) (by omega) (by omega) (itr_next (by omega) (by rw [cntS_n (by simp; intro _; omega), Int.add_zero]) a4)
      · refine v_iconst hC dX4_placed_29 ⟨by decide, by decide⟩ ?_
        refine v_goto hC 34 dX4_placed_30 rfl ?_
        refine v_iadd hC dX4_placed_34 ⟨by omega, by omega⟩ ?_
        refine v_istore_n hC 1 dX4_placed_35 rfl (Nat.le_of_ble_eq_true rfl) ?_
        refine v_iinc hC dX4_placed_36 rfl ⟨by omega, by omega⟩ ?_
        refine v_goto hC 4 dX4_placed_39 rfl ?_
        exact ih (i + 1) trivial (by omega) (c + 1) (by omega) (by omega) (by omega) (itr_next (by omega) (by rw [cntS_y (by simp; exact ⟨h17, by omega⟩)]) a4)
abbrev rmX4_give : Room := { frames := 0, cells := 0, slots := 0, locals := 0 }
set_option maxRecDepth 100000 in
set_option maxHeartbeats 4000000 in
theorem cX4_give_ok (p : Nat) (μ : MU) (hp : p < 20) : CTv yX4_give cX4_give 2 rmX4_give [aR 12 0, aI p] μ (fun μ' => upM (upM (upM μ 33 p (-1)) 34 p (-1)) 37 p 0 = μ') := by
  intro l9 b9 D9 K9
  refine met_of (by decide) (Nat.le_of_ble_eq_true rfl) (fun x hC hR hM hA => ?_)
  have hC : Ctx x RX4 cX4_give rmX4_give := hC
  refine v_aload_n hC 0 dX4_give_0 rfl rfl ?_
  refine v_getR hC foX4_38 dX4_give_1 rfl rfl rfl (by decide) (by first | decide | (simp only [vdn]; omega)) ?_
  refine v_iload_n hC 1 dX4_give_4 rfl rfl ?_
  refine v_iconst hC dX4_give_5 ⟨by decide, by decide⟩ ?_
  refine v_iast hC dX4_give_6 rfl rfl rfl (by decide) (by first | decide | (simp only [vdn]; omega)) ⟨by first | omega | (simp only [mlen]; omega), by first | omega | (simp only [mlen]; omega)⟩ ?_
  try simp only [Int.toNat_natCast, upM_at, upM_nef, ne_eq, not_false_eq_true, Nat.reduceEqDiff, Nat.reduceAdd]
  refine v_aload_n hC 0 dX4_give_7 rfl rfl ?_
  refine v_getR hC foX4_41 dX4_give_8 rfl rfl rfl (by decide) (by first | decide | (simp only [vdn]; omega)) ?_
  refine v_iload_n hC 1 dX4_give_11 rfl rfl ?_
  refine v_iconst hC dX4_give_12 ⟨by decide, by decide⟩ ?_
  refine v_iast hC dX4_give_13 rfl rfl rfl (by decide) (by first | decide | (simp only [vdn]; omega)) ⟨by first | omega | (simp only [mlen]; omega), by first | omega | (simp only [mlen]; omega)⟩ ?_
  try simp only [Int.toNat_natCast, upM_at, upM_nef, ne_eq, not_false_eq_true, Nat.reduceEqDiff, Nat.reduceAdd]
  refine v_aload_n hC 0 dX4_give_14 rfl rfl ?_
  refine v_getR hC foX4_50 dX4_give_15 rfl rfl rfl (by decide) (by first | decide | (simp only [vdn]; omega)) ?_
  refine v_iload_n hC 1 dX4_give_18 rfl rfl ?_
  refine v_iconst hC dX4_give_19 ⟨by decide, by decide⟩ ?_
  refine v_iast hC dX4_give_20 rfl rfl rfl (by decide) (by first | decide | (simp only [vdn]; omega)) ⟨by first | omega | (simp only [mlen]; omega), by first | omega | (simp only [mlen]; omega)⟩ ?_
  try simp only [Int.toNat_natCast, upM_at, upM_nef, ne_eq, not_false_eq_true, Nat.reduceEqDiff, Nat.reduceAdd]
  exact v_vret hC hR (Nat.le_refl _) (Nat.le_refl _) dX4_give_21 (⟨rfl, rfl⟩)
abbrev rmX4_own : Room := { frames := 1, cells := 0, slots := 0, locals := 23 }
set_option maxRecDepth 100000 in
set_option maxHeartbeats 4000000 in
theorem cX4_own_ok (p : Nat) (μ : MU) (hp : p < 20) (hSm : Sm μ) : CTi yX4_own cX4_own 2 (some .int) rmX4_own [aR 12 0, aI p] μ (fun r μ' => μ = μ' ∧ r = (if μ 33 p < 0 then 9 else o9 (mplF μ p (μ 33 p)))) := by
  intro l9 b9 D9 K9
  refine met_of (by decide) (Nat.le_of_ble_eq_true rfl) (fun x hC hR hM hA => ?_)
  have hC : Ctx x RX4 cX4_own rmX4_own := hC
  refine v_aload_n hC 0 dX4_own_0 rfl rfl ?_
  refine v_getR hC foX4_38 dX4_own_1 rfl rfl rfl (by decide) (by first | decide | (simp only [vdn]; omega)) ?_
  refine v_iload_n hC 1 dX4_own_4 rfl rfl ?_
  refine v_iald hC dX4_own_5 rfl rfl rfl (by first | decide | (simp only [vdn]; omega)) ⟨by first | omega | (simp only [mlen]; omega), by first | omega | (simp only [mlen]; omega)⟩ ?_
  try simp only [Int.toNat_natCast, upM_at, upM_nef, ne_eq, not_false_eq_true, Nat.reduceEqDiff, Nat.reduceAdd]
  refine v_if_ge hC 14 dX4_own_6 rfl (fun h6 => ?_) (fun h6 => ?_)
  · refine v_aload_n hC 0 dX4_own_14 rfl rfl ?_
    refine v_iload_n hC 1 dX4_own_15 rfl rfl ?_
    refine v_aload_n hC 0 dX4_own_16 rfl rfl ?_
    refine v_getR hC foX4_38 dX4_own_17 rfl rfl rfl (by decide) (by first | decide | (simp only [vdn]; omega)) ?_
    refine v_iload_n hC 1 dX4_own_20 rfl rfl ?_
    refine v_iald hC dX4_own_21 rfl rfl rfl (by first | decide | (simp only [vdn]; omega)) ⟨by first | omega | (simp only [mlen]; omega), by first | omega | (simp only [mlen]; omega)⟩ ?_
    try simp only [Int.toNat_natCast, upM_at, upM_nef, ne_eq, not_false_eq_true, Nat.reduceEqDiff, Nat.reduceAdd]
    refine v_callI2 hC (cwX4_80 hC ⟨Nat.le_of_ble_eq_true rfl, Nat.le_of_ble_eq_true rfl⟩) dX4_own_22 rfl rfl rfl (Nat.zero_le _) (Nat.zero_le _) (Nat.le_of_ble_eq_true rfl) (by first | decide | (simp only [vdn]; omega)) (cX4_place_ok p (μ 33 p) μ hp hSm) (fun r1 μ1 hp => ?_)
    obtain ⟨rfl, rfl⟩ := hp
    exact v_iret hC hR dX4_own_25 (⟨_, rfl, rfl, by rw [if_neg (by omega)]⟩)
  · refine v_bipush hC dX4_own_9 ⟨by decide, by decide⟩ ?_
    refine v_goto hC 25 dX4_own_11 rfl ?_
    exact v_iret hC hR dX4_own_25 (⟨_, rfl, rfl, by rw [if_pos (by omega)]⟩)
def ownF (μ : MU) (p : Nat) : Int := if μ 33 p < 0 then 9 else o9 (mplF μ p (μ 33 p))
abbrev mwtP (μ : MU) (p : Nat) (w : Int) : Prop := o9 (mplF μ p w) < 9 ∧ o9 (mplF μ p w) < μ 37 p ∧ o9 (mplF μ p w) < ownF μ p
abbrev rmX4_waits : Room := { frames := 2, cells := 0, slots := 0, locals := 44 }
set_option maxRecDepth 100000 in
set_option maxHeartbeats 4000000 in
theorem cX4_waits_ok (p : Nat) (w : Int) (μ : MU) (hp : p < 20) (hSm : Sm μ) : CTi yX4_waits cX4_waits 4 (some .boolean) rmX4_waits [aR 12 0, aI p, aI w] μ (fun r μ' => μ = μ' ∧ r = bI (mwtP μ p w)) := by
  intro l9 b9 D9 K9
  refine met_of (by decide) (Nat.le_of_ble_eq_true rfl) (fun x hC hR hM hA => ?_)
  have hC : Ctx x RX4 cX4_waits rmX4_waits := hC
  refine v_aload_n hC 0 dX4_waits_0 rfl rfl ?_
  refine v_iload_n hC 1 dX4_waits_1 rfl rfl ?_
  refine v_iload_n hC 2 dX4_waits_2 rfl rfl ?_
  refine v_callI2 hC (cwX4_80 hC ⟨Nat.le_of_ble_eq_true rfl, Nat.le_of_ble_eq_true rfl⟩) dX4_waits_3 rfl rfl rfl (Nat.zero_le _) (Nat.zero_le _) (Nat.le_of_ble_eq_true rfl) (by first | decide | (simp only [vdn]; omega)) (cX4_place_ok p w μ hp hSm) (fun r1 μ1 hp => ?_)
  obtain ⟨rfl, rfl⟩ := hp
  refine v_istore_n hC 3 dX4_waits_6 rfl (Nat.le_of_ble_eq_true rfl) ?_
  refine v_iload_n hC 3 dX4_waits_7 rfl rfl ?_
  refine v_bipush hC dX4_waits_8 ⟨by decide, by decide⟩ ?_
  refine v_icmp_ge hC 36 dX4_waits_10 rfl (fun h10 => ?_) (fun h10 => ?_)
  · refine v_iconst hC dX4_waits_36 ⟨by decide, by decide⟩ ?_
    exact v_bret hC hR dX4_waits_37 (by omega) (⟨_, rfl, rfl, bI_f (fun q => by have := q.1; omega)⟩)
  · refine v_iload_n hC 3 dX4_waits_13 rfl rfl ?_
    refine v_aload_n hC 0 dX4_waits_14 rfl rfl ?_
    refine v_getR hC foX4_50 dX4_waits_15 rfl rfl rfl (by decide) (by first | decide | (simp only [vdn]; omega)) ?_
    refine v_iload_n hC 1 dX4_waits_18 rfl rfl ?_
    refine v_iald hC dX4_waits_19 rfl rfl rfl (by first | decide | (simp only [vdn]; omega)) ⟨by first | omega | (simp only [mlen]; omega), by first | omega | (simp only [mlen]; omega)⟩ ?_
    try simp only [Int.toNat_natCast, upM_at, upM_nef, ne_eq, not_false_eq_true, Nat.reduceEqDiff, Nat.reduceAdd]
    refine v_icmp_ge hC 36 dX4_waits_20 rfl (fun h20 => ?_) (fun h20 => ?_)
    · refine v_iconst hC dX4_waits_36 ⟨by decide, by decide⟩ ?_
      exact v_bret hC hR dX4_waits_37 (by omega) (⟨_, rfl, rfl, bI_f (fun q => by have := q.2.1; omega)⟩)
    · refine v_iload_n hC 3 dX4_waits_23 rfl rfl ?_
      refine v_aload_n hC 0 dX4_waits_24 rfl rfl ?_
      refine v_iload_n hC 1 dX4_waits_25 rfl rfl ?_
      refine v_callI1 hC (cwX4_110 hC ⟨Nat.le_of_ble_eq_true rfl, Nat.le_of_ble_eq_true rfl⟩) dX4_waits_26 rfl rfl rfl (Nat.zero_le _) (Nat.zero_le _) (Nat.le_of_ble_eq_true rfl) (by first | decide | (simp only [vdn]; omega)) (cX4_own_ok p μ hp hSm) (fun r1 μ1 hp => ?_)
      obtain ⟨rfl, hr9⟩ := hp
      have hr9 : r1 = ownF μ p := hr9
      subst hr9
      refine v_icmp_ge hC 36 dX4_waits_29 rfl (fun h29 => ?_) (fun h29 => ?_)
      · refine v_iconst hC dX4_waits_36 ⟨by decide, by decide⟩ ?_
        exact v_bret hC hR dX4_waits_37 (by omega) (⟨_, rfl, rfl, bI_f (fun q => by have := q.2.2; omega)⟩)
      · refine v_iconst hC dX4_waits_32 ⟨by decide, by decide⟩ ?_
        refine v_goto hC 37 dX4_waits_33 rfl ?_
        exact v_bret hC hR dX4_waits_37 (by omega) (⟨_, rfl, rfl, bI_t ⟨by omega, by omega, by omega⟩⟩)
abbrev rmX4_holders : Room := { frames := 0, cells := 0, slots := 0, locals := 0 }
set_option maxRecDepth 100000 in
set_option maxHeartbeats 4000000 in
theorem cX4_holders_ok (s k : Nat) (μ : MU) (hSm : Sm μ) : CTi yX4_holders cX4_holders 5 (some .int) rmX4_holders [aR 12 0, aI s, aI k] μ (fun r μ' => μ = μ' ∧ r = cntF (fun p => decide (μ 33 p = (s : Int) ∧ μ 34 p = (k : Int))) (μ 23 0).toNat) := by
  intro l9 b9 D9 K9
  refine met_of (by decide) (Nat.le_of_ble_eq_true rfl) (fun x hC hR hM hA => ?_)
  have hC : Ctx x RX4 cX4_holders rmX4_holders := hC
  refine v_iconst hC dX4_holders_0 ⟨by decide, by decide⟩ ?_
  refine v_istore_n hC 3 dX4_holders_1 rfl (Nat.le_of_ble_eq_true rfl) ?_
  refine v_iconst hC dX4_holders_2 ⟨by decide, by decide⟩ ?_
  refine v_istore hC dX4_holders_3 (Nat.le_of_ble_eq_true rfl) ?_
  obtain ⟨⟨s1, s2⟩, ⟨n1, n2⟩, hr, hkc, hq, hpp, hli, hnu⟩ := hSm
  refine v_loop (fun i : Nat => (μ 23 0).toNat - i) (fun _ => True) (fun i => ∀ c : Int, i ≤ 20 → 0 ≤ c → c ≤ i → itr (cntS (fun p => decide (μ 33 p = (s : Int) ∧ μ 34 p = (k : Int)))) i ((μ 23 0).toNat - i) c = cntF (fun p => decide (μ 33 p = (s : Int) ∧ μ 34 p = (k : Int))) (μ 23 0).toNat → V x 0 0 none 5 [some (aR 12 0), some (aI s), some (aI k), some (aI c), some (aI (i : Int))] [] μ) (fun i _ ih c a1 a2 a3 a4 => ?_) 0 trivial 0 (by decide) (by decide) (by decide) rfl
  refine v_iload hC dX4_holders_5 rfl ?_
  refine v_aload_n hC 0 dX4_holders_7 rfl rfl ?_
  refine v_getI hC foX4_66 dX4_holders_8 rfl rfl rfl (by first | decide | (simp only [vdn]; omega)) ?_
  try simp only [Int.toNat_natCast, upM_at, upM_nef, ne_eq, not_false_eq_true, Nat.reduceEqDiff, Nat.reduceAdd]
  refine v_icmp_ge hC 50 dX4_holders_11 rfl (fun h11 => ?_) (fun h11 => ?_)
  · refine v_iload_n hC 3 dX4_holders_50 rfl rfl ?_
    exact v_iret hC hR dX4_holders_51 (⟨_, rfl, rfl, by rw [← a4, itr_done (by omega)]⟩)
  · refine v_iload_n hC 3 dX4_holders_14 rfl rfl ?_
    refine v_aload_n hC 0 dX4_holders_15 rfl rfl ?_
    refine v_getR hC foX4_38 dX4_holders_16 rfl rfl rfl (by decide) (by first | decide | (simp only [vdn]; omega)) ?_
    refine v_iload hC dX4_holders_19 rfl ?_
    refine v_iald hC dX4_holders_21 rfl rfl rfl (by first | decide | (simp only [vdn]; omega)) ⟨by first | omega | (simp only [mlen]; omega), by first | omega | (simp only [mlen]; omega)⟩ ?_
    try simp only [Int.toNat_natCast, upM_at, upM_nef, ne_eq, not_false_eq_true, Nat.reduceEqDiff, Nat.reduceAdd]
    refine v_iload_n hC 1 dX4_holders_22 rfl rfl ?_
    refine v_icmp_ne hC 41 dX4_holders_23 rfl (fun h23 => ?_) (fun h23 => ?_)
    · refine v_iconst hC dX4_holders_41 ⟨by decide, by decide⟩ ?_
      refine v_iadd hC dX4_holders_42 ⟨by omega, by omega⟩ ?_
      refine v_istore_n hC 3 dX4_holders_43 rfl (Nat.le_of_ble_eq_true rfl) ?_
      refine v_iinc hC dX4_holders_44 rfl ⟨by omega, by omega⟩ ?_
      refine v_goto hC 5 dX4_holders_47 rfl ?_
      exact ih (i + 1) trivial (by omega) (c + 0) (by omega) (by omega) (by omega) (itr_next (by omega) (by rw [cntS_n (by simp; intro h; exact absurd h h23), Int.add_zero]) a4)
    · refine v_aload_n hC 0 dX4_holders_26 rfl rfl ?_
      refine v_getR hC foX4_41 dX4_holders_27 rfl rfl rfl (by decide) (by first | decide | (simp only [vdn]; omega)) ?_
      refine v_iload hC dX4_holders_30 rfl ?_
      refine v_iald hC dX4_holders_32 rfl rfl rfl (by first | decide | (simp only [vdn]; omega)) ⟨by first | omega | (simp only [mlen]; omega), by first | omega | (simp only [mlen]; omega)⟩ ?_
      try simp only [Int.toNat_natCast, upM_at, upM_nef, ne_eq, not_false_eq_true, Nat.reduceEqDiff, Nat.reduceAdd]
      refine v_iload_n hC 2 dX4_holders_33 rfl rfl ?_
      refine v_icmp_ne hC 41 dX4_holders_34 rfl (fun h34 => ?_) (fun h34 => ?_)
      · refine v_iconst hC dX4_holders_41 ⟨by decide, by decide⟩ ?_
        refine v_iadd hC dX4_holders_42 ⟨by omega, by omega⟩ ?_
        refine v_istore_n hC 3 dX4_holders_43 rfl (Nat.le_of_ble_eq_true rfl) ?_
        refine v_iinc hC dX4_holders_44 rfl ⟨by omega, by omega⟩ ?_
        refine v_goto hC 5 dX4_holders_47 rfl ?_
        exact ih (i + 1) trivial (by omega) (c + 0) (by omega) (by omega) (by omega) (itr_next (by omega) (by rw [cntS_n (by simp; intro _; exact h34), Int.add_zero]) a4)
      · refine v_iconst hC dX4_holders_37 ⟨by decide, by decide⟩ ?_
        refine v_goto hC 42 dX4_holders_38 rfl ?_
        refine v_iadd hC dX4_holders_42 ⟨by omega, by omega⟩ ?_
        refine v_istore_n hC 3 dX4_holders_43 rfl (Nat.le_of_ble_eq_true rfl) ?_
        refine v_iinc hC dX4_holders_44 rfl ⟨by omega, by omega⟩ ?_
        refine v_goto hC 5 dX4_holders_47 rfl ?_
        exact ih (i + 1) trivial (by omega) (c + 1) (by omega) (by omega) (by omega) (itr_next (by omega) (by rw [cntS_y (by simp; exact ⟨h23, h34⟩)]) a4)
end
section
/-! The round: whoever asks first, it ends alike. n pupils, lists ls p 0 .. ls p (ld p - 1) without repeats, a choice ch. -/
/-- who has asked at s -/
def asd (ls : Nat → Nat → Nat) (a : Nat → Nat) (s : Nat) (p : Nat) : Bool := (fnd (fun j => decide (ls p j = s)) 0 (a p)).isSome
theorem asd_iff {ls : Nat → Nat → Nat} {a : Nat → Nat} {s p : Nat} : asd ls a s p = true ↔ ∃ j, j < a p ∧ ls p j = s := by
  unfold asd
  cases e : fnd (fun j => decide (ls p j = s)) 0 (a p) with
  | none =>
    refine ⟨(fun h => by cases h), fun hj => ?_⟩
    obtain ⟨j, h1, h2⟩ := hj
    have := fnd_none _ _ e j (by omega) (by omega)
    simp [h2] at this
  | some j =>
    have := fnd_some _ _ e
    exact ⟨fun _ => ⟨j, by omega, by simpa using this.2.2.1⟩, fun _ => rfl⟩
section RD
variable {n : Nat} {ld : Nat → Nat} {ls : Nat → Nat → Nat} {ch : Nat → (Nat → Bool) → Nat → Int}
/-- what a choice must be -/
def ChOk (n : Nat) (ch : Nat → (Nat → Bool) → Nat → Int) : Prop :=
  (∀ s A p, ch s A p ≠ -1 → A p = true ∧ p < n) ∧
  (∀ s A O, (∀ p, A p = true → O p = true) → ∀ p, A p = true → ch s A p = -1 → ch s O p = -1) ∧
  (∀ s A O, (∀ p, A p = true → O p = true) → (∀ p, ch s O p ≠ -1 → A p = true) → ch s A = ch s O) ∧
  (∀ s A O, (∀ p, p < n → A p = O p) → ∀ p, p < n → ch s A p = ch s O p)
/-- what holds of a state of the round: asked, school, kind -/
def RdI (n : Nat) (ld : Nat → Nat) (ls : Nat → Nat → Nat) (ch : Nat → (Nat → Bool) → Nat → Int) (a : Nat → Nat) (sc kd : Nat → Int) : Prop := ∀ p, p < n → a p ≤ ld p ∧
  (a p = 0 → sc p = -1 ∧ kd p = -1) ∧ (∀ j, j + 1 < a p → ch (ls p j) (asd ls a (ls p j)) p = -1) ∧
  (∀ j, a p = j + 1 → kd p = ch (ls p j) (asd ls a (ls p j)) p ∧ sc p = if ch (ls p j) (asd ls a (ls p j)) p = -1 then -1 else (ls p j : Int))
/-- p asks at the next place of its list -/
def RdS (n : Nat) (ls : Nat → Nat → Nat) (ch : Nat → (Nat → Bool) → Nat → Int) (p : Nat) (a : Nat → Nat) (sc kd : Nat → Int) (a' : Nat → Nat) (sc' kd' : Nat → Int) : Prop :=
  (∀ q, q < n → a' q = if q = p then a p + 1 else a q) ∧ ∃ O : Nat → Bool, (∀ q, q < n → (O q = true ↔ q = p ∨ sc q = (ls p (a p) : Int) ∧ kd q ≠ -1)) ∧
  (∀ q, q < n → kd' q = (if O q = true then ch (ls p (a p)) O q else kd q) ∧ sc' q = (if O q = true then (if ch (ls p (a p)) O q = -1 then -1 else (ls p (a p) : Int)) else sc q))
theorem RdI.step (hch : ChOk n ch) (hls : ∀ p, p < n → ∀ i j, i < ld p → j < ld p → ls p i = ls p j → i = j) {p : Nat} {a a' : Nat → Nat} {sc kd sc' kd' : Nat → Int} (hp : p < n) (hI : RdI n ld ls ch a sc kd) (h0 : sc p = -1) (h1 : a p < ld p) (hS : RdS n ls ch p a sc kd a' sc' kd') : RdI n ld ls ch a' sc' kd' := by
  obtain ⟨c1, c2, c3, c4⟩ := hch
  obtain ⟨ha', O, hO, hK⟩ := hS
  -- asked anew: at the school s one more, elsewhere as before
  have hne : ∀ t q, q < n → t ≠ ls p (a p) ∨ q ≠ p → asd ls a' t q = asd ls a t q := by
    intro t q hq hc
    rw [Bool.eq_iff_iff, asd_iff, asd_iff]
    by_cases e : q = p
    · subst e
      have ht : t ≠ ls q (a q) := hc.resolve_right (fun h => h rfl)
      rw [ha' q hq, if_pos rfl]
      refine ⟨fun hj => ?_, fun hj => ?_⟩
      · obtain ⟨j, h3, h4⟩ := hj
        have : j ≠ a q := fun e => ht (by rw [← h4, e])
        exact ⟨j, by omega, h4⟩
      · obtain ⟨j, h3, h4⟩ := hj
        exact ⟨j, by omega, h4⟩
    · rw [ha' q hq, if_neg e]
  have hpp : asd ls a' (ls p (a p)) p = true := asd_iff.mpr ⟨a p, by rw [ha' p hp, if_pos rfl]; omega, rfl⟩
  -- who holds at s
  have hold : ∀ q, q < n → (O q = true ↔ q = p ∨ ch (ls p (a p)) (asd ls a (ls p (a p))) q ≠ -1) := by
    intro q hq
    rw [hO q hq]
    obtain ⟨-, i0, i1, i2⟩ := hI q hq
    refine ⟨fun h => h.imp id (fun h34 => ?_), fun h => h.imp id (fun h3 => ?_)⟩
    · obtain ⟨h3, h4⟩ := h34
      cases hj : a q with
      | zero => exact absurd (i0 hj).2 h4
      | succ j =>
        obtain ⟨e1, e2⟩ := i2 j hj
        rw [e1] at h4
        rw [if_neg h4, h3] at e2
        have : ls p (a p) = ls q j := by omega
        rw [this]; exact h4
    · obtain ⟨j, h4, h5⟩ := asd_iff.mp (c1 _ _ _ h3).1
      by_cases hj : j + 1 < a q
      · exact absurd (by rw [← h5]; exact i1 j hj) h3
      · obtain ⟨e1, e2⟩ := i2 j (by omega)
        rw [h5] at e1 e2
        rw [if_neg h3] at e2
        exact ⟨e2, by rw [e1]; exact h3⟩
  have hsub : ∀ q, asd ls a (ls p (a p)) q = true → q < n → asd ls a' (ls p (a p)) q = true := fun q h3 hq => by
    obtain ⟨j, h4, h5⟩ := asd_iff.mp h3
    refine asd_iff.mpr ⟨j, ?_, h5⟩
    rw [ha' q hq]
    split
    · rename_i e; subst e; omega
    · exact h4
  -- sets cut to the pupils below n
  have cut : ∀ (s : Nat) (A : Nat → Bool) (q : Nat), q < n → ch s (fun t => A t && decide (t < n)) q = ch s A q := fun s A q hq => c4 s _ _ (fun t ht => by simp [ht]) q hq
  have rej : ∀ q, q < n → asd ls a (ls p (a p)) q = true → ch (ls p (a p)) (asd ls a (ls p (a p))) q = -1 → ch (ls p (a p)) (asd ls a' (ls p (a p))) q = -1 := by
    intro q hq h3 h4
    rw [← cut _ _ q hq] at h4 ⊢
    refine c2 _ _ _ (fun t ht => ?_) q (by simp [h3, hq]) h4
    simp at ht ⊢
    exact ⟨hsub t ht.1 ht.2, ht.2⟩
  have key : ∀ q, q < n → ch (ls p (a p)) O q = ch (ls p (a p)) (asd ls a' (ls p (a p))) q := by
    intro q hq
    rw [← cut _ O q hq, ← cut _ (asd ls a' (ls p (a p))) q hq]
    refine congrFun (c3 _ _ _ (fun t ht => ?_) (fun t ht => ?_)) q
    · simp at ht ⊢
      refine ⟨?_, ht.2⟩
      rcases (hold t ht.2).mp ht.1 with e | h3
      · rw [e]; exact hpp
      · exact hsub t (c1 _ _ _ h3).1 ht.2
    · have h3 := (c1 _ _ _ ht)
      simp at h3
      have htn : t < n := h3.2
      rw [cut _ _ t htn] at ht
      simp only [htn, decide_true, Bool.and_true]
      refine (hold t htn).mpr ?_
      by_cases e : t = p
      · exact Or.inl e
      · refine Or.inr fun h4 => ht (rej t htn ?_ h4)
        rw [← hne _ t htn (Or.inr e)]
        exact h3.1
  intro q hq
  obtain ⟨b0, i0, i1, i2⟩ := hI q hq
  obtain ⟨k1, k2⟩ := hK q hq
  have haq := ha' q hq
  -- where the place is not s, nothing changed
  have same : ∀ j, j < a q → ls q j ≠ ls p (a p) → ch (ls q j) (asd ls a' (ls q j)) q = ch (ls q j) (asd ls a (ls q j)) q := fun j _ hj => c4 _ _ _ (fun t ht => hne _ t ht (Or.inl hj)) q hq
  by_cases e : q = p
  · subst e
    rw [if_pos rfl] at haq
    have hOq : O q = true := (hO q hq).mpr (Or.inl rfl)
    rw [if_pos hOq] at k1 k2
    rw [key q hq] at k1 k2
    have hd : ∀ j, j < a q → ls q j ≠ ls q (a q) := fun j hj e => by
      have := hls q hq j (a q) (by omega) h1 e
      omega
    refine ⟨by omega, fun h => by omega, fun j hj => ?_, fun j hj => ?_⟩
    · rw [same j (by omega) (hd j (by omega))]
      by_cases hj2 : j + 1 < a q
      · exact i1 j hj2
      · obtain ⟨e1, e2⟩ := i2 j (by omega)
        rw [h0] at e2
        refine Decidable.byContradiction fun h => ?_
        rw [if_neg h] at e2
        omega
    · have : j = a q := by omega
      subst this
      exact ⟨k1, k2⟩
  · rw [if_neg e] at haq
    rw [haq]
    by_cases hOq : O q = true
    · rw [if_pos hOq] at k1 k2
      rw [key q hq] at k1 k2
      have h3 := ((hO q hq).mp hOq).resolve_left e
      cases hj : a q with
      | zero => exact absurd (i0 hj).2 h3.2
      | succ j =>
        obtain ⟨e1, e2⟩ := i2 j hj
        rw [e1] at h3
        rw [if_neg h3.2] at e2
        have hs : ls q j = ls p (a p) := by have := h3.1; omega
        refine ⟨by omega, fun h => by omega, fun t ht => ?_, fun t ht => ?_⟩
        · rw [same t (by omega) (fun h => by
            have := hls q hq t j (by omega) (by omega) (h.trans hs.symm)
            omega)]
          exact i1 t (by omega)
        · have : t = j := by omega
          subst this
          rw [hs]
          exact ⟨k1, k2⟩
    · rw [if_neg hOq] at k1 k2
      have hno := fun h => hOq ((hold q hq).mpr h)
      have hch0 : ch (ls p (a p)) (asd ls a (ls p (a p))) q = -1 := Decidable.byContradiction fun h => hno (Or.inr h)
      have at' : ∀ j, j < a q → ch (ls q j) (asd ls a (ls q j)) q = -1 ∨ ls q j ≠ ls p (a p) → ch (ls q j) (asd ls a' (ls q j)) q = ch (ls q j) (asd ls a (ls q j)) q := by
        intro j hj h
        by_cases hs : ls q j = ls p (a p)
        · rw [hs, hch0]
          exact rej q hq (asd_iff.mpr ⟨j, hj, hs⟩) hch0
        · exact same j hj hs
      refine ⟨b0, fun h => by rw [k1, k2]; exact i0 h, fun j hj => ?_, fun j hj => ?_⟩
      · rw [at' j (by omega) (Or.inl (i1 j hj))]; exact i1 j hj
      · obtain ⟨e1, e2⟩ := i2 j hj
        have hc : ch (ls q j) (asd ls a (ls q j)) q = -1 ∨ ls q j ≠ ls p (a p) := by
          by_cases hs : ls q j = ls p (a p)
          · exact Or.inl (by rw [hs]; exact hch0)
          · exact Or.inr hs
        rw [k1, k2, at' j (by omega) hc]
        exact ⟨e1, e2⟩
/-- nobody is left who would ask -/
def RdC (n : Nat) (ld : Nat → Nat) (a : Nat → Nat) (sc : Nat → Int) : Prop := ∀ p, p < n → sc p ≠ -1 ∨ a p = ld p
/-- an ask stays below where it ends -/
theorem RdI.below (hch : ChOk n ch) {p : Nat} {a b : Nat → Nat} {sc kd sc' kd' : Nat → Int} (hp : p < n) (hI : RdI n ld ls ch a sc kd) (hI' : RdI n ld ls ch b sc' kd') (hC : RdC n ld b sc') (hab : ∀ q, q < n → a q ≤ b q) (h0 : sc p = -1) (h1 : a p < ld p) : a p < b p := by
  obtain ⟨c1, c2, c3, c4⟩ := hch
  refine Nat.lt_of_le_of_ne (hab p hp) fun e => ?_
  have hb : sc' p ≠ -1 := (hC p hp).resolve_right (by omega)
  obtain ⟨-, i0, i1, i2⟩ := hI p hp
  obtain ⟨-, j0, j1, j2⟩ := hI' p hp
  cases hj : a p with
  | zero => exact hb (j0 (by omega)).1
  | succ j =>
    have e1 := (i2 j hj).2
    have e2 := (j2 j (by omega)).2
    rw [h0] at e1
    have h3 : ch (ls p j) (asd ls a (ls p j)) p = -1 := Decidable.byContradiction fun h => by
      rw [if_neg h] at e1
      omega
    refine hb ?_
    rw [e2, if_pos]
    have cut : ∀ (s : Nat) (A : Nat → Bool) (q : Nat), q < n → ch s (fun t => A t && decide (t < n)) q = ch s A q := fun s A q hq => c4 s _ _ (fun t ht => by simp [ht]) q hq
    rw [← cut _ _ p hp] at h3 ⊢
    refine c2 _ _ _ (fun t ht => ?_) p ?_ h3
    · simp at ht ⊢
      obtain ⟨i, h5, h6⟩ := asd_iff.mp ht.1
      exact ⟨asd_iff.mpr ⟨i, Nat.lt_of_lt_of_le h5 (hab t ht.2), h6⟩, ht.2⟩
    · simp [hp]
      exact asd_iff.mpr ⟨j, by omega, rfl⟩
/-- the asked alone tell the rest -/
theorem RdI.same (hch : ChOk n ch) {a b : Nat → Nat} {sc kd sc' kd' : Nat → Int} (hI : RdI n ld ls ch a sc kd) (hI' : RdI n ld ls ch b sc' kd') (hab : ∀ q, q < n → a q = b q) : ∀ p, p < n → sc p = sc' p ∧ kd p = kd' p := by
  obtain ⟨c1, c2, c3, c4⟩ := hch
  intro p hp
  obtain ⟨-, i0, i1, i2⟩ := hI p hp
  obtain ⟨-, j0, j1, j2⟩ := hI' p hp
  have e : ∀ s, ch s (asd ls a s) p = ch s (asd ls b s) p := fun s => c4 _ _ _ (fun t ht => by unfold asd; rw [hab t ht]) p hp
  cases hj : a p with
  | zero => rw [(i0 hj).1, (i0 hj).2, (j0 (by rw [← hab p hp]; exact hj)).1, (j0 (by rw [← hab p hp]; exact hj)).2]; exact ⟨rfl, rfl⟩
  | succ j =>
    obtain ⟨e1, e2⟩ := i2 j hj
    obtain ⟨e3, e4⟩ := j2 j (by rw [← hab p hp]; exact hj)
    rw [e1, e2, e3, e4, e]
    exact ⟨rfl, rfl⟩
end RD
end
section
/-! The office's scratch: the pool and the takers. -/
def Fr (S : List Nat) (μ μ' : MU) : Prop := ∀ f j, f ∉ S → μ' f j = μ f j
theorem Fr.rf {S : List Nat} {μ : MU} : Fr S μ μ := fun _ _ _ => rfl
theorem Fr.trans {S : List Nat} {a b c : MU} (h1 : Fr S a b) (h2 : Fr S b c) : Fr S a c := fun f j hf => (h2 f j hf).trans (h1 f j hf)
theorem Fr.up {S : List Nat} {a b : MU} (h : Fr S a b) {f j : Nat} {v : Int} (hf : f ∈ S) : Fr S a (upM b f j v) := fun g k hg => (upM_nef (show g ≠ f from fun q => hg (by rw [q]; exact hf))).trans (h g k hg)
theorem Fr.mono {S S' : List Nat} {a b : MU} (h : Fr S a b) (hs : ∀ f, f ∈ S → f ∈ S') : Fr S' a b := fun f j hf => h f j fun q => hf (hs f q)
theorem Fr.Sf {S : List Nat} {a b : MU} (h : Fr S a b) (ha : Sf a) (hs : ∀ f, f ∈ [0, 1, 2, 6, 8, 9, 10, 11, 12, 17] → f ∉ S) : Sf b := ha.of fun f j hf => h f j (hs f hf)
theorem bandF_of {a b : MU} {q : Nat} {w : Int} (h7 : ∀ j, b 7 j = a 7 j) (h8 : b 8 q = a 8 q) : bandF b q w = bandF a q w := by
  unfold bandF
  rw [h8]
  congr 1
  funext j
  rw [h7]
theorem stdF_of {a b : MU} {p s k : Nat} (h7 : ∀ j, b 7 j = a 7 j) (h8 : ∀ j, b 8 j = a 8 j) (h12 : ∀ j, b 12 j = a 12 j) (h13 : b 13 p = a 13 p) (h14 : b 14 p = a 14 p) : stdF b p s k = stdF a p s k := by
  unfold stdF
  rw [bandF_of h7 (h8 _), h12, h13, h14]
theorem Fr.std {S : List Nat} {a b : MU} (h : Fr S a b) (hs : ∀ f, f ∈ [7, 8, 12, 13, 14] → f ∉ S) (p s k : Nat) : stdF b p s k = stdF a p s k :=
  stdF_of (fun j => h 7 j (hs 7 (by decide))) (fun j => h 8 j (hs 8 (by decide))) (fun j => h 12 j (hs 12 (by decide))) (h 13 p (hs 13 (by decide))) (h 14 p (hs 14 (by decide)))
/-- the pool holds those of O that are not taken, each once; the takers are T -/
def PI (μ : MU) (O : Nat → Bool) (T : Nat → Int) : Prop :=
  (0 ≤ μ 3 0 ∧ μ 3 0 ≤ μ 1 0) ∧ (∀ p, p < (μ 1 0).toNat → μ 5 p = T p) ∧
  (∀ j : Nat, (j : Int) < μ 3 0 → ∃ p : Nat, μ 4 j = (p : Int) ∧ p < (μ 1 0).toNat ∧ O p = true ∧ T p = -1) ∧
  (∀ p : Nat, p < (μ 1 0).toNat → O p = true → T p = -1 → ∃ j : Nat, (j : Int) < μ 3 0 ∧ μ 4 j = (p : Int)) ∧
  (∀ i j : Nat, (i : Int) < μ 3 0 → (j : Int) < μ 3 0 → μ 4 i = μ 4 j → i = j)
/-- standings of those who are eligible differ -/
def Inj (μ : MU) (s : Nat) : Prop := ∀ p p' : Nat, p < (μ 1 0).toNat → p' < (μ 1 0).toNat → μ 12 (6 * p + s) = μ 12 (6 * p' + s) → p = p'
theorem std_inj {μ : MU} {s k p p' : Nat} (hs : s < 6) (hk : k < 3) (hSf : Sf μ) (hI : Inj μ s) (hp : p < (μ 1 0).toNat) (hp' : p' < (μ 1 0).toNat) (h1 : stdF μ p s k < 100000) (e : stdF μ p s k = stdF μ p' s k) : p = p' := by
  have h2 : stdF μ p' s k < 100000 := by omega
  obtain ⟨-, n1, -, -, hq, -, -, hn⟩ := hSf
  have b1 := bandF_r (μ 13 p) (hq (3 * s + k) (by omega)).2.1
  have b2 := bandF_r (μ 13 p') (hq (3 * s + k) (by omega)).2.1
  have m1 := hn (6 * p + s) (by omega)
  have m2 := hn (6 * p' + s) (by omega)
  refine hI p p' hp hp' ?_
  unfold stdF at h1 h2 e
  by_cases c1 : oI (bandF μ (3 * s + k) (μ 13 p)) = -1
  · rw [if_pos c1] at h1; omega
  · by_cases c2 : oI (bandF μ (3 * s + k) (μ 13 p')) = -1
    · rw [if_pos c2] at h2; omega
    · rw [if_neg c1, if_neg c2] at e
      split at e <;> split at e <;> omega
/-- the first of the pool is the first of all that are left -/
theorem pool_first {μ : MU} {O : Nat → Bool} {T : Nat → Int} {s k : Nat} (hs : s < 6) (hk : k < 3) (hSf : Sf μ) (hI : Inj μ s) (hP : PI μ O T) :
    (bst (μ 3 0).toNat (fun j => stdF μ (μ 4 j).toNat s k) 100000 (fun _ => true) = -1 ∧ bst (μ 1 0).toNat (fun p => stdF μ p s k) 100000 (fun q => O q && decide (T q = -1)) = -1) ∨
    ∃ j p : Nat, (j : Int) < μ 3 0 ∧ bst (μ 3 0).toNat (fun j => stdF μ (μ 4 j).toNat s k) 100000 (fun _ => true) = (j : Int) ∧ μ 4 j = (p : Int) ∧ p < (μ 1 0).toNat ∧ O p = true ∧ T p = -1 ∧ bst (μ 1 0).toNat (fun p => stdF μ p s k) 100000 (fun q => O q && decide (T q = -1)) = (p : Int) := by
  obtain ⟨⟨z1, z2⟩, p2, p3, p4, p5⟩ := hP
  rcases bst_spec (μ 3 0).toNat (fun j => stdF μ (μ 4 j).toNat s k) 100000 (fun _ => true) with ⟨e, hall⟩ | ⟨j, hj, e, -, hlt, hmin⟩
  · refine Or.inl ⟨e, ?_⟩
    rcases bst_spec (μ 1 0).toNat (fun p => stdF μ p s k) 100000 (fun q => O q && decide (T q = -1)) with ⟨e', -⟩ | ⟨p, hp, e', hE, hlt, -⟩
    · exact e'
    · simp at hE
      obtain ⟨j, hj, hjp⟩ := p4 p hp hE.1 hE.2
      have h1 := hall j (by omega) rfl
      rw [hjp, Int.toNat_natCast] at h1
      omega
  · obtain ⟨p, hp, hpn, hO, hT⟩ := p3 j (by omega)
    refine Or.inr ⟨j, p, by omega, e, hp, hpn, hO, hT, ?_⟩
    rw [hp, Int.toNat_natCast] at hlt
    rcases bst_spec (μ 1 0).toNat (fun p => stdF μ p s k) 100000 (fun q => O q && decide (T q = -1)) with ⟨e', hall⟩ | ⟨p', hp', e', hE, hlt', hmin'⟩
    · have := hall p hpn (by simp [hO, hT])
      omega
    · rw [e']
      simp at hE
      have m1 := (hmin' p hpn (by simp [hO, hT])).1
      obtain ⟨j', hj', hjp'⟩ := p4 p' hp' hE.1 hE.2
      have m2 := (hmin j' (by omega) rfl).1
      rw [hp, hjp', Int.toNat_natCast, Int.toNat_natCast] at m2
      have := std_inj hs hk hSf hI hpn hp' hlt (by omega)
      rw [this]
/-- one is taken out of the pool: the last takes its place -/
theorem PI.take {μ : MU} {O : Nat → Bool} {T : Nat → Int} {g : Nat → Int} {B k : Int} {j p : Nat} (hk : k ≠ -1) (hP : PI μ O T) (hj : (j : Int) < μ 3 0) (hjp : μ 4 j = (p : Int)) (hp : p < (μ 1 0).toNat) (hb : bst (μ 1 0).toNat g B (fun q => O q && decide (T q = -1)) = (p : Int)) :
    PI (upM (upM (upM μ 5 p k) 3 0 (μ 3 0 - 1)) 4 j (μ 4 (μ 3 0 - 1).toNat)) O (tk1 (μ 1 0).toNat g B O k T) := by
  obtain ⟨⟨z1, z2⟩, p2, p3, p4, p5⟩ := hP
  have ht : ∀ q : Nat, tk1 (μ 1 0).toNat g B O k T q = if q = p then k else T q := fun q => by
    unfold tk1
    rw [hb]
    by_cases e : q = p
    · rw [if_pos (by rw [e]), if_pos e]
    · rw [if_neg (fun h => e (by omega)), if_neg e]
  have e1 : ∀ x, (upM (upM (upM μ 5 p k) 3 0 (μ 3 0 - 1)) 4 j (μ 4 (μ 3 0 - 1).toNat)) 1 x = μ 1 x := fun x => by
    rw [upM_nef (by decide), upM_nef (by decide), upM_nef (by decide)]
  have e3 : (upM (upM (upM μ 5 p k) 3 0 (μ 3 0 - 1)) 4 j (μ 4 (μ 3 0 - 1).toNat)) 3 0 = μ 3 0 - 1 := by
    rw [upM_nef (by decide), upM_at]
  have e5 : ∀ x, (upM (upM (upM μ 5 p k) 3 0 (μ 3 0 - 1)) 4 j (μ 4 (μ 3 0 - 1).toNat)) 5 x = if x = p then k else μ 5 x := fun x => by
    rw [upM_nef (by decide), upM_nef (by decide)]
    unfold upM
    by_cases e : x = p
    · rw [if_pos ⟨rfl, e⟩, if_pos e]
    · rw [if_neg (fun h => e h.2), if_neg e]
  have e4 : ∀ x, (upM (upM (upM μ 5 p k) 3 0 (μ 3 0 - 1)) 4 j (μ 4 (μ 3 0 - 1).toNat)) 4 x = if x = j then μ 4 (μ 3 0 - 1).toNat else μ 4 x := fun x => by
    by_cases e : x = j
    · subst e; rw [upM_at, if_pos rfl]
    · rw [upM_ne (fun h => e h.2), upM_nef (by decide), upM_nef (by decide), if_neg e]
  have other : ∀ (i q : Nat), (i : Int) < μ 3 0 → μ 4 i = (q : Int) → i ≠ j → q ≠ p := fun i q hi hq hij e => hij (p5 i j hi hj (by rw [hq, hjp, e]))
  refine ⟨?_, ?_, ?_, ?_, ?_⟩
  · rw [e3, e1]; omega
  · intro q hq
    rw [e1] at hq
    rw [e5, ht]
    split
    · rfl
    · exact p2 q hq
  · intro i hi
    rw [e3] at hi
    rw [e4, e1]
    by_cases e : i = j
    · rw [if_pos e]
      obtain ⟨q, h1, h2, h3, h4⟩ := p3 (μ 3 0 - 1).toNat (by omega)
      refine ⟨q, h1, h2, h3, ?_⟩
      rw [ht, if_neg (other _ q (by omega) h1 (by omega))]
      exact h4
    · rw [if_neg e]
      obtain ⟨q, h1, h2, h3, h4⟩ := p3 i (by omega)
      refine ⟨q, h1, h2, h3, ?_⟩
      rw [ht, if_neg (other i q (by omega) h1 e)]
      exact h4
  · intro q hq hO hT
    rw [e1] at hq
    rw [ht] at hT
    by_cases e : q = p
    · rw [if_pos e] at hT
      exact absurd hT hk
    · rw [if_neg e] at hT
      obtain ⟨i, h1, h2⟩ := p4 q hq hO hT
      have hij : i ≠ j := fun h => e (by rw [h, hjp] at h2; omega)
      by_cases hl : i = (μ 3 0 - 1).toNat
      · refine ⟨j, by rw [e3]; omega, ?_⟩
        rw [e4, if_pos rfl, ← hl]
        exact h2
      · refine ⟨i, by rw [e3]; omega, ?_⟩
        rw [e4, if_neg hij]
        exact h2
  · intro i i' h1 h2 h3
    rw [e3] at h1 h2
    rw [e4, e4] at h3
    by_cases c1 : i = j
    · by_cases c2 : i' = j
      · rw [c1, c2]
      · rw [if_pos c1, if_neg c2] at h3
        have := p5 _ _ (by omega) (by omega) h3
        omega
    · by_cases c2 : i' = j
      · rw [if_neg c1, if_pos c2] at h3
        have := p5 _ _ (by omega) (by omega) h3
        omega
      · rw [if_neg c1, if_neg c2] at h3
        exact p5 i i' (by omega) (by omega) h3
/-- nobody is left for the kind: nothing changes -/
theorem tk1_idle {n : Nat} {g : Nat → Int} {B : Int} {O : Nat → Bool} {k : Int} {T : Nat → Int} (h : bst n g B (fun q => O q && decide (T q = -1)) = -1) : tk1 n g B O k T = T := by
  funext p
  unfold tk1
  rw [h, if_neg (by omega)]
theorem itr_idle {σ : Type} {f : σ → σ} {a : σ} (h : f a = a) : ∀ (m i : Nat), itr (fun _ b => f b) i m a = a
  | 0, _ => rfl
  | m + 1, i => by
    show itr (fun _ b => f b) (i + 1) m (f a) = a
    rw [h]
    exact itr_idle h m (i + 1)
/-- the choice of a school among O -/
def chV (μ : MU) (s : Nat) (O : Nat → Bool) : Nat → Int := chv (μ 1 0).toNat (fun k p => stdF μ p s k) 100000 O (μ 6 s).toNat (fun k => (μ 9 (3 * s + k)).toNat)
end
section
/-! The office chooses, asks, moves. -/
theorem Fr.inj {S : List Nat} {a b : MU} (h : Fr S a b) {s : Nat} (hI : Inj a s) (h1 : 1 ∉ S) (h12 : 12 ∉ S) : Inj b s := fun p p' hp hp' e => hI p p' (by rw [← h 1 0 h1]; exact hp) (by rw [← h 1 0 h1]; exact hp') (by rw [← h 12 _ h12, ← h 12 _ h12]; exact e)
def chO (μ : MU) (s one p : Nat) : Bool := decide (p = one ∨ anyP μ p s)
/-- the pool while it is filled: those below i -/
def PB (μ : MU) (O : Nat → Bool) (i : Nat) : Prop :=
  (0 ≤ μ 3 0 ∧ μ 3 0 ≤ i) ∧ (∀ p, p < i → μ 5 p = -1) ∧ (∀ j : Nat, (j : Int) < μ 3 0 → ∃ p : Nat, μ 4 j = (p : Int) ∧ p < i ∧ O p = true) ∧
  (∀ p : Nat, p < i → O p = true → ∃ j : Nat, (j : Int) < μ 3 0 ∧ μ 4 j = (p : Int)) ∧ (∀ i j : Nat, (i : Int) < μ 3 0 → (j : Int) < μ 3 0 → μ 4 i = μ 4 j → i = j)
theorem PB.out {μ : MU} {O : Nat → Bool} {i : Nat} (h : PB μ O i) (hO : ¬ O i = true) : PB (upM μ 5 i (-1)) O (i + 1) := by
  obtain ⟨h1, h2, h3, h4, h5⟩ := h
  have e3 : upM μ 5 i (-1) 3 0 = μ 3 0 := upM_nef (by decide)
  have e4 : ∀ j, upM μ 5 i (-1) 4 j = μ 4 j := fun j => upM_nef (by decide)
  refine ⟨by rw [e3]; omega, fun p hp => ?_, fun j hj => ?_, fun p hp hq => ?_, fun a b ha hb e => ?_⟩
  · by_cases q : p = i
    · rw [q, upM_at]
    · rw [upM_ne (fun h => q h.2)]; exact h2 p (by omega)
  · rw [e3] at hj
    obtain ⟨p, a1, a2, a3⟩ := h3 j hj
    exact ⟨p, by rw [e4]; exact a1, by omega, a3⟩
  · have : p ≠ i := fun q => hO (q ▸ hq)
    obtain ⟨j, a1, a2⟩ := h4 p (by omega) hq
    exact ⟨j, by rw [e3]; exact a1, by rw [e4]; exact a2⟩
  · rw [e3] at ha hb
    rw [e4, e4] at e
    exact h5 a b ha hb e
theorem PB.inn {μ : MU} {O : Nat → Bool} {i : Nat} (h : PB μ O i) (hO : O i = true) : PB (upM (upM (upM μ 5 i (-1)) 4 (μ 3 0).toNat (i : Int)) 3 0 (μ 3 0 + 1)) O (i + 1) := by
  obtain ⟨h1, h2, h3, h4, h5⟩ := h
  have e3 : (upM (upM (upM μ 5 i (-1)) 4 (μ 3 0).toNat (i : Int)) 3 0 (μ 3 0 + 1)) 3 0 = μ 3 0 + 1 := upM_at _ _ _ _
  have e4 : ∀ j, (upM (upM (upM μ 5 i (-1)) 4 (μ 3 0).toNat (i : Int)) 3 0 (μ 3 0 + 1)) 4 j = if j = (μ 3 0).toNat then (i : Int) else μ 4 j := fun j => by
    rw [upM_nef (by decide)]
    by_cases q : j = (μ 3 0).toNat
    · rw [q, upM_at, if_pos rfl]
    · rw [upM_ne (fun h => q h.2), upM_nef (by decide), if_neg q]
  have e5 : ∀ j, (upM (upM (upM μ 5 i (-1)) 4 (μ 3 0).toNat (i : Int)) 3 0 (μ 3 0 + 1)) 5 j = if j = i then -1 else μ 5 j := fun j => by
    rw [upM_nef (by decide), upM_nef (by decide)]
    by_cases q : j = i
    · rw [q, upM_at, if_pos rfl]
    · rw [upM_ne (fun h => q h.2), if_neg q]
  refine ⟨by rw [e3]; omega, fun p hp => ?_, fun j hj => ?_, fun p hp hq => ?_, fun a b ha hb e => ?_⟩
  · rw [e5]
    split
    · rfl
    · exact h2 p (by omega)
  · rw [e3] at hj
    rw [e4]
    by_cases q : j = (μ 3 0).toNat
    · rw [if_pos q]; exact ⟨i, rfl, by omega, hO⟩
    · rw [if_neg q]
      obtain ⟨p, a1, a2, a3⟩ := h3 j (by omega)
      exact ⟨p, a1, by omega, a3⟩
  · by_cases q : p = i
    · exact ⟨(μ 3 0).toNat, by rw [e3]; omega, by rw [e4, if_pos rfl, q]⟩
    · obtain ⟨j, a1, a2⟩ := h4 p (by omega) hq
      exact ⟨j, by rw [e3]; omega, by rw [e4, if_neg (by omega)]; exact a2⟩
  · rw [e3] at ha hb
    rw [e4, e4] at e
    by_cases q1 : a = (μ 3 0).toNat
    · by_cases q2 : b = (μ 3 0).toNat
      · omega
      · rw [if_pos q1, if_neg q2] at e
        obtain ⟨p, a1, a2, a3⟩ := h3 b (by omega)
        omega
    · by_cases q2 : b = (μ 3 0).toNat
      · rw [if_neg q1, if_pos q2] at e
        obtain ⟨p, a1, a2, a3⟩ := h3 a (by omega)
        omega
      · rw [if_neg q1, if_neg q2] at e
        exact h5 a b (by omega) (by omega) e
theorem PB.done {μ : MU} {O : Nat → Bool} {i : Nat} (h : PB μ O i) (hi : i = (μ 1 0).toNat) (h1 : 0 ≤ μ 1 0) : PI μ O (fun _ => -1) := by
  obtain ⟨a1, a2, a3, a4, a5⟩ := h
  subst hi
  refine ⟨by omega, a2, fun j hj => ?_, fun p hp hO _ => a4 p hp hO, a5⟩
  obtain ⟨p, b1, b2, b3⟩ := a3 j hj
  exact ⟨p, b1, b2, b3, rfl⟩
abbrev rmX3_takeFromPool : Room := { frames := 3, cells := 0, slots := 0, locals := 74 }
set_option maxRecDepth 100000 in
set_option maxHeartbeats 4000000 in
theorem cX3_takeFromPool_ok (s k : Nat) (OO : Nat → Bool) (T : Nat → Int) (μ : MU) (hs : s < 6) (hk : k < 3) (hSf : Sf μ) (hI : Inj μ s) (hP : PI μ OO T) : CTv yX3_takeFromPool cX3_takeFromPool 6 rmX3_takeFromPool [aR 0 0, aI s, aI k] μ (fun μ' => Fr [3, 4, 5] μ μ' ∧ PI μ' OO (tkK (μ 1 0).toNat (fun p => stdF μ p s k) 100000 OO k (μ 9 (3 * s + k)).toNat T)) := by
  intro l9 b9 D9 K9
  refine met_of (by decide) (Nat.le_of_ble_eq_true rfl) (fun x hC hR hM hA => ?_)
  have hC : Ctx x RX3 cX3_takeFromPool rmX3_takeFromPool := hC
  have hSf0 := hSf
  obtain ⟨⟨s1, s2⟩, ⟨n1, n2⟩, hr, hkc, hq, hpp, hli, hnu⟩ := hSf
  have hq1 := hq (3 * s + k) (by omega)
  refine v_aload_n hC 0 dX3_takeFromPool_0 rfl rfl ?_
  refine v_getR hC foX3_11 dX3_takeFromPool_1 rfl rfl rfl (by decide) (by first | decide | (simp only [vdn]; omega)) ?_
  refine v_iload_n hC 1 dX3_takeFromPool_4 rfl rfl ?_
  refine v_aald hC dX3_takeFromPool_5 rfl rfl (fun _ => rfl) rfl (by decide) (by first | decide | (simp only [vdn]; omega)) ⟨by first | omega | (simp only [mlen]; omega), by first | omega | (simp only [mlen]; omega)⟩ ?_
  try simp only [Int.toNat_natCast, upM_at, upM_nef, ne_eq, not_false_eq_true, Nat.reduceEqDiff, Nat.reduceAdd]
  refine v_getR hC foX3_53 dX3_takeFromPool_6 rfl rfl rfl (by decide) (by first | decide | (simp only [vdn]; omega)) ?_
  refine v_iload_n hC 2 dX3_takeFromPool_9 rfl rfl ?_
  refine v_aald hC dX3_takeFromPool_10 rfl rfl (fun _ => rfl) rfl (by decide) (by first | decide | (simp only [vdn]; omega)) ⟨by first | omega | (simp only [mlen]; omega), by first | omega | (simp only [mlen]; omega)⟩ ?_
  try simp only [Int.toNat_natCast, upM_at, upM_nef, ne_eq, not_false_eq_true, Nat.reduceEqDiff, Nat.reduceAdd]
  refine v_getI hC foX3_57 dX3_takeFromPool_11 rfl rfl rfl (by first | decide | (simp only [vdn]; omega)) ?_
  try simp only [Int.toNat_natCast, upM_at, upM_nef, ne_eq, not_false_eq_true, Nat.reduceEqDiff, Nat.reduceAdd]
  refine v_istore_n hC 3 dX3_takeFromPool_14 rfl (Nat.le_of_ble_eq_true rfl) ?_
  refine v_iconst hC dX3_takeFromPool_15 ⟨by decide, by decide⟩ ?_
  refine v_istore hC dX3_takeFromPool_16 (Nat.le_of_ble_eq_true rfl) ?_
  refine v_loop (fun i : Nat => (μ 9 (3 * s + k)).toNat - i) (fun _ => True) (fun i => ∀ (μ1 : MU) (T1 : Nat → Int), i ≤ 6 → Fr [3, 4, 5] μ μ1 → PI μ1 OO T1 → itr (fun _ T => tk1 (μ 1 0).toNat (fun p => stdF μ p s k) 100000 OO (k : Int) T) i ((μ 9 (3 * s + k)).toNat - i) T1 = tkK (μ 1 0).toNat (fun p => stdF μ p s k) 100000 OO k (μ 9 (3 * s + k)).toNat T → V x 0 0 none 18 [some (aR 0 0), some (aI s), some (aI k), some (aI (μ 9 (3 * s + k))), some (aI (i : Int)), none] [] μ1) (fun i _ ih μ1 T1 a1 hF1 hP1 a4 => ?_) 0 trivial μ T (by decide) Fr.rf hP rfl
  have e1 : μ1 1 0 = μ 1 0 := hF1 1 0 (by decide)
  have hSf1 : Sf μ1 := hF1.Sf hSf0 (by decide)
  have hfun : (fun p => stdF μ1 p s k) = (fun p => stdF μ p s k) := funext fun p => hF1.std (by decide) p s k
  have hfst := pool_first hs hk hSf1 (hF1.inj hI (by decide) (by decide)) hP1
  rw [hfun, e1] at hfst
  have hz := hP1.1
  refine v_iload hC dX3_takeFromPool_18 rfl ?_
  refine v_iload_n hC 3 dX3_takeFromPool_20 rfl rfl ?_
  refine v_icmp_ge hC 84 dX3_takeFromPool_21 rfl (fun h21 => ?_) (fun h21 => ?_)
  · exact v_vret hC hR (Nat.le_refl _) (Nat.le_refl _) dX3_takeFromPool_84 (⟨rfl, hF1, by rw [← a4, itr_done (by omega)]; exact hP1⟩)
  · refine v_aload_n hC 0 dX3_takeFromPool_24 rfl rfl ?_
    refine v_iload_n hC 1 dX3_takeFromPool_25 rfl rfl ?_
    refine v_iload_n hC 2 dX3_takeFromPool_26 rfl rfl ?_
    refine v_callI2 hC (cwX3_188 hC ⟨Nat.le_of_ble_eq_true rfl, Nat.le_of_ble_eq_true rfl⟩) dX3_takeFromPool_27 rfl rfl rfl (Nat.zero_le _) (Nat.zero_le _) (Nat.le_of_ble_eq_true rfl) (by first | decide | (simp only [vdn]; omega)) (cX3_firstInPool_ok s k μ1 hs hk hSf1 ⟨hz.1, by omega⟩ (fun j hj => by obtain ⟨p, c1, c2, -⟩ := hP1.2.2.1 j hj; omega)) (fun r1 μ1 hp => ?_)
    obtain ⟨rfl, rfl⟩ := hp
    rcases hfst with ⟨b1, b2⟩ | ⟨j, p, b1, b2, b3, b4, b5, b6, b7⟩
    · rw [b1]
      refine v_istore hC dX3_takeFromPool_30 (Nat.le_of_ble_eq_true rfl) ?_
      refine v_iload hC dX3_takeFromPool_32 rfl ?_
      refine v_iconst hC dX3_takeFromPool_34 ⟨by decide, by decide⟩ ?_
      refine v_icmp_ne hC 39 dX3_takeFromPool_35 rfl (fun h35 => ?_) (fun h35 => ?_)
      · exact absurd rfl h35
      · exact v_vret hC hR (Nat.le_refl _) (Nat.le_refl _) dX3_takeFromPool_38 (⟨rfl, hF1, by rw [← a4, itr_idle (tk1_idle b2)]; exact hP1⟩)
    · rw [b2]
      refine v_istore hC dX3_takeFromPool_30 (Nat.le_of_ble_eq_true rfl) ?_
      refine v_iload hC dX3_takeFromPool_32 rfl ?_
      refine v_iconst hC dX3_takeFromPool_34 ⟨by decide, by decide⟩ ?_
      refine v_icmp_ne hC 39 dX3_takeFromPool_35 rfl (fun h35 => ?_) (fun h35 => ?_)
      · refine v_aload_n hC 0 dX3_takeFromPool_39 rfl rfl ?_
        refine v_getR hC foX3_29 dX3_takeFromPool_40 rfl rfl rfl (by decide) (by first | decide | (simp only [vdn]; omega)) ?_
        refine v_aload_n hC 0 dX3_takeFromPool_43 rfl rfl ?_
        refine v_getR hC foX3_25 dX3_takeFromPool_44 rfl rfl rfl (by decide) (by first | decide | (simp only [vdn]; omega)) ?_
        refine v_iload hC dX3_takeFromPool_47 rfl ?_
        refine v_iald hC dX3_takeFromPool_49 rfl rfl rfl (by first | decide | (simp only [vdn]; omega)) ⟨by first | omega | (simp only [mlen]; omega), by first | omega | (simp only [mlen]; omega)⟩ ?_
        try simp only [Int.toNat_natCast, upM_at, upM_nef, ne_eq, not_false_eq_true, Nat.reduceEqDiff, Nat.reduceAdd]
        rw [b3]
        refine v_iload_n hC 2 dX3_takeFromPool_50 rfl rfl ?_
        refine v_iast hC dX3_takeFromPool_51 rfl rfl rfl (by decide) (by first | decide | (simp only [vdn]; omega)) ⟨by first | omega | (simp only [mlen]; omega), by first | omega | (simp only [mlen]; omega)⟩ ?_
        try simp only [Int.toNat_natCast, upM_at, upM_nef, ne_eq, not_false_eq_true, Nat.reduceEqDiff, Nat.reduceAdd]
        refine v_aload_n hC 0 dX3_takeFromPool_52 rfl rfl ?_
        refine v_dupR hC dX3_takeFromPool_53 ?_
        refine v_getI hC foX3_176 dX3_takeFromPool_54 rfl rfl rfl (by first | decide | (simp only [vdn]; omega)) ?_
        try simp only [Int.toNat_natCast, upM_at, upM_nef, ne_eq, not_false_eq_true, Nat.reduceEqDiff, Nat.reduceAdd]
        refine v_iconst hC dX3_takeFromPool_57 ⟨by decide, by decide⟩ ?_
        refine v_isub hC dX3_takeFromPool_58 ⟨by omega, by omega⟩ ?_
        refine v_putI hC fwX3_176 dX3_takeFromPool_59 rfl rfl rfl (by decide) (by first | decide | (simp only [vdn]; omega)) ?_
        refine v_aload_n hC 0 dX3_takeFromPool_62 rfl rfl ?_
        refine v_getR hC foX3_25 dX3_takeFromPool_63 rfl rfl rfl (by decide) (by first | decide | (simp only [vdn]; omega)) ?_
        refine v_iload hC dX3_takeFromPool_66 rfl ?_
        refine v_aload_n hC 0 dX3_takeFromPool_68 rfl rfl ?_
        refine v_getR hC foX3_25 dX3_takeFromPool_69 rfl rfl rfl (by decide) (by first | decide | (simp only [vdn]; omega)) ?_
        refine v_aload_n hC 0 dX3_takeFromPool_72 rfl rfl ?_
        refine v_getI hC foX3_176 dX3_takeFromPool_73 rfl rfl rfl (by first | decide | (simp only [vdn]; omega)) ?_
        try simp only [Int.toNat_natCast, upM_at, upM_nef, ne_eq, not_false_eq_true, Nat.reduceEqDiff, Nat.reduceAdd]
        refine v_iald hC dX3_takeFromPool_76 rfl rfl rfl (by first | decide | (simp only [vdn]; omega)) ⟨by first | omega | (simp only [mlen]; omega), by first | omega | (simp only [mlen]; omega)⟩ ?_
        try simp only [Int.toNat_natCast, upM_at, upM_nef, ne_eq, not_false_eq_true, Nat.reduceEqDiff, Nat.reduceAdd]
        refine v_iast hC dX3_takeFromPool_77 rfl rfl rfl (by decide) (by first | decide | (simp only [vdn]; omega)) ⟨by first | omega | (simp only [mlen]; omega), by first | omega | (simp only [mlen]; omega)⟩ ?_
        try simp only [Int.toNat_natCast, upM_at, upM_nef, ne_eq, not_false_eq_true, Nat.reduceEqDiff, Nat.reduceAdd]
        refine v_iinc hC dX3_takeFromPool_78 rfl ⟨by omega, by omega⟩ ?_
        refine v_goto hC 18 dX3_takeFromPool_81 rfl ?_
        refine v_forget 5 ?_
        have hT := hP1.take (g := fun p => stdF μ p s k) (B := 100000) (k := (k : Int)) (by omega) b1 b3 (by rw [e1]; exact b4) (by rw [e1]; exact b7)
        rw [e1] at hT
        exact ih (i + 1) trivial (by omega) _ _ (by omega) (((hF1.up (by decide)).up (by decide)).up (by decide)) hT (itr_next (by omega) rfl a4)
      · exact absurd h35 (by omega)
abbrev rmX3_choose : Room := { frames := 4, cells := 0, slots := 0, locals := 99 }
set_option maxRecDepth 100000 in
set_option maxHeartbeats 4000000 in
theorem cX3_choose_ok (s one : Nat) (μ : MU) (hs : s < 6) (ho : one < 20) (hSf : Sf μ) (hI : Inj μ s) : CTv yX3_choose cX3_choose 4 rmX3_choose [aR 0 0, aI s, aI one] μ (fun μ' => Fr [3, 4, 5] μ μ' ∧ PI μ' (chO μ s one) (chV μ s (chO μ s one))) := by
  intro l9 b9 D9 K9
  refine met_of (by decide) (Nat.le_of_ble_eq_true rfl) (fun x hC hR hM hA => ?_)
  have hC : Ctx x RX3 cX3_choose rmX3_choose := hC
  have hSf0 := hSf
  obtain ⟨⟨s1, s2⟩, ⟨n1, n2⟩, hr, hkc, hq, hpp, hli, hnu⟩ := hSf
  have hk1 := hkc s hs
  refine v_aload_n hC 0 dX3_choose_0 rfl rfl ?_
  refine v_iconst hC dX3_choose_1 ⟨by decide, by decide⟩ ?_
  refine v_putI hC fwX3_176 dX3_choose_2 rfl rfl rfl (by decide) (by first | decide | (simp only [vdn]; omega)) ?_
  refine v_iconst hC dX3_choose_5 ⟨by decide, by decide⟩ ?_
  refine v_istore_n hC 3 dX3_choose_6 rfl (Nat.le_of_ble_eq_true rfl) ?_
  refine v_loop (fun i : Nat => (μ 1 0).toNat - i) (fun _ => True) (fun i => ∀ (μ1 : MU), i ≤ (μ 1 0).toNat → Fr [3, 4, 5] μ μ1 → PB μ1 (chO μ s one) i → V x 0 0 none 7 [some (aR 0 0), some (aI s), some (aI one), some (aI (i : Int))] [] μ1) (fun i _ ih μ1 a1 hF1 hP1 => ?_) 0 trivial _ (Nat.zero_le _) (Fr.rf.up (by decide)) ⟨by rw [upM_at]; omega, fun p hp => by omega, fun j hj => by rw [upM_at] at hj; omega, fun p hp => by omega, fun a b ha => by rw [upM_at] at ha; omega⟩
  have e1 : μ1 1 0 = μ 1 0 := hF1 1 0 (by decide)
  have e15 : μ1 15 i = μ 15 i := hF1 15 i (by decide)
  have e16 : μ1 16 i = μ 16 i := hF1 16 i (by decide)
  have hz := hP1.1
  refine v_iload_n hC 3 dX3_choose_7 rfl rfl ?_
  refine v_aload_n hC 0 dX3_choose_8 rfl rfl ?_
  refine v_getI hC foX3_69 dX3_choose_9 rfl rfl rfl (by first | decide | (simp only [vdn]; omega)) ?_
  try simp only [Int.toNat_natCast, upM_at, upM_nef, ne_eq, not_false_eq_true, Nat.reduceEqDiff, Nat.reduceAdd]
  refine v_icmp_ge hC 66 dX3_choose_12 rfl (fun h12 => ?_) (fun h12 => ?_)
  · refine v_iconst hC dX3_choose_66 ⟨by decide, by decide⟩ ?_
    refine v_istore_n hC 3 dX3_choose_67 rfl (Nat.le_of_ble_eq_true rfl) ?_
    have hi : i = (μ1 1 0).toNat := by omega
    refine v_loop (fun k : Nat => (μ 6 s).toNat - k) (fun _ => True) (fun k => ∀ (μ1 : MU) (T1 : Nat → Int), k ≤ 3 → Fr [3, 4, 5] μ μ1 → PI μ1 (chO μ s one) T1 → itr (fun k T => tkK (μ 1 0).toNat (fun p => stdF μ p s k) 100000 (chO μ s one) (k : Int) (μ 9 (3 * s + k)).toNat T) k ((μ 6 s).toNat - k) T1 = chV μ s (chO μ s one) → V x 0 0 none 68 [some (aR 0 0), some (aI s), some (aI one), some (aI (k : Int))] [] μ1) (fun k _ ih μ1 T1 a1 hF1 hP1 a4 => ?_) 0 trivial μ1 (fun _ => -1) (by decide) hF1 (hP1.done hi (by omega)) rfl
    have e1 : μ1 1 0 = μ 1 0 := hF1 1 0 (by decide)
    have e6 : μ1 6 s = μ 6 s := hF1 6 s (by decide)
    have e9 : μ1 9 (3 * s + k) = μ 9 (3 * s + k) := hF1 9 _ (by decide)
    have hSf1 : Sf μ1 := hF1.Sf hSf0 (by decide)
    have hfun : (fun p => stdF μ1 p s k) = (fun p => stdF μ p s k) := funext fun p => hF1.std (by decide) p s k
    refine v_iload_n hC 3 dX3_choose_68 rfl rfl ?_
    refine v_aload_n hC 0 dX3_choose_69 rfl rfl ?_
    refine v_getR hC foX3_11 dX3_choose_70 rfl rfl rfl (by decide) (by first | decide | (simp only [vdn]; omega)) ?_
    refine v_iload_n hC 1 dX3_choose_73 rfl rfl ?_
    refine v_aald hC dX3_choose_74 rfl rfl (fun _ => rfl) rfl (by decide) (by first | decide | (simp only [vdn]; omega)) ⟨by first | omega | (simp only [mlen]; omega), by first | omega | (simp only [mlen]; omega)⟩ ?_
    try simp only [Int.toNat_natCast, upM_at, upM_nef, ne_eq, not_false_eq_true, Nat.reduceEqDiff, Nat.reduceAdd]
    refine v_getI hC foX3_50 dX3_choose_75 rfl rfl rfl (by first | decide | (simp only [vdn]; omega)) ?_
    try simp only [Int.toNat_natCast, upM_at, upM_nef, ne_eq, not_false_eq_true, Nat.reduceEqDiff, Nat.reduceAdd]
    refine v_icmp_ge hC 93 dX3_choose_78 rfl (fun h78 => ?_) (fun h78 => ?_)
    · exact v_vret hC hR (Nat.le_refl _) (Nat.le_refl _) dX3_choose_93 (⟨rfl, hF1, by rw [← a4, itr_done (by omega)]; exact hP1⟩)
    · refine v_aload_n hC 0 dX3_choose_81 rfl rfl ?_
      refine v_iload_n hC 1 dX3_choose_82 rfl rfl ?_
      refine v_iload_n hC 3 dX3_choose_83 rfl rfl ?_
      refine v_callV2 hC (cwX3_185 hC ⟨Nat.le_of_ble_eq_true rfl, Nat.le_of_ble_eq_true rfl⟩) dX3_choose_84 rfl rfl rfl (Nat.zero_le _) (Nat.zero_le _) (Nat.le_of_ble_eq_true rfl) (by first | decide | (simp only [vdn]; omega)) (cX3_takeFromPool_ok s k (chO μ s one) T1 μ1 hs (by omega) hSf1 (hF1.inj hI (by decide) (by decide)) hP1) (fun μ1 hp => ?_)
      rw [hfun, e1, e9] at hp
      refine v_iinc hC dX3_choose_87 rfl ⟨by omega, by omega⟩ ?_
      refine v_goto hC 68 dX3_choose_90 rfl ?_
      exact ih (k + 1) trivial (by omega) _ _ (by omega) (hF1.trans hp.1) hp.2 (itr_next (by omega) rfl a4)
  · refine v_aload_n hC 0 dX3_choose_15 rfl rfl ?_
    refine v_getR hC foX3_29 dX3_choose_16 rfl rfl rfl (by decide) (by first | decide | (simp only [vdn]; omega)) ?_
    refine v_iload_n hC 3 dX3_choose_19 rfl rfl ?_
    refine v_iconst hC dX3_choose_20 ⟨by decide, by decide⟩ ?_
    refine v_iast hC dX3_choose_21 rfl rfl rfl (by decide) (by first | decide | (simp only [vdn]; omega)) ⟨by first | omega | (simp only [mlen]; omega), by first | omega | (simp only [mlen]; omega)⟩ ?_
    try simp only [Int.toNat_natCast, upM_at, upM_nef, ne_eq, not_false_eq_true, Nat.reduceEqDiff, Nat.reduceAdd]
    refine v_iload_n hC 3 dX3_choose_22 rfl rfl ?_
    refine v_iload_n hC 2 dX3_choose_23 rfl rfl ?_
    refine v_icmp_eq hC 40 dX3_choose_24 rfl (fun h24 => ?_) (fun h24 => ?_)
    · refine v_aload_n hC 0 dX3_choose_40 rfl rfl ?_
      refine v_getR hC foX3_25 dX3_choose_41 rfl rfl rfl (by decide) (by first | decide | (simp only [vdn]; omega)) ?_
      refine v_aload_n hC 0 dX3_choose_44 rfl rfl ?_
      refine v_getI hC foX3_176 dX3_choose_45 rfl rfl rfl (by first | decide | (simp only [vdn]; omega)) ?_
      try simp only [Int.toNat_natCast, upM_at, upM_nef, ne_eq, not_false_eq_true, Nat.reduceEqDiff, Nat.reduceAdd]
      refine v_iload_n hC 3 dX3_choose_48 rfl rfl ?_
      refine v_iast hC dX3_choose_49 rfl rfl rfl (by decide) (by first | decide | (simp only [vdn]; omega)) ⟨by first | omega | (simp only [mlen]; omega), by first | omega | (simp only [mlen]; omega)⟩ ?_
      try simp only [Int.toNat_natCast, upM_at, upM_nef, ne_eq, not_false_eq_true, Nat.reduceEqDiff, Nat.reduceAdd]
      refine v_aload_n hC 0 dX3_choose_50 rfl rfl ?_
      refine v_dupR hC dX3_choose_51 ?_
      refine v_getI hC foX3_176 dX3_choose_52 rfl rfl rfl (by first | decide | (simp only [vdn]; omega)) ?_
      try simp only [Int.toNat_natCast, upM_at, upM_nef, ne_eq, not_false_eq_true, Nat.reduceEqDiff, Nat.reduceAdd]
      refine v_iconst hC dX3_choose_55 ⟨by decide, by decide⟩ ?_
      refine v_iadd hC dX3_choose_56 ⟨by omega, by omega⟩ ?_
      refine v_putI hC fwX3_176 dX3_choose_57 rfl rfl rfl (by decide) (by first | decide | (simp only [vdn]; omega)) ?_
      refine v_iinc hC dX3_choose_60 rfl ⟨by omega, by omega⟩ ?_
      refine v_goto hC 7 dX3_choose_63 rfl ?_
      exact ih (i + 1) trivial (by omega) _ (by omega) (((hF1.up (by decide)).up (by decide)).up (by decide)) (hP1.inn (decide_eq_true (Or.inl (by omega))))
    · refine v_aload_n hC 0 dX3_choose_27 rfl rfl ?_
      refine v_getR hC foX3_18 dX3_choose_28 rfl rfl rfl (by decide) (by first | decide | (simp only [vdn]; omega)) ?_
      refine v_iload_n hC 3 dX3_choose_31 rfl rfl ?_
      refine v_aald hC dX3_choose_32 rfl rfl (fun _ => rfl) rfl (by decide) (by first | decide | (simp only [vdn]; omega)) ⟨by first | omega | (simp only [mlen]; omega), by first | omega | (simp only [mlen]; omega)⟩ ?_
      try simp only [Int.toNat_natCast, upM_at, upM_nef, ne_eq, not_false_eq_true, Nat.reduceEqDiff, Nat.reduceAdd]
      refine v_iload_n hC 1 dX3_choose_33 rfl rfl ?_
      refine v_callI1 hC (cwX3_182 hC ⟨Nat.le_of_ble_eq_true rfl, Nat.le_of_ble_eq_true rfl⟩) dX3_choose_34 rfl rfl rfl (Nat.zero_le _) (Nat.zero_le _) (Nat.le_of_ble_eq_true rfl) (by first | decide | (simp only [vdn]; omega)) (cX1_holdsAnyKind_ok i s (upM μ1 5 i (-1)) (by omega)) (fun r1 μ1 hp => ?_)
      obtain ⟨rfl, rfl⟩ := hp
      refine v_if_eq hC 60 dX3_choose_37 rfl (fun h37 => ?_) (fun h37 => ?_)
      · refine v_iinc hC dX3_choose_60 rfl ⟨by omega, by omega⟩ ?_
        refine v_goto hC 7 dX3_choose_63 rfl ?_
        have h37' := bI_z.1 h37
        exact ih (i + 1) trivial (by omega) _ (by omega) (hF1.up (by decide)) (hP1.out (fun h => (of_decide_eq_true h).elim (fun h => h24 (by omega)) (fun h => h37' (by simpa only [anyP, upM_nef, ne_eq, Nat.reduceEqDiff, not_false_eq_true, e15, e16] using h))))
      · refine v_aload_n hC 0 dX3_choose_40 rfl rfl ?_
        refine v_getR hC foX3_25 dX3_choose_41 rfl rfl rfl (by decide) (by first | decide | (simp only [vdn]; omega)) ?_
        refine v_aload_n hC 0 dX3_choose_44 rfl rfl ?_
        refine v_getI hC foX3_176 dX3_choose_45 rfl rfl rfl (by first | decide | (simp only [vdn]; omega)) ?_
        try simp only [Int.toNat_natCast, upM_at, upM_nef, ne_eq, not_false_eq_true, Nat.reduceEqDiff, Nat.reduceAdd]
        refine v_iload_n hC 3 dX3_choose_48 rfl rfl ?_
        refine v_iast hC dX3_choose_49 rfl rfl rfl (by decide) (by first | decide | (simp only [vdn]; omega)) ⟨by first | omega | (simp only [mlen]; omega), by first | omega | (simp only [mlen]; omega)⟩ ?_
        try simp only [Int.toNat_natCast, upM_at, upM_nef, ne_eq, not_false_eq_true, Nat.reduceEqDiff, Nat.reduceAdd]
        refine v_aload_n hC 0 dX3_choose_50 rfl rfl ?_
        refine v_dupR hC dX3_choose_51 ?_
        refine v_getI hC foX3_176 dX3_choose_52 rfl rfl rfl (by first | decide | (simp only [vdn]; omega)) ?_
        try simp only [Int.toNat_natCast, upM_at, upM_nef, ne_eq, not_false_eq_true, Nat.reduceEqDiff, Nat.reduceAdd]
        refine v_iconst hC dX3_choose_55 ⟨by decide, by decide⟩ ?_
        refine v_iadd hC dX3_choose_56 ⟨by omega, by omega⟩ ?_
        refine v_putI hC fwX3_176 dX3_choose_57 rfl rfl rfl (by decide) (by first | decide | (simp only [vdn]; omega)) ?_
        refine v_iinc hC dX3_choose_60 rfl ⟨by omega, by omega⟩ ?_
        refine v_goto hC 7 dX3_choose_63 rfl ?_
        have h37' := bI_n.1 h37
        exact ih (i + 1) trivial (by omega) _ (by omega) (((hF1.up (by decide)).up (by decide)).up (by decide)) (hP1.inn (decide_eq_true (Or.inr (by simpa only [anyP, upM_nef, ne_eq, Nat.reduceEqDiff, not_false_eq_true, e15, e16] using h37'))))
end
section
/-! Asking, moving, blocking. -/
theorem sit15 (μ : MU) (p : Nat) (a k : Int) : sitM μ p a k 15 p = a := by
  show upM (upM μ 15 p a) 16 p k 15 p = a
  rw [upM_nef (by decide), upM_at]
theorem sit16 (μ : MU) (p : Nat) (a k : Int) : sitM μ p a k 16 p = k := upM_at _ _ _ _
theorem sit_ne {μ : MU} {p q : Nat} {a k : Int} (f : Nat) (h : q ≠ p) : sitM μ p a k f q = μ f q := by
  show upM (upM μ 15 p a) 16 p k f q = μ f q
  rw [upM_ne (fun z => h z.2), upM_ne (fun z => h z.2)]
theorem sit_nef {μ : MU} {p q : Nat} {a k : Int} {f : Nat} (h : f ≠ 15) (h' : f ≠ 16) : sitM μ p a k f q = μ f q := by
  show upM (upM μ 15 p a) 16 p k f q = μ f q
  rw [upM_nef h', upM_nef h]
theorem chV_of {a b : MU} {s : Nat} {O O' : Nat → Bool} (h1 : b 1 0 = a 1 0) (h6 : b 6 s = a 6 s) (h9 : ∀ j, b 9 j = a 9 j) (hs : ∀ p k, stdF b p s k = stdF a p s k) (hO : ∀ p, p < (a 1 0).toNat → O' p = O p) : ∀ p, p < (a 1 0).toNat → chV b s O' p = chV a s O p := by
  unfold chV
  rw [h1, h6]
  refine itr_rel (R := fun (x y : Nat → Int) => ∀ p, p < (a 1 0).toNat → x p = y p) (fun k x y hxy => ?_) _ _ _ _ (fun _ _ => rfl)
  dsimp only
  rw [h9]
  exact tkK_congr (fun p _ => hs p k) hO hxy
theorem chV_in {μ : MU} {s : Nat} {O : Nat → Bool} {p : Nat} (h : chV μ s O p ≠ -1) : O p = true ∧ p < (μ 1 0).toNat := chv_in h
theorem chV_ge {μ : MU} {s : Nat} {O : Nat → Bool} (p : Nat) : -1 ≤ chV μ s O p ∧ chV μ s O p < 3 ∨ 3 < (μ 6 s).toNat := by
  by_cases h3 : 3 < (μ 6 s).toNat
  · exact Or.inr h3
  · refine Or.inl ?_
    have := itr_inv (f := fun k T => tkK (μ 1 0).toNat (fun p => stdF μ p s k) 100000 O (k : Int) (μ 9 (3 * s + k)).toNat T) (P := fun k (T : Nat → Int) => ∀ p, -1 ≤ T p ∧ T p < (k : Int)) (n := (μ 6 s).toNat) (μ 6 s).toNat 0 (fun _ => -1) (by omega) (fun p => by omega) (fun j T hj hT => ?_) p
    · have h : -1 ≤ chV μ s O p ∧ chV μ s O p < (((μ 6 s).toNat : Nat) : Int) := this
      omega
    · have := itr_inv (f := fun _ T => tk1 (μ 1 0).toNat (fun p => stdF μ p s j) 100000 O (j : Int) T) (P := fun _ (T : Nat → Int) => ∀ p, -1 ≤ T p ∧ T p < ((j + 1 : Nat) : Int)) (n := (μ 9 (3 * s + j)).toNat) (μ 9 (3 * s + j)).toNat 0 T (by omega) (fun p => by have := hT p; omega) (fun i T' _ hT' p => ?_)
      · exact this
      · unfold tk1
        split
        · omega
        · exact hT' p
theorem Sf.ask {μ : MU} {p : Nat} (h : Sf μ) (hp : p < 20) (ha : μ 17 p < 4) : Sf (upM μ 17 p (μ 17 p + 1)) := by
  obtain ⟨h1, h2, h3, h4, h5, h6, h7, h8⟩ := h
  refine ⟨h1, h2, h3, h4, h5, fun q hq => ?_, h7, h8⟩
  have e11 : upM μ 17 p (μ 17 p + 1) 11 q = μ 11 q := upM_nef (by decide)
  have hq6 := h6 q hq
  by_cases e : q = p
  · have e17 : upM μ 17 p (μ 17 p + 1) 17 q = μ 17 p + 1 := by rw [e, upM_at]
    rw [e11, e17]
    have := h6 p hp
    omega
  · have e17 : upM μ 17 p (μ 17 p + 1) 17 q = μ 17 q := upM_ne (fun h => e h.2)
    rw [e11, e17]
    exact hq6
/-- an ask, as a step of the state -/
def AskP (μ : MU) (p s : Nat) (μ' : MU) : Prop := Fr [3, 4, 5, 15, 16, 17] μ μ' ∧ (∀ q, μ' 17 q = if q = p then μ 17 p + 1 else μ 17 q) ∧
  ∀ q, q < (μ 1 0).toNat → μ' 16 q = (if chO μ s p q = true then chV μ s (chO μ s p) q else μ 16 q) ∧ μ' 15 q = (if chO μ s p q = true then (if chV μ s (chO μ s p) q = -1 then -1 else (s : Int)) else μ 15 q)
abbrev rmX3_askNext : Room := { frames := 5, cells := 0, slots := 0, locals := 122 }
set_option maxRecDepth 100000 in
set_option maxHeartbeats 4000000 in
theorem cX3_askNext_ok (p s : Nat) (μ : MU) (hp : p < (μ 1 0).toNat) (hs : s < 6) (hSf : Sf μ) (hI : Inj μ s) (ha : μ 17 p < μ 11 p) (hse : μ 10 (4 * p + (μ 17 p).toNat) = (s : Int)) : CTv yX3_askNext cX3_askNext 5 rmX3_askNext [aR 0 0, aI p] μ (fun μ' => AskP μ p s μ') := by
  intro l9 b9 D9 K9
  refine met_of (by decide) (Nat.le_of_ble_eq_true rfl) (fun x hC hR hM hA => ?_)
  have hC : Ctx x RX3 cX3_askNext rmX3_askNext := hC
  have hSf0 := hSf
  obtain ⟨⟨s1, s2⟩, ⟨n1, n2⟩, hr, hkc, hq, hpp, hli, hnu⟩ := hSf
  have hp1 := hpp p (by omega)
  have hSf1 : Sf (upM μ 17 p (μ 17 p + 1)) := hSf0.ask (by omega) (by omega)
  have hI1 : Inj (upM μ 17 p (μ 17 p + 1)) s := (Fr.up (S := [17]) Fr.rf (by decide)).inj hI (by decide) (by decide)
  refine v_aload_n hC 0 dX3_askNext_0 rfl rfl ?_
  refine v_getR hC foX3_18 dX3_askNext_1 rfl rfl rfl (by decide) (by first | decide | (simp only [vdn]; omega)) ?_
  refine v_iload_n hC 1 dX3_askNext_4 rfl rfl ?_
  refine v_aald hC dX3_askNext_5 rfl rfl (fun _ => rfl) rfl (by decide) (by first | decide | (simp only [vdn]; omega)) ⟨by first | omega | (simp only [mlen]; omega), by first | omega | (simp only [mlen]; omega)⟩ ?_
  try simp only [Int.toNat_natCast, upM_at, upM_nef, ne_eq, not_false_eq_true, Nat.reduceEqDiff, Nat.reduceAdd]
  refine v_astore_n hC 2 dX3_askNext_6 rfl (Nat.le_of_ble_eq_true rfl) ?_
  refine v_aload_n hC 2 dX3_askNext_7 rfl rfl ?_
  refine v_getR hC foX3_88 dX3_askNext_8 rfl rfl rfl (by decide) (by first | decide | (simp only [vdn]; omega)) ?_
  refine v_aload_n hC 2 dX3_askNext_11 rfl rfl ?_
  refine v_getI hC foX3_133 dX3_askNext_12 rfl rfl rfl (by first | decide | (simp only [vdn]; omega)) ?_
  try simp only [Int.toNat_natCast, upM_at, upM_nef, ne_eq, not_false_eq_true, Nat.reduceEqDiff, Nat.reduceAdd]
  refine v_iald hC dX3_askNext_15 rfl rfl rfl (by first | decide | (simp only [vdn]; omega)) ⟨by first | omega | (simp only [mlen]; omega), by first | omega | (simp only [mlen]; omega)⟩ ?_
  try simp only [Int.toNat_natCast, upM_at, upM_nef, ne_eq, not_false_eq_true, Nat.reduceEqDiff, Nat.reduceAdd]
  rw [hse]
  refine v_istore_n hC 3 dX3_askNext_16 rfl (Nat.le_of_ble_eq_true rfl) ?_
  refine v_aload_n hC 2 dX3_askNext_17 rfl rfl ?_
  refine v_dupR hC dX3_askNext_18 ?_
  refine v_getI hC foX3_133 dX3_askNext_19 rfl rfl rfl (by first | decide | (simp only [vdn]; omega)) ?_
  try simp only [Int.toNat_natCast, upM_at, upM_nef, ne_eq, not_false_eq_true, Nat.reduceEqDiff, Nat.reduceAdd]
  refine v_iconst hC dX3_askNext_22 ⟨by decide, by decide⟩ ?_
  refine v_iadd hC dX3_askNext_23 ⟨by omega, by omega⟩ ?_
  refine v_putI hC fwX3_133 dX3_askNext_24 rfl rfl rfl (by decide) (by first | decide | (simp only [vdn]; omega)) ?_
  refine v_aload_n hC 0 dX3_askNext_27 rfl rfl ?_
  refine v_iload_n hC 3 dX3_askNext_28 rfl rfl ?_
  refine v_iload_n hC 1 dX3_askNext_29 rfl rfl ?_
  refine v_callV2 hC (cwX3_173 hC ⟨Nat.le_of_ble_eq_true rfl, Nat.le_of_ble_eq_true rfl⟩) dX3_askNext_30 rfl rfl rfl (Nat.zero_le _) (Nat.zero_le _) (Nat.le_of_ble_eq_true rfl) (by first | decide | (simp only [vdn]; omega)) (cX3_choose_ok s p (upM μ 17 p (μ 17 p + 1)) hs (by omega) hSf1 hI1) (fun μ1 hp => ?_)
  obtain ⟨hF2, hP2⟩ := hp
  have hF2' : Fr [3, 4, 5, 17] μ μ1 := (Fr.up Fr.rf (by decide)).trans (hF2.mono (by decide))
  have e1 : μ1 1 0 = μ 1 0 := hF2' 1 0 (by decide)
  have eO : ∀ q, chO (upM μ 17 p (μ 17 p + 1)) s p q = chO μ s p q := fun q => by unfold chO anyP; rw [upM_nef (by decide), upM_nef (by decide)]
  have eC : ∀ q, q < (μ 1 0).toNat → chV (upM μ 17 p (μ 17 p + 1)) s (chO (upM μ 17 p (μ 17 p + 1)) s p) q = chV μ s (chO μ s p) q := chV_of (upM_nef (by decide)) (upM_nef (by decide)) (fun j => upM_nef (by decide)) (fun q k => (Fr.up Fr.rf (S := [17]) (by decide)).std (by decide) q s k) (fun q _ => eO q)
  obtain ⟨⟨z1, z2⟩, p2, p3, p4, p5⟩ := hP2
  have hq0 : ∀ q, q < (μ 1 0).toNat → μ1 5 q = chV μ s (chO μ s p) q := fun q hq => by rw [p2 q (by rw [e1]; exact hq), eC q hq]
  have hpool : ∀ q, q < (μ 1 0).toNat → ((∃ j : Nat, (j : Int) < μ1 3 0 ∧ μ1 4 j = (q : Int)) ↔ (chO μ s p q = true ∧ chV μ s (chO μ s p) q = -1)) := fun q hq => by
    refine ⟨fun ⟨j, h3, h4⟩ => ?_, fun ⟨h3, h4⟩ => p4 q (by rw [e1]; exact hq) (by rw [eO]; exact h3) (by rw [eC q hq]; exact h4)⟩
    obtain ⟨q', h5, h6, h7, h8⟩ := p3 j h3
    have : q' = q := by omega
    subst this
    rw [eO] at h7
    rw [eC q' hq] at h8
    exact ⟨h7, h8⟩
  refine v_iconst hC dX3_askNext_33 ⟨by decide, by decide⟩ ?_
  refine v_istore hC dX3_askNext_34 (Nat.le_of_ble_eq_true rfl) ?_
  refine v_loop (fun i : Nat => (μ1 3 0).toNat - i) (fun _ => True) (fun i => ∀ (μ3 : MU), i ≤ (μ1 3 0).toNat → Fr [15, 16] μ1 μ3 → (∀ q, q < (μ 1 0).toNat → (∃ j : Nat, j < i ∧ μ1 4 j = (q : Int)) → μ3 15 q = -1 ∧ μ3 16 q = -1) → (∀ q, q < (μ 1 0).toNat → ¬ (∃ j : Nat, j < i ∧ μ1 4 j = (q : Int)) → μ3 15 q = μ 15 q ∧ μ3 16 q = μ 16 q) → V x 0 0 none 36 [some (aR 0 0), some (aI p), some (aR 7 p), some (aI s), some (aI (i : Int))] [] μ3) (fun i _ ih μ3 a1 hF3 a2 a3 => ?_) 0 trivial μ1 (Nat.zero_le _) Fr.rf (fun q _ ⟨j, h, _⟩ => by omega) (fun q _ _ => ⟨hF2' 15 q (by decide), hF2' 16 q (by decide)⟩)
  have f3 : μ3 3 0 = μ1 3 0 := hF3 3 0 (by decide)
  have f4 : μ3 4 i = μ1 4 i := hF3 4 i (by decide)
  refine v_iload hC dX3_askNext_36 rfl ?_
  refine v_aload_n hC 0 dX3_askNext_38 rfl rfl ?_
  refine v_getI hC foX3_176 dX3_askNext_39 rfl rfl rfl (by first | decide | (simp only [vdn]; omega)) ?_
  try simp only [Int.toNat_natCast, upM_at, upM_nef, ne_eq, not_false_eq_true, Nat.reduceEqDiff, Nat.reduceAdd]
  refine v_icmp_ge hC 66 dX3_askNext_42 rfl (fun h42 => ?_) (fun h42 => ?_)
  · refine v_iconst hC dX3_askNext_66 ⟨by decide, by decide⟩ ?_
    refine v_istore hC dX3_askNext_67 (Nat.le_of_ble_eq_true rfl) ?_
    have hall : ∀ q, q < (μ 1 0).toNat → μ3 15 q = (if chO μ s p q = true ∧ chV μ s (chO μ s p) q = -1 then (-1 : Int) else μ 15 q) ∧ μ3 16 q = (if chO μ s p q = true ∧ chV μ s (chO μ s p) q = -1 then (-1 : Int) else μ 16 q) := fun q hq => by
      by_cases h : ∃ j : Nat, j < i ∧ μ1 4 j = (q : Int)
      · obtain ⟨j, h3, h4⟩ := h
        rw [if_pos ((hpool q hq).1 ⟨j, by omega, h4⟩), if_pos ((hpool q hq).1 ⟨j, by omega, h4⟩)]
        exact a2 q hq ⟨j, h3, h4⟩
      · have hn : ¬ (chO μ s p q = true ∧ chV μ s (chO μ s p) q = -1) := fun h5 => by
          obtain ⟨j, h3, h4⟩ := (hpool q hq).2 h5
          exact h ⟨j, by omega, h4⟩
        rw [if_neg hn, if_neg hn]
        exact a3 q hq h
    refine v_loop (fun i : Nat => (μ 1 0).toNat - i) (fun _ => True) (fun i => ∀ (μ4 : MU), i ≤ (μ 1 0).toNat → Fr [15, 16] μ1 μ4 → (∀ q, q < (μ 1 0).toNat → q < i → μ4 16 q = (if chO μ s p q = true then chV μ s (chO μ s p) q else μ 16 q) ∧ μ4 15 q = (if chO μ s p q = true then (if chV μ s (chO μ s p) q = -1 then -1 else (s : Int)) else μ 15 q)) → (∀ q, q < (μ 1 0).toNat → i ≤ q → μ4 15 q = (if chO μ s p q = true ∧ chV μ s (chO μ s p) q = -1 then (-1 : Int) else μ 15 q) ∧ μ4 16 q = (if chO μ s p q = true ∧ chV μ s (chO μ s p) q = -1 then (-1 : Int) else μ 16 q)) → V x 0 0 none 69 [some (aR 0 0), some (aI p), some (aR 7 p), some (aI s), some (aI (i : Int))] [] μ4) (fun i _ ih μ4 a1 hF4 a2 a3 => ?_) 0 trivial μ3 (Nat.zero_le _) hF3 (fun q _ h => by omega) (fun q hq _ => hall q hq)
    have g1 : μ4 1 0 = μ 1 0 := (hF4 1 0 (by decide)).trans e1
    have g5 : ∀ q, μ4 5 q = μ1 5 q := fun q => hF4 5 q (by decide)
    refine v_iload hC dX3_askNext_69 rfl ?_
    refine v_aload_n hC 0 dX3_askNext_71 rfl rfl ?_
    refine v_getI hC foX3_69 dX3_askNext_72 rfl rfl rfl (by first | decide | (simp only [vdn]; omega)) ?_
    try simp only [Int.toNat_natCast, upM_at, upM_nef, ne_eq, not_false_eq_true, Nat.reduceEqDiff, Nat.reduceAdd]
    refine v_icmp_ge hC 113 dX3_askNext_75 rfl (fun h75 => ?_) (fun h75 => ?_)
    · exact v_vret hC hR (Nat.le_refl _) (Nat.le_refl _) dX3_askNext_113 (⟨rfl, (hF2'.mono (by decide)).trans (hF4.mono (by decide)), fun q => by
        rw [hF4 17 q (by decide), hF2 17 q (by decide)]
        by_cases e : q = p
        · rw [e, upM_at, if_pos rfl]
        · rw [upM_ne (fun h => e h.2), if_neg e], fun q hq => a2 q hq (by omega)⟩)
    · refine v_aload_n hC 0 dX3_askNext_78 rfl rfl ?_
      refine v_getR hC foX3_29 dX3_askNext_79 rfl rfl rfl (by decide) (by first | decide | (simp only [vdn]; omega)) ?_
      refine v_iload hC dX3_askNext_82 rfl ?_
      refine v_iald hC dX3_askNext_84 rfl rfl rfl (by first | decide | (simp only [vdn]; omega)) ⟨by first | omega | (simp only [mlen]; omega), by first | omega | (simp only [mlen]; omega)⟩ ?_
      try simp only [Int.toNat_natCast, upM_at, upM_nef, ne_eq, not_false_eq_true, Nat.reduceEqDiff, Nat.reduceAdd]
      refine v_iconst hC dX3_askNext_85 ⟨by decide, by decide⟩ ?_
      refine v_icmp_eq hC 107 dX3_askNext_86 rfl (fun h86 => ?_) (fun h86 => ?_)
      · refine v_iinc hC dX3_askNext_107 rfl ⟨by omega, by omega⟩ ?_
        refine v_goto hC 69 dX3_askNext_110 rfl ?_
        rw [g5, hq0 i (by omega)] at h86
        refine ih (i + 1) trivial (by omega) μ4 (by omega) hF4 (fun q hq h => ?_) (fun q hq h => a3 q hq (by omega))
        by_cases e : q = i
        · have h9 := a3 q hq (by omega)
          rw [e] at h9 ⊢
          by_cases hO : chO μ s p i = true
          · simp [hO, h86] at h9 ⊢
            exact ⟨h9.2, h9.1⟩
          · simp [hO] at h9 ⊢
            exact ⟨h9.2, h9.1⟩
        · exact a2 q hq (by omega)
      · refine v_aload_n hC 0 dX3_askNext_89 rfl rfl ?_
        refine v_getR hC foX3_18 dX3_askNext_90 rfl rfl rfl (by decide) (by first | decide | (simp only [vdn]; omega)) ?_
        refine v_iload hC dX3_askNext_93 rfl ?_
        refine v_aald hC dX3_askNext_95 rfl rfl (fun _ => rfl) rfl (by decide) (by first | decide | (simp only [vdn]; omega)) ⟨by first | omega | (simp only [mlen]; omega), by first | omega | (simp only [mlen]; omega)⟩ ?_
        try simp only [Int.toNat_natCast, upM_at, upM_nef, ne_eq, not_false_eq_true, Nat.reduceEqDiff, Nat.reduceAdd]
        refine v_iload_n hC 3 dX3_askNext_96 rfl rfl ?_
        refine v_aload_n hC 0 dX3_askNext_97 rfl rfl ?_
        refine v_getR hC foX3_29 dX3_askNext_98 rfl rfl rfl (by decide) (by first | decide | (simp only [vdn]; omega)) ?_
        refine v_iload hC dX3_askNext_101 rfl ?_
        refine v_iald hC dX3_askNext_103 rfl rfl rfl (by first | decide | (simp only [vdn]; omega)) ⟨by first | omega | (simp only [mlen]; omega), by first | omega | (simp only [mlen]; omega)⟩ ?_
        try simp only [Int.toNat_natCast, upM_at, upM_nef, ne_eq, not_false_eq_true, Nat.reduceEqDiff, Nat.reduceAdd]
        refine v_callV2 hC (cwX3_126 hC ⟨Nat.le_of_ble_eq_true rfl, Nat.le_of_ble_eq_true rfl⟩) dX3_askNext_104 rfl rfl rfl (Nat.zero_le _) (Nat.zero_le _) (Nat.le_of_ble_eq_true rfl) (by first | decide | (simp only [vdn]; omega)) (cX1_sitAt_ok i s (μ4 5 i) μ4 (by omega)) (fun μ1 hp => ?_)
        subst hp
        refine v_iinc hC dX3_askNext_107 rfl ⟨by omega, by omega⟩ ?_
        refine v_goto hC 69 dX3_askNext_110 rfl ?_
        rw [g5, hq0 i (by omega)] at h86
        rw [g5, hq0 i (by omega)]
        refine ih (i + 1) trivial (by omega) _ (by omega) ((hF4.up (by decide)).up (by decide)) (fun q hq h => ?_) (fun q hq h => ?_)
        · by_cases e : q = i
          · have hO := (chV_in h86).1
            rw [e, sit16, sit15, if_pos hO, if_pos hO, if_neg h86]
            exact ⟨rfl, rfl⟩
          · rw [sit_ne 16 e, sit_ne 15 e]
            exact a2 q hq (by omega)
        · have e : q ≠ i := by omega
          rw [sit_ne 15 e, sit_ne 16 e]
          exact a3 q hq (by omega)
  · refine v_aload_n hC 0 dX3_askNext_45 rfl rfl ?_
    refine v_getR hC foX3_18 dX3_askNext_46 rfl rfl rfl (by decide) (by first | decide | (simp only [vdn]; omega)) ?_
    refine v_aload_n hC 0 dX3_askNext_49 rfl rfl ?_
    refine v_getR hC foX3_25 dX3_askNext_50 rfl rfl rfl (by decide) (by first | decide | (simp only [vdn]; omega)) ?_
    refine v_iload hC dX3_askNext_53 rfl ?_
    refine v_iald hC dX3_askNext_55 rfl rfl rfl (by first | decide | (simp only [vdn]; omega)) ⟨by first | omega | (simp only [mlen]; omega), by first | omega | (simp only [mlen]; omega)⟩ ?_
    try simp only [Int.toNat_natCast, upM_at, upM_nef, ne_eq, not_false_eq_true, Nat.reduceEqDiff, Nat.reduceAdd]
    rw [f4]
    obtain ⟨pj, hpj, hpj2, -, -⟩ := p3 i (by omega)
    rw [e1] at hpj2
    rw [hpj]
    refine v_aald hC dX3_askNext_56 rfl rfl (fun _ => rfl) rfl (by decide) (by first | decide | (simp only [vdn]; omega)) ⟨by first | omega | (simp only [mlen]; omega), by first | omega | (simp only [mlen]; omega)⟩ ?_
    try simp only [Int.toNat_natCast, upM_at, upM_nef, ne_eq, not_false_eq_true, Nat.reduceEqDiff, Nat.reduceAdd]
    refine v_callV0 hC (cwX3_179 hC ⟨Nat.le_of_ble_eq_true rfl, Nat.le_of_ble_eq_true rfl⟩) dX3_askNext_57 rfl rfl rfl (Nat.zero_le _) (Nat.zero_le _) (Nat.le_of_ble_eq_true rfl) (by first | decide | (simp only [vdn]; omega)) (cX1_giveUpSeat_ok pj μ3 (by omega)) (fun μ1 hp => ?_)
    subst hp
    refine v_iinc hC dX3_askNext_60 rfl ⟨by omega, by omega⟩ ?_
    refine v_goto hC 36 dX3_askNext_63 rfl ?_
    refine ih (i + 1) trivial (by omega) _ (by omega) ((hF3.up (by decide)).up (by decide)) (fun q hq ⟨j, h3, h4⟩ => ?_) (fun q hq hn => ?_)
    · by_cases e : q = pj
      · rw [e]
        exact ⟨sit15 _ _ _ _, sit16 _ _ _ _⟩
      · have hji : j ≠ i := fun h => e (by rw [h, hpj] at h4; omega)
        have h9 := a2 q hq ⟨j, by omega, h4⟩
        exact ⟨(sit_ne 15 e).trans h9.1, (sit_ne 16 e).trans h9.2⟩
    · have e : q ≠ pj := fun h => hn ⟨i, by omega, by rw [hpj, h]⟩
      have h9 := a3 q hq (fun ⟨j, h3, h4⟩ => hn ⟨j, by omega, h4⟩)
      exact ⟨(sit_ne 15 e).trans h9.1, (sit_ne 16 e).trans h9.2⟩
abbrev rmX3_blocks : Room := { frames := 5, cells := 0, slots := 0, locals := 122 }
set_option maxRecDepth 100000 in
set_option maxHeartbeats 4000000 in
theorem cX3_blocks_ok (p s : Nat) (μ : MU) (hp : p < (μ 1 0).toNat) (hs : s < 6) (hSf : Sf μ) (hI : Inj μ s) : CTi yX3_blocks cX3_blocks 4 (some .boolean) rmX3_blocks [aR 0 0, aI p, aI s] μ (fun r μ' => Fr [3, 4, 5] μ μ' ∧ r = bI (¬ μ 18 p = 3 ∧ prefP μ p s ∧ ¬ chV μ s (chO μ s p) p = -1)) := by
  intro l9 b9 D9 K9
  refine met_of (by decide) (Nat.le_of_ble_eq_true rfl) (fun x hC hR hM hA => ?_)
  have hC : Ctx x RX3 cX3_blocks rmX3_blocks := hC
  have hSf0 := hSf
  have hp0 := hp
  obtain ⟨⟨s1, s2⟩, ⟨n1, n2⟩, hr, hkc, hq, hpp, hli, hnu⟩ := hSf
  have hp1 := hpp p (by omega)
  refine v_aload_n hC 0 dX3_blocks_0 rfl rfl ?_
  refine v_getR hC foX3_18 dX3_blocks_1 rfl rfl rfl (by decide) (by first | decide | (simp only [vdn]; omega)) ?_
  refine v_iload_n hC 1 dX3_blocks_4 rfl rfl ?_
  refine v_aald hC dX3_blocks_5 rfl rfl (fun _ => rfl) rfl (by decide) (by first | decide | (simp only [vdn]; omega)) ⟨by first | omega | (simp only [mlen]; omega), by first | omega | (simp only [mlen]; omega)⟩ ?_
  try simp only [Int.toNat_natCast, upM_at, upM_nef, ne_eq, not_false_eq_true, Nat.reduceEqDiff, Nat.reduceAdd]
  refine v_astore_n hC 3 dX3_blocks_6 rfl (Nat.le_of_ble_eq_true rfl) ?_
  refine v_aload_n hC 3 dX3_blocks_7 rfl rfl ?_
  refine v_callI0 hC (cwX3_104 hC ⟨Nat.le_of_ble_eq_true rfl, Nat.le_of_ble_eq_true rfl⟩) dX3_blocks_8 rfl rfl rfl (Nat.zero_le _) (Nat.zero_le _) (Nat.le_of_ble_eq_true rfl) (by first | decide | (simp only [vdn]; omega)) (cX1_hasLeft_ok p μ (by omega)) (fun r1 μ1 hp => ?_)
  obtain ⟨rfl, rfl⟩ := hp
  refine v_if_ne hC 22 dX3_blocks_11 rfl (fun h11 => ?_) (fun h11 => ?_)
  · refine v_iconst hC dX3_blocks_22 ⟨by decide, by decide⟩ ?_
    exact v_bret hC hR dX3_blocks_23 (by omega) (⟨_, rfl, Fr.rf, bI_f (fun q => q.1 (bI_n.1 h11))⟩)
  · refine v_aload_n hC 3 dX3_blocks_14 rfl rfl ?_
    refine v_iload_n hC 2 dX3_blocks_15 rfl rfl ?_
    refine v_callI1 hC (cwX3_150 hC ⟨Nat.le_of_ble_eq_true rfl, Nat.le_of_ble_eq_true rfl⟩) dX3_blocks_16 rfl rfl rfl (Nat.zero_le _) (Nat.zero_le _) (Nat.le_of_ble_eq_true rfl) (by first | decide | (simp only [vdn]; omega)) (cX1_prefers_ok p s μ (by omega) hp1.1 hp1.2.1) (fun r1 μ1 hp => ?_)
    obtain ⟨rfl, rfl⟩ := hp
    refine v_if_ne hC 24 dX3_blocks_19 rfl (fun h19 => ?_) (fun h19 => ?_)
    · refine v_aload_n hC 0 dX3_blocks_24 rfl rfl ?_
      refine v_iload_n hC 2 dX3_blocks_25 rfl rfl ?_
      refine v_iload_n hC 1 dX3_blocks_26 rfl rfl ?_
      refine v_callV2 hC (cwX3_173 hC ⟨Nat.le_of_ble_eq_true rfl, Nat.le_of_ble_eq_true rfl⟩) dX3_blocks_27 rfl rfl rfl (Nat.zero_le _) (Nat.zero_le _) (Nat.le_of_ble_eq_true rfl) (by first | decide | (simp only [vdn]; omega)) (cX3_choose_ok s p μ hs (by omega) hSf0 hI) (fun μ1 hp => ?_)
      obtain ⟨hF1, hP1⟩ := hp
      have e5 : μ1 5 p = chV μ s (chO μ s p) p := hP1.2.1 p (by rw [hF1 1 0 (by decide)]; exact hp0)
      refine v_aload_n hC 0 dX3_blocks_30 rfl rfl ?_
      refine v_getR hC foX3_29 dX3_blocks_31 rfl rfl rfl (by decide) (by first | decide | (simp only [vdn]; omega)) ?_
      refine v_iload_n hC 1 dX3_blocks_34 rfl rfl ?_
      refine v_iald hC dX3_blocks_35 rfl rfl rfl (by first | decide | (simp only [vdn]; omega)) ⟨by first | omega | (simp only [mlen]; omega), by first | omega | (simp only [mlen]; omega)⟩ ?_
      try simp only [Int.toNat_natCast, upM_at, upM_nef, ne_eq, not_false_eq_true, Nat.reduceEqDiff, Nat.reduceAdd]
      refine v_iconst hC dX3_blocks_36 ⟨by decide, by decide⟩ ?_
      refine v_icmp_eq hC 44 dX3_blocks_37 rfl (fun h37 => ?_) (fun h37 => ?_)
      · refine v_iconst hC dX3_blocks_44 ⟨by decide, by decide⟩ ?_
        exact v_bret hC hR dX3_blocks_45 (by omega) (⟨_, rfl, hF1, bI_f (fun q => q.2.2 (by rw [← e5]; exact h37))⟩)
      · refine v_iconst hC dX3_blocks_40 ⟨by decide, by decide⟩ ?_
        refine v_goto hC 45 dX3_blocks_41 rfl ?_
        exact v_bret hC hR dX3_blocks_45 (by omega) (⟨_, rfl, hF1, bI_t ⟨bI_z.1 h11, bI_n.1 h19, fun q => h37 (by rw [e5]; exact q)⟩⟩)
    · refine v_iconst hC dX3_blocks_22 ⟨by decide, by decide⟩ ?_
      exact v_bret hC hR dX3_blocks_23 (by omega) (⟨_, rfl, Fr.rf, bI_f (fun q => bI_z.1 h19 q.2.1)⟩)
/-- the move that a chain makes next -/
def frP (μ : MU) (s k : Nat) : Prop := cntF (fun p => decide (holdP μ p s k)) (μ 1 0).toNat < μ 9 (3 * s + k)
def fwF (μ : MU) (s k : Nat) : Int := bst (μ 1 0).toNat (fun p => stdF μ p s k) 100000 (fun p => decide (waitP μ p s))
def mvK (μ : MU) (s : Nat) : Option Nat := fnd (fun k => decide (cntF (fun p => decide (holdP μ p s k)) (μ 1 0).toNat < μ 9 (3 * s + k) ∧ ¬ fwF μ s k = -1)) 0 (μ 6 s).toNat
def mvS (μ : MU) : Option Nat := fnd (fun s => (mvK μ s).isSome) 0 (μ 0 0).toNat
def mvM (μ : MU) : MU := match mvS μ with
  | none => μ
  | some s => match mvK μ s with
    | none => μ
    | some k => sitM μ (fwF μ s k).toNat s k
theorem mvM_none {μ : MU} (h : mvS μ = none) : mvM μ = μ := by
  unfold mvM; rw [h]
theorem fwF_r (μ : MU) (s k : Nat) (h : ¬ fwF μ s k = -1) : ∃ p : Nat, fwF μ s k = (p : Int) ∧ p < (μ 1 0).toNat ∧ waitP μ p s ∧ stdF μ p s k < 100000 := by
  rcases bst_spec (μ 1 0).toNat (fun p => stdF μ p s k) 100000 (fun p => decide (waitP μ p s)) with ⟨e, -⟩ | ⟨p, hp, e, hE, hlt, -⟩
  · exact absurd e h
  · exact ⟨p, e, hp, of_decide_eq_true hE, hlt⟩
abbrev rmX3_moveOne : Room := { frames := 4, cells := 0, slots := 0, locals := 91 }
set_option maxRecDepth 100000 in
set_option maxHeartbeats 4000000 in
theorem cX3_moveOne_ok (μ : MU) (hSf : Sf μ) : CTi yX3_moveOne cX3_moveOne 4 (some .boolean) rmX3_moveOne [aR 0 0] μ (fun r μ' => mvM μ = μ' ∧ r = bI ((mvS μ).isSome = true)) := by
  intro l9 b9 D9 K9
  refine met_of (by decide) (Nat.le_of_ble_eq_true rfl) (fun x hC hR hM hA => ?_)
  have hC : Ctx x RX3 cX3_moveOne rmX3_moveOne := hC
  have hSf0 := hSf
  obtain ⟨⟨s1, s2⟩, ⟨n1, n2⟩, hr, hkc, hq, hpp, hli, hnu⟩ := hSf
  refine v_iconst hC dX3_moveOne_0 ⟨by decide, by decide⟩ ?_
  refine v_istore_n hC 1 dX3_moveOne_1 rfl (Nat.le_of_ble_eq_true rfl) ?_
  refine v_loop (fun s : Nat => (μ 0 0).toNat - s) (fun s => s ≤ 6 ∧ fnd (fun s => (mvK μ s).isSome) s ((μ 0 0).toNat - s) = mvS μ) (fun s => V x 0 0 none 2 [some (aR 0 0), some (aI (s : Int)), none, none] [] μ) (fun s hs ih => ?_) 0 ⟨by decide, rfl⟩
  refine v_iload_n hC 1 dX3_moveOne_2 rfl rfl ?_
  refine v_aload_n hC 0 dX3_moveOne_3 rfl rfl ?_
  refine v_getI hC foX3_36 dX3_moveOne_4 rfl rfl rfl (by first | decide | (simp only [vdn]; omega)) ?_
  try simp only [Int.toNat_natCast, upM_at, upM_nef, ne_eq, not_false_eq_true, Nat.reduceEqDiff, Nat.reduceAdd]
  refine v_icmp_ge hC 85 dX3_moveOne_7 rfl (fun h7 => ?_) (fun h7 => ?_)
  · refine v_iconst hC dX3_moveOne_85 ⟨by decide, by decide⟩ ?_
    exact v_bret hC hR dX3_moveOne_86 (by omega) (⟨_, rfl, mvM_none (by rw [← hs.2, fnd_done (by omega)]), bI_f (by rw [← hs.2, fnd_done (by omega)]; exact Bool.false_ne_true)⟩)
  · refine v_iconst hC dX3_moveOne_10 ⟨by decide, by decide⟩ ?_
    refine v_istore_n hC 2 dX3_moveOne_11 rfl (Nat.le_of_ble_eq_true rfl) ?_
    have hk1 := hkc s (by omega)
    refine v_loop (fun k : Nat => (μ 6 s).toNat - k) (fun k => k ≤ 3 ∧ fnd (fun k => decide (cntF (fun p => decide (holdP μ p s k)) (μ 1 0).toNat < μ 9 (3 * s + k) ∧ ¬ fwF μ s k = -1)) k ((μ 6 s).toNat - k) = mvK μ s) (fun k => V x 0 0 none 12 [some (aR 0 0), some (aI (s : Int)), some (aI (k : Int)), none] [] μ) (fun k hk ih2 => ?_) 0 ⟨by decide, rfl⟩
    refine v_iload_n hC 2 dX3_moveOne_12 rfl rfl ?_
    refine v_aload_n hC 0 dX3_moveOne_13 rfl rfl ?_
    refine v_getR hC foX3_11 dX3_moveOne_14 rfl rfl rfl (by decide) (by first | decide | (simp only [vdn]; omega)) ?_
    refine v_iload_n hC 1 dX3_moveOne_17 rfl rfl ?_
    refine v_aald hC dX3_moveOne_18 rfl rfl (fun _ => rfl) rfl (by decide) (by first | decide | (simp only [vdn]; omega)) ⟨by first | omega | (simp only [mlen]; omega), by first | omega | (simp only [mlen]; omega)⟩ ?_
    try simp only [Int.toNat_natCast, upM_at, upM_nef, ne_eq, not_false_eq_true, Nat.reduceEqDiff, Nat.reduceAdd]
    refine v_getI hC foX3_50 dX3_moveOne_19 rfl rfl rfl (by first | decide | (simp only [vdn]; omega)) ?_
    try simp only [Int.toNat_natCast, upM_at, upM_nef, ne_eq, not_false_eq_true, Nat.reduceEqDiff, Nat.reduceAdd]
    refine v_icmp_ge hC 79 dX3_moveOne_22 rfl (fun h22 => ?_) (fun h22 => ?_)
    · refine v_iinc hC dX3_moveOne_79 rfl ⟨by omega, by omega⟩ ?_
      refine v_goto hC 2 dX3_moveOne_82 rfl ?_
      refine v_forget 2 (v_forget 3 ?_)
      exact ih (s + 1) ⟨by omega, fnd_next (by omega) (by rw [← hk.2, fnd_done (by omega)]; exact Bool.false_ne_true) hs.2⟩ (by omega)
    · refine v_aload_n hC 0 dX3_moveOne_25 rfl rfl ?_
      refine v_iload_n hC 1 dX3_moveOne_26 rfl rfl ?_
      refine v_iload_n hC 2 dX3_moveOne_27 rfl rfl ?_
      refine v_callI2 hC (cwX3_139 hC ⟨Nat.le_of_ble_eq_true rfl, Nat.le_of_ble_eq_true rfl⟩) dX3_moveOne_28 rfl rfl rfl (Nat.zero_le _) (Nat.zero_le _) (Nat.le_of_ble_eq_true rfl) (by first | decide | (simp only [vdn]; omega)) (cX3_countHolders_ok s k μ hSf0) (fun r1 μ1 hp => ?_)
      obtain ⟨rfl, rfl⟩ := hp
      refine v_aload_n hC 0 dX3_moveOne_31 rfl rfl ?_
      refine v_getR hC foX3_11 dX3_moveOne_32 rfl rfl rfl (by decide) (by first | decide | (simp only [vdn]; omega)) ?_
      refine v_iload_n hC 1 dX3_moveOne_35 rfl rfl ?_
      refine v_aald hC dX3_moveOne_36 rfl rfl (fun _ => rfl) rfl (by decide) (by first | decide | (simp only [vdn]; omega)) ⟨by first | omega | (simp only [mlen]; omega), by first | omega | (simp only [mlen]; omega)⟩ ?_
      try simp only [Int.toNat_natCast, upM_at, upM_nef, ne_eq, not_false_eq_true, Nat.reduceEqDiff, Nat.reduceAdd]
      refine v_getR hC foX3_53 dX3_moveOne_37 rfl rfl rfl (by decide) (by first | decide | (simp only [vdn]; omega)) ?_
      refine v_iload_n hC 2 dX3_moveOne_40 rfl rfl ?_
      refine v_aald hC dX3_moveOne_41 rfl rfl (fun _ => rfl) rfl (by decide) (by first | decide | (simp only [vdn]; omega)) ⟨by first | omega | (simp only [mlen]; omega), by first | omega | (simp only [mlen]; omega)⟩ ?_
      try simp only [Int.toNat_natCast, upM_at, upM_nef, ne_eq, not_false_eq_true, Nat.reduceEqDiff, Nat.reduceAdd]
      refine v_getI hC foX3_57 dX3_moveOne_42 rfl rfl rfl (by first | decide | (simp only [vdn]; omega)) ?_
      try simp only [Int.toNat_natCast, upM_at, upM_nef, ne_eq, not_false_eq_true, Nat.reduceEqDiff, Nat.reduceAdd]
      refine v_icmp_ge hC 73 dX3_moveOne_45 rfl (fun h45 => ?_) (fun h45 => ?_)
      · refine v_iinc hC dX3_moveOne_73 rfl ⟨by omega, by omega⟩ ?_
        refine v_goto hC 12 dX3_moveOne_76 rfl ?_
        exact ih2 (k + 1) ⟨by omega, fnd_next (by omega) (fun h => by have := (of_decide_eq_true h).1; omega) hk.2⟩ (by omega)
      · refine v_aload_n hC 0 dX3_moveOne_48 rfl rfl ?_
        refine v_iload_n hC 1 dX3_moveOne_49 rfl rfl ?_
        refine v_iload_n hC 2 dX3_moveOne_50 rfl rfl ?_
        refine v_callI2 hC (cwX3_191 hC ⟨Nat.le_of_ble_eq_true rfl, Nat.le_of_ble_eq_true rfl⟩) dX3_moveOne_51 rfl rfl rfl (Nat.zero_le _) (Nat.zero_le _) (Nat.le_of_ble_eq_true rfl) (by first | decide | (simp only [vdn]; omega)) (cX3_firstWaiting_ok s k μ (by omega) (by omega) hSf0) (fun r1 μ1 hp => ?_)
        obtain ⟨rfl, hr9⟩ := hp
        have hr9 : r1 = fwF μ s k := hr9
        subst hr9
        refine v_istore_n hC 3 dX3_moveOne_54 rfl (Nat.le_of_ble_eq_true rfl) ?_
        refine v_iload_n hC 3 dX3_moveOne_55 rfl rfl ?_
        refine v_iconst hC dX3_moveOne_56 ⟨by decide, by decide⟩ ?_
        refine v_icmp_eq hC 73 dX3_moveOne_57 rfl (fun h57 => ?_) (fun h57 => ?_)
        · refine v_iinc hC dX3_moveOne_73 rfl ⟨by omega, by omega⟩ ?_
          refine v_goto hC 12 dX3_moveOne_76 rfl ?_
          refine v_forget 3 ?_
          exact ih2 (k + 1) ⟨by omega, fnd_next (by omega) (fun h => (of_decide_eq_true h).2 h57) hk.2⟩ (by omega)
        · obtain ⟨pw, e9, hpw, -, -⟩ := fwF_r μ s k h57
          have hmk : mvK μ s = some k := by rw [← hk.2, fnd_yes (by omega) (decide_eq_true ⟨by omega, h57⟩)]
          have hms : mvS μ = some s := by rw [← hs.2, fnd_yes (by omega) (by rw [hmk]; rfl)]
          have hmm : mvM μ = sitM μ pw s k := by unfold mvM; rw [hms]; dsimp only; rw [hmk]; dsimp only; rw [e9, Int.toNat_natCast]
          rw [e9]
          refine v_aload_n hC 0 dX3_moveOne_60 rfl rfl ?_
          refine v_getR hC foX3_18 dX3_moveOne_61 rfl rfl rfl (by decide) (by first | decide | (simp only [vdn]; omega)) ?_
          refine v_iload_n hC 3 dX3_moveOne_64 rfl rfl ?_
          refine v_aald hC dX3_moveOne_65 rfl rfl (fun _ => rfl) rfl (by decide) (by first | decide | (simp only [vdn]; omega)) ⟨by first | omega | (simp only [mlen]; omega), by first | omega | (simp only [mlen]; omega)⟩ ?_
          try simp only [Int.toNat_natCast, upM_at, upM_nef, ne_eq, not_false_eq_true, Nat.reduceEqDiff, Nat.reduceAdd]
          refine v_iload_n hC 1 dX3_moveOne_66 rfl rfl ?_
          refine v_iload_n hC 2 dX3_moveOne_67 rfl rfl ?_
          refine v_callV2 hC (cwX3_126 hC ⟨Nat.le_of_ble_eq_true rfl, Nat.le_of_ble_eq_true rfl⟩) dX3_moveOne_68 rfl rfl rfl (Nat.zero_le _) (Nat.zero_le _) (Nat.le_of_ble_eq_true rfl) (by first | decide | (simp only [vdn]; omega)) (cX1_sitAt_ok pw s k μ (by omega)) (fun μ1 hp => ?_)
          subst hp
          refine v_iconst hC dX3_moveOne_71 ⟨by decide, by decide⟩ ?_
          exact v_bret hC hR dX3_moveOne_72 (by omega) (⟨_, rfl, hmm, bI_t (by rw [hms]; rfl)⟩)
end
section
/-! The office's calls that throw nothing. -/
theorem fin_f {α : Type} {P : Prop} [Decidable P] {a b : α} (h : ¬ P) : (if P then a else b) = b ∧ 0 = bI P := ⟨if_neg h, bI_f h⟩
theorem fin_t {α : Type} {P : Prop} [Decidable P] {a b : α} (h : P) : (if P then a else b) = a ∧ 1 = bI P := ⟨if_pos h, bI_t h⟩
def drF (μ : MU) (P S n : Int) : Option Nat := fnd (fun q => decide (¬ (q : Int) = P ∧ μ 12 (6 * q + S.toNat) = n)) 0 (μ 1 0).toNat
abbrev drP (μ : MU) (P S n : Int) : Prop := (isP μ P ∧ isS μ S ∧ 0 ≤ n ∧ n ≤ 999 ∧ μ 2 0 = 0) ∧ drF μ P S n = none
def drM (μ : MU) (P S n : Int) : MU := if drP μ P S n then upM μ 12 (6 * P.toNat + S.toNat) n else μ
abbrev apP (μ : MU) (P f : Int) : Prop := isP μ P ∧ 0 ≤ f ∧ f ≤ 15
def apM (μ : MU) (P f : Int) : MU := if apP μ P f then upM μ 13 P.toNat f else μ
abbrev stP (μ : MU) (P n : Int) : Prop := isP μ P ∧ 0 ≤ n ∧ n ≤ 4 ∧ ¬ μ 2 0 = 0 ∧ ¬ μ 18 P.toNat = 3
def stM (μ : MU) (P n : Int) : MU := if stP μ P n then upM μ 19 P.toNat n else μ
abbrev anC (μ : MU) (P : Int) : Prop := isP μ P ∧ ¬ μ 2 0 = 0 ∧ ¬ μ 18 P.toNat = 3
def anM (μ : MU) (P w : Int) : MU := if anC μ P then (if w = 0 then accM μ P.toNat else if w = 1 then decM μ P.toNat else if w = 2 then leaM μ P.toNat 3 else μ) else μ
def anR (μ : MU) (P w : Int) : Int := if anC μ P then (if w = 0 ∨ w = 1 then bI (mayP μ P.toNat) else if w = 2 then 1 else 0) else 0
def seF (μ : MU) (P w : Int) : Int := if isP μ P then (if w = 0 then μ 15 P.toNat else if w = 1 then μ 16 P.toNat else if w = 2 then μ 17 P.toNat else if w = 3 then μ 18 P.toNat else if w = 4 then μ 19 P.toNat else if w = 5 then μ 13 P.toNat else -1) else -1
def laF (μ : MU) (s k : Nat) : Int := (itr (maxS (fun p => decide (holdP μ p s k)) (fun p => stdF μ p s k)) 0 (μ 1 0).toNat (-1, -1)).1
def heF (μ : MU) (S K w : Int) : Int := if isS μ S ∧ 0 ≤ K ∧ K < μ 6 S.toNat then (if w = 0 then μ 9 (3 * S.toNat + K.toNat) else if w = 1 then cntF (fun p => decide (holdP μ p (S.toNat : Int) (K.toNat : Int))) (μ 1 0).toNat else if w = 2 then laF μ S.toNat K.toNat else -1) else -1
def whF (μ : MU) (P S : Int) : Int := if isP μ P ∧ isS μ S then (if μ 15 P.toNat = S then 0 else if oI (plF μ P.toNat S) = -1 then 1 else if (admF μ S.toNat (μ 13 P.toNat)).isSome = true then (if prefP μ P.toNat S then 4 else 3) else 2) else -1
def lkF (μ : MU) (w : Int) : Int := if w = 0 then μ 0 0 else if w = 1 then μ 1 0 else if w = 2 then (if μ 2 0 = 0 then 0 else 1) else if w = 3 then itr (fun p a => a + μ 17 p) 0 (μ 1 0).toNat (0 : Int) else if w = 4 then cntF (fun p => decide (¬ μ 15 p = -1)) (μ 1 0).toNat else -1
abbrev rmX3_draw : Room := { frames := 1, cells := 0, slots := 0, locals := 21 }
set_option maxRecDepth 100000 in
set_option maxHeartbeats 4000000 in
theorem cX3_draw_ok (P S n : Int) (μ : MU) (hSf : Sf μ) : CTi yX3_draw cX3_draw 5 (some .boolean) rmX3_draw [aR 0 0, aI P, aI S, aI n] μ (fun r μ' => drM μ P S n = μ' ∧ r = bI (drP μ P S n)) := by
  intro l9 b9 D9 K9
  refine met_of (by decide) (Nat.le_of_ble_eq_true rfl) (fun x hC hR hM hA => ?_)
  have hC : Ctx x RX3 cX3_draw rmX3_draw := hC
  obtain ⟨⟨s1, s2⟩, ⟨n1, n2⟩, hr, hkc, hq, hpp, hli, hnu⟩ := hSf
  refine v_aload_n hC 0 dX3_draw_0 rfl rfl ?_
  refine v_iload_n hC 1 dX3_draw_1 rfl rfl ?_
  refine v_callI1 hC (cwX3_78 hC ⟨Nat.le_of_ble_eq_true rfl, Nat.le_of_ble_eq_true rfl⟩) dX3_draw_2 rfl rfl rfl (Nat.zero_le _) (Nat.zero_le _) (Nat.le_of_ble_eq_true rfl) (by first | decide | (simp only [vdn]; omega)) (cX3_isPupil_ok P μ) (fun r1 μ1 hp => ?_)
  obtain ⟨rfl, rfl⟩ := hp
  refine v_if_eq hC 34 dX3_draw_5 rfl (fun h5 => ?_) (fun h5 => ?_)
  · refine v_iconst hC dX3_draw_34 ⟨by decide, by decide⟩ ?_
    exact v_bret hC hR dX3_draw_35 (by omega) (⟨_, rfl, fin_f (fun q => bI_z.1 h5 q.1.1)⟩)
  · refine v_aload_n hC 0 dX3_draw_8 rfl rfl ?_
    refine v_iload_n hC 2 dX3_draw_9 rfl rfl ?_
    refine v_callI1 hC (cwX3_43 hC ⟨Nat.le_of_ble_eq_true rfl, Nat.le_of_ble_eq_true rfl⟩) dX3_draw_10 rfl rfl rfl (Nat.zero_le _) (Nat.zero_le _) (Nat.le_of_ble_eq_true rfl) (by first | decide | (simp only [vdn]; omega)) (cX3_isSchool_ok S μ) (fun r1 μ1 hp => ?_)
    obtain ⟨rfl, rfl⟩ := hp
    refine v_if_eq hC 34 dX3_draw_13 rfl (fun h13 => ?_) (fun h13 => ?_)
    · refine v_iconst hC dX3_draw_34 ⟨by decide, by decide⟩ ?_
      exact v_bret hC hR dX3_draw_35 (by omega) (⟨_, rfl, fin_f (fun q => bI_z.1 h13 q.1.2.1)⟩)
    · refine v_iload_n hC 3 dX3_draw_16 rfl rfl ?_
      refine v_if_lt hC 34 dX3_draw_17 rfl (fun h17 => ?_) (fun h17 => ?_)
      · refine v_iconst hC dX3_draw_34 ⟨by decide, by decide⟩ ?_
        exact v_bret hC hR dX3_draw_35 (by omega) (⟨_, rfl, fin_f (fun q => by have := q.1.2.2.1; omega)⟩)
      · refine v_iload_n hC 3 dX3_draw_20 rfl rfl ?_
        refine v_sipush hC dX3_draw_21 ⟨by decide, by decide⟩ ?_
        refine v_icmp_gt hC 34 dX3_draw_24 rfl (fun h24 => ?_) (fun h24 => ?_)
        · refine v_iconst hC dX3_draw_34 ⟨by decide, by decide⟩ ?_
          exact v_bret hC hR dX3_draw_35 (by omega) (⟨_, rfl, fin_f (fun q => by have := q.1.2.2.2.1; omega)⟩)
        · refine v_aload_n hC 0 dX3_draw_27 rfl rfl ?_
          refine v_getI hC foX3_32 dX3_draw_28 rfl rfl rfl (by first | decide | (simp only [vdn]; omega)) ?_
          try simp only [Int.toNat_natCast, upM_at, upM_nef, ne_eq, not_false_eq_true, Nat.reduceEqDiff, Nat.reduceAdd]
          refine v_if_eq hC 36 dX3_draw_31 rfl (fun h31 => ?_) (fun h31 => ?_)
          · refine v_iconst hC dX3_draw_36 ⟨by decide, by decide⟩ ?_
            refine v_istore hC dX3_draw_37 (Nat.le_of_ble_eq_true rfl) ?_
            obtain ⟨p1, p2⟩ := bI_n.1 h5
            obtain ⟨q1, q2⟩ := bI_n.1 h13
            refine v_loop (fun i : Nat => (μ 1 0).toNat - i) (fun i => i ≤ 20 ∧ fnd (fun q => decide (¬ (q : Int) = P ∧ μ 12 (6 * q + S.toNat) = n)) i ((μ 1 0).toNat - i) = drF μ P S n) (fun i => V x 0 0 none 39 [some (aR 0 0), some (aI P), some (aI S), some (aI n), some (aI (i : Int))] [] μ) (fun i hi ih => ?_) 0 ⟨by decide, rfl⟩
            refine v_iload hC dX3_draw_39 rfl ?_
            refine v_aload_n hC 0 dX3_draw_41 rfl rfl ?_
            refine v_getI hC foX3_69 dX3_draw_42 rfl rfl rfl (by first | decide | (simp only [vdn]; omega)) ?_
            try simp only [Int.toNat_natCast, upM_at, upM_nef, ne_eq, not_false_eq_true, Nat.reduceEqDiff, Nat.reduceAdd]
            refine v_icmp_ge hC 78 dX3_draw_45 rfl (fun h45 => ?_) (fun h45 => ?_)
            · refine v_aload_n hC 0 dX3_draw_78 rfl rfl ?_
              refine v_getR hC foX3_18 dX3_draw_79 rfl rfl rfl (by decide) (by first | decide | (simp only [vdn]; omega)) ?_
              refine v_iload_n hC 1 dX3_draw_82 rfl rfl ?_
              refine v_aald hC dX3_draw_83 rfl rfl (fun _ => rfl) rfl (by decide) (by first | decide | (simp only [vdn]; omega)) ⟨by first | omega | (simp only [mlen]; omega), by first | omega | (simp only [mlen]; omega)⟩ ?_
              try simp only [Int.toNat_natCast, upM_at, upM_nef, ne_eq, not_false_eq_true, Nat.reduceEqDiff, Nat.reduceAdd]
              refine v_getR hC foX3_91 dX3_draw_84 rfl rfl rfl (by decide) (by first | decide | (simp only [vdn]; omega)) ?_
              refine v_iload_n hC 2 dX3_draw_87 rfl rfl ?_
              refine v_iload_n hC 3 dX3_draw_88 rfl rfl ?_
              refine v_iast hC dX3_draw_89 rfl rfl rfl (by decide) (by first | decide | (simp only [vdn]; omega)) ⟨by first | omega | (simp only [mlen]; omega), by first | omega | (simp only [mlen]; omega)⟩ ?_
              try simp only [Int.toNat_natCast, upM_at, upM_nef, ne_eq, not_false_eq_true, Nat.reduceEqDiff, Nat.reduceAdd]
              refine v_iconst hC dX3_draw_90 ⟨by decide, by decide⟩ ?_
              exact v_bret hC hR dX3_draw_91 (by omega) (⟨_, rfl, fin_t ⟨⟨⟨p1, p2⟩, ⟨q1, q2⟩, by omega, by omega, h31⟩, by rw [← hi.2, fnd_done (by omega)]⟩⟩)
            · refine v_iload hC dX3_draw_48 rfl ?_
              refine v_iload_n hC 1 dX3_draw_50 rfl rfl ?_
              refine v_icmp_eq hC 72 dX3_draw_51 rfl (fun h51 => ?_) (fun h51 => ?_)
              · refine v_iinc hC dX3_draw_72 rfl ⟨by omega, by omega⟩ ?_
                refine v_goto hC 39 dX3_draw_75 rfl ?_
                exact ih (i + 1) ⟨by omega, fnd_next (by omega) (fun h => (of_decide_eq_true h).1 h51) hi.2⟩ (by omega)
              · refine v_aload_n hC 0 dX3_draw_54 rfl rfl ?_
                refine v_getR hC foX3_18 dX3_draw_55 rfl rfl rfl (by decide) (by first | decide | (simp only [vdn]; omega)) ?_
                refine v_iload hC dX3_draw_58 rfl ?_
                refine v_aald hC dX3_draw_60 rfl rfl (fun _ => rfl) rfl (by decide) (by first | decide | (simp only [vdn]; omega)) ⟨by first | omega | (simp only [mlen]; omega), by first | omega | (simp only [mlen]; omega)⟩ ?_
                try simp only [Int.toNat_natCast, upM_at, upM_nef, ne_eq, not_false_eq_true, Nat.reduceEqDiff, Nat.reduceAdd]
                refine v_getR hC foX3_91 dX3_draw_61 rfl rfl rfl (by decide) (by first | decide | (simp only [vdn]; omega)) ?_
                refine v_iload_n hC 2 dX3_draw_64 rfl rfl ?_
                refine v_iald hC dX3_draw_65 rfl rfl rfl (by first | decide | (simp only [vdn]; omega)) ⟨by first | omega | (simp only [mlen]; omega), by first | omega | (simp only [mlen]; omega)⟩ ?_
                try simp only [Int.toNat_natCast, upM_at, upM_nef, ne_eq, not_false_eq_true, Nat.reduceEqDiff, Nat.reduceAdd]
                refine v_iload_n hC 3 dX3_draw_66 rfl rfl ?_
                refine v_icmp_ne hC 72 dX3_draw_67 rfl (fun h67 => ?_) (fun h67 => ?_)
                · refine v_iinc hC dX3_draw_72 rfl ⟨by omega, by omega⟩ ?_
                  refine v_goto hC 39 dX3_draw_75 rfl ?_
                  exact ih (i + 1) ⟨by omega, fnd_next (by omega) (fun h => h67 (of_decide_eq_true h).2) hi.2⟩ (by omega)
                · refine v_iconst hC dX3_draw_70 ⟨by decide, by decide⟩ ?_
                  exact v_bret hC hR dX3_draw_71 (by omega) (⟨_, rfl, fin_f (fun q => by have h9 := q.2; rw [← hi.2, fnd_yes (by omega) (decide_eq_true ⟨h51, h67⟩)] at h9; cases h9)⟩)
          · refine v_iconst hC dX3_draw_34 ⟨by decide, by decide⟩ ?_
            exact v_bret hC hR dX3_draw_35 (by omega) (⟨_, rfl, fin_f (fun q => h31 q.1.2.2.2.2)⟩)
abbrev rmX3_appeal : Room := { frames := 1, cells := 0, slots := 0, locals := 21 }
set_option maxRecDepth 100000 in
set_option maxHeartbeats 4000000 in
theorem cX3_appeal_ok (P f : Int) (μ : MU) (hSf : Sf μ) : CTi yX3_appeal cX3_appeal 3 (some .boolean) rmX3_appeal [aR 0 0, aI P, aI f] μ (fun r μ' => apM μ P f = μ' ∧ r = bI (apP μ P f)) := by
  intro l9 b9 D9 K9
  refine met_of (by decide) (Nat.le_of_ble_eq_true rfl) (fun x hC hR hM hA => ?_)
  have hC : Ctx x RX3 cX3_appeal rmX3_appeal := hC
  obtain ⟨⟨s1, s2⟩, ⟨n1, n2⟩, hr, hkc, hq, hpp, hli, hnu⟩ := hSf
  refine v_aload_n hC 0 dX3_appeal_0 rfl rfl ?_
  refine v_iload_n hC 1 dX3_appeal_1 rfl rfl ?_
  refine v_callI1 hC (cwX3_78 hC ⟨Nat.le_of_ble_eq_true rfl, Nat.le_of_ble_eq_true rfl⟩) dX3_appeal_2 rfl rfl rfl (Nat.zero_le _) (Nat.zero_le _) (Nat.le_of_ble_eq_true rfl) (by first | decide | (simp only [vdn]; omega)) (cX3_isPupil_ok P μ) (fun r1 μ1 hp => ?_)
  obtain ⟨rfl, rfl⟩ := hp
  refine v_if_eq hC 15 dX3_appeal_5 rfl (fun h5 => ?_) (fun h5 => ?_)
  · refine v_iconst hC dX3_appeal_15 ⟨by decide, by decide⟩ ?_
    exact v_bret hC hR dX3_appeal_16 (by omega) (⟨_, rfl, fin_f (fun q => bI_z.1 h5 q.1)⟩)
  · refine v_iload_n hC 2 dX3_appeal_8 rfl rfl ?_
    refine v_callSI1 hC (cwX3_66 hC ⟨Nat.le_of_ble_eq_true rfl, Nat.le_of_ble_eq_true rfl⟩) dX3_appeal_9 (Nat.zero_le _) (Nat.zero_le _) (Nat.le_of_ble_eq_true rfl) (cX3_areFlags_ok f μ) (fun r1 μ1 hp => ?_)
    obtain ⟨rfl, rfl⟩ := hp
    refine v_if_ne hC 17 dX3_appeal_12 rfl (fun h12 => ?_) (fun h12 => ?_)
    · obtain ⟨p1, p2⟩ := bI_n.1 h5
      refine v_aload_n hC 0 dX3_appeal_17 rfl rfl ?_
      refine v_getR hC foX3_18 dX3_appeal_18 rfl rfl rfl (by decide) (by first | decide | (simp only [vdn]; omega)) ?_
      refine v_iload_n hC 1 dX3_appeal_21 rfl rfl ?_
      refine v_aald hC dX3_appeal_22 rfl rfl (fun _ => rfl) rfl (by decide) (by first | decide | (simp only [vdn]; omega)) ⟨by first | omega | (simp only [mlen]; omega), by first | omega | (simp only [mlen]; omega)⟩ ?_
      try simp only [Int.toNat_natCast, upM_at, upM_nef, ne_eq, not_false_eq_true, Nat.reduceEqDiff, Nat.reduceAdd]
      refine v_iload_n hC 2 dX3_appeal_23 rfl rfl ?_
      refine v_putI hC fwX3_72 dX3_appeal_24 rfl rfl rfl (by decide) (by first | decide | (simp only [vdn]; omega)) ?_
      refine v_iconst hC dX3_appeal_27 ⟨by decide, by decide⟩ ?_
      exact v_bret hC hR dX3_appeal_28 (by omega) (⟨_, rfl, fin_t ⟨⟨p1, p2⟩, bI_n.1 h12⟩⟩)
    · refine v_iconst hC dX3_appeal_15 ⟨by decide, by decide⟩ ?_
      exact v_bret hC hR dX3_appeal_16 (by omega) (⟨_, rfl, fin_f (fun q => bI_z.1 h12 q.2)⟩)
abbrev rmX3_stay : Room := { frames := 1, cells := 0, slots := 0, locals := 21 }
set_option maxRecDepth 100000 in
set_option maxHeartbeats 4000000 in
theorem cX3_stay_ok (P n : Int) (μ : MU) (hSf : Sf μ) : CTi yX3_stay cX3_stay 3 (some .boolean) rmX3_stay [aR 0 0, aI P, aI n] μ (fun r μ' => stM μ P n = μ' ∧ r = bI (stP μ P n)) := by
  intro l9 b9 D9 K9
  refine met_of (by decide) (Nat.le_of_ble_eq_true rfl) (fun x hC hR hM hA => ?_)
  have hC : Ctx x RX3 cX3_stay rmX3_stay := hC
  obtain ⟨⟨s1, s2⟩, ⟨n1, n2⟩, hr, hkc, hq, hpp, hli, hnu⟩ := hSf
  refine v_aload_n hC 0 dX3_stay_0 rfl rfl ?_
  refine v_iload_n hC 1 dX3_stay_1 rfl rfl ?_
  refine v_callI1 hC (cwX3_78 hC ⟨Nat.le_of_ble_eq_true rfl, Nat.le_of_ble_eq_true rfl⟩) dX3_stay_2 rfl rfl rfl (Nat.zero_le _) (Nat.zero_le _) (Nat.le_of_ble_eq_true rfl) (by first | decide | (simp only [vdn]; omega)) (cX3_isPupil_ok P μ) (fun r1 μ1 hp => ?_)
  obtain ⟨rfl, rfl⟩ := hp
  refine v_if_eq hC 36 dX3_stay_5 rfl (fun h5 => ?_) (fun h5 => ?_)
  · refine v_iconst hC dX3_stay_36 ⟨by decide, by decide⟩ ?_
    exact v_bret hC hR dX3_stay_37 (by omega) (⟨_, rfl, fin_f (fun q => bI_z.1 h5 q.1)⟩)
  · refine v_iload_n hC 2 dX3_stay_8 rfl rfl ?_
    refine v_if_lt hC 36 dX3_stay_9 rfl (fun h9 => ?_) (fun h9 => ?_)
    · refine v_iconst hC dX3_stay_36 ⟨by decide, by decide⟩ ?_
      exact v_bret hC hR dX3_stay_37 (by omega) (⟨_, rfl, fin_f (fun q => by have := q.2.1; omega)⟩)
    · refine v_iload_n hC 2 dX3_stay_12 rfl rfl ?_
      refine v_iconst hC dX3_stay_13 ⟨by decide, by decide⟩ ?_
      refine v_icmp_gt hC 36 dX3_stay_14 rfl (fun h14 => ?_) (fun h14 => ?_)
      · refine v_iconst hC dX3_stay_36 ⟨by decide, by decide⟩ ?_
        exact v_bret hC hR dX3_stay_37 (by omega) (⟨_, rfl, fin_f (fun q => by have := q.2.2.1; omega)⟩)
      · refine v_aload_n hC 0 dX3_stay_17 rfl rfl ?_
        refine v_getI hC foX3_32 dX3_stay_18 rfl rfl rfl (by first | decide | (simp only [vdn]; omega)) ?_
        try simp only [Int.toNat_natCast, upM_at, upM_nef, ne_eq, not_false_eq_true, Nat.reduceEqDiff, Nat.reduceAdd]
        refine v_if_eq hC 36 dX3_stay_21 rfl (fun h21 => ?_) (fun h21 => ?_)
        · refine v_iconst hC dX3_stay_36 ⟨by decide, by decide⟩ ?_
          exact v_bret hC hR dX3_stay_37 (by omega) (⟨_, rfl, fin_f (fun q => q.2.2.2.1 h21)⟩)
        · obtain ⟨p1, p2⟩ := bI_n.1 h5
          refine v_aload_n hC 0 dX3_stay_24 rfl rfl ?_
          refine v_getR hC foX3_18 dX3_stay_25 rfl rfl rfl (by decide) (by first | decide | (simp only [vdn]; omega)) ?_
          refine v_iload_n hC 1 dX3_stay_28 rfl rfl ?_
          refine v_aald hC dX3_stay_29 rfl rfl (fun _ => rfl) rfl (by decide) (by first | decide | (simp only [vdn]; omega)) ⟨by first | omega | (simp only [mlen]; omega), by first | omega | (simp only [mlen]; omega)⟩ ?_
          try simp only [Int.toNat_natCast, upM_at, upM_nef, ne_eq, not_false_eq_true, Nat.reduceEqDiff, Nat.reduceAdd]
          refine v_callI0 hC (cwX3_104 hC ⟨Nat.le_of_ble_eq_true rfl, Nat.le_of_ble_eq_true rfl⟩) dX3_stay_30 rfl rfl rfl (Nat.zero_le _) (Nat.zero_le _) (Nat.le_of_ble_eq_true rfl) (by first | decide | (simp only [vdn]; omega)) (cX1_hasLeft_ok P.toNat μ (by omega)) (fun r1 μ1 hp => ?_)
          obtain ⟨rfl, rfl⟩ := hp
          refine v_if_eq hC 38 dX3_stay_33 rfl (fun h33 => ?_) (fun h33 => ?_)
          · refine v_aload_n hC 0 dX3_stay_38 rfl rfl ?_
            refine v_getR hC foX3_18 dX3_stay_39 rfl rfl rfl (by decide) (by first | decide | (simp only [vdn]; omega)) ?_
            refine v_iload_n hC 1 dX3_stay_42 rfl rfl ?_
            refine v_aald hC dX3_stay_43 rfl rfl (fun _ => rfl) rfl (by decide) (by first | decide | (simp only [vdn]; omega)) ⟨by first | omega | (simp only [mlen]; omega), by first | omega | (simp only [mlen]; omega)⟩ ?_
            try simp only [Int.toNat_natCast, upM_at, upM_nef, ne_eq, not_false_eq_true, Nat.reduceEqDiff, Nat.reduceAdd]
            refine v_iload_n hC 2 dX3_stay_44 rfl rfl ?_
            refine v_putI hC fwX3_117 dX3_stay_45 rfl rfl rfl (by decide) (by first | decide | (simp only [vdn]; omega)) ?_
            refine v_iconst hC dX3_stay_48 ⟨by decide, by decide⟩ ?_
            exact v_bret hC hR dX3_stay_49 (by omega) (⟨_, rfl, fin_t ⟨⟨p1, p2⟩, by omega, by omega, h21, bI_z.1 h33⟩⟩)
          · refine v_iconst hC dX3_stay_36 ⟨by decide, by decide⟩ ?_
            exact v_bret hC hR dX3_stay_37 (by omega) (⟨_, rfl, fin_f (fun q => q.2.2.2.2 (bI_n.1 h33))⟩)
abbrev rmX3_answer : Room := { frames := 3, cells := 0, slots := 0, locals := 62 }
set_option maxRecDepth 100000 in
set_option maxHeartbeats 4000000 in
theorem cX3_answer_ok (P w : Int) (μ : MU) (hSf : Sf μ) : CTi yX3_answer cX3_answer 4 (some .boolean) rmX3_answer [aR 0 0, aI P, aI w] μ (fun r μ' => anM μ P w = μ' ∧ r = anR μ P w) := by
  intro l9 b9 D9 K9
  refine met_of (by decide) (Nat.le_of_ble_eq_true rfl) (fun x hC hR hM hA => ?_)
  have hC : Ctx x RX3 cX3_answer rmX3_answer := hC
  obtain ⟨⟨s1, s2⟩, ⟨n1, n2⟩, hr, hkc, hq, hpp, hli, hnu⟩ := hSf
  refine v_aload_n hC 0 dX3_answer_0 rfl rfl ?_
  refine v_iload_n hC 1 dX3_answer_1 rfl rfl ?_
  refine v_callI1 hC (cwX3_78 hC ⟨Nat.le_of_ble_eq_true rfl, Nat.le_of_ble_eq_true rfl⟩) dX3_answer_2 rfl rfl rfl (Nat.zero_le _) (Nat.zero_le _) (Nat.le_of_ble_eq_true rfl) (by first | decide | (simp only [vdn]; omega)) (cX3_isPupil_ok P μ) (fun r1 μ1 hp => ?_)
  obtain ⟨rfl, rfl⟩ := hp
  refine v_if_eq hC 27 dX3_answer_5 rfl (fun h5 => ?_) (fun h5 => ?_)
  · refine v_iconst hC dX3_answer_27 ⟨by decide, by decide⟩ ?_
    exact v_bret hC hR dX3_answer_28 (by omega) (⟨_, rfl, if_neg (fun q => bI_z.1 h5 q.1), (if_neg (fun q => bI_z.1 h5 q.1)).symm⟩)
  · refine v_aload_n hC 0 dX3_answer_8 rfl rfl ?_
    refine v_getI hC foX3_32 dX3_answer_9 rfl rfl rfl (by first | decide | (simp only [vdn]; omega)) ?_
    try simp only [Int.toNat_natCast, upM_at, upM_nef, ne_eq, not_false_eq_true, Nat.reduceEqDiff, Nat.reduceAdd]
    refine v_if_eq hC 27 dX3_answer_12 rfl (fun h12 => ?_) (fun h12 => ?_)
    · refine v_iconst hC dX3_answer_27 ⟨by decide, by decide⟩ ?_
      exact v_bret hC hR dX3_answer_28 (by omega) (⟨_, rfl, if_neg (fun q => q.2.1 h12), (if_neg (fun q => q.2.1 h12)).symm⟩)
    · obtain ⟨p1, p2⟩ := bI_n.1 h5
      refine v_aload_n hC 0 dX3_answer_15 rfl rfl ?_
      refine v_getR hC foX3_18 dX3_answer_16 rfl rfl rfl (by decide) (by first | decide | (simp only [vdn]; omega)) ?_
      refine v_iload_n hC 1 dX3_answer_19 rfl rfl ?_
      refine v_aald hC dX3_answer_20 rfl rfl (fun _ => rfl) rfl (by decide) (by first | decide | (simp only [vdn]; omega)) ⟨by first | omega | (simp only [mlen]; omega), by first | omega | (simp only [mlen]; omega)⟩ ?_
      try simp only [Int.toNat_natCast, upM_at, upM_nef, ne_eq, not_false_eq_true, Nat.reduceEqDiff, Nat.reduceAdd]
      refine v_callI0 hC (cwX3_104 hC ⟨Nat.le_of_ble_eq_true rfl, Nat.le_of_ble_eq_true rfl⟩) dX3_answer_21 rfl rfl rfl (Nat.zero_le _) (Nat.zero_le _) (Nat.le_of_ble_eq_true rfl) (by first | decide | (simp only [vdn]; omega)) (cX1_hasLeft_ok P.toNat μ (by omega)) (fun r1 μ1 hp => ?_)
      obtain ⟨rfl, rfl⟩ := hp
      refine v_if_eq hC 29 dX3_answer_24 rfl (fun h24 => ?_) (fun h24 => ?_)
      · have hc : anC μ P := ⟨⟨p1, p2⟩, h12, bI_z.1 h24⟩
        refine v_aload_n hC 0 dX3_answer_29 rfl rfl ?_
        refine v_getR hC foX3_18 dX3_answer_30 rfl rfl rfl (by decide) (by first | decide | (simp only [vdn]; omega)) ?_
        refine v_iload_n hC 1 dX3_answer_33 rfl rfl ?_
        refine v_aald hC dX3_answer_34 rfl rfl (fun _ => rfl) rfl (by decide) (by first | decide | (simp only [vdn]; omega)) ⟨by first | omega | (simp only [mlen]; omega), by first | omega | (simp only [mlen]; omega)⟩ ?_
        try simp only [Int.toNat_natCast, upM_at, upM_nef, ne_eq, not_false_eq_true, Nat.reduceEqDiff, Nat.reduceAdd]
        refine v_astore_n hC 3 dX3_answer_35 rfl (Nat.le_of_ble_eq_true rfl) ?_
        refine v_iload_n hC 2 dX3_answer_36 rfl rfl ?_
        refine v_tsw hC dX3_answer_37 80 rfl (fun j => match j with | 0 => 64 | 1 => 69 | _ => 74) (fun j hj => by
          have hj : j < 3 := hj
          rcases (by omega : j = 0 ∨ j = 1 ∨ j = 2) with rfl | rfl | rfl <;> exact ⟨_, rfl, rfl⟩) rfl (fun h37 => ?_) (fun j hj h37 => ?_)
        · refine v_iconst hC dX3_answer_80 ⟨by decide, by decide⟩ ?_
          exact v_bret hC hR dX3_answer_81 (by omega) (⟨_, rfl, by rw [anM, if_pos hc, if_neg (by omega), if_neg (by omega), if_neg (by omega)], by rw [anR, if_pos hc, if_neg (by omega), if_neg (by omega)]⟩)
        · have hj : j < 3 := hj
          rcases (by omega : j = 0 ∨ j = 1 ∨ j = 2) with rfl | rfl | rfl
          · show V _ _ _ _ 64 _ _ _
            refine v_aload_n hC 3 dX3_answer_64 rfl rfl ?_
            refine v_callI0 hC (cwX3_108 hC ⟨Nat.le_of_ble_eq_true rfl, Nat.le_of_ble_eq_true rfl⟩) dX3_answer_65 rfl rfl rfl (Nat.zero_le _) (Nat.zero_le _) (Nat.le_of_ble_eq_true rfl) (by first | decide | (simp only [vdn]; omega)) (cX1_accept_ok P.toNat μ (by omega)) (fun r1 μ1 hp => ?_)
            obtain ⟨rfl, rfl⟩ := hp
            exact v_bret hC hR dX3_answer_68 bI_01 (⟨_, rfl, by rw [anM, if_pos hc, if_pos (by omega)], by rw [anR, if_pos hc, if_pos (Or.inl (by omega))]⟩)
          · show V _ _ _ _ 69 _ _ _
            refine v_aload_n hC 3 dX3_answer_69 rfl rfl ?_
            refine v_callI0 hC (cwX3_111 hC ⟨Nat.le_of_ble_eq_true rfl, Nat.le_of_ble_eq_true rfl⟩) dX3_answer_70 rfl rfl rfl (Nat.zero_le _) (Nat.zero_le _) (Nat.le_of_ble_eq_true rfl) (by first | decide | (simp only [vdn]; omega)) (cX1_decline_ok P.toNat μ (by omega)) (fun r1 μ1 hp => ?_)
            obtain ⟨rfl, rfl⟩ := hp
            exact v_bret hC hR dX3_answer_73 bI_01 (⟨_, rfl, by rw [anM, if_pos hc, if_neg (by omega), if_pos (by omega)], by rw [anR, if_pos hc, if_pos (Or.inr (by omega))]⟩)
          · show V _ _ _ _ 74 _ _ _
            refine v_aload_n hC 3 dX3_answer_74 rfl rfl ?_
            refine v_callV0 hC (cwX3_114 hC ⟨Nat.le_of_ble_eq_true rfl, Nat.le_of_ble_eq_true rfl⟩) dX3_answer_75 rfl rfl rfl (Nat.zero_le _) (Nat.zero_le _) (Nat.le_of_ble_eq_true rfl) (by first | decide | (simp only [vdn]; omega)) (cX1_leave_ok P.toNat μ (by omega)) (fun μ1 hp => ?_)
            subst hp
            refine v_iconst hC dX3_answer_78 ⟨by decide, by decide⟩ ?_
            exact v_bret hC hR dX3_answer_79 (by omega) (⟨_, rfl, by rw [anM, if_pos hc, if_neg (by omega), if_neg (by omega), if_pos (by omega)], by rw [anR, if_pos hc, if_neg (by omega), if_pos (by omega)]⟩)
      · refine v_iconst hC dX3_answer_27 ⟨by decide, by decide⟩ ?_
        exact v_bret hC hR dX3_answer_28 (by omega) (⟨_, rfl, if_neg (fun q => q.2.2 (bI_n.1 h24)), (if_neg (fun q => q.2.2 (bI_n.1 h24))).symm⟩)
abbrev rmX3_seat : Room := { frames := 1, cells := 0, slots := 0, locals := 21 }
set_option maxRecDepth 100000 in
set_option maxHeartbeats 4000000 in
theorem cX3_seat_ok (P w : Int) (μ : MU) (hSf : Sf μ) : CTi yX3_seat cX3_seat 4 (some .int) rmX3_seat [aR 0 0, aI P, aI w] μ (fun r μ' => μ = μ' ∧ r = seF μ P w) := by
  intro l9 b9 D9 K9
  refine met_of (by decide) (Nat.le_of_ble_eq_true rfl) (fun x hC hR hM hA => ?_)
  have hC : Ctx x RX3 cX3_seat rmX3_seat := hC
  obtain ⟨⟨s1, s2⟩, ⟨n1, n2⟩, hr, hkc, hq, hpp, hli, hnu⟩ := hSf
  refine v_aload_n hC 0 dX3_seat_0 rfl rfl ?_
  refine v_iload_n hC 1 dX3_seat_1 rfl rfl ?_
  refine v_callI1 hC (cwX3_78 hC ⟨Nat.le_of_ble_eq_true rfl, Nat.le_of_ble_eq_true rfl⟩) dX3_seat_2 rfl rfl rfl (Nat.zero_le _) (Nat.zero_le _) (Nat.le_of_ble_eq_true rfl) (by first | decide | (simp only [vdn]; omega)) (cX3_isPupil_ok P μ) (fun r1 μ1 hp => ?_)
  obtain ⟨rfl, rfl⟩ := hp
  refine v_if_ne hC 10 dX3_seat_5 rfl (fun h5 => ?_) (fun h5 => ?_)
  · obtain ⟨p1, p2⟩ := bI_n.1 h5
    refine v_aload_n hC 0 dX3_seat_10 rfl rfl ?_
    refine v_getR hC foX3_18 dX3_seat_11 rfl rfl rfl (by decide) (by first | decide | (simp only [vdn]; omega)) ?_
    refine v_iload_n hC 1 dX3_seat_14 rfl rfl ?_
    refine v_aald hC dX3_seat_15 rfl rfl (fun _ => rfl) rfl (by decide) (by first | decide | (simp only [vdn]; omega)) ⟨by first | omega | (simp only [mlen]; omega), by first | omega | (simp only [mlen]; omega)⟩ ?_
    try simp only [Int.toNat_natCast, upM_at, upM_nef, ne_eq, not_false_eq_true, Nat.reduceEqDiff, Nat.reduceAdd]
    refine v_astore_n hC 3 dX3_seat_16 rfl (Nat.le_of_ble_eq_true rfl) ?_
    refine v_iload_n hC 2 dX3_seat_17 rfl rfl ?_
    refine v_tsw hC dX3_seat_18 86 rfl (fun j => match j with | 0 => 56 | 1 => 61 | 2 => 66 | 3 => 71 | 4 => 76 | _ => 81) (fun j hj => by
      have hj : j < 6 := hj
      rcases (by omega : j = 0 ∨ j = 1 ∨ j = 2 ∨ j = 3 ∨ j = 4 ∨ j = 5) with rfl | rfl | rfl | rfl | rfl | rfl <;> exact ⟨_, rfl, rfl⟩) rfl (fun h18 => ?_) (fun j hj h18 => ?_)
    · refine v_iconst hC dX3_seat_86 ⟨by decide, by decide⟩ ?_
      exact v_iret hC hR dX3_seat_87 (⟨_, rfl, rfl, by rw [seF, if_pos ⟨p1, p2⟩, if_neg (by omega), if_neg (by omega), if_neg (by omega), if_neg (by omega), if_neg (by omega), if_neg (by omega)]⟩)
    · have hj : j < 6 := hj
      rcases (by omega : j = 0 ∨ j = 1 ∨ j = 2 ∨ j = 3 ∨ j = 4 ∨ j = 5) with rfl | rfl | rfl | rfl | rfl | rfl
      · show V _ _ _ _ 56 _ _ _
        refine v_aload_n hC 3 dX3_seat_56 rfl rfl ?_
        refine v_getI hC foX3_123 dX3_seat_57 rfl rfl rfl (by first | decide | (simp only [vdn]; omega)) ?_
        try simp only [Int.toNat_natCast, upM_at, upM_nef, ne_eq, not_false_eq_true, Nat.reduceEqDiff, Nat.reduceAdd]
        exact v_iret hC hR dX3_seat_60 (⟨_, rfl, rfl, by rw [seF, if_pos ⟨p1, p2⟩, if_pos (by omega)]⟩)
      · show V _ _ _ _ 61 _ _ _
        refine v_aload_n hC 3 dX3_seat_61 rfl rfl ?_
        refine v_getI hC foX3_130 dX3_seat_62 rfl rfl rfl (by first | decide | (simp only [vdn]; omega)) ?_
        try simp only [Int.toNat_natCast, upM_at, upM_nef, ne_eq, not_false_eq_true, Nat.reduceEqDiff, Nat.reduceAdd]
        exact v_iret hC hR dX3_seat_65 (⟨_, rfl, rfl, by rw [seF, if_pos ⟨p1, p2⟩, if_neg (by omega), if_pos (by omega)]⟩)
      · show V _ _ _ _ 66 _ _ _
        refine v_aload_n hC 3 dX3_seat_66 rfl rfl ?_
        refine v_getI hC foX3_133 dX3_seat_67 rfl rfl rfl (by first | decide | (simp only [vdn]; omega)) ?_
        try simp only [Int.toNat_natCast, upM_at, upM_nef, ne_eq, not_false_eq_true, Nat.reduceEqDiff, Nat.reduceAdd]
        exact v_iret hC hR dX3_seat_70 (⟨_, rfl, rfl, by rw [seF, if_pos ⟨p1, p2⟩, if_neg (by omega), if_neg (by omega), if_pos (by omega)]⟩)
      · show V _ _ _ _ 71 _ _ _
        refine v_aload_n hC 3 dX3_seat_71 rfl rfl ?_
        refine v_getI hC foX3_136 dX3_seat_72 rfl rfl rfl (by first | decide | (simp only [vdn]; omega)) ?_
        try simp only [Int.toNat_natCast, upM_at, upM_nef, ne_eq, not_false_eq_true, Nat.reduceEqDiff, Nat.reduceAdd]
        exact v_iret hC hR dX3_seat_75 (⟨_, rfl, rfl, by rw [seF, if_pos ⟨p1, p2⟩, if_neg (by omega), if_neg (by omega), if_neg (by omega), if_pos (by omega)]⟩)
      · show V _ _ _ _ 76 _ _ _
        refine v_aload_n hC 3 dX3_seat_76 rfl rfl ?_
        refine v_getI hC foX3_117 dX3_seat_77 rfl rfl rfl (by first | decide | (simp only [vdn]; omega)) ?_
        try simp only [Int.toNat_natCast, upM_at, upM_nef, ne_eq, not_false_eq_true, Nat.reduceEqDiff, Nat.reduceAdd]
        exact v_iret hC hR dX3_seat_80 (⟨_, rfl, rfl, by rw [seF, if_pos ⟨p1, p2⟩, if_neg (by omega), if_neg (by omega), if_neg (by omega), if_neg (by omega), if_pos (by omega)]⟩)
      · show V _ _ _ _ 81 _ _ _
        refine v_aload_n hC 3 dX3_seat_81 rfl rfl ?_
        refine v_getI hC foX3_72 dX3_seat_82 rfl rfl rfl (by first | decide | (simp only [vdn]; omega)) ?_
        try simp only [Int.toNat_natCast, upM_at, upM_nef, ne_eq, not_false_eq_true, Nat.reduceEqDiff, Nat.reduceAdd]
        exact v_iret hC hR dX3_seat_85 (⟨_, rfl, rfl, by rw [seF, if_pos ⟨p1, p2⟩, if_neg (by omega), if_neg (by omega), if_neg (by omega), if_neg (by omega), if_neg (by omega), if_pos (by omega)]⟩)
  · refine v_iconst hC dX3_seat_8 ⟨by decide, by decide⟩ ?_
    exact v_iret hC hR dX3_seat_9 (⟨_, rfl, rfl, by rw [seF, if_neg (bI_z.1 h5)]⟩)
abbrev rmX3_held : Room := { frames := 3, cells := 0, slots := 0, locals := 74 }
set_option maxRecDepth 100000 in
set_option maxHeartbeats 4000000 in
theorem cX3_held_ok (S K w : Int) (μ : MU) (hSf : Sf μ) : CTi yX3_held cX3_held 4 (some .int) rmX3_held [aR 0 0, aI S, aI K, aI w] μ (fun r μ' => μ = μ' ∧ r = heF μ S K w) := by
  intro l9 b9 D9 K9
  refine met_of (by decide) (Nat.le_of_ble_eq_true rfl) (fun x hC hR hM hA => ?_)
  have hC : Ctx x RX3 cX3_held rmX3_held := hC
  have hSf0 := hSf
  obtain ⟨⟨s1, s2⟩, ⟨n1, n2⟩, hr, hkc, hq, hpp, hli, hnu⟩ := hSf
  refine v_aload_n hC 0 dX3_held_0 rfl rfl ?_
  refine v_iload_n hC 1 dX3_held_1 rfl rfl ?_
  refine v_callI1 hC (cwX3_43 hC ⟨Nat.le_of_ble_eq_true rfl, Nat.le_of_ble_eq_true rfl⟩) dX3_held_2 rfl rfl rfl (Nat.zero_le _) (Nat.zero_le _) (Nat.le_of_ble_eq_true rfl) (by first | decide | (simp only [vdn]; omega)) (cX3_isSchool_ok S μ) (fun r1 μ1 hp => ?_)
  obtain ⟨rfl, rfl⟩ := hp
  refine v_if_eq hC 25 dX3_held_5 rfl (fun h5 => ?_) (fun h5 => ?_)
  · refine v_iconst hC dX3_held_25 ⟨by decide, by decide⟩ ?_
    exact v_iret hC hR dX3_held_26 (⟨_, rfl, rfl, by rw [heF, if_neg (fun q => bI_z.1 h5 q.1)]⟩)
  · refine v_iload_n hC 2 dX3_held_8 rfl rfl ?_
    refine v_if_lt hC 25 dX3_held_9 rfl (fun h9 => ?_) (fun h9 => ?_)
    · refine v_iconst hC dX3_held_25 ⟨by decide, by decide⟩ ?_
      exact v_iret hC hR dX3_held_26 (⟨_, rfl, rfl, by rw [heF, if_neg (fun q => by have := q.2.1; omega)]⟩)
    · obtain ⟨p1, p2⟩ := bI_n.1 h5
      refine v_iload_n hC 2 dX3_held_12 rfl rfl ?_
      refine v_aload_n hC 0 dX3_held_13 rfl rfl ?_
      refine v_getR hC foX3_11 dX3_held_14 rfl rfl rfl (by decide) (by first | decide | (simp only [vdn]; omega)) ?_
      refine v_iload_n hC 1 dX3_held_17 rfl rfl ?_
      refine v_aald hC dX3_held_18 rfl rfl (fun _ => rfl) rfl (by decide) (by first | decide | (simp only [vdn]; omega)) ⟨by first | omega | (simp only [mlen]; omega), by first | omega | (simp only [mlen]; omega)⟩ ?_
      try simp only [Int.toNat_natCast, upM_at, upM_nef, ne_eq, not_false_eq_true, Nat.reduceEqDiff, Nat.reduceAdd]
      refine v_getI hC foX3_50 dX3_held_19 rfl rfl rfl (by first | decide | (simp only [vdn]; omega)) ?_
      try simp only [Int.toNat_natCast, upM_at, upM_nef, ne_eq, not_false_eq_true, Nat.reduceEqDiff, Nat.reduceAdd]
      refine v_icmp_lt hC 27 dX3_held_22 rfl (fun h22 => ?_) (fun h22 => ?_)
      · have hc : isS μ S ∧ 0 ≤ K ∧ K < μ 6 S.toNat := ⟨⟨p1, p2⟩, by omega, by omega⟩
        have hk1 := hkc S.toNat (by omega)
        obtain ⟨s, rfl⟩ := Int.eq_ofNat_of_zero_le p1
        obtain ⟨k, rfl⟩ := Int.eq_ofNat_of_zero_le (show 0 ≤ K by omega)
        simp only [Int.toNat_natCast] at hk1 h22
        refine v_iload_n hC 3 dX3_held_27 rfl rfl ?_
        refine v_tsw hC dX3_held_28 85 rfl (fun j => match j with | 0 => 56 | 1 => 71 | _ => 78) (fun j hj => by
          have hj : j < 3 := hj
          rcases (by omega : j = 0 ∨ j = 1 ∨ j = 2) with rfl | rfl | rfl <;> exact ⟨_, rfl, rfl⟩) rfl (fun h28 => ?_) (fun j hj h28 => ?_)
        · refine v_iconst hC dX3_held_85 ⟨by decide, by decide⟩ ?_
          exact v_iret hC hR dX3_held_86 (⟨_, rfl, rfl, by rw [heF, if_pos hc, if_neg (by omega), if_neg (by omega), if_neg (by omega)] <;> rfl⟩)
        · have hj : j < 3 := hj
          rcases (by omega : j = 0 ∨ j = 1 ∨ j = 2) with rfl | rfl | rfl
          · show V _ _ _ _ 56 _ _ _
            refine v_aload_n hC 0 dX3_held_56 rfl rfl ?_
            refine v_getR hC foX3_11 dX3_held_57 rfl rfl rfl (by decide) (by first | decide | (simp only [vdn]; omega)) ?_
            refine v_iload_n hC 1 dX3_held_60 rfl rfl ?_
            refine v_aald hC dX3_held_61 rfl rfl (fun _ => rfl) rfl (by decide) (by first | decide | (simp only [vdn]; omega)) ⟨by first | omega | (simp only [mlen]; omega), by first | omega | (simp only [mlen]; omega)⟩ ?_
            try simp only [Int.toNat_natCast, upM_at, upM_nef, ne_eq, not_false_eq_true, Nat.reduceEqDiff, Nat.reduceAdd]
            refine v_getR hC foX3_53 dX3_held_62 rfl rfl rfl (by decide) (by first | decide | (simp only [vdn]; omega)) ?_
            refine v_iload_n hC 2 dX3_held_65 rfl rfl ?_
            refine v_aald hC dX3_held_66 rfl rfl (fun _ => rfl) rfl (by decide) (by first | decide | (simp only [vdn]; omega)) ⟨by first | omega | (simp only [mlen]; omega), by first | omega | (simp only [mlen]; omega)⟩ ?_
            try simp only [Int.toNat_natCast, upM_at, upM_nef, ne_eq, not_false_eq_true, Nat.reduceEqDiff, Nat.reduceAdd]
            refine v_getI hC foX3_57 dX3_held_67 rfl rfl rfl (by first | decide | (simp only [vdn]; omega)) ?_
            try simp only [Int.toNat_natCast, upM_at, upM_nef, ne_eq, not_false_eq_true, Nat.reduceEqDiff, Nat.reduceAdd]
            exact v_iret hC hR dX3_held_70 (⟨_, rfl, rfl, by rw [heF, if_pos hc, if_pos (by omega)] <;> rfl⟩)
          · show V _ _ _ _ 71 _ _ _
            refine v_aload_n hC 0 dX3_held_71 rfl rfl ?_
            refine v_iload_n hC 1 dX3_held_72 rfl rfl ?_
            refine v_iload_n hC 2 dX3_held_73 rfl rfl ?_
            refine v_callI2 hC (cwX3_139 hC ⟨Nat.le_of_ble_eq_true rfl, Nat.le_of_ble_eq_true rfl⟩) dX3_held_74 rfl rfl rfl (Nat.zero_le _) (Nat.zero_le _) (Nat.le_of_ble_eq_true rfl) (by first | decide | (simp only [vdn]; omega)) (cX3_countHolders_ok s k μ hSf0) (fun r1 μ1 hp => ?_)
            obtain ⟨rfl, rfl⟩ := hp
            exact v_iret hC hR dX3_held_77 (⟨_, rfl, rfl, by rw [heF, if_pos hc, if_neg (by omega), if_pos (by omega)] <;> rfl⟩)
          · show V _ _ _ _ 78 _ _ _
            refine v_aload_n hC 0 dX3_held_78 rfl rfl ?_
            refine v_iload_n hC 1 dX3_held_79 rfl rfl ?_
            refine v_iload_n hC 2 dX3_held_80 rfl rfl ?_
            refine v_callI2 hC (cwX3_143 hC ⟨Nat.le_of_ble_eq_true rfl, Nat.le_of_ble_eq_true rfl⟩) dX3_held_81 rfl rfl rfl (Nat.zero_le _) (Nat.zero_le _) (Nat.le_of_ble_eq_true rfl) (by first | decide | (simp only [vdn]; omega)) (cX3_lastHolder_ok s k μ (by omega) (by omega) hSf0) (fun r1 μ1 hp => ?_)
            obtain ⟨rfl, rfl⟩ := hp
            exact v_iret hC hR dX3_held_84 (⟨_, rfl, rfl, by rw [heF, if_pos hc, if_neg (by omega), if_neg (by omega), if_pos (by omega)] <;> rfl⟩)
      · refine v_iconst hC dX3_held_25 ⟨by decide, by decide⟩ ?_
        exact v_iret hC hR dX3_held_26 (⟨_, rfl, rfl, by rw [heF, if_neg (fun q => by have := q.2.2; omega)]⟩)
abbrev rmX3_why : Room := { frames := 2, cells := 0, slots := 0, locals := 44 }
set_option maxRecDepth 100000 in
set_option maxHeartbeats 4000000 in
theorem cX3_why_ok (P S : Int) (μ : MU) (hSf : Sf μ) : CTi yX3_why cX3_why 4 (some .int) rmX3_why [aR 0 0, aI P, aI S] μ (fun r μ' => μ = μ' ∧ r = whF μ P S) := by
  intro l9 b9 D9 K9
  refine met_of (by decide) (Nat.le_of_ble_eq_true rfl) (fun x hC hR hM hA => ?_)
  have hC : Ctx x RX3 cX3_why rmX3_why := hC
  obtain ⟨⟨s1, s2⟩, ⟨n1, n2⟩, hr, hkc, hq, hpp, hli, hnu⟩ := hSf
  refine v_aload_n hC 0 dX3_why_0 rfl rfl ?_
  refine v_iload_n hC 1 dX3_why_1 rfl rfl ?_
  refine v_callI1 hC (cwX3_78 hC ⟨Nat.le_of_ble_eq_true rfl, Nat.le_of_ble_eq_true rfl⟩) dX3_why_2 rfl rfl rfl (Nat.zero_le _) (Nat.zero_le _) (Nat.le_of_ble_eq_true rfl) (by first | decide | (simp only [vdn]; omega)) (cX3_isPupil_ok P μ) (fun r1 μ1 hp => ?_)
  obtain ⟨rfl, rfl⟩ := hp
  refine v_if_eq hC 16 dX3_why_5 rfl (fun h5 => ?_) (fun h5 => ?_)
  · refine v_iconst hC dX3_why_16 ⟨by decide, by decide⟩ ?_
    exact v_iret hC hR dX3_why_17 (⟨_, rfl, rfl, by rw [whF, if_neg (fun q => bI_z.1 h5 q.1)]⟩)
  · refine v_aload_n hC 0 dX3_why_8 rfl rfl ?_
    refine v_iload_n hC 2 dX3_why_9 rfl rfl ?_
    refine v_callI1 hC (cwX3_43 hC ⟨Nat.le_of_ble_eq_true rfl, Nat.le_of_ble_eq_true rfl⟩) dX3_why_10 rfl rfl rfl (Nat.zero_le _) (Nat.zero_le _) (Nat.le_of_ble_eq_true rfl) (by first | decide | (simp only [vdn]; omega)) (cX3_isSchool_ok S μ) (fun r1 μ1 hp => ?_)
    obtain ⟨rfl, rfl⟩ := hp
    refine v_if_ne hC 18 dX3_why_13 rfl (fun h13 => ?_) (fun h13 => ?_)
    · have hc : isP μ P ∧ isS μ S := ⟨bI_n.1 h5, bI_n.1 h13⟩
      obtain ⟨p1, p2⟩ := bI_n.1 h5
      obtain ⟨q1, q2⟩ := bI_n.1 h13
      have hp1 := hpp P.toNat (by omega)
      have hk1 := hkc S.toNat (by omega)
      refine v_aload_n hC 0 dX3_why_18 rfl rfl ?_
      refine v_getR hC foX3_18 dX3_why_19 rfl rfl rfl (by decide) (by first | decide | (simp only [vdn]; omega)) ?_
      refine v_iload_n hC 1 dX3_why_22 rfl rfl ?_
      refine v_aald hC dX3_why_23 rfl rfl (fun _ => rfl) rfl (by decide) (by first | decide | (simp only [vdn]; omega)) ⟨by first | omega | (simp only [mlen]; omega), by first | omega | (simp only [mlen]; omega)⟩ ?_
      try simp only [Int.toNat_natCast, upM_at, upM_nef, ne_eq, not_false_eq_true, Nat.reduceEqDiff, Nat.reduceAdd]
      refine v_astore_n hC 3 dX3_why_24 rfl (Nat.le_of_ble_eq_true rfl) ?_
      refine v_aload_n hC 3 dX3_why_25 rfl rfl ?_
      refine v_getI hC foX3_123 dX3_why_26 rfl rfl rfl (by first | decide | (simp only [vdn]; omega)) ?_
      try simp only [Int.toNat_natCast, upM_at, upM_nef, ne_eq, not_false_eq_true, Nat.reduceEqDiff, Nat.reduceAdd]
      refine v_iload_n hC 2 dX3_why_29 rfl rfl ?_
      refine v_icmp_ne hC 35 dX3_why_30 rfl (fun h30 => ?_) (fun h30 => ?_)
      · refine v_aload_n hC 3 dX3_why_35 rfl rfl ?_
        refine v_iload_n hC 2 dX3_why_36 rfl rfl ?_
        refine v_callI1 hC (cwX3_81 hC ⟨Nat.le_of_ble_eq_true rfl, Nat.le_of_ble_eq_true rfl⟩) dX3_why_37 rfl rfl rfl (Nat.zero_le _) (Nat.zero_le _) (Nat.le_of_ble_eq_true rfl) (by first | decide | (simp only [vdn]; omega)) (cX1_placeOf_ok P.toNat S μ (by omega) hp1.1 hp1.2.1) (fun r1 μ1 hp => ?_)
        obtain ⟨rfl, rfl⟩ := hp
        refine v_iconst hC dX3_why_40 ⟨by decide, by decide⟩ ?_
        refine v_icmp_ne hC 46 dX3_why_41 rfl (fun h41 => ?_) (fun h41 => ?_)
        · refine v_aload_n hC 0 dX3_why_46 rfl rfl ?_
          refine v_getR hC foX3_11 dX3_why_47 rfl rfl rfl (by decide) (by first | decide | (simp only [vdn]; omega)) ?_
          refine v_iload_n hC 2 dX3_why_50 rfl rfl ?_
          refine v_aald hC dX3_why_51 rfl rfl (fun _ => rfl) rfl (by decide) (by first | decide | (simp only [vdn]; omega)) ⟨by first | omega | (simp only [mlen]; omega), by first | omega | (simp only [mlen]; omega)⟩ ?_
          try simp only [Int.toNat_natCast, upM_at, upM_nef, ne_eq, not_false_eq_true, Nat.reduceEqDiff, Nat.reduceAdd]
          refine v_aload_n hC 3 dX3_why_52 rfl rfl ?_
          refine v_getI hC foX3_72 dX3_why_53 rfl rfl rfl (by first | decide | (simp only [vdn]; omega)) ?_
          try simp only [Int.toNat_natCast, upM_at, upM_nef, ne_eq, not_false_eq_true, Nat.reduceEqDiff, Nat.reduceAdd]
          refine v_callI1 hC (cwX3_158 hC ⟨Nat.le_of_ble_eq_true rfl, Nat.le_of_ble_eq_true rfl⟩) dX3_why_56 rfl rfl rfl (Nat.zero_le _) (Nat.zero_le _) (Nat.le_of_ble_eq_true rfl) (by first | decide | (simp only [vdn]; omega)) (cX2_admits_ok S.toNat (μ 13 P.toNat) μ (by omega) hk1.1 hk1.2 (fun q hq9 => ⟨(hq q hq9).1, (hq q hq9).2.1⟩)) (fun r1 μ1 hp => ?_)
          obtain ⟨rfl, rfl⟩ := hp
          refine v_if_ne hC 64 dX3_why_59 rfl (fun h59 => ?_) (fun h59 => ?_)
          · refine v_aload_n hC 3 dX3_why_64 rfl rfl ?_
            refine v_iload_n hC 2 dX3_why_65 rfl rfl ?_
            refine v_callI1 hC (cwX3_150 hC ⟨Nat.le_of_ble_eq_true rfl, Nat.le_of_ble_eq_true rfl⟩) dX3_why_66 rfl rfl rfl (Nat.zero_le _) (Nat.zero_le _) (Nat.le_of_ble_eq_true rfl) (by first | decide | (simp only [vdn]; omega)) (cX1_prefers_ok P.toNat S μ (by omega) hp1.1 hp1.2.1) (fun r1 μ1 hp => ?_)
            obtain ⟨rfl, rfl⟩ := hp
            refine v_if_eq hC 76 dX3_why_69 rfl (fun h69 => ?_) (fun h69 => ?_)
            · refine v_iconst hC dX3_why_76 ⟨by decide, by decide⟩ ?_
              exact v_iret hC hR dX3_why_77 (⟨_, rfl, rfl, by rw [whF, if_pos hc, if_neg h30, if_neg h41, if_pos (bI_n.1 h59), if_neg (bI_z.1 h69)]⟩)
            · refine v_iconst hC dX3_why_72 ⟨by decide, by decide⟩ ?_
              refine v_goto hC 77 dX3_why_73 rfl ?_
              exact v_iret hC hR dX3_why_77 (⟨_, rfl, rfl, by rw [whF, if_pos hc, if_neg h30, if_neg h41, if_pos (bI_n.1 h59), if_pos (bI_n.1 h69)]⟩)
          · refine v_iconst hC dX3_why_62 ⟨by decide, by decide⟩ ?_
            exact v_iret hC hR dX3_why_63 (⟨_, rfl, rfl, by rw [whF, if_pos hc, if_neg h30, if_neg h41, if_neg (bI_z.1 h59)]⟩)
        · refine v_iconst hC dX3_why_44 ⟨by decide, by decide⟩ ?_
          exact v_iret hC hR dX3_why_45 (⟨_, rfl, rfl, by rw [whF, if_pos hc, if_neg h30, if_pos h41]⟩)
      · refine v_iconst hC dX3_why_33 ⟨by decide, by decide⟩ ?_
        exact v_iret hC hR dX3_why_34 (⟨_, rfl, rfl, by rw [whF, if_pos hc, if_pos h30]⟩)
    · refine v_iconst hC dX3_why_16 ⟨by decide, by decide⟩ ?_
      exact v_iret hC hR dX3_why_17 (⟨_, rfl, rfl, by rw [whF, if_neg (fun q => bI_z.1 h13 q.2)]⟩)
abbrev rmX3_look : Room := { frames := 2, cells := 0, slots := 0, locals := 42 }
set_option maxRecDepth 100000 in
set_option maxHeartbeats 4000000 in
theorem cX3_look_ok (w : Int) (μ : MU) (hSf : Sf μ) : CTi yX3_look cX3_look 2 (some .int) rmX3_look [aR 0 0, aI w] μ (fun r μ' => μ = μ' ∧ r = lkF μ w) := by
  intro l9 b9 D9 K9
  refine met_of (by decide) (Nat.le_of_ble_eq_true rfl) (fun x hC hR hM hA => ?_)
  have hC : Ctx x RX3 cX3_look rmX3_look := hC
  refine v_iload_n hC 1 dX3_look_0 rfl rfl ?_
  refine v_tsw hC dX3_look_1 69 rfl (fun j => match j with | 0 => 36 | 1 => 41 | 2 => 46 | 3 => 59 | _ => 64) (fun j hj => by
    have hj : j < 5 := hj
    rcases (by omega : j = 0 ∨ j = 1 ∨ j = 2 ∨ j = 3 ∨ j = 4) with rfl | rfl | rfl | rfl | rfl <;> exact ⟨_, rfl, rfl⟩) rfl (fun h1 => ?_) (fun j hj h1 => ?_)
  · refine v_iconst hC dX3_look_69 ⟨by decide, by decide⟩ ?_
    exact v_iret hC hR dX3_look_70 (⟨_, rfl, rfl, by rw [lkF, if_neg (by omega), if_neg (by omega), if_neg (by omega), if_neg (by omega), if_neg (by omega)]⟩)
  · have hj : j < 5 := hj
    rcases (by omega : j = 0 ∨ j = 1 ∨ j = 2 ∨ j = 3 ∨ j = 4) with rfl | rfl | rfl | rfl | rfl
    · show V _ _ _ _ 36 _ _ _
      refine v_aload_n hC 0 dX3_look_36 rfl rfl ?_
      refine v_getI hC foX3_36 dX3_look_37 rfl rfl rfl (by first | decide | (simp only [vdn]; omega)) ?_
      try simp only [Int.toNat_natCast, upM_at, upM_nef, ne_eq, not_false_eq_true, Nat.reduceEqDiff, Nat.reduceAdd]
      exact v_iret hC hR dX3_look_40 (⟨_, rfl, rfl, by rw [lkF, if_pos (by omega)]⟩)
    · show V _ _ _ _ 41 _ _ _
      refine v_aload_n hC 0 dX3_look_41 rfl rfl ?_
      refine v_getI hC foX3_69 dX3_look_42 rfl rfl rfl (by first | decide | (simp only [vdn]; omega)) ?_
      try simp only [Int.toNat_natCast, upM_at, upM_nef, ne_eq, not_false_eq_true, Nat.reduceEqDiff, Nat.reduceAdd]
      exact v_iret hC hR dX3_look_45 (⟨_, rfl, rfl, by rw [lkF, if_neg (by omega), if_pos (by omega)]⟩)
    · show V _ _ _ _ 46 _ _ _
      refine v_aload_n hC 0 dX3_look_46 rfl rfl ?_
      refine v_getI hC foX3_32 dX3_look_47 rfl rfl rfl (by first | decide | (simp only [vdn]; omega)) ?_
      try simp only [Int.toNat_natCast, upM_at, upM_nef, ne_eq, not_false_eq_true, Nat.reduceEqDiff, Nat.reduceAdd]
      refine v_if_eq hC 57 dX3_look_50 rfl (fun h50 => ?_) (fun h50 => ?_)
      · refine v_iconst hC dX3_look_57 ⟨by decide, by decide⟩ ?_
        exact v_iret hC hR dX3_look_58 (⟨_, rfl, rfl, by rw [lkF, if_neg (by omega), if_neg (by omega), if_pos (by omega), if_pos h50]⟩)
      · refine v_iconst hC dX3_look_53 ⟨by decide, by decide⟩ ?_
        refine v_goto hC 58 dX3_look_54 rfl ?_
        exact v_iret hC hR dX3_look_58 (⟨_, rfl, rfl, by rw [lkF, if_neg (by omega), if_neg (by omega), if_pos (by omega), if_neg h50]⟩)
    · show V _ _ _ _ 59 _ _ _
      refine v_aload_n hC 0 dX3_look_59 rfl rfl ?_
      refine v_callI0 hC (cwX3_161 hC ⟨Nat.le_of_ble_eq_true rfl, Nat.le_of_ble_eq_true rfl⟩) dX3_look_60 rfl rfl rfl (Nat.zero_le _) (Nat.zero_le _) (Nat.le_of_ble_eq_true rfl) (by first | decide | (simp only [vdn]; omega)) (cX3_countAsks_ok μ hSf) (fun r1 μ1 hp => ?_)
      obtain ⟨rfl, rfl⟩ := hp
      exact v_iret hC hR dX3_look_63 (⟨_, rfl, rfl, by rw [lkF, if_neg (by omega), if_neg (by omega), if_neg (by omega), if_pos (by omega)]⟩)
    · show V _ _ _ _ 64 _ _ _
      refine v_aload_n hC 0 dX3_look_64 rfl rfl ?_
      refine v_callI0 hC (cwX3_101 hC ⟨Nat.le_of_ble_eq_true rfl, Nat.le_of_ble_eq_true rfl⟩) dX3_look_65 rfl rfl rfl (Nat.zero_le _) (Nat.zero_le _) (Nat.le_of_ble_eq_true rfl) (by first | decide | (simp only [vdn]; omega)) (cX3_countPlaced_ok μ hSf) (fun r1 μ1 hp => ?_)
      obtain ⟨rfl, rfl⟩ := hp
      exact v_iret hC hR dX3_look_68 (⟨_, rfl, rfl, by rw [lkF, if_neg (by omega), if_neg (by omega), if_neg (by omega), if_neg (by omega), if_pos (by omega)]⟩)
/-- blocking pairs, one by one: how many so far, or the answer -/
abbrev blkP (μ : MU) (p j : Nat) : Prop := ¬ μ 18 p = 3 ∧ prefP μ p (μ 10 (4 * p + j)) ∧ ¬ chV μ (μ 10 (4 * p + j)).toNat (chO μ (μ 10 (4 * p + j)).toNat p) p = -1
def blS (μ : MU) (i : Int) (p j : Nat) (acc : Int ⊕ Int) : Int ⊕ Int := match acc with
  | .inr r => .inr r
  | .inl c => if blkP μ p j then (if c = i then .inr (8 * (p : Int) + μ 10 (4 * p + j)) else .inl (c + 1)) else .inl c
def blO (μ : MU) (i : Int) (p : Nat) (acc : Int ⊕ Int) : Int ⊕ Int := itr (blS μ i p) 0 (μ 11 p).toNat acc
def blF (μ : MU) (i : Int) : Int ⊕ Int := itr (blO μ i) 0 (μ 1 0).toNat (.inl 0)
def blR (i : Int) : Int ⊕ Int → Int
  | .inr r => r
  | .inl c => if i = -1 then c else -1
theorem blS_r {μ : MU} {i r : Int} {p : Nat} : ∀ (m j : Nat), itr (blS μ i p) j m (.inr r) = .inr r
  | 0, _ => rfl
  | m + 1, j => blS_r m (j + 1)
theorem blO_r {μ : MU} {i r : Int} : ∀ (m p : Nat), itr (blO μ i) p m (.inr r) = .inr r
  | 0, _ => rfl
  | m + 1, p => by
    show itr (blO μ i) (p + 1) m (blO μ i p (.inr r)) = _
    rw [blO, blS_r]
    exact blO_r m (p + 1)
theorem prefP_of {a b : MU} {p : Nat} {w : Int} (h10 : ∀ j, b 10 j = a 10 j) (h11 : b 11 p = a 11 p) (h15 : b 15 p = a 15 p) : prefP b p w ↔ prefP a p w := by
  have e : ∀ w, plF b p w = plF a p w := fun w => by
    unfold plF
    rw [h11]
    congr 1
    funext j
    rw [h10]
  unfold prefP
  rw [e, e, h15]
theorem blkP_of {a b : MU} (h : Fr [3, 4, 5] a b) {p j : Nat} (hp : p < (a 1 0).toNat) : blkP b p j ↔ blkP a p j := by
  have e10 : ∀ j, b 10 j = a 10 j := fun j => h 10 j (by decide)
  have eO : ∀ s q, chO b s p q = chO a s p q := fun s q => by unfold chO anyP; rw [h 15 q (by decide), h 16 q (by decide)]
  unfold blkP
  rw [h 18 p (by decide), e10, prefP_of e10 (h 11 p (by decide)) (h 15 p (by decide)), chV_of (h 1 0 (by decide)) (h 6 _ (by decide)) (fun j => h 9 j (by decide)) (fun q k => h.std (by decide) q _ k) (fun q _ => eO _ q) p hp]
abbrev rmX3_blocking : Room := { frames := 6, cells := 0, slots := 0, locals := 145 }
set_option maxRecDepth 100000 in
set_option maxHeartbeats 4000000 in
theorem cX3_blocking_ok (i : Int) (μ : MU) (hSf : Sf μ) (hI : ∀ s, s < 6 → Inj μ s) : CTi yX3_blocking cX3_blocking 7 (some .int) rmX3_blocking [aR 0 0, aI i] μ (fun r μ' => Fr [3, 4, 5] μ μ' ∧ r = if μ 2 0 = 0 then -1 else blR i (blF μ i)) := by
  intro l9 b9 D9 K9
  refine met_of (by decide) (Nat.le_of_ble_eq_true rfl) (fun x hC hR hM hA => ?_)
  have hC : Ctx x RX3 cX3_blocking rmX3_blocking := hC
  have hSf0 := hSf
  obtain ⟨⟨s1, s2⟩, ⟨n1, n2⟩, hr, hkc, hq, hpp, hli, hnu⟩ := hSf
  refine v_aload_n hC 0 dX3_blocking_0 rfl rfl ?_
  refine v_getI hC foX3_32 dX3_blocking_1 rfl rfl rfl (by first | decide | (simp only [vdn]; omega)) ?_
  try simp only [Int.toNat_natCast, upM_at, upM_nef, ne_eq, not_false_eq_true, Nat.reduceEqDiff, Nat.reduceAdd]
  refine v_if_ne hC 9 dX3_blocking_4 rfl (fun h4 => ?_) (fun h4 => ?_)
  · refine v_iconst hC dX3_blocking_9 ⟨by decide, by decide⟩ ?_
    refine v_istore_n hC 2 dX3_blocking_10 rfl (Nat.le_of_ble_eq_true rfl) ?_
    refine v_iconst hC dX3_blocking_11 ⟨by decide, by decide⟩ ?_
    refine v_istore_n hC 3 dX3_blocking_12 rfl (Nat.le_of_ble_eq_true rfl) ?_
    refine v_loop (fun p : Nat => (μ 1 0).toNat - p) (fun _ => True) (fun p => ∀ (μ1 : MU) (c : Int), p ≤ 20 → 0 ≤ c → c ≤ 4 * p → Fr [3, 4, 5] μ μ1 → itr (blO μ i) p ((μ 1 0).toNat - p) (.inl c) = blF μ i → V x 0 0 none 13 [some (aR 0 0), some (aI i), some (aI c), some (aI (p : Int)), none, none, none] [] μ1) (fun p _ ih μ1 c a1 a2 a3 hF1 a4 => ?_) 0 trivial μ 0 (by decide) (by decide) (by decide) Fr.rf rfl
    have e1 : μ1 1 0 = μ 1 0 := hF1 1 0 (by decide)
    refine v_iload_n hC 3 dX3_blocking_13 rfl rfl ?_
    refine v_aload_n hC 0 dX3_blocking_14 rfl rfl ?_
    refine v_getI hC foX3_69 dX3_blocking_15 rfl rfl rfl (by first | decide | (simp only [vdn]; omega)) ?_
    try simp only [Int.toNat_natCast, upM_at, upM_nef, ne_eq, not_false_eq_true, Nat.reduceEqDiff, Nat.reduceAdd]
    refine v_icmp_ge hC 90 dX3_blocking_18 rfl (fun h18 => ?_) (fun h18 => ?_)
    · refine v_iload_n hC 1 dX3_blocking_90 rfl rfl ?_
      refine v_iconst hC dX3_blocking_91 ⟨by decide, by decide⟩ ?_
      refine v_icmp_ne hC 99 dX3_blocking_92 rfl (fun h92 => ?_) (fun h92 => ?_)
      · refine v_iconst hC dX3_blocking_99 ⟨by decide, by decide⟩ ?_
        exact v_iret hC hR dX3_blocking_100 (⟨_, rfl, hF1, by rw [if_neg h4, ← a4, itr_done (by omega), blR, if_neg h92]⟩)
      · refine v_iload_n hC 2 dX3_blocking_95 rfl rfl ?_
        refine v_goto hC 100 dX3_blocking_96 rfl ?_
        exact v_iret hC hR dX3_blocking_100 (⟨_, rfl, hF1, by rw [if_neg h4, ← a4, itr_done (by omega), blR, if_pos h92]⟩)
    · refine v_aload_n hC 0 dX3_blocking_21 rfl rfl ?_
      refine v_getR hC foX3_18 dX3_blocking_22 rfl rfl rfl (by decide) (by first | decide | (simp only [vdn]; omega)) ?_
      refine v_iload_n hC 3 dX3_blocking_25 rfl rfl ?_
      refine v_aald hC dX3_blocking_26 rfl rfl (fun _ => rfl) rfl (by decide) (by first | decide | (simp only [vdn]; omega)) ⟨by first | omega | (simp only [mlen]; omega), by first | omega | (simp only [mlen]; omega)⟩ ?_
      try simp only [Int.toNat_natCast, upM_at, upM_nef, ne_eq, not_false_eq_true, Nat.reduceEqDiff, Nat.reduceAdd]
      refine v_astore hC dX3_blocking_27 (Nat.le_of_ble_eq_true rfl) ?_
      refine v_iconst hC dX3_blocking_29 ⟨by decide, by decide⟩ ?_
      refine v_istore hC dX3_blocking_30 (Nat.le_of_ble_eq_true rfl) ?_
      have hp1 := hpp p (by omega)
      rw [itr_step (by omega)] at a4
      refine v_loop (fun j : Nat => (μ 11 p).toNat - j) (fun _ => True) (fun j => ∀ (μ2 : MU) (c2 : Int) (u : Option AV), j ≤ 4 → 0 ≤ c2 → c2 ≤ 4 * p + j → Fr [3, 4, 5] μ μ2 → itr (blO μ i) (p + 1) ((μ 1 0).toNat - (p + 1)) (itr (blS μ i p) j ((μ 11 p).toNat - j) (.inl c2)) = blF μ i → V x 0 0 none 32 [some (aR 0 0), some (aI i), some (aI c2), some (aI (p : Int)), some (aR 7 p), some (aI (j : Int)), none] [] μ2) (fun j _ ih2 μ2 c2 u b1 b2 b3 hF2 b4 => ?_) 0 trivial μ1 c none (by decide) a2 (by omega) hF1 a4
      have f1 : μ2 1 0 = μ 1 0 := hF2 1 0 (by decide)
      have f11 : μ2 11 p = μ 11 p := hF2 11 p (by decide)
      have f10 : μ2 10 (4 * p + j) = μ 10 (4 * p + j) := hF2 10 _ (by decide)
      have hSf2 : Sf μ2 := hF2.Sf hSf0 (by decide)
      refine v_iload hC dX3_blocking_32 rfl ?_
      refine v_aload hC dX3_blocking_34 rfl ?_
      refine v_getI hC foX3_85 dX3_blocking_36 rfl rfl rfl (by first | decide | (simp only [vdn]; omega)) ?_
      try simp only [Int.toNat_natCast, upM_at, upM_nef, ne_eq, not_false_eq_true, Nat.reduceEqDiff, Nat.reduceAdd]
      refine v_icmp_ge hC 84 dX3_blocking_39 rfl (fun h39 => ?_) (fun h39 => ?_)
      · refine v_iinc hC dX3_blocking_84 rfl ⟨by omega, by omega⟩ ?_
        refine v_goto hC 13 dX3_blocking_87 rfl ?_
        refine v_forget 4 (v_forget 5 (v_forget 6 ?_))
        exact ih (p + 1) trivial (by omega) μ2 c2 (by omega) (by omega) (by omega) hF2 (by rw [← b4, itr_done (f := blS μ i p) (i := j) (n := (μ 11 p).toNat) (by omega)])
      · refine v_aload hC dX3_blocking_42 rfl ?_
        refine v_getR hC foX3_88 dX3_blocking_44 rfl rfl rfl (by decide) (by first | decide | (simp only [vdn]; omega)) ?_
        refine v_iload hC dX3_blocking_47 rfl ?_
        refine v_iald hC dX3_blocking_49 rfl rfl rfl (by first | decide | (simp only [vdn]; omega)) ⟨by first | omega | (simp only [mlen]; omega), by first | omega | (simp only [mlen]; omega)⟩ ?_
        try simp only [Int.toNat_natCast, upM_at, upM_nef, ne_eq, not_false_eq_true, Nat.reduceEqDiff, Nat.reduceAdd]
        have hl10 := hli (4 * p + j) (by omega)
        obtain ⟨sj, hsj⟩ := Int.eq_ofNat_of_zero_le hl10.1
        rw [f10, hsj]
        refine v_istore hC dX3_blocking_50 (Nat.le_of_ble_eq_true rfl) ?_
        refine v_aload_n hC 0 dX3_blocking_52 rfl rfl ?_
        refine v_iload_n hC 3 dX3_blocking_53 rfl rfl ?_
        refine v_iload hC dX3_blocking_54 rfl ?_
        refine v_callI2 hC (cwX3_146 hC ⟨Nat.le_of_ble_eq_true rfl, Nat.le_of_ble_eq_true rfl⟩) dX3_blocking_56 rfl rfl rfl (Nat.zero_le _) (Nat.zero_le _) (Nat.le_of_ble_eq_true rfl) (by first | decide | (simp only [vdn]; omega)) (cX3_blocks_ok p sj μ2 (by omega) (by omega) hSf2 (hF2.inj (hI sj (by omega)) (by decide) (by decide))) (fun r1 μ1 hp => ?_)
        obtain ⟨hF3, rfl⟩ := hp
        have hbe := blkP_of hF2 (p := p) (j := j) (by omega)
        have hbx : blkP μ2 p j ↔ (¬ μ2 18 p = 3 ∧ prefP μ2 p sj ∧ ¬ chV μ2 sj (chO μ2 sj p) p = -1) := by unfold blkP; rw [f10, hsj, Int.toNat_natCast]
        refine v_if_eq hC 78 dX3_blocking_59 rfl (fun h59 => ?_) (fun h59 => ?_)
        · have hb : ¬ blkP μ p j := fun h => bI_z.1 h59 (hbx.1 (hbe.2 h))
          refine v_iinc hC dX3_blocking_78 rfl ⟨by omega, by omega⟩ ?_
          refine v_goto hC 32 dX3_blocking_81 rfl ?_
          refine v_forget 6 ?_
          exact ih2 (j + 1) trivial (by omega) μ1 c2 none (by omega) b2 (by omega) (hF2.trans hF3) (by rw [← b4]; rw [itr_step (f := blS μ i p) (i := j) (n := (μ 11 p).toNat) (by omega), blS, if_neg hb]) 
        · have hb : blkP μ p j := hbe.1 (hbx.2 (bI_n.1 h59))
          refine v_iload_n hC 2 dX3_blocking_62 rfl rfl ?_
          refine v_iload_n hC 1 dX3_blocking_63 rfl rfl ?_
          refine v_icmp_ne hC 75 dX3_blocking_64 rfl (fun h64 => ?_) (fun h64 => ?_)
          · refine v_iinc hC dX3_blocking_75 rfl ⟨by omega, by omega⟩ ?_
            refine v_iinc hC dX3_blocking_78 rfl ⟨by omega, by omega⟩ ?_
            refine v_goto hC 32 dX3_blocking_81 rfl ?_
            refine v_forget 6 ?_
            exact ih2 (j + 1) trivial (by omega) μ1 (c2 + 1) none (by omega) (by omega) (by omega) (hF2.trans hF3) (by rw [← b4]; rw [itr_step (f := blS μ i p) (i := j) (n := (μ 11 p).toNat) (by omega), blS, if_pos hb, if_neg h64])
          · refine v_bipush hC dX3_blocking_67 ⟨by decide, by decide⟩ ?_
            refine v_iload_n hC 3 dX3_blocking_69 rfl rfl ?_
            refine v_imul hC dX3_blocking_70 ⟨by omega, by omega⟩ ?_
            refine v_iload hC dX3_blocking_71 rfl ?_
            refine v_iadd hC dX3_blocking_73 ⟨by omega, by omega⟩ ?_
            exact v_iret hC hR dX3_blocking_74 (⟨_, rfl, hF2.trans hF3, by
              rw [if_neg h4, ← b4, itr_step (f := blS μ i p) (i := j) (n := (μ 11 p).toNat) (by omega), blS, if_pos hb, if_pos h64, blS_r, blO_r, blR, hsj]⟩)
  · refine v_iconst hC dX3_blocking_7 ⟨by decide, by decide⟩ ?_
    exact v_iret hC hR dX3_blocking_8 (⟨_, rfl, Fr.rf, by rw [if_pos h4]⟩)
end
section
/-! The reference chooses, asks, moves. -/
def mg (μ : MU) (s k q : Nat) : Int := if (mbnF μ q s k).isSome = true then rkF μ q s k else 1000000
def mchO (μ : MU) (s : Nat) (O : Nat → Bool) : Nat → Int := chv (μ 23 0).toNat (fun k p => mg μ s k p) 1000000 O (μ 24 s).toNat (fun k => (μ 25 (3 * s + k)).toNat)
def mO (μ : MU) (q : Nat) : Bool := decide (¬ μ 38 q = 0)
theorem mbnF_of {a b : MU} {p s k : Nat} (h26 : ∀ j, b 26 j = a 26 j) (h27 : b 27 p = a 27 p) : mbnF b p s k = mbnF a p s k := by
  unfold mbnF
  rw [h27]
  congr 1
  funext j
  rw [h26]
theorem rkF_of {a b : MU} {p s k : Nat} (h26 : ∀ j, b 26 j = a 26 j) (h27 : b 27 p = a 27 p) (h28 : b 28 p = a 28 p) (h31 : ∀ j, b 31 j = a 31 j) : rkF b p s k = rkF a p s k := by
  unfold rkF
  rw [mbnF_of h26 h27, h28, h31]
theorem Fr.mbn {S : List Nat} {a b : MU} (h : Fr S a b) (hs : ∀ f, f ∈ [26, 27, 28, 31] → f ∉ S) (p s k : Nat) : mbnF b p s k = mbnF a p s k := mbnF_of (fun j => h 26 j (hs 26 (by decide))) (h 27 p (hs 27 (by decide)))
theorem Fr.rk {S : List Nat} {a b : MU} (h : Fr S a b) (hs : ∀ f, f ∈ [26, 27, 28, 31] → f ∉ S) (p s k : Nat) : rkF b p s k = rkF a p s k := rkF_of (fun j => h 26 j (hs 26 (by decide))) (h 27 p (hs 27 (by decide))) (h 28 p (hs 28 (by decide))) (fun j => h 31 j (hs 31 (by decide)))
theorem Fr.mg {S : List Nat} {a b : MU} (h : Fr S a b) (hs : ∀ f, f ∈ [26, 27, 28, 31] → f ∉ S) (s k p : Nat) : mg b s k p = mg a s k p := by
  show (if _ then _ else _) = (if _ then _ else _)
  rw [h.mbn hs, h.rk hs]
theorem Fr.Sm {S : List Nat} {a b : MU} (h : Fr S a b) (ha : Sm a) (hs : ∀ f, f ∈ [21, 22, 23, 24, 25, 29, 30, 31, 32] → f ∉ S) : Sm b := ha.of fun f j hf => h f j (hs f hf)
/-- the takers are T, below n -/
def TI (n : Nat) (μ : MU) (T : Nat → Int) : Prop := ∀ p, p < n → μ 39 p = T p ∧ -1 ≤ T p ∧ T p < 3
/-- the best so far, of those below i -/
def bsI (E : Nat → Bool) (g : Nat → Int) (B : Int) (i : Nat) (c d : Int) : Prop := (c = -1 ∧ d = B) ∨ ∃ q : Nat, c = (q : Int) ∧ q < i ∧ d = g q ∧ E q = true ∧ g q < B
theorem mchO_of {a b : MU} {s : Nat} {O O' : Nat → Bool} (h1 : b 23 0 = a 23 0) (h6 : b 24 s = a 24 s) (h9 : ∀ j, b 25 j = a 25 j) (hs : ∀ k p, mg b s k p = mg a s k p) (hO : ∀ p, p < (a 23 0).toNat → O' p = O p) : ∀ p, p < (a 23 0).toNat → mchO b s O' p = mchO a s O p := by
  unfold mchO
  rw [h1, h6]
  refine itr_rel (R := fun (x y : Nat → Int) => ∀ p, p < (a 23 0).toNat → x p = y p) (fun k x y hxy => ?_) _ _ _ _ (fun _ _ => rfl)
  dsimp only
  rw [h9]
  exact tkK_congr (fun p _ => hs k p) hO hxy
abbrev rmX4_choose : Room := { frames := 2, cells := 0, slots := 0, locals := 49 }
set_option maxRecDepth 100000 in
set_option maxHeartbeats 4000000 in
theorem cX4_choose_ok (s : Nat) (μ : MU) (hs : s < 6) (hSm : Sm μ) : CTv yX4_choose cX4_choose 7 rmX4_choose [aR 12 0, aI s] μ (fun μ' => Fr [39] μ μ' ∧ TI (μ 23 0).toNat μ' (mchO μ s (mO μ))) := by
  intro l9 b9 D9 K9
  refine met_of (by decide) (Nat.le_of_ble_eq_true rfl) (fun x hC hR hM hA => ?_)
  have hC : Ctx x RX4 cX4_choose rmX4_choose := hC
  have hSm0 := hSm
  obtain ⟨⟨s1, s2⟩, ⟨n1, n2⟩, hr, hkc, hq, hpp, hli, hnu⟩ := hSm
  have hk0 := hkc s hs
  refine v_iconst hC dX4_choose_0 ⟨by decide, by decide⟩ ?_
  refine v_istore_n hC 2 dX4_choose_1 rfl (Nat.le_of_ble_eq_true rfl) ?_
  refine v_loop (fun i : Nat => (μ 23 0).toNat - i) (fun _ => True) (fun i => ∀ (μ1 : MU), i ≤ (μ 23 0).toNat → Fr [39] μ μ1 → (∀ p, p < i → μ1 39 p = -1) → V x 0 0 none 2 [some (aR 12 0), some (aI s), some (aI (i : Int)), none, none, none, none] [] μ1) (fun i _ ih μ1 a1 hF1 a2 => ?_) 0 trivial μ (Nat.zero_le _) Fr.rf (fun p h => by omega)
  have e1 : μ1 23 0 = μ 23 0 := hF1 23 0 (by decide)
  refine v_iload_n hC 2 dX4_choose_2 rfl rfl ?_
  refine v_aload_n hC 0 dX4_choose_3 rfl rfl ?_
  refine v_getI hC foX4_66 dX4_choose_4 rfl rfl rfl (by first | decide | (simp only [vdn]; omega)) ?_
  try simp only [Int.toNat_natCast, upM_at, upM_nef, ne_eq, not_false_eq_true, Nat.reduceEqDiff, Nat.reduceAdd]
  refine v_icmp_ge hC 23 dX4_choose_7 rfl (fun h7 => ?_) (fun h7 => ?_)
  · refine v_iconst hC dX4_choose_23 ⟨by decide, by decide⟩ ?_
    refine v_istore_n hC 2 dX4_choose_24 rfl (Nat.le_of_ble_eq_true rfl) ?_
    refine v_loop (fun k : Nat => (μ 24 s).toNat - k) (fun _ => True) (fun k => ∀ (μ1 : MU) (T1 : Nat → Int), k ≤ 3 → Fr [39] μ μ1 → TI (μ 23 0).toNat μ1 T1 → itr (fun k T => tkK (μ 23 0).toNat (fun q => mg μ s k q) 1000000 (mO μ) (k : Int) (μ 25 (3 * s + k)).toNat T) k ((μ 24 s).toNat - k) T1 = mchO μ s (mO μ) → V x 0 0 none 25 [some (aR 12 0), some (aI s), some (aI (k : Int)), none, none, none, none] [] μ1) (fun k _ ih μ1 T1 a1 hF1 hT1 a4 => ?_) 0 trivial μ1 (fun _ => -1) (by decide) hF1 (fun p hp => ⟨a2 p (by omega), Int.le_refl _, (by show (-1 : Int) < 3; decide)⟩) rfl
    have e24 : μ1 24 s = μ 24 s := hF1 24 s (by decide)
    refine v_iload_n hC 2 dX4_choose_25 rfl rfl ?_
    refine v_aload_n hC 0 dX4_choose_26 rfl rfl ?_
    refine v_getR hC foX4_7 dX4_choose_27 rfl rfl rfl (by decide) (by first | decide | (simp only [vdn]; omega)) ?_
    refine v_iload_n hC 1 dX4_choose_30 rfl rfl ?_
    refine v_iald hC dX4_choose_31 rfl rfl rfl (by first | decide | (simp only [vdn]; omega)) ⟨by first | omega | (simp only [mlen]; omega), by first | omega | (simp only [mlen]; omega)⟩ ?_
    try simp only [Int.toNat_natCast, upM_at, upM_nef, ne_eq, not_false_eq_true, Nat.reduceEqDiff, Nat.reduceAdd]
    refine v_icmp_ge hC 182 dX4_choose_32 rfl (fun h32 => ?_) (fun h32 => ?_)
    · exact v_vret hC hR (Nat.le_refl _) (Nat.le_refl _) dX4_choose_182 (⟨rfl, hF1, by rw [← a4, itr_done (by omega)]; exact hT1⟩)
    · refine v_iconst hC dX4_choose_35 ⟨by decide, by decide⟩ ?_
      refine v_istore_n hC 3 dX4_choose_36 rfl (Nat.le_of_ble_eq_true rfl) ?_
      have hk1 := hkc s hs
      have hq1 := hq (3 * s + k) (by omega)
      have ei : ((3 : Int) * (s : Int) + (k : Int)).toNat = 3 * s + k := by omega
      rw [itr_step (by omega)] at a4
      refine v_loop (fun n : Nat => (μ 25 (3 * s + k)).toNat - n) (fun _ => True) (fun n => ∀ (μ2 : MU) (T2 : Nat → Int), n ≤ 6 → Fr [39] μ μ2 → TI (μ 23 0).toNat μ2 T2 → itr (fun k T => tkK (μ 23 0).toNat (fun q => mg μ s k q) 1000000 (mO μ) (k : Int) (μ 25 (3 * s + k)).toNat T) (k + 1) ((μ 24 s).toNat - (k + 1)) (itr (fun _ T => tk1 (μ 23 0).toNat (fun q => mg μ s k q) 1000000 (mO μ) (k : Int) T) n ((μ 25 (3 * s + k)).toNat - n) T2) = mchO μ s (mO μ) → V x 0 0 none 37 [some (aR 12 0), some (aI s), some (aI (k : Int)), some (aI (n : Int)), none, none, none] [] μ2) (fun n _ ih2 μ2 T2 b1 hF2 hT2 b4 => ?_) 0 trivial μ1 T1 (by decide) hF1 hT1 a4
      have e25 : μ2 25 (3 * s + k) = μ 25 (3 * s + k) := hF2 25 _ (by decide)
      have f1 : μ2 23 0 = μ 23 0 := hF2 23 0 (by decide)
      have hSm2 : Sm μ2 := hF2.Sm hSm0 (by decide)
      refine v_iload_n hC 3 dX4_choose_37 rfl rfl ?_
      refine v_aload_n hC 0 dX4_choose_38 rfl rfl ?_
      refine v_getR hC foX4_13 dX4_choose_39 rfl rfl rfl (by decide) (by first | decide | (simp only [vdn]; omega)) ?_
      refine v_iconst hC dX4_choose_42 ⟨by decide, by decide⟩ ?_
      refine v_iload_n hC 1 dX4_choose_43 rfl rfl ?_
      refine v_imul hC dX4_choose_44 ⟨by omega, by omega⟩ ?_
      refine v_iload_n hC 2 dX4_choose_45 rfl rfl ?_
      refine v_iadd hC dX4_choose_46 ⟨by omega, by omega⟩ ?_
      refine v_iald hC dX4_choose_47 rfl rfl rfl (by first | decide | (simp only [vdn]; omega)) ⟨by first | omega | (simp only [mlen]; omega), by first | omega | (simp only [mlen]; omega)⟩ ?_
      try simp only [Int.toNat_natCast, upM_at, upM_nef, ne_eq, not_false_eq_true, Nat.reduceEqDiff, Nat.reduceAdd]
      rw [ei, e25]
      refine v_icmp_ge hC 176 dX4_choose_48 rfl (fun h48 => ?_) (fun h48 => ?_)
      · refine v_iinc hC dX4_choose_176 rfl ⟨by omega, by omega⟩ ?_
        refine v_goto hC 25 dX4_choose_179 rfl ?_
        refine v_forget 3 (v_forget 4 (v_forget 5 ?_))
        exact ih (k + 1) trivial (by omega) μ2 T2 (by omega) hF2 hT2 (by rw [← b4, itr_done (f := (fun _ T => tk1 (μ 23 0).toNat (fun q => mg μ s k q) 1000000 (mO μ) (k : Int) T)) (i := n) (n := (μ 25 (3 * s + k)).toNat) (by omega)])
      · refine v_iconst hC dX4_choose_51 ⟨by decide, by decide⟩ ?_
        refine v_istore hC dX4_choose_52 (Nat.le_of_ble_eq_true rfl) ?_
        refine v_iconst hC dX4_choose_54 ⟨by decide, by decide⟩ ?_
        refine v_istore hC dX4_choose_55 (Nat.le_of_ble_eq_true rfl) ?_
        refine v_loop (fun p : Nat => (μ 23 0).toNat - p) (fun _ => True) (fun p => ∀ (c d : Int), p ≤ (μ 23 0).toNat → bsI (fun q => mO μ q && decide (T2 q = -1)) (fun q => mg μ s k q) 1000000 p c d → itr (minS (fun q => mO μ q && decide (T2 q = -1)) (fun q => mg μ s k q)) p ((μ 23 0).toNat - p) (c, d) = itr (minS (fun q => mO μ q && decide (T2 q = -1)) (fun q => mg μ s k q)) 0 (μ 23 0).toNat (-1, 1000000) → V x 0 0 none 57 [some (aR 12 0), some (aI s), some (aI (k : Int)), some (aI (n : Int)), some (aI c), some (aI (p : Int)), none] [] μ2) (fun p _ ih3 c d c1 c3 c4 => ?_) 0 trivial (-1) 1000000 (Nat.zero_le _) (Or.inl ⟨rfl, rfl⟩) rfl
        have g38 : μ2 38 p = μ 38 p := hF2 38 p (by decide)
        have c3' : bsI (fun q => mO μ q && decide (T2 q = -1)) (fun q => mg μ s k q) 1000000 (p + 1) c d := c3.imp id (fun ⟨q, h1, h2, h3⟩ => ⟨q, h1, by omega, h3⟩)
        have hnof : ¬ ((fun q => mO μ q && decide (T2 q = -1)) p = true ∧ (mbnF μ p s k).isSome = true) → minS (fun q => mO μ q && decide (T2 q = -1)) (fun q => mg μ s k q) p (c, d) = (c, d) := fun h => if_neg (fun h9 => h ⟨h9.1, by
          have h8 := h9.2
          unfold mg at h8
          dsimp only at h8
          rcases c3 with ⟨-, hd⟩ | ⟨q, -, -, hd, -, hd2⟩
          · by_cases h7 : (mbnF μ p s k).isSome = true
            · exact h7
            · rw [if_neg h7] at h8; omega
          · by_cases h7 : (mbnF μ p s k).isSome = true
            · exact h7
            · rw [if_neg h7] at h8
              have hd : d = mg μ s k q := hd
              have hd2 : mg μ s k q < 1000000 := hd2
              omega⟩)
        refine v_iload hC dX4_choose_57 rfl ?_
        refine v_aload_n hC 0 dX4_choose_59 rfl rfl ?_
        refine v_getI hC foX4_66 dX4_choose_60 rfl rfl rfl (by first | decide | (simp only [vdn]; omega)) ?_
        try simp only [Int.toNat_natCast, upM_at, upM_nef, ne_eq, not_false_eq_true, Nat.reduceEqDiff, Nat.reduceAdd]
        refine v_icmp_ge hC 157 dX4_choose_63 rfl (fun h63 => ?_) (fun h63 => ?_)
        · refine v_iload hC dX4_choose_157 rfl ?_
          refine v_if_lt hC 170 dX4_choose_159 rfl (fun h159 => ?_) (fun h159 => ?_)
          · refine v_iinc hC dX4_choose_170 rfl ⟨by omega, by omega⟩ ?_
            refine v_goto hC 37 dX4_choose_173 rfl ?_
            refine v_forget 4 (v_forget 5 ?_)
            have hc : c = -1 := by rcases c3 with h | ⟨q, h, -⟩ <;> omega
            have hb : bst (μ 23 0).toNat (fun q => mg μ s k q) 1000000 (fun q => mO μ q && decide (T2 q = -1)) = -1 := by rw [bst, ← c4, itr_done (by omega)]; exact hc
            exact ih2 (n + 1) trivial (by omega) μ2 T2 (by omega) hF2 hT2 (by rw [← b4, itr_step (f := (fun _ T => tk1 (μ 23 0).toNat (fun q => mg μ s k q) 1000000 (mO μ) (k : Int) T)) (i := n) (n := (μ 25 (3 * s + k)).toNat) (by omega), tk1_idle hb])
          · obtain ⟨q, rfl, hqp⟩ : ∃ q : Nat, c = (q : Int) ∧ q < p := by
              rcases c3 with ⟨h, -⟩ | ⟨q, h, h2, -⟩
              · omega
              · exact ⟨q, h, h2⟩
            refine v_aload_n hC 0 dX4_choose_162 rfl rfl ?_
            refine v_getR hC foX4_56 dX4_choose_163 rfl rfl rfl (by decide) (by first | decide | (simp only [vdn]; omega)) ?_
            refine v_iload hC dX4_choose_166 rfl ?_
            refine v_iload_n hC 2 dX4_choose_168 rfl rfl ?_
            refine v_iast hC dX4_choose_169 rfl rfl rfl (by decide) (by first | decide | (simp only [vdn]; omega)) ⟨by first | omega | (simp only [mlen]; omega), by first | omega | (simp only [mlen]; omega)⟩ ?_
            try simp only [Int.toNat_natCast, upM_at, upM_nef, ne_eq, not_false_eq_true, Nat.reduceEqDiff, Nat.reduceAdd]
            refine v_iinc hC dX4_choose_170 rfl ⟨by omega, by omega⟩ ?_
            refine v_goto hC 37 dX4_choose_173 rfl ?_
            refine v_forget 4 (v_forget 5 ?_)
            have hb : bst (μ 23 0).toNat (fun q => mg μ s k q) 1000000 (fun q => mO μ q && decide (T2 q = -1)) = (q : Int) := by rw [bst, ← c4, itr_done (by omega)]
            refine ih2 (n + 1) trivial (by omega) _ (tk1 (μ 23 0).toNat (fun q => mg μ s k q) 1000000 (mO μ) (k : Int) T2) (by omega) (hF2.up (by decide)) (fun r hr9 => ?_) (by rw [← b4, itr_step (f := (fun _ T => tk1 (μ 23 0).toNat (fun q => mg μ s k q) 1000000 (mO μ) (k : Int) T)) (i := n) (n := (μ 25 (3 * s + k)).toNat) (by omega)])
            have hr1 := hT2 r hr9
            unfold tk1
            rw [hb]
            by_cases e : r = q
            · rw [e, upM_at, if_pos rfl]; omega
            · rw [upM_ne (fun h => e h.2), if_neg (fun h => e (by omega))]; exact hr1
        · refine v_aload_n hC 0 dX4_choose_66 rfl rfl ?_
          refine v_getR hC foX4_53 dX4_choose_67 rfl rfl rfl (by decide) (by first | decide | (simp only [vdn]; omega)) ?_
          refine v_iload hC dX4_choose_70 rfl ?_
          refine v_zald hC dX4_choose_72 rfl rfl rfl (by first | decide | (simp only [vdn]; omega)) ⟨by first | omega | (simp only [mlen]; omega), by first | omega | (simp only [mlen]; omega)⟩ ?_
          try simp only [Int.toNat_natCast, upM_at, upM_nef, ne_eq, not_false_eq_true, Nat.reduceEqDiff, Nat.reduceAdd]
          refine v_if_eq hC 101 dX4_choose_73 rfl (fun h73 => ?_) (fun h73 => ?_)
          · refine v_iconst hC dX4_choose_101 ⟨by decide, by decide⟩ ?_
            refine v_istore hC dX4_choose_102 (Nat.le_of_ble_eq_true rfl) ?_
            refine v_iload hC dX4_choose_104 rfl ?_
            refine v_if_eq hC 147 dX4_choose_106 rfl (fun h106 => ?_) (fun h106 => ?_)
            · refine v_iload hC dX4_choose_147 rfl ?_
              refine v_istore hC dX4_choose_149 (Nat.le_of_ble_eq_true rfl) ?_
              refine v_iinc hC dX4_choose_151 rfl ⟨by omega, by omega⟩ ?_
              refine v_goto hC 57 dX4_choose_154 rfl ?_
              refine v_forget 6 ?_
              exact ih3 (p + 1) trivial (by omega) c (d) (by omega) (c3') (itr_next (by omega) (hnof (fun h => by have h1 := h.1; simp [mO] at h1; exact h1.1 (by rw [← g38]; exact h73))) c4)
            · exfalso; omega
          · refine v_aload_n hC 0 dX4_choose_76 rfl rfl ?_
            refine v_getR hC foX4_56 dX4_choose_77 rfl rfl rfl (by decide) (by first | decide | (simp only [vdn]; omega)) ?_
            refine v_iload hC dX4_choose_80 rfl ?_
            refine v_iald hC dX4_choose_82 rfl rfl rfl (by first | decide | (simp only [vdn]; omega)) ⟨by first | omega | (simp only [mlen]; omega), by first | omega | (simp only [mlen]; omega)⟩ ?_
            try simp only [Int.toNat_natCast, upM_at, upM_nef, ne_eq, not_false_eq_true, Nat.reduceEqDiff, Nat.reduceAdd]
            refine v_if_ge hC 101 dX4_choose_83 rfl (fun h83 => ?_) (fun h83 => ?_)
            · refine v_iconst hC dX4_choose_101 ⟨by decide, by decide⟩ ?_
              refine v_istore hC dX4_choose_102 (Nat.le_of_ble_eq_true rfl) ?_
              refine v_iload hC dX4_choose_104 rfl ?_
              refine v_if_eq hC 147 dX4_choose_106 rfl (fun h106 => ?_) (fun h106 => ?_)
              · refine v_iload hC dX4_choose_147 rfl ?_
                refine v_istore hC dX4_choose_149 (Nat.le_of_ble_eq_true rfl) ?_
                refine v_iinc hC dX4_choose_151 rfl ⟨by omega, by omega⟩ ?_
                refine v_goto hC 57 dX4_choose_154 rfl ?_
                refine v_forget 6 ?_
                exact ih3 (p + 1) trivial (by omega) c (d) (by omega) (c3') (itr_next (by omega) (hnof (fun h => by have h1 := h.1; simp [mO] at h1; have := (hT2 p (by omega)).1; omega)) c4)
              · exfalso; omega
            · refine v_aload_n hC 0 dX4_choose_86 rfl rfl ?_
              refine v_iload hC dX4_choose_87 rfl ?_
              refine v_iload_n hC 1 dX4_choose_89 rfl rfl ?_
              refine v_iload_n hC 2 dX4_choose_90 rfl rfl ?_
              refine v_callI3 hC (cwX4_89 hC ⟨Nat.le_of_ble_eq_true rfl, Nat.le_of_ble_eq_true rfl⟩) dX4_choose_91 rfl rfl rfl (Nat.zero_le _) (Nat.zero_le _) (Nat.le_of_ble_eq_true rfl) (by first | decide | (simp only [vdn]; omega)) (cX4_eligible_ok p s k μ2 (by omega) hs (by omega)) (fun r1 μ1 hp => ?_)
              obtain ⟨rfl, rfl⟩ := hp
              refine v_if_eq hC 101 dX4_choose_94 rfl (fun h94 => ?_) (fun h94 => ?_)
              · refine v_iconst hC dX4_choose_101 ⟨by decide, by decide⟩ ?_
                refine v_istore hC dX4_choose_102 (Nat.le_of_ble_eq_true rfl) ?_
                refine v_iload hC dX4_choose_104 rfl ?_
                refine v_if_eq hC 147 dX4_choose_106 rfl (fun h106 => ?_) (fun h106 => ?_)
                · refine v_iload hC dX4_choose_147 rfl ?_
                  refine v_istore hC dX4_choose_149 (Nat.le_of_ble_eq_true rfl) ?_
                  refine v_iinc hC dX4_choose_151 rfl ⟨by omega, by omega⟩ ?_
                  refine v_goto hC 57 dX4_choose_154 rfl ?_
                  refine v_forget 6 ?_
                  exact ih3 (p + 1) trivial (by omega) c (d) (by omega) (c3') (itr_next (by omega) (hnof (fun h => bI_z.1 h94 (by rw [hF2.mbn (by decide)]; exact h.2))) c4)
                · exfalso; omega
              · refine v_iconst hC dX4_choose_97 ⟨by decide, by decide⟩ ?_
                refine v_goto hC 102 dX4_choose_98 rfl ?_
                refine v_istore hC dX4_choose_102 (Nat.le_of_ble_eq_true rfl) ?_
                refine v_iload hC dX4_choose_104 rfl ?_
                refine v_if_eq hC 147 dX4_choose_106 rfl (fun h106 => ?_) (fun h106 => ?_)
                · exfalso; omega
                · refine v_iload hC dX4_choose_109 rfl ?_
                  refine v_if_lt hC 142 dX4_choose_111 rfl (fun h111 => ?_) (fun h111 => ?_)
                  · refine v_iload hC dX4_choose_142 rfl ?_
                    refine v_goto hC 149 dX4_choose_144 rfl ?_
                    refine v_istore hC dX4_choose_149 (Nat.le_of_ble_eq_true rfl) ?_
                    refine v_iinc hC dX4_choose_151 rfl ⟨by omega, by omega⟩ ?_
                    refine v_goto hC 57 dX4_choose_154 rfl ?_
                    refine v_forget 6 ?_
                    have hE : (fun q => mO μ q && decide (T2 q = -1)) p = true := by
                      have h1 := hT2 p (by omega)
                      simp [mO]
                      exact ⟨fun h => h73 (by rw [g38]; exact h), by omega⟩
                    have hel : (mbnF μ p s k).isSome = true := by rw [← hF2.mbn (by decide)]; exact bI_n.1 h94
                    have hgp : mg μ s k p = rkF μ p s k := if_pos hel
                    have hrr := rkF_r (k := k) hSm0 (p := p) (by omega) hs
                    have hd : d = 1000000 := by rcases c3 with ⟨-, h⟩ | ⟨q, h, -⟩ <;> omega
                    exact ih3 (p + 1) trivial (by omega) p (mg μ s k p) (by omega) (Or.inr ⟨p, rfl, by omega, rfl, hE, (by show mg μ s k p < 1000000; omega)⟩) (itr_next (by omega) (by rw [minS, if_pos ⟨hE, by dsimp only; omega⟩]) c4)
                  · obtain ⟨q, rfl, hqp, hqd, hqE, hqB⟩ : ∃ q : Nat, c = (q : Int) ∧ q < p ∧ d = mg μ s k q ∧ (fun q => mO μ q && decide (T2 q = -1)) q = true ∧ mg μ s k q < 1000000 := by
                      rcases c3 with ⟨h, -⟩ | h
                      · omega
                      · exact h
                    have hE : (fun q => mO μ q && decide (T2 q = -1)) p = true := by
                      have h1 := hT2 p (by omega)
                      simp [mO]
                      exact ⟨fun h => h73 (by rw [g38]; exact h), by omega⟩
                    have hel : (mbnF μ p s k).isSome = true := by rw [← hF2.mbn (by decide)]; exact bI_n.1 h94
                    have hgp : mg μ s k p = rkF μ p s k := if_pos hel
                    have hrr := rkF_r (k := k) hSm0 (p := p) (by omega) hs
                    have hgq : mg μ s k q = rkF μ q s k := by
                      unfold mg at hqB ⊢
                      by_cases h7 : (mbnF μ q s k).isSome = true
                      · rw [if_pos h7]
                      · rw [if_neg h7] at hqB; omega
                    refine v_aload_n hC 0 dX4_choose_114 rfl rfl ?_
                    refine v_iload hC dX4_choose_115 rfl ?_
                    refine v_iload_n hC 1 dX4_choose_117 rfl rfl ?_
                    refine v_iload_n hC 2 dX4_choose_118 rfl rfl ?_
                    refine v_callI3 hC (cwX4_93 hC ⟨Nat.le_of_ble_eq_true rfl, Nat.le_of_ble_eq_true rfl⟩) dX4_choose_119 rfl rfl rfl (Nat.zero_le _) (Nat.zero_le _) (Nat.le_of_ble_eq_true rfl) (by first | decide | (simp only [vdn]; omega)) (cX4_rank_ok p s k μ2 (by omega) hs (by omega) hSm2) (fun r1 μ1 hp => ?_)
                    obtain ⟨rfl, rfl⟩ := hp
                    refine v_aload_n hC 0 dX4_choose_122 rfl rfl ?_
                    refine v_iload hC dX4_choose_123 rfl ?_
                    refine v_if_ge hC 132 dX4_choose_125 rfl (fun h125 => ?_) (fun h125 => ?_)
                    · refine v_iload hC dX4_choose_132 rfl ?_
                      refine v_iload_n hC 1 dX4_choose_134 rfl rfl ?_
                      refine v_iload_n hC 2 dX4_choose_135 rfl rfl ?_
                      refine v_callI3 hC (cwX4_93 hC ⟨Nat.le_of_ble_eq_true rfl, Nat.le_of_ble_eq_true rfl⟩) dX4_choose_136 rfl rfl rfl (Nat.zero_le _) (Nat.zero_le _) (Nat.le_of_ble_eq_true rfl) (by first | decide | (simp only [vdn]; omega)) (cX4_rank_ok q s k μ2 (by omega) hs (by omega) hSm2) (fun r1 μ1 hp => ?_)
                      obtain ⟨rfl, rfl⟩ := hp
                      refine v_icmp_ge hC 147 dX4_choose_139 rfl (fun h139 => ?_) (fun h139 => ?_)
                      · refine v_iload hC dX4_choose_147 rfl ?_
                        refine v_istore hC dX4_choose_149 (Nat.le_of_ble_eq_true rfl) ?_
                        refine v_iinc hC dX4_choose_151 rfl ⟨by omega, by omega⟩ ?_
                        refine v_goto hC 57 dX4_choose_154 rfl ?_
                        refine v_forget 6 ?_
                        rw [hF2.rk (by decide), hF2.rk (by decide)] at h139
                        exact ih3 (p + 1) trivial (by omega) (q : Int) d (by omega) c3' (itr_next (by omega) (by rw [minS, if_neg (fun h9 => by have h8 := h9.2; dsimp only at h8; omega)]) c4)
                      · refine v_iload hC dX4_choose_142 rfl ?_
                        refine v_goto hC 149 dX4_choose_144 rfl ?_
                        refine v_istore hC dX4_choose_149 (Nat.le_of_ble_eq_true rfl) ?_
                        refine v_iinc hC dX4_choose_151 rfl ⟨by omega, by omega⟩ ?_
                        refine v_goto hC 57 dX4_choose_154 rfl ?_
                        refine v_forget 6 ?_
                        rw [hF2.rk (by decide), hF2.rk (by decide)] at h139
                        exact ih3 (p + 1) trivial (by omega) p (mg μ s k p) (by omega) (Or.inr ⟨p, rfl, by omega, rfl, hE, (by show mg μ s k p < 1000000; omega)⟩) (itr_next (by omega) (by rw [minS, if_pos ⟨hE, by dsimp only; omega⟩]) c4)
                    · exfalso; omega
  · refine v_aload_n hC 0 dX4_choose_10 rfl rfl ?_
    refine v_getR hC foX4_56 dX4_choose_11 rfl rfl rfl (by decide) (by first | decide | (simp only [vdn]; omega)) ?_
    refine v_iload_n hC 2 dX4_choose_14 rfl rfl ?_
    refine v_iconst hC dX4_choose_15 ⟨by decide, by decide⟩ ?_
    refine v_iast hC dX4_choose_16 rfl rfl rfl (by decide) (by first | decide | (simp only [vdn]; omega)) ⟨by first | omega | (simp only [mlen]; omega), by first | omega | (simp only [mlen]; omega)⟩ ?_
    try simp only [Int.toNat_natCast, upM_at, upM_nef, ne_eq, not_false_eq_true, Nat.reduceEqDiff, Nat.reduceAdd]
    refine v_iinc hC dX4_choose_17 rfl ⟨by omega, by omega⟩ ?_
    refine v_goto hC 2 dX4_choose_20 rfl ?_
    exact ih (i + 1) trivial (by omega) _ (by omega) (hF1.up (by decide)) (fun p h => by
      by_cases e : p = i
      · rw [e, upM_at]
      · rw [upM_ne (fun h => e h.2)]; exact a2 p (by omega))
end
section
/-! The reference asks, blocks, moves. -/
def mAO (μ : MU) (p s q : Nat) : Bool := decide (q = p ∨ μ 33 q = (s : Int))
def mBO (μ : MU) (p s q : Nat) : Bool := decide (q = p ∨ μ 33 q = (s : Int) ∧ 0 ≤ μ 34 q)
def mAskP (μ : MU) (p s : Nat) (μ' : MU) : Prop := Fr [32, 33, 34, 38, 39] μ μ' ∧ (∀ q, μ' 32 q = if q = p then μ 32 p + 1 else μ 32 q) ∧
  ∀ q, q < (μ 23 0).toNat → μ' 34 q = (if mAO μ p s q = true then mchO μ s (mAO μ p s) q else μ 34 q) ∧ μ' 33 q = (if mAO μ p s q = true then (if mchO μ s (mAO μ p s) q = -1 then -1 else (s : Int)) else μ 33 q)
theorem Sm.ask {μ : MU} {p : Nat} (h : Sm μ) (hp : p < 20) (ha : μ 32 p < 4) : Sm (upM μ 32 p (μ 32 p + 1)) := by
  obtain ⟨h1, h2, h3, h4, h5, h6, h7, h8⟩ := h
  refine ⟨h1, h2, h3, h4, h5, fun q hq => ?_, h7, h8⟩
  have e11 : upM μ 32 p (μ 32 p + 1) 29 q = μ 29 q := upM_nef (by decide)
  have hq6 := h6 q hq
  by_cases e : q = p
  · have e17 : upM μ 32 p (μ 32 p + 1) 32 q = μ 32 p + 1 := by rw [e, upM_at]
    rw [e11, e17]
    have := h6 p hp
    omega
  · have e17 : upM μ 32 p (μ 32 p + 1) 32 q = μ 32 q := upM_ne (fun h => e h.2)
    rw [e11, e17]
    exact hq6
/-- the choice when the offers are O -/
theorem offers_ch {a b : MU} {S : List Nat} {s : Nat} {O : Nat → Bool} (h : Fr S a b) (hs : ∀ f, f ∈ [23, 24, 25, 26, 27, 28, 31] → f ∉ S) (hO : ∀ q, q < (a 23 0).toNat → b 38 q = bI (O q = true)) : ∀ p, p < (a 23 0).toNat → mchO b s (mO b) p = mchO a s O p := by
  refine mchO_of (h 23 0 (hs 23 (by decide))) (h 24 s (hs 24 (by decide))) (fun j => h 25 j (hs 25 (by decide))) (fun k p => h.mg (fun f hf => hs f (List.mem_of_mem_drop (i := 3) hf)) s k p) (fun p hp => ?_)
  unfold mO
  rw [hO p hp]
  by_cases e : O p = true
  · rw [e]; simp [bI]
  · simp [bI, e]
abbrev rmX4_ask : Room := { frames := 3, cells := 0, slots := 0, locals := 75 }
set_option maxRecDepth 100000 in
set_option maxHeartbeats 4000000 in
theorem cX4_ask_ok (p s : Nat) (μ : MU) (hp : p < (μ 23 0).toNat) (hs : s < 6) (hSm : Sm μ) (ha : μ 32 p < μ 29 p) (hse : μ 30 (4 * p + (μ 32 p).toNat) = (s : Int)) : CTv yX4_ask cX4_ask 4 rmX4_ask [aR 12 0, aI p] μ (fun μ' => mAskP μ p s μ') := by
  intro l9 b9 D9 K9
  refine met_of (by decide) (Nat.le_of_ble_eq_true rfl) (fun x hC hR hM hA => ?_)
  have hC : Ctx x RX4 cX4_ask rmX4_ask := hC
  have hSm0 := hSm
  obtain ⟨⟨s1, s2⟩, ⟨n1, n2⟩, hr, hkc, hq, hpp, hli, hnu⟩ := hSm
  have hp1 := hpp p (by omega)
  have ei : ((4 : Int) * (p : Int) + μ 32 p).toNat = 4 * p + (μ 32 p).toNat := by omega
  have hSmA : Sm (upM μ 32 p (μ 32 p + 1)) := hSm0.ask (by omega) (by omega)
  refine v_aload_n hC 0 dX4_ask_0 rfl rfl ?_
  refine v_getR hC foX4_29 dX4_ask_1 rfl rfl rfl (by decide) (by first | decide | (simp only [vdn]; omega)) ?_
  refine v_iconst hC dX4_ask_4 ⟨by decide, by decide⟩ ?_
  refine v_iload_n hC 1 dX4_ask_5 rfl rfl ?_
  refine v_imul hC dX4_ask_6 ⟨by omega, by omega⟩ ?_
  refine v_aload_n hC 0 dX4_ask_7 rfl rfl ?_
  refine v_getR hC foX4_35 dX4_ask_8 rfl rfl rfl (by decide) (by first | decide | (simp only [vdn]; omega)) ?_
  refine v_iload_n hC 1 dX4_ask_11 rfl rfl ?_
  refine v_iald hC dX4_ask_12 rfl rfl rfl (by first | decide | (simp only [vdn]; omega)) ⟨by first | omega | (simp only [mlen]; omega), by first | omega | (simp only [mlen]; omega)⟩ ?_
  try simp only [Int.toNat_natCast, upM_at, upM_nef, ne_eq, not_false_eq_true, Nat.reduceEqDiff, Nat.reduceAdd]
  refine v_iadd hC dX4_ask_13 ⟨by omega, by omega⟩ ?_
  refine v_iald hC dX4_ask_14 rfl rfl rfl (by first | decide | (simp only [vdn]; omega)) ⟨by first | omega | (simp only [mlen]; omega), by first | omega | (simp only [mlen]; omega)⟩ ?_
  try simp only [Int.toNat_natCast, upM_at, upM_nef, ne_eq, not_false_eq_true, Nat.reduceEqDiff, Nat.reduceAdd]
  rw [ei, hse]
  refine v_istore_n hC 2 dX4_ask_15 rfl (Nat.le_of_ble_eq_true rfl) ?_
  refine v_aload_n hC 0 dX4_ask_16 rfl rfl ?_
  refine v_getR hC foX4_35 dX4_ask_17 rfl rfl rfl (by decide) (by first | decide | (simp only [vdn]; omega)) ?_
  refine v_iload_n hC 1 dX4_ask_20 rfl rfl ?_
  refine v_dup2 hC dX4_ask_21 ?_
  refine v_iald hC dX4_ask_22 rfl rfl rfl (by first | decide | (simp only [vdn]; omega)) ⟨by first | omega | (simp only [mlen]; omega), by first | omega | (simp only [mlen]; omega)⟩ ?_
  try simp only [Int.toNat_natCast, upM_at, upM_nef, ne_eq, not_false_eq_true, Nat.reduceEqDiff, Nat.reduceAdd]
  refine v_iconst hC dX4_ask_23 ⟨by decide, by decide⟩ ?_
  refine v_iadd hC dX4_ask_24 ⟨by omega, by omega⟩ ?_
  refine v_iast hC dX4_ask_25 rfl rfl rfl (by decide) (by first | decide | (simp only [vdn]; omega)) ⟨by first | omega | (simp only [mlen]; omega), by first | omega | (simp only [mlen]; omega)⟩ ?_
  try simp only [Int.toNat_natCast, upM_at, upM_nef, ne_eq, not_false_eq_true, Nat.reduceEqDiff, Nat.reduceAdd]
  refine v_iconst hC dX4_ask_26 ⟨by decide, by decide⟩ ?_
  refine v_istore_n hC 3 dX4_ask_27 rfl (Nat.le_of_ble_eq_true rfl) ?_
  refine v_loop (fun i : Nat => (μ 23 0).toNat - i) (fun _ => True) (fun i => ∀ (μ1 : MU), i ≤ (μ 23 0).toNat → Fr [38] (upM μ 32 p (μ 32 p + 1)) μ1 → (∀ q, q < i → μ1 38 q = bI (mAO μ p s q = true)) → V x 0 0 none 28 [some (aR 12 0), some (aI p), some (aI s), some (aI (i : Int))] [] μ1) (fun i _ ih μ1 a1 hF1 a2 => ?_) 0 trivial _ (Nat.zero_le _) Fr.rf (fun q h => by omega)
  have e1 : μ1 23 0 = μ 23 0 := (hF1 23 0 (by decide)).trans (upM_nef (by decide))
  have e33 : μ1 33 i = μ 33 i := (hF1 33 i (by decide)).trans (upM_nef (by decide))
  refine v_iload_n hC 3 dX4_ask_28 rfl rfl ?_
  refine v_aload_n hC 0 dX4_ask_29 rfl rfl ?_
  refine v_getI hC foX4_66 dX4_ask_30 rfl rfl rfl (by first | decide | (simp only [vdn]; omega)) ?_
  try simp only [Int.toNat_natCast, upM_at, upM_nef, ne_eq, not_false_eq_true, Nat.reduceEqDiff, Nat.reduceAdd]
  refine v_icmp_ge hC 68 dX4_ask_33 rfl (fun h33 => ?_) (fun h33 => ?_)
  · have hSm1 : Sm μ1 := hF1.Sm hSmA (by decide)
    have hFA : Fr [32, 38] μ μ1 := (Fr.up Fr.rf (by decide)).trans (hF1.mono (by decide))
    refine v_aload_n hC 0 dX4_ask_68 rfl rfl ?_
    refine v_iload_n hC 2 dX4_ask_69 rfl rfl ?_
    refine v_callV1 hC (cwX4_96 hC ⟨Nat.le_of_ble_eq_true rfl, Nat.le_of_ble_eq_true rfl⟩) dX4_ask_70 rfl rfl rfl (Nat.zero_le _) (Nat.zero_le _) (Nat.le_of_ble_eq_true rfl) (by first | decide | (simp only [vdn]; omega)) (cX4_choose_ok s μ1 hs hSm1) (fun μ1 hp => ?_)
    obtain ⟨hF2, hT2⟩ := hp
    rename_i μ0
    rw [e1] at hT2
    have hch := offers_ch (s := s) (O := mAO μ p s) hFA (by decide) (fun q hq9 => a2 q (by omega))
    have hT : ∀ q, q < (μ 23 0).toNat → μ1 39 q = mchO μ s (mAO μ p s) q ∧ -1 ≤ mchO μ s (mAO μ p s) q ∧ mchO μ s (mAO μ p s) q < 3 := fun q hq9 => by
      have h9 := hT2 q hq9
      rw [hch q hq9] at h9
      exact h9
    have h38 : ∀ q, q < (μ 23 0).toNat → μ1 38 q = bI (mAO μ p s q = true) := fun q hq9 => (hF2 38 q (by decide)).trans (a2 q (by omega))
    have hFB : Fr [32, 38, 39] μ μ1 := (hFA.mono (by decide)).trans (hF2.mono (by decide))
    refine v_iconst hC dX4_ask_73 ⟨by decide, by decide⟩ ?_
    refine v_istore_n hC 3 dX4_ask_74 rfl (Nat.le_of_ble_eq_true rfl) ?_
    refine v_loop (fun i : Nat => (μ 23 0).toNat - i) (fun _ => True) (fun i => ∀ (μ3 : MU), i ≤ (μ 23 0).toNat → Fr [33, 34] μ1 μ3 → (∀ q, q < (μ 23 0).toNat → q < i → μ3 34 q = (if mAO μ p s q = true then mchO μ s (mAO μ p s) q else μ 34 q) ∧ μ3 33 q = (if mAO μ p s q = true then (if mchO μ s (mAO μ p s) q = -1 then -1 else (s : Int)) else μ 33 q)) → (∀ q, q < (μ 23 0).toNat → i ≤ q → μ3 33 q = μ 33 q ∧ μ3 34 q = μ 34 q) → V x 0 0 none 75 [some (aR 12 0), some (aI p), some (aI s), some (aI (i : Int))] [] μ3) (fun i _ ih μ3 a1 hF3 a2 a3 => ?_) 0 trivial _ (Nat.zero_le _) Fr.rf (fun q _ h => by omega) (fun q _ _ => ⟨hFB 33 q (by decide), hFB 34 q (by decide)⟩)
    have g1 : μ3 23 0 = μ 23 0 := (hF3 23 0 (by decide)).trans (hFB 23 0 (by decide))
    have g38 : i < (μ 23 0).toNat → μ3 38 i = bI (mAO μ p s i = true) := fun h => (hF3 38 i (by decide)).trans (h38 i h)
    have g39 : i < (μ 23 0).toNat → μ3 39 i = mchO μ s (mAO μ p s) i ∧ -1 ≤ mchO μ s (mAO μ p s) i ∧ mchO μ s (mAO μ p s) i < 3 := fun h => ⟨(hF3 39 i (by decide)).trans (hT i h).1, (hT i h).2⟩
    refine v_iload_n hC 3 dX4_ask_75 rfl rfl ?_
    refine v_aload_n hC 0 dX4_ask_76 rfl rfl ?_
    refine v_getI hC foX4_66 dX4_ask_77 rfl rfl rfl (by first | decide | (simp only [vdn]; omega)) ?_
    try simp only [Int.toNat_natCast, upM_at, upM_nef, ne_eq, not_false_eq_true, Nat.reduceEqDiff, Nat.reduceAdd]
    refine v_icmp_ge hC 130 dX4_ask_80 rfl (fun h80 => ?_) (fun h80 => ?_)
    · exact v_vret hC hR (Nat.le_refl _) (Nat.le_refl _) dX4_ask_130 (⟨rfl, (hFB.mono (by decide)).trans (hF3.mono (by decide)), fun q => by
        rw [hF3 32 q (by decide), hF2 32 q (by decide), hF1 32 q (by decide)]
        by_cases e : q = p
        · rw [e, upM_at, if_pos rfl]
        · rw [upM_ne (fun h => e h.2), if_neg e], fun q hq9 => a2 q hq9 (by omega)⟩)
    · refine v_aload_n hC 0 dX4_ask_83 rfl rfl ?_
      refine v_getR hC foX4_53 dX4_ask_84 rfl rfl rfl (by decide) (by first | decide | (simp only [vdn]; omega)) ?_
      refine v_iload_n hC 3 dX4_ask_87 rfl rfl ?_
      refine v_zald hC dX4_ask_88 rfl rfl rfl (by first | decide | (simp only [vdn]; omega)) ⟨by first | omega | (simp only [mlen]; omega), by first | omega | (simp only [mlen]; omega)⟩ ?_
      try simp only [Int.toNat_natCast, upM_at, upM_nef, ne_eq, not_false_eq_true, Nat.reduceEqDiff, Nat.reduceAdd]
      refine v_if_eq hC 124 dX4_ask_89 rfl (fun h89 => ?_) (fun h89 => ?_)
      · refine v_iinc hC dX4_ask_124 rfl ⟨by omega, by omega⟩ ?_
        refine v_goto hC 75 dX4_ask_127 rfl ?_
        rw [g38 (by omega)] at h89
        refine ih (i + 1) trivial (by omega) μ3 (by omega) hF3 (fun q hq9 h => ?_) (fun q hq9 h => a3 q hq9 (by omega))
        by_cases e : q = i
        · have h9 := a3 q hq9 (by omega)
          rw [e] at h9 ⊢
          rw [if_neg (bI_z.1 h89), if_neg (bI_z.1 h89)]
          exact ⟨h9.2, h9.1⟩
        · exact a2 q hq9 (by omega)
      · refine v_aload_n hC 0 dX4_ask_92 rfl rfl ?_
        refine v_getR hC foX4_38 dX4_ask_93 rfl rfl rfl (by decide) (by first | decide | (simp only [vdn]; omega)) ?_
        refine v_iload_n hC 3 dX4_ask_96 rfl rfl ?_
        refine v_aload_n hC 0 dX4_ask_97 rfl rfl ?_
        refine v_getR hC foX4_56 dX4_ask_98 rfl rfl rfl (by decide) (by first | decide | (simp only [vdn]; omega)) ?_
        refine v_iload_n hC 3 dX4_ask_101 rfl rfl ?_
        refine v_iald hC dX4_ask_102 rfl rfl rfl (by first | decide | (simp only [vdn]; omega)) ⟨by first | omega | (simp only [mlen]; omega), by first | omega | (simp only [mlen]; omega)⟩ ?_
        try simp only [Int.toNat_natCast, upM_at, upM_nef, ne_eq, not_false_eq_true, Nat.reduceEqDiff, Nat.reduceAdd]
        refine v_if_ge hC 110 dX4_ask_103 rfl (fun h103 => ?_) (fun h103 => ?_)
        · refine v_iload_n hC 2 dX4_ask_110 rfl rfl ?_
          refine v_iast hC dX4_ask_111 rfl rfl rfl (by decide) (by first | decide | (simp only [vdn]; omega)) ⟨by first | omega | (simp only [mlen]; omega), by first | omega | (simp only [mlen]; omega)⟩ ?_
          try simp only [Int.toNat_natCast, upM_at, upM_nef, ne_eq, not_false_eq_true, Nat.reduceEqDiff, Nat.reduceAdd]
          refine v_aload_n hC 0 dX4_ask_112 rfl rfl ?_
          refine v_getR hC foX4_41 dX4_ask_113 rfl rfl rfl (by decide) (by first | decide | (simp only [vdn]; omega)) ?_
          refine v_iload_n hC 3 dX4_ask_116 rfl rfl ?_
          refine v_aload_n hC 0 dX4_ask_117 rfl rfl ?_
          refine v_getR hC foX4_56 dX4_ask_118 rfl rfl rfl (by decide) (by first | decide | (simp only [vdn]; omega)) ?_
          refine v_iload_n hC 3 dX4_ask_121 rfl rfl ?_
          refine v_iald hC dX4_ask_122 rfl rfl rfl (by first | decide | (simp only [vdn]; omega)) ⟨by first | omega | (simp only [mlen]; omega), by first | omega | (simp only [mlen]; omega)⟩ ?_
          try simp only [Int.toNat_natCast, upM_at, upM_nef, ne_eq, not_false_eq_true, Nat.reduceEqDiff, Nat.reduceAdd]
          refine v_iast hC dX4_ask_123 rfl rfl rfl (by decide) (by first | decide | (simp only [vdn]; omega)) ⟨by first | omega | (simp only [mlen]; omega), by first | omega | (simp only [mlen]; omega)⟩ ?_
          try simp only [Int.toNat_natCast, upM_at, upM_nef, ne_eq, not_false_eq_true, Nat.reduceEqDiff, Nat.reduceAdd]
          refine v_iinc hC dX4_ask_124 rfl ⟨by omega, by omega⟩ ?_
          refine v_goto hC 75 dX4_ask_127 rfl ?_
          rw [g38 (by omega)] at h89
          have h39 := g39 (by omega)
          rw [h39.1] at h103 ⊢
          refine ih (i + 1) trivial (by omega) _ (by omega) ((hF3.up (by decide)).up (by decide)) (fun q hq9 h => ?_) (fun q hq9 h => ?_)
          · by_cases e : q = i
            · rw [e, upM_at, upM_nef (by decide), upM_at, if_pos (bI_n.1 h89), if_pos (bI_n.1 h89), if_neg (by omega)]
              exact ⟨rfl, rfl⟩
            · rw [upM_ne (fun h => e h.2), upM_nef (by decide), upM_nef (by decide), upM_ne (fun h => e h.2)]
              exact a2 q hq9 (by omega)
          · have e : q ≠ i := by omega
            rw [upM_nef (by decide), upM_ne (fun h => e h.2), upM_ne (fun h => e h.2), upM_nef (by decide)]
            exact a3 q hq9 (by omega)
        · refine v_iconst hC dX4_ask_106 ⟨by decide, by decide⟩ ?_
          refine v_goto hC 111 dX4_ask_107 rfl ?_
          refine v_iast hC dX4_ask_111 rfl rfl rfl (by decide) (by first | decide | (simp only [vdn]; omega)) ⟨by first | omega | (simp only [mlen]; omega), by first | omega | (simp only [mlen]; omega)⟩ ?_
          try simp only [Int.toNat_natCast, upM_at, upM_nef, ne_eq, not_false_eq_true, Nat.reduceEqDiff, Nat.reduceAdd]
          refine v_aload_n hC 0 dX4_ask_112 rfl rfl ?_
          refine v_getR hC foX4_41 dX4_ask_113 rfl rfl rfl (by decide) (by first | decide | (simp only [vdn]; omega)) ?_
          refine v_iload_n hC 3 dX4_ask_116 rfl rfl ?_
          refine v_aload_n hC 0 dX4_ask_117 rfl rfl ?_
          refine v_getR hC foX4_56 dX4_ask_118 rfl rfl rfl (by decide) (by first | decide | (simp only [vdn]; omega)) ?_
          refine v_iload_n hC 3 dX4_ask_121 rfl rfl ?_
          refine v_iald hC dX4_ask_122 rfl rfl rfl (by first | decide | (simp only [vdn]; omega)) ⟨by first | omega | (simp only [mlen]; omega), by first | omega | (simp only [mlen]; omega)⟩ ?_
          try simp only [Int.toNat_natCast, upM_at, upM_nef, ne_eq, not_false_eq_true, Nat.reduceEqDiff, Nat.reduceAdd]
          refine v_iast hC dX4_ask_123 rfl rfl rfl (by decide) (by first | decide | (simp only [vdn]; omega)) ⟨by first | omega | (simp only [mlen]; omega), by first | omega | (simp only [mlen]; omega)⟩ ?_
          try simp only [Int.toNat_natCast, upM_at, upM_nef, ne_eq, not_false_eq_true, Nat.reduceEqDiff, Nat.reduceAdd]
          refine v_iinc hC dX4_ask_124 rfl ⟨by omega, by omega⟩ ?_
          refine v_goto hC 75 dX4_ask_127 rfl ?_
          rw [g38 (by omega)] at h89
          have h39 := g39 (by omega)
          rw [h39.1] at h103 ⊢
          refine ih (i + 1) trivial (by omega) _ (by omega) ((hF3.up (by decide)).up (by decide)) (fun q hq9 h => ?_) (fun q hq9 h => ?_)
          · by_cases e : q = i
            · rw [e, upM_at, upM_nef (by decide), upM_at, if_pos (bI_n.1 h89), if_pos (bI_n.1 h89), if_pos (by omega)]
              exact ⟨rfl, rfl⟩
            · rw [upM_ne (fun h => e h.2), upM_nef (by decide), upM_nef (by decide), upM_ne (fun h => e h.2)]
              exact a2 q hq9 (by omega)
          · have e : q ≠ i := by omega
            rw [upM_nef (by decide), upM_ne (fun h => e h.2), upM_ne (fun h => e h.2), upM_nef (by decide)]
            exact a3 q hq9 (by omega)
  · refine v_aload_n hC 0 dX4_ask_36 rfl rfl ?_
    refine v_getR hC foX4_53 dX4_ask_37 rfl rfl rfl (by decide) (by first | decide | (simp only [vdn]; omega)) ?_
    refine v_iload_n hC 3 dX4_ask_40 rfl rfl ?_
    refine v_iload_n hC 3 dX4_ask_41 rfl rfl ?_
    refine v_iload_n hC 1 dX4_ask_42 rfl rfl ?_
    refine v_icmp_eq hC 56 dX4_ask_43 rfl (fun h43 => ?_) (fun h43 => ?_)
    · refine v_iconst hC dX4_ask_56 ⟨by decide, by decide⟩ ?_
      refine v_goto hC 61 dX4_ask_57 rfl ?_
      refine v_zast hC dX4_ask_61 rfl rfl rfl (by decide) (by first | decide | (simp only [vdn]; omega)) ⟨by first | omega | (simp only [mlen]; omega), by first | omega | (simp only [mlen]; omega)⟩ (by omega) ?_
      try simp only [Int.toNat_natCast, upM_at, upM_nef, ne_eq, not_false_eq_true, Nat.reduceEqDiff, Nat.reduceAdd]
      refine v_iinc hC dX4_ask_62 rfl ⟨by omega, by omega⟩ ?_
      refine v_goto hC 28 dX4_ask_65 rfl ?_
      exact ih (i + 1) trivial (by omega) _ (by omega) (hF1.up (by decide)) (fun q h => by
        by_cases e : q = i
        · rw [e, upM_at]
          exact bI_t (decide_eq_true (Or.inl (by omega)))
        · rw [upM_ne (fun h => e h.2)]; exact a2 q (by omega))
    · refine v_aload_n hC 0 dX4_ask_46 rfl rfl ?_
      refine v_getR hC foX4_38 dX4_ask_47 rfl rfl rfl (by decide) (by first | decide | (simp only [vdn]; omega)) ?_
      refine v_iload_n hC 3 dX4_ask_50 rfl rfl ?_
      refine v_iald hC dX4_ask_51 rfl rfl rfl (by first | decide | (simp only [vdn]; omega)) ⟨by first | omega | (simp only [mlen]; omega), by first | omega | (simp only [mlen]; omega)⟩ ?_
      try simp only [Int.toNat_natCast, upM_at, upM_nef, ne_eq, not_false_eq_true, Nat.reduceEqDiff, Nat.reduceAdd]
      refine v_iload_n hC 2 dX4_ask_52 rfl rfl ?_
      refine v_icmp_ne hC 60 dX4_ask_53 rfl (fun h53 => ?_) (fun h53 => ?_)
      · refine v_iconst hC dX4_ask_60 ⟨by decide, by decide⟩ ?_
        refine v_zast hC dX4_ask_61 rfl rfl rfl (by decide) (by first | decide | (simp only [vdn]; omega)) ⟨by first | omega | (simp only [mlen]; omega), by first | omega | (simp only [mlen]; omega)⟩ (by omega) ?_
        try simp only [Int.toNat_natCast, upM_at, upM_nef, ne_eq, not_false_eq_true, Nat.reduceEqDiff, Nat.reduceAdd]
        refine v_iinc hC dX4_ask_62 rfl ⟨by omega, by omega⟩ ?_
        refine v_goto hC 28 dX4_ask_65 rfl ?_
        exact ih (i + 1) trivial (by omega) _ (by omega) (hF1.up (by decide)) (fun q h => by
          by_cases e : q = i
          · rw [e, upM_at]
            exact bI_f (fun h => (of_decide_eq_true h).elim (fun h => h43 (by omega)) (fun h => h53 (by omega)))
          · rw [upM_ne (fun h => e h.2)]; exact a2 q (by omega))
      · refine v_iconst hC dX4_ask_56 ⟨by decide, by decide⟩ ?_
        refine v_goto hC 61 dX4_ask_57 rfl ?_
        refine v_zast hC dX4_ask_61 rfl rfl rfl (by decide) (by first | decide | (simp only [vdn]; omega)) ⟨by first | omega | (simp only [mlen]; omega), by first | omega | (simp only [mlen]; omega)⟩ (by omega) ?_
        try simp only [Int.toNat_natCast, upM_at, upM_nef, ne_eq, not_false_eq_true, Nat.reduceEqDiff, Nat.reduceAdd]
        refine v_iinc hC dX4_ask_62 rfl ⟨by omega, by omega⟩ ?_
        refine v_goto hC 28 dX4_ask_65 rfl ?_
        exact ih (i + 1) trivial (by omega) _ (by omega) (hF1.up (by decide)) (fun q h => by
          by_cases e : q = i
          · rw [e, upM_at]
            exact bI_t (decide_eq_true (Or.inr (by omega)))
          · rw [upM_ne (fun h => e h.2)]; exact a2 q (by omega))
abbrev rmX4_blocks : Room := { frames := 3, cells := 0, slots := 0, locals := 75 }
set_option maxRecDepth 100000 in
set_option maxHeartbeats 4000000 in
theorem cX4_blocks_ok (p s : Nat) (μ : MU) (hp : p < (μ 23 0).toNat) (hs : s < 6) (hSm : Sm μ) : CTi yX4_blocks cX4_blocks 4 (some .boolean) rmX4_blocks [aR 12 0, aI p, aI s] μ (fun r μ' => Fr [38, 39] μ μ' ∧ r = bI (¬ mchO μ s (mBO μ p s) p = -1)) := by
  intro l9 b9 D9 K9
  refine met_of (by decide) (Nat.le_of_ble_eq_true rfl) (fun x hC hR hM hA => ?_)
  have hC : Ctx x RX4 cX4_blocks rmX4_blocks := hC
  have hSm0 := hSm
  have hp0 := hp
  obtain ⟨⟨s1, s2⟩, ⟨n1, n2⟩, hr, hkc, hq, hpp, hli, hnu⟩ := hSm
  refine v_iconst hC dX4_blocks_0 ⟨by decide, by decide⟩ ?_
  refine v_istore_n hC 3 dX4_blocks_1 rfl (Nat.le_of_ble_eq_true rfl) ?_
  refine v_loop (fun i : Nat => (μ 23 0).toNat - i) (fun _ => True) (fun i => ∀ (μ1 : MU), i ≤ (μ 23 0).toNat → Fr [38] μ μ1 → (∀ q, q < i → μ1 38 q = bI (mBO μ p s q = true)) → V x 0 0 none 2 [some (aR 12 0), some (aI p), some (aI s), some (aI (i : Int))] [] μ1) (fun i _ ih μ1 a1 hF1 a2 => ?_) 0 trivial _ (Nat.zero_le _) Fr.rf (fun q h => by omega)
  have e1 : μ1 23 0 = μ 23 0 := hF1 23 0 (by decide)
  have e33 : μ1 33 i = μ 33 i := hF1 33 i (by decide)
  have e34 : μ1 34 i = μ 34 i := hF1 34 i (by decide)
  refine v_iload_n hC 3 dX4_blocks_2 rfl rfl ?_
  refine v_aload_n hC 0 dX4_blocks_3 rfl rfl ?_
  refine v_getI hC foX4_66 dX4_blocks_4 rfl rfl rfl (by first | decide | (simp only [vdn]; omega)) ?_
  try simp only [Int.toNat_natCast, upM_at, upM_nef, ne_eq, not_false_eq_true, Nat.reduceEqDiff, Nat.reduceAdd]
  refine v_icmp_ge hC 51 dX4_blocks_7 rfl (fun h7 => ?_) (fun h7 => ?_)
  · have hSm1 : Sm μ1 := hF1.Sm hSm0 (by decide)
    refine v_aload_n hC 0 dX4_blocks_51 rfl rfl ?_
    refine v_iload_n hC 2 dX4_blocks_52 rfl rfl ?_
    refine v_callV1 hC (cwX4_96 hC ⟨Nat.le_of_ble_eq_true rfl, Nat.le_of_ble_eq_true rfl⟩) dX4_blocks_53 rfl rfl rfl (Nat.zero_le _) (Nat.zero_le _) (Nat.le_of_ble_eq_true rfl) (by first | decide | (simp only [vdn]; omega)) (cX4_choose_ok s μ1 hs hSm1) (fun μ1 hp => ?_)
    obtain ⟨hF2, hT2⟩ := hp
    rw [e1] at hT2
    have hch := offers_ch (s := s) (O := mBO μ p s) hF1 (by decide) (fun q hq9 => a2 q (by omega))
    have hT := hT2 p hp0
    rw [hch p hp0] at hT
    refine v_aload_n hC 0 dX4_blocks_56 rfl rfl ?_
    refine v_getR hC foX4_56 dX4_blocks_57 rfl rfl rfl (by decide) (by first | decide | (simp only [vdn]; omega)) ?_
    refine v_iload_n hC 1 dX4_blocks_60 rfl rfl ?_
    refine v_iald hC dX4_blocks_61 rfl rfl rfl (by first | decide | (simp only [vdn]; omega)) ⟨by first | omega | (simp only [mlen]; omega), by first | omega | (simp only [mlen]; omega)⟩ ?_
    try simp only [Int.toNat_natCast, upM_at, upM_nef, ne_eq, not_false_eq_true, Nat.reduceEqDiff, Nat.reduceAdd]
    refine v_if_lt hC 69 dX4_blocks_62 rfl (fun h62 => ?_) (fun h62 => ?_)
    · refine v_iconst hC dX4_blocks_69 ⟨by decide, by decide⟩ ?_
      exact v_bret hC hR dX4_blocks_70 (by omega) (⟨_, rfl, (hF1.mono (by decide)).trans (hF2.mono (by decide)), bI_f (fun h => h (by omega))⟩)
    · refine v_iconst hC dX4_blocks_65 ⟨by decide, by decide⟩ ?_
      refine v_goto hC 70 dX4_blocks_66 rfl ?_
      exact v_bret hC hR dX4_blocks_70 (by omega) (⟨_, rfl, (hF1.mono (by decide)).trans (hF2.mono (by decide)), bI_t (by omega)⟩)
  · refine v_aload_n hC 0 dX4_blocks_10 rfl rfl ?_
    refine v_getR hC foX4_53 dX4_blocks_11 rfl rfl rfl (by decide) (by first | decide | (simp only [vdn]; omega)) ?_
    refine v_iload_n hC 3 dX4_blocks_14 rfl rfl ?_
    refine v_iload_n hC 3 dX4_blocks_15 rfl rfl ?_
    refine v_iload_n hC 1 dX4_blocks_16 rfl rfl ?_
    refine v_icmp_eq hC 39 dX4_blocks_17 rfl (fun h17 => ?_) (fun h17 => ?_)
    · refine v_iconst hC dX4_blocks_39 ⟨by decide, by decide⟩ ?_
      refine v_goto hC 44 dX4_blocks_40 rfl ?_
      refine v_zast hC dX4_blocks_44 rfl rfl rfl (by decide) (by first | decide | (simp only [vdn]; omega)) ⟨by first | omega | (simp only [mlen]; omega), by first | omega | (simp only [mlen]; omega)⟩ (by omega) ?_
      try simp only [Int.toNat_natCast, upM_at, upM_nef, ne_eq, not_false_eq_true, Nat.reduceEqDiff, Nat.reduceAdd]
      refine v_iinc hC dX4_blocks_45 rfl ⟨by omega, by omega⟩ ?_
      refine v_goto hC 2 dX4_blocks_48 rfl ?_
      exact ih (i + 1) trivial (by omega) _ (by omega) (hF1.up (by decide)) (fun q h => by
        by_cases e : q = i
        · rw [e, upM_at]
          exact bI_t (decide_eq_true (Or.inl (by omega)))
        · rw [upM_ne (fun h => e h.2)]; exact a2 q (by omega))
    · refine v_aload_n hC 0 dX4_blocks_20 rfl rfl ?_
      refine v_getR hC foX4_38 dX4_blocks_21 rfl rfl rfl (by decide) (by first | decide | (simp only [vdn]; omega)) ?_
      refine v_iload_n hC 3 dX4_blocks_24 rfl rfl ?_
      refine v_iald hC dX4_blocks_25 rfl rfl rfl (by first | decide | (simp only [vdn]; omega)) ⟨by first | omega | (simp only [mlen]; omega), by first | omega | (simp only [mlen]; omega)⟩ ?_
      try simp only [Int.toNat_natCast, upM_at, upM_nef, ne_eq, not_false_eq_true, Nat.reduceEqDiff, Nat.reduceAdd]
      refine v_iload_n hC 2 dX4_blocks_26 rfl rfl ?_
      refine v_icmp_ne hC 43 dX4_blocks_27 rfl (fun h27 => ?_) (fun h27 => ?_)
      · refine v_iconst hC dX4_blocks_43 ⟨by decide, by decide⟩ ?_
        refine v_zast hC dX4_blocks_44 rfl rfl rfl (by decide) (by first | decide | (simp only [vdn]; omega)) ⟨by first | omega | (simp only [mlen]; omega), by first | omega | (simp only [mlen]; omega)⟩ (by omega) ?_
        try simp only [Int.toNat_natCast, upM_at, upM_nef, ne_eq, not_false_eq_true, Nat.reduceEqDiff, Nat.reduceAdd]
        refine v_iinc hC dX4_blocks_45 rfl ⟨by omega, by omega⟩ ?_
        refine v_goto hC 2 dX4_blocks_48 rfl ?_
        exact ih (i + 1) trivial (by omega) _ (by omega) (hF1.up (by decide)) (fun q h => by
          by_cases e : q = i
          · rw [e, upM_at]
            exact bI_f (fun h => (of_decide_eq_true h).elim (fun h => h17 (by omega)) (fun h => h27 (by have := h.1; omega)))
          · rw [upM_ne (fun h => e h.2)]; exact a2 q (by omega))
      · refine v_aload_n hC 0 dX4_blocks_30 rfl rfl ?_
        refine v_getR hC foX4_41 dX4_blocks_31 rfl rfl rfl (by decide) (by first | decide | (simp only [vdn]; omega)) ?_
        refine v_iload_n hC 3 dX4_blocks_34 rfl rfl ?_
        refine v_iald hC dX4_blocks_35 rfl rfl rfl (by first | decide | (simp only [vdn]; omega)) ⟨by first | omega | (simp only [mlen]; omega), by first | omega | (simp only [mlen]; omega)⟩ ?_
        try simp only [Int.toNat_natCast, upM_at, upM_nef, ne_eq, not_false_eq_true, Nat.reduceEqDiff, Nat.reduceAdd]
        refine v_if_lt hC 43 dX4_blocks_36 rfl (fun h36 => ?_) (fun h36 => ?_)
        · refine v_iconst hC dX4_blocks_43 ⟨by decide, by decide⟩ ?_
          refine v_zast hC dX4_blocks_44 rfl rfl rfl (by decide) (by first | decide | (simp only [vdn]; omega)) ⟨by first | omega | (simp only [mlen]; omega), by first | omega | (simp only [mlen]; omega)⟩ (by omega) ?_
          try simp only [Int.toNat_natCast, upM_at, upM_nef, ne_eq, not_false_eq_true, Nat.reduceEqDiff, Nat.reduceAdd]
          refine v_iinc hC dX4_blocks_45 rfl ⟨by omega, by omega⟩ ?_
          refine v_goto hC 2 dX4_blocks_48 rfl ?_
          exact ih (i + 1) trivial (by omega) _ (by omega) (hF1.up (by decide)) (fun q h => by
            by_cases e : q = i
            · rw [e, upM_at]
              exact bI_f (fun h => (of_decide_eq_true h).elim (fun h => h17 (by omega)) (fun h => by have := h.2; omega))
            · rw [upM_ne (fun h => e h.2)]; exact a2 q (by omega))
        · refine v_iconst hC dX4_blocks_39 ⟨by decide, by decide⟩ ?_
          refine v_goto hC 44 dX4_blocks_40 rfl ?_
          refine v_zast hC dX4_blocks_44 rfl rfl rfl (by decide) (by first | decide | (simp only [vdn]; omega)) ⟨by first | omega | (simp only [mlen]; omega), by first | omega | (simp only [mlen]; omega)⟩ (by omega) ?_
          try simp only [Int.toNat_natCast, upM_at, upM_nef, ne_eq, not_false_eq_true, Nat.reduceEqDiff, Nat.reduceAdd]
          refine v_iinc hC dX4_blocks_45 rfl ⟨by omega, by omega⟩ ?_
          refine v_goto hC 2 dX4_blocks_48 rfl ?_
          exact ih (i + 1) trivial (by omega) _ (by omega) (hF1.up (by decide)) (fun q h => by
            by_cases e : q = i
            · rw [e, upM_at]
              exact bI_t (decide_eq_true (Or.inr ⟨by omega, by omega⟩))
            · rw [upM_ne (fun h => e h.2)]; exact a2 q (by omega))
end
section
/-! The reference's calls. -/
abbrev mIP (μ : MU) (w : Int) : Prop := 0 ≤ w ∧ w < μ 23 0
abbrev mIS (μ : MU) (w : Int) : Prop := 0 ≤ w ∧ w < μ 22 0
abbrev mscC (μ : MU) : Prop := ¬ μ 21 0 = 0 ∨ μ 22 0 = 6
def mscM (μ : MU) : MU := if mscC μ then upM μ 20 0 1 else upM (upM μ 20 0 0) 22 0 (μ 22 0 + 1)
def mscR (μ : MU) : Int := if mscC μ then 0 else μ 22 0
abbrev mpuC (f : Int) : Prop := f < 0 ∨ 15 < f
abbrev mpuD (μ : MU) : Prop := ¬ μ 21 0 = 0 ∨ μ 23 0 = 20
def mpuM (μ : MU) (f l : Int) : MU := if mpuC f then upM μ 20 0 1 else if mpuD μ then upM μ 20 0 2 else upM (upM (upM (upM μ 20 0 0) 27 (μ 23 0).toNat f) 28 (μ 23 0).toNat l) 23 0 (μ 23 0 + 1)
def mpuR (μ : MU) (f : Int) : Int := if mpuC f then 0 else if mpuD μ then 0 else μ 23 0
def mwiM (μ : MU) (P S : Int) : MU := if ¬ (mIP μ P ∧ mIS μ S) then upM μ 20 0 1 else if o9 (mplF μ P.toNat S) < 9 then upM (upM μ 20 0 0) 20 0 1 else if ¬ μ 21 0 = 0 ∨ μ 29 P.toNat = 4 then upM (upM μ 20 0 0) 20 0 2 else upM (upM (upM (upM μ 20 0 0) 20 0 0) 30 (4 * P.toNat + (μ 29 P.toNat).toNat) S) 29 P.toNat (μ 29 P.toNat + 1)
def mwiR (μ : MU) (P S : Int) : Int := if ¬ (mIP μ P ∧ mIS μ S) then 0 else if o9 (mplF μ P.toNat S) < 9 then 0 else if ¬ μ 21 0 = 0 ∨ μ 29 P.toNat = 4 then 0 else μ 29 P.toNat + 1
def mdrF (μ : MU) (P S n : Int) : Option Nat := fnd (fun q => decide (¬ (q : Int) = P ∧ μ 31 (6 * q + S.toNat) = n)) 0 (μ 23 0).toNat
abbrev mdrP (μ : MU) (P S n : Int) : Prop := (mIP μ P ∧ mIS μ S ∧ 0 ≤ n ∧ n ≤ 999 ∧ μ 21 0 = 0) ∧ mdrF μ P S n = none
def mdrM (μ : MU) (P S n : Int) : MU := if mdrP μ P S n then upM (upM μ 20 0 0) 31 (6 * P.toNat + S.toNat) n else upM μ 20 0 0
abbrev mapP (μ : MU) (P f : Int) : Prop := mIP μ P ∧ 0 ≤ f ∧ f ≤ 15
def mapM (μ : MU) (P f : Int) : MU := if mapP μ P f then upM (upM μ 20 0 0) 27 P.toNat f else upM μ 20 0 0
abbrev mstP (μ : MU) (P n : Int) : Prop := mIP μ P ∧ 0 ≤ n ∧ n ≤ 4 ∧ ¬ μ 21 0 = 0 ∧ ¬ μ 35 P.toNat = 3
def mstM (μ : MU) (P n : Int) : MU := if mstP μ P n then upM (upM μ 20 0 0) 37 P.toNat n else upM μ 20 0 0
def mseF (μ : MU) (P w : Int) : Int := if mIP μ P ∧ 0 ≤ w ∧ w ≤ 5 then (if w = 0 then μ 33 P.toNat else if w = 1 then μ 34 P.toNat else if w = 2 then μ 32 P.toNat else if w = 3 then μ 35 P.toNat else if w = 4 then μ 37 P.toNat else μ 27 P.toNat) else -1
def mlkF (μ : MU) (w : Int) : Int := if w = 0 then μ 22 0 else if w = 1 then μ 23 0 else if w = 2 then (if μ 21 0 = 0 then 0 else 1) else if w = 3 then itr (fun p a => a + μ 32 p) 0 (μ 23 0).toNat (0 : Int) else if w = 4 then cntF (fun p => decide (¬ μ 21 0 = 0 ∧ 0 ≤ μ 33 p)) (μ 23 0).toNat else -1
theorem mplF_of {a b : MU} {p : Nat} {w : Int} (h10 : ∀ j, b 30 j = a 30 j) (h11 : b 29 p = a 29 p) : mplF b p w = mplF a p w := by
  unfold mplF
  rw [h11]
  congr 1
  funext j
  rw [h10]
abbrev rmX4_school : Room := { frames := 0, cells := 0, slots := 0, locals := 0 }
set_option maxRecDepth 100000 in
set_option maxHeartbeats 4000000 in
theorem cX4_school_ok (μ : MU) (hSm : Sm μ) : CTi yX4_school cX4_school 1 (some .int) rmX4_school [aR 12 0] μ (fun r μ' => mscM μ = μ' ∧ r = mscR μ) := by
  intro l9 b9 D9 K9
  refine met_of (by decide) (Nat.le_of_ble_eq_true rfl) (fun x hC hR hM hA => ?_)
  have hC : Ctx x RX4 cX4_school rmX4_school := hC
  obtain ⟨⟨s1, s2⟩, ⟨n1, n2⟩, hr, hkc, hq, hpp, hli, hnu⟩ := hSm
  refine v_aload_n hC 0 dX4_school_0 rfl rfl ?_
  refine v_aload_n hC 0 dX4_school_1 rfl rfl ?_
  refine v_getI hC foX4_69 dX4_school_2 rfl rfl rfl (by first | decide | (simp only [vdn]; omega)) ?_
  try simp only [Int.toNat_natCast, upM_at, upM_nef, ne_eq, not_false_eq_true, Nat.reduceEqDiff, Nat.reduceAdd]
  refine v_if_ne hC 17 dX4_school_5 rfl (fun h5 => ?_) (fun h5 => ?_)
  · refine v_iconst hC dX4_school_17 ⟨by decide, by decide⟩ ?_
    refine v_goto hC 22 dX4_school_18 rfl ?_
    refine v_putI hC fwX4_59 dX4_school_22 rfl rfl rfl (by decide) (by first | decide | (simp only [vdn]; omega)) ?_
    refine v_aload_n hC 0 dX4_school_25 rfl rfl ?_
    refine v_getI hC foX4_59 dX4_school_26 rfl rfl rfl (by first | decide | (simp only [vdn]; omega)) ?_
    try simp only [Int.toNat_natCast, upM_at, upM_nef, ne_eq, not_false_eq_true, Nat.reduceEqDiff, Nat.reduceAdd]
    refine v_if_le hC 34 dX4_school_29 rfl (fun h29 => ?_) (fun h29 => ?_)
    · exfalso; omega
    · refine v_iconst hC dX4_school_32 ⟨by decide, by decide⟩ ?_
      exact v_iret hC hR dX4_school_33 (⟨_, rfl, if_pos (Or.inl h5), (if_pos (Or.inl h5)).symm⟩)
  · refine v_aload_n hC 0 dX4_school_8 rfl rfl ?_
    refine v_getI hC foX4_63 dX4_school_9 rfl rfl rfl (by first | decide | (simp only [vdn]; omega)) ?_
    try simp only [Int.toNat_natCast, upM_at, upM_nef, ne_eq, not_false_eq_true, Nat.reduceEqDiff, Nat.reduceAdd]
    refine v_bipush hC dX4_school_12 ⟨by decide, by decide⟩ ?_
    refine v_icmp_ne hC 21 dX4_school_14 rfl (fun h14 => ?_) (fun h14 => ?_)
    · refine v_iconst hC dX4_school_21 ⟨by decide, by decide⟩ ?_
      refine v_putI hC fwX4_59 dX4_school_22 rfl rfl rfl (by decide) (by first | decide | (simp only [vdn]; omega)) ?_
      refine v_aload_n hC 0 dX4_school_25 rfl rfl ?_
      refine v_getI hC foX4_59 dX4_school_26 rfl rfl rfl (by first | decide | (simp only [vdn]; omega)) ?_
      try simp only [Int.toNat_natCast, upM_at, upM_nef, ne_eq, not_false_eq_true, Nat.reduceEqDiff, Nat.reduceAdd]
      refine v_if_le hC 34 dX4_school_29 rfl (fun h29 => ?_) (fun h29 => ?_)
      · refine v_aload_n hC 0 dX4_school_34 rfl rfl ?_
        refine v_dupR hC dX4_school_35 ?_
        refine v_getI hC foX4_63 dX4_school_36 rfl rfl rfl (by first | decide | (simp only [vdn]; omega)) ?_
        try simp only [Int.toNat_natCast, upM_at, upM_nef, ne_eq, not_false_eq_true, Nat.reduceEqDiff, Nat.reduceAdd]
        refine v_iconst hC dX4_school_39 ⟨by decide, by decide⟩ ?_
        refine v_iadd hC dX4_school_40 ⟨by omega, by omega⟩ ?_
        refine v_putI hC fwX4_63 dX4_school_41 rfl rfl rfl (by decide) (by first | decide | (simp only [vdn]; omega)) ?_
        refine v_aload_n hC 0 dX4_school_44 rfl rfl ?_
        refine v_getI hC foX4_63 dX4_school_45 rfl rfl rfl (by first | decide | (simp only [vdn]; omega)) ?_
        try simp only [Int.toNat_natCast, upM_at, upM_nef, ne_eq, not_false_eq_true, Nat.reduceEqDiff, Nat.reduceAdd]
        refine v_iconst hC dX4_school_48 ⟨by decide, by decide⟩ ?_
        refine v_isub hC dX4_school_49 ⟨by omega, by omega⟩ ?_
        exact v_iret hC hR dX4_school_50 (⟨_, rfl, if_neg (fun q => q.elim (fun q => q h5) h14), by rw [mscR, if_neg (fun q => q.elim (fun q => q h5) h14)]; omega⟩)
      · exfalso; omega
    · refine v_iconst hC dX4_school_17 ⟨by decide, by decide⟩ ?_
      refine v_goto hC 22 dX4_school_18 rfl ?_
      refine v_putI hC fwX4_59 dX4_school_22 rfl rfl rfl (by decide) (by first | decide | (simp only [vdn]; omega)) ?_
      refine v_aload_n hC 0 dX4_school_25 rfl rfl ?_
      refine v_getI hC foX4_59 dX4_school_26 rfl rfl rfl (by first | decide | (simp only [vdn]; omega)) ?_
      try simp only [Int.toNat_natCast, upM_at, upM_nef, ne_eq, not_false_eq_true, Nat.reduceEqDiff, Nat.reduceAdd]
      refine v_if_le hC 34 dX4_school_29 rfl (fun h29 => ?_) (fun h29 => ?_)
      · exfalso; omega
      · refine v_iconst hC dX4_school_32 ⟨by decide, by decide⟩ ?_
        exact v_iret hC hR dX4_school_33 (⟨_, rfl, if_pos (Or.inr h14), (if_pos (Or.inr h14)).symm⟩)
abbrev rmX4_pupil : Room := { frames := 0, cells := 0, slots := 0, locals := 0 }
set_option maxRecDepth 100000 in
set_option maxHeartbeats 4000000 in
theorem cX4_pupil_ok (f l : Int) (μ : MU) (hSm : Sm μ) (hl : l = 0 ∨ l = 1) : CTi yX4_pupil cX4_pupil 3 (some .int) rmX4_pupil [aR 12 0, aI f, aI l] μ (fun r μ' => mpuM μ f l = μ' ∧ r = mpuR μ f) := by
  intro l9 b9 D9 K9
  refine met_of (by decide) (Nat.le_of_ble_eq_true rfl) (fun x hC hR hM hA => ?_)
  have hC : Ctx x RX4 cX4_pupil rmX4_pupil := hC
  obtain ⟨⟨s1, s2⟩, ⟨n1, n2⟩, hr, hkc, hq, hpp, hli, hnu⟩ := hSm
  refine v_aload_n hC 0 dX4_pupil_0 rfl rfl ?_
  refine v_iload_n hC 1 dX4_pupil_1 rfl rfl ?_
  refine v_if_lt hC 11 dX4_pupil_2 rfl (fun h2 => ?_) (fun h2 => ?_)
  · refine v_iconst hC dX4_pupil_11 ⟨by decide, by decide⟩ ?_
    refine v_goto hC 36 dX4_pupil_12 rfl ?_
    refine v_putI hC fwX4_59 dX4_pupil_36 rfl rfl rfl (by decide) (by first | decide | (simp only [vdn]; omega)) ?_
    refine v_aload_n hC 0 dX4_pupil_39 rfl rfl ?_
    refine v_getI hC foX4_59 dX4_pupil_40 rfl rfl rfl (by first | decide | (simp only [vdn]; omega)) ?_
    try simp only [Int.toNat_natCast, upM_at, upM_nef, ne_eq, not_false_eq_true, Nat.reduceEqDiff, Nat.reduceAdd]
    refine v_if_le hC 48 dX4_pupil_43 rfl (fun h43 => ?_) (fun h43 => ?_)
    · exfalso; omega
    · refine v_iconst hC dX4_pupil_46 ⟨by decide, by decide⟩ ?_
      exact v_iret hC hR dX4_pupil_47 (⟨_, rfl, if_pos (Or.inl h2), (if_pos (Or.inl h2)).symm⟩)
  · refine v_iload_n hC 1 dX4_pupil_5 rfl rfl ?_
    refine v_bipush hC dX4_pupil_6 ⟨by decide, by decide⟩ ?_
    refine v_icmp_le hC 15 dX4_pupil_8 rfl (fun h8 => ?_) (fun h8 => ?_)
    · refine v_aload_n hC 0 dX4_pupil_15 rfl rfl ?_
      refine v_getI hC foX4_69 dX4_pupil_16 rfl rfl rfl (by first | decide | (simp only [vdn]; omega)) ?_
      try simp only [Int.toNat_natCast, upM_at, upM_nef, ne_eq, not_false_eq_true, Nat.reduceEqDiff, Nat.reduceAdd]
      refine v_if_ne hC 31 dX4_pupil_19 rfl (fun h19 => ?_) (fun h19 => ?_)
      · refine v_iconst hC dX4_pupil_31 ⟨by decide, by decide⟩ ?_
        refine v_goto hC 36 dX4_pupil_32 rfl ?_
        refine v_putI hC fwX4_59 dX4_pupil_36 rfl rfl rfl (by decide) (by first | decide | (simp only [vdn]; omega)) ?_
        refine v_aload_n hC 0 dX4_pupil_39 rfl rfl ?_
        refine v_getI hC foX4_59 dX4_pupil_40 rfl rfl rfl (by first | decide | (simp only [vdn]; omega)) ?_
        try simp only [Int.toNat_natCast, upM_at, upM_nef, ne_eq, not_false_eq_true, Nat.reduceEqDiff, Nat.reduceAdd]
        refine v_if_le hC 48 dX4_pupil_43 rfl (fun h43 => ?_) (fun h43 => ?_)
        · exfalso; omega
        · refine v_iconst hC dX4_pupil_46 ⟨by decide, by decide⟩ ?_
          exact v_iret hC hR dX4_pupil_47 (⟨_, rfl, by rw [mpuM, if_neg (by omega), if_pos (Or.inl h19)], by rw [mpuR, if_neg (by omega), if_pos (Or.inl h19)]⟩)
      · refine v_aload_n hC 0 dX4_pupil_22 rfl rfl ?_
        refine v_getI hC foX4_66 dX4_pupil_23 rfl rfl rfl (by first | decide | (simp only [vdn]; omega)) ?_
        try simp only [Int.toNat_natCast, upM_at, upM_nef, ne_eq, not_false_eq_true, Nat.reduceEqDiff, Nat.reduceAdd]
        refine v_bipush hC dX4_pupil_26 ⟨by decide, by decide⟩ ?_
        refine v_icmp_ne hC 35 dX4_pupil_28 rfl (fun h28 => ?_) (fun h28 => ?_)
        · refine v_iconst hC dX4_pupil_35 ⟨by decide, by decide⟩ ?_
          refine v_putI hC fwX4_59 dX4_pupil_36 rfl rfl rfl (by decide) (by first | decide | (simp only [vdn]; omega)) ?_
          refine v_aload_n hC 0 dX4_pupil_39 rfl rfl ?_
          refine v_getI hC foX4_59 dX4_pupil_40 rfl rfl rfl (by first | decide | (simp only [vdn]; omega)) ?_
          try simp only [Int.toNat_natCast, upM_at, upM_nef, ne_eq, not_false_eq_true, Nat.reduceEqDiff, Nat.reduceAdd]
          refine v_if_le hC 48 dX4_pupil_43 rfl (fun h43 => ?_) (fun h43 => ?_)
          · refine v_aload_n hC 0 dX4_pupil_48 rfl rfl ?_
            refine v_getR hC foX4_19 dX4_pupil_49 rfl rfl rfl (by decide) (by first | decide | (simp only [vdn]; omega)) ?_
            refine v_aload_n hC 0 dX4_pupil_52 rfl rfl ?_
            refine v_getI hC foX4_66 dX4_pupil_53 rfl rfl rfl (by first | decide | (simp only [vdn]; omega)) ?_
            try simp only [Int.toNat_natCast, upM_at, upM_nef, ne_eq, not_false_eq_true, Nat.reduceEqDiff, Nat.reduceAdd]
            refine v_iload_n hC 1 dX4_pupil_56 rfl rfl ?_
            refine v_iast hC dX4_pupil_57 rfl rfl rfl (by decide) (by first | decide | (simp only [vdn]; omega)) ⟨by first | omega | (simp only [mlen]; omega), by first | omega | (simp only [mlen]; omega)⟩ ?_
            try simp only [Int.toNat_natCast, upM_at, upM_nef, ne_eq, not_false_eq_true, Nat.reduceEqDiff, Nat.reduceAdd]
            refine v_aload_n hC 0 dX4_pupil_58 rfl rfl ?_
            refine v_getR hC foX4_22 dX4_pupil_59 rfl rfl rfl (by decide) (by first | decide | (simp only [vdn]; omega)) ?_
            refine v_aload_n hC 0 dX4_pupil_62 rfl rfl ?_
            refine v_getI hC foX4_66 dX4_pupil_63 rfl rfl rfl (by first | decide | (simp only [vdn]; omega)) ?_
            try simp only [Int.toNat_natCast, upM_at, upM_nef, ne_eq, not_false_eq_true, Nat.reduceEqDiff, Nat.reduceAdd]
            refine v_iload_n hC 2 dX4_pupil_66 rfl rfl ?_
            refine v_zast hC dX4_pupil_67 rfl rfl rfl (by decide) (by first | decide | (simp only [vdn]; omega)) ⟨by first | omega | (simp only [mlen]; omega), by first | omega | (simp only [mlen]; omega)⟩ hl ?_
            try simp only [Int.toNat_natCast, upM_at, upM_nef, ne_eq, not_false_eq_true, Nat.reduceEqDiff, Nat.reduceAdd]
            refine v_aload_n hC 0 dX4_pupil_68 rfl rfl ?_
            refine v_dupR hC dX4_pupil_69 ?_
            refine v_getI hC foX4_66 dX4_pupil_70 rfl rfl rfl (by first | decide | (simp only [vdn]; omega)) ?_
            try simp only [Int.toNat_natCast, upM_at, upM_nef, ne_eq, not_false_eq_true, Nat.reduceEqDiff, Nat.reduceAdd]
            refine v_iconst hC dX4_pupil_73 ⟨by decide, by decide⟩ ?_
            refine v_iadd hC dX4_pupil_74 ⟨by omega, by omega⟩ ?_
            refine v_putI hC fwX4_66 dX4_pupil_75 rfl rfl rfl (by decide) (by first | decide | (simp only [vdn]; omega)) ?_
            refine v_aload_n hC 0 dX4_pupil_78 rfl rfl ?_
            refine v_getI hC foX4_66 dX4_pupil_79 rfl rfl rfl (by first | decide | (simp only [vdn]; omega)) ?_
            try simp only [Int.toNat_natCast, upM_at, upM_nef, ne_eq, not_false_eq_true, Nat.reduceEqDiff, Nat.reduceAdd]
            refine v_iconst hC dX4_pupil_82 ⟨by decide, by decide⟩ ?_
            refine v_isub hC dX4_pupil_83 ⟨by omega, by omega⟩ ?_
            exact v_iret hC hR dX4_pupil_84 (⟨_, rfl, by rw [mpuM, if_neg (by omega), if_neg (fun q => q.elim (fun q => q h19) h28)], by rw [mpuR, if_neg (by omega), if_neg (fun q => q.elim (fun q => q h19) h28)]; omega⟩)
          · exfalso; omega
        · refine v_iconst hC dX4_pupil_31 ⟨by decide, by decide⟩ ?_
          refine v_goto hC 36 dX4_pupil_32 rfl ?_
          refine v_putI hC fwX4_59 dX4_pupil_36 rfl rfl rfl (by decide) (by first | decide | (simp only [vdn]; omega)) ?_
          refine v_aload_n hC 0 dX4_pupil_39 rfl rfl ?_
          refine v_getI hC foX4_59 dX4_pupil_40 rfl rfl rfl (by first | decide | (simp only [vdn]; omega)) ?_
          try simp only [Int.toNat_natCast, upM_at, upM_nef, ne_eq, not_false_eq_true, Nat.reduceEqDiff, Nat.reduceAdd]
          refine v_if_le hC 48 dX4_pupil_43 rfl (fun h43 => ?_) (fun h43 => ?_)
          · exfalso; omega
          · refine v_iconst hC dX4_pupil_46 ⟨by decide, by decide⟩ ?_
            exact v_iret hC hR dX4_pupil_47 (⟨_, rfl, by rw [mpuM, if_neg (by omega), if_pos (Or.inr h28)], by rw [mpuR, if_neg (by omega), if_pos (Or.inr h28)]⟩)
    · refine v_iconst hC dX4_pupil_11 ⟨by decide, by decide⟩ ?_
      refine v_goto hC 36 dX4_pupil_12 rfl ?_
      refine v_putI hC fwX4_59 dX4_pupil_36 rfl rfl rfl (by decide) (by first | decide | (simp only [vdn]; omega)) ?_
      refine v_aload_n hC 0 dX4_pupil_39 rfl rfl ?_
      refine v_getI hC foX4_59 dX4_pupil_40 rfl rfl rfl (by first | decide | (simp only [vdn]; omega)) ?_
      try simp only [Int.toNat_natCast, upM_at, upM_nef, ne_eq, not_false_eq_true, Nat.reduceEqDiff, Nat.reduceAdd]
      refine v_if_le hC 48 dX4_pupil_43 rfl (fun h43 => ?_) (fun h43 => ?_)
      · exfalso; omega
      · refine v_iconst hC dX4_pupil_46 ⟨by decide, by decide⟩ ?_
        exact v_iret hC hR dX4_pupil_47 (⟨_, rfl, if_pos (Or.inr (by omega)), (if_pos (Or.inr (by omega))).symm⟩)
abbrev rmX4_wish : Room := { frames := 1, cells := 0, slots := 0, locals := 23 }
set_option maxRecDepth 100000 in
set_option maxHeartbeats 4000000 in
theorem cX4_wish_ok (P S : Int) (μ : MU) (hSm : Sm μ) : CTi yX4_wish cX4_wish 3 (some .int) rmX4_wish [aR 12 0, aI P, aI S] μ (fun r μ' => mwiM μ P S = μ' ∧ r = mwiR μ P S) := by
  intro l9 b9 D9 K9
  refine met_of (by decide) (Nat.le_of_ble_eq_true rfl) (fun x hC hR hM hA => ?_)
  have hC : Ctx x RX4 cX4_wish rmX4_wish := hC
  have hSm0 := hSm
  obtain ⟨⟨s1, s2⟩, ⟨n1, n2⟩, hr, hkc, hq, hpp, hli, hnu⟩ := hSm
  refine v_aload_n hC 0 dX4_wish_0 rfl rfl ?_
  refine v_aload_n hC 0 dX4_wish_1 rfl rfl ?_
  refine v_iload_n hC 1 dX4_wish_2 rfl rfl ?_
  refine v_callI1 hC (cwX4_77 hC ⟨Nat.le_of_ble_eq_true rfl, Nat.le_of_ble_eq_true rfl⟩) dX4_wish_3 rfl rfl rfl (Nat.zero_le _) (Nat.zero_le _) (Nat.le_of_ble_eq_true rfl) (by first | decide | (simp only [vdn]; omega)) (cX4_isPupil_ok P μ) (fun r1 μ1 hp => ?_)
  obtain ⟨rfl, rfl⟩ := hp
  refine v_if_eq hC 17 dX4_wish_6 rfl (fun h6 => ?_) (fun h6 => ?_)
  · refine v_iconst hC dX4_wish_17 ⟨by decide, by decide⟩ ?_
    refine v_goto hC 22 dX4_wish_18 rfl ?_
    refine v_putI hC fwX4_59 dX4_wish_22 rfl rfl rfl (by decide) (by first | decide | (simp only [vdn]; omega)) ?_
    refine v_aload_n hC 0 dX4_wish_25 rfl rfl ?_
    refine v_getI hC foX4_59 dX4_wish_26 rfl rfl rfl (by first | decide | (simp only [vdn]; omega)) ?_
    try simp only [Int.toNat_natCast, upM_at, upM_nef, ne_eq, not_false_eq_true, Nat.reduceEqDiff, Nat.reduceAdd]
    refine v_if_le hC 34 dX4_wish_29 rfl (fun h29 => ?_) (fun h29 => ?_)
    · exfalso; omega
    · refine v_iconst hC dX4_wish_32 ⟨by decide, by decide⟩ ?_
      exact v_iret hC hR dX4_wish_33 (⟨_, rfl, if_pos (fun q => bI_z.1 h6 q.1), (if_pos (fun q => bI_z.1 h6 q.1)).symm⟩)
  · refine v_aload_n hC 0 dX4_wish_9 rfl rfl ?_
    refine v_iload_n hC 2 dX4_wish_10 rfl rfl ?_
    refine v_callI1 hC (cwX4_73 hC ⟨Nat.le_of_ble_eq_true rfl, Nat.le_of_ble_eq_true rfl⟩) dX4_wish_11 rfl rfl rfl (Nat.zero_le _) (Nat.zero_le _) (Nat.le_of_ble_eq_true rfl) (by first | decide | (simp only [vdn]; omega)) (cX4_isSchool_ok S μ) (fun r1 μ1 hp => ?_)
    obtain ⟨rfl, rfl⟩ := hp
    refine v_if_ne hC 21 dX4_wish_14 rfl (fun h14 => ?_) (fun h14 => ?_)
    · refine v_iconst hC dX4_wish_21 ⟨by decide, by decide⟩ ?_
      refine v_putI hC fwX4_59 dX4_wish_22 rfl rfl rfl (by decide) (by first | decide | (simp only [vdn]; omega)) ?_
      refine v_aload_n hC 0 dX4_wish_25 rfl rfl ?_
      refine v_getI hC foX4_59 dX4_wish_26 rfl rfl rfl (by first | decide | (simp only [vdn]; omega)) ?_
      try simp only [Int.toNat_natCast, upM_at, upM_nef, ne_eq, not_false_eq_true, Nat.reduceEqDiff, Nat.reduceAdd]
      refine v_if_le hC 34 dX4_wish_29 rfl (fun h29 => ?_) (fun h29 => ?_)
      · obtain ⟨p1, p2⟩ := bI_n.1 h6
        obtain ⟨q1, q2⟩ := bI_n.1 h14
        have hc : ¬ ¬ (mIP μ P ∧ mIS μ S) := fun h => h ⟨⟨p1, p2⟩, ⟨q1, q2⟩⟩
        obtain ⟨p, rfl⟩ := Int.eq_ofNat_of_zero_le p1
        have hp1 := hpp p (by omega)
        have hSm1 : Sm (upM μ 20 0 0) := hSm0.up (by decide)
        have epl : mplF (upM μ 20 0 0) p S = mplF μ p S := mplF_of (fun j => upM_nef (by decide)) (upM_nef (by decide))
        have ei : ((4 : Int) * (p : Int) + μ 29 p).toNat = 4 * p + (μ 29 p).toNat := by omega
        refine v_aload_n hC 0 dX4_wish_34 rfl rfl ?_
        refine v_aload_n hC 0 dX4_wish_35 rfl rfl ?_
        refine v_iload_n hC 1 dX4_wish_36 rfl rfl ?_
        refine v_iload_n hC 2 dX4_wish_37 rfl rfl ?_
        refine v_callI2 hC (cwX4_80 hC ⟨Nat.le_of_ble_eq_true rfl, Nat.le_of_ble_eq_true rfl⟩) dX4_wish_38 rfl rfl rfl (Nat.zero_le _) (Nat.zero_le _) (Nat.le_of_ble_eq_true rfl) (by first | decide | (simp only [vdn]; omega)) (cX4_place_ok p S (upM μ 20 0 0) (by omega) hSm1) (fun r1 μ1 hp => ?_)
        obtain ⟨rfl, rfl⟩ := hp
        rw [epl]
        refine v_bipush hC dX4_wish_41 ⟨by decide, by decide⟩ ?_
        refine v_icmp_ge hC 50 dX4_wish_43 rfl (fun h43 => ?_) (fun h43 => ?_)
        · refine v_aload_n hC 0 dX4_wish_50 rfl rfl ?_
          refine v_getI hC foX4_69 dX4_wish_51 rfl rfl rfl (by first | decide | (simp only [vdn]; omega)) ?_
          try simp only [Int.toNat_natCast, upM_at, upM_nef, ne_eq, not_false_eq_true, Nat.reduceEqDiff, Nat.reduceAdd]
          refine v_if_ne hC 67 dX4_wish_54 rfl (fun h54 => ?_) (fun h54 => ?_)
          · refine v_iconst hC dX4_wish_67 ⟨by decide, by decide⟩ ?_
            refine v_goto hC 72 dX4_wish_68 rfl ?_
            refine v_putI hC fwX4_59 dX4_wish_72 rfl rfl rfl (by decide) (by first | decide | (simp only [vdn]; omega)) ?_
            refine v_aload_n hC 0 dX4_wish_75 rfl rfl ?_
            refine v_getI hC foX4_59 dX4_wish_76 rfl rfl rfl (by first | decide | (simp only [vdn]; omega)) ?_
            try simp only [Int.toNat_natCast, upM_at, upM_nef, ne_eq, not_false_eq_true, Nat.reduceEqDiff, Nat.reduceAdd]
            refine v_if_le hC 84 dX4_wish_79 rfl (fun h79 => ?_) (fun h79 => ?_)
            · exfalso; omega
            · refine v_iconst hC dX4_wish_82 ⟨by decide, by decide⟩ ?_
              exact v_iret hC hR dX4_wish_83 (⟨_, rfl, by rw [mwiM, if_neg hc, if_neg (by simp only [Int.toNat_natCast]; omega), if_pos (Or.inl h54)], by rw [mwiR, if_neg hc, if_neg (by simp only [Int.toNat_natCast]; omega), if_pos (Or.inl h54)]⟩)
          · refine v_aload_n hC 0 dX4_wish_57 rfl rfl ?_
            refine v_getR hC foX4_26 dX4_wish_58 rfl rfl rfl (by decide) (by first | decide | (simp only [vdn]; omega)) ?_
            refine v_iload_n hC 1 dX4_wish_61 rfl rfl ?_
            refine v_iald hC dX4_wish_62 rfl rfl rfl (by first | decide | (simp only [vdn]; omega)) ⟨by first | omega | (simp only [mlen]; omega), by first | omega | (simp only [mlen]; omega)⟩ ?_
            try simp only [Int.toNat_natCast, upM_at, upM_nef, ne_eq, not_false_eq_true, Nat.reduceEqDiff, Nat.reduceAdd]
            refine v_iconst hC dX4_wish_63 ⟨by decide, by decide⟩ ?_
            refine v_icmp_ne hC 71 dX4_wish_64 rfl (fun h64 => ?_) (fun h64 => ?_)
            · refine v_iconst hC dX4_wish_71 ⟨by decide, by decide⟩ ?_
              refine v_putI hC fwX4_59 dX4_wish_72 rfl rfl rfl (by decide) (by first | decide | (simp only [vdn]; omega)) ?_
              refine v_aload_n hC 0 dX4_wish_75 rfl rfl ?_
              refine v_getI hC foX4_59 dX4_wish_76 rfl rfl rfl (by first | decide | (simp only [vdn]; omega)) ?_
              try simp only [Int.toNat_natCast, upM_at, upM_nef, ne_eq, not_false_eq_true, Nat.reduceEqDiff, Nat.reduceAdd]
              refine v_if_le hC 84 dX4_wish_79 rfl (fun h79 => ?_) (fun h79 => ?_)
              · refine v_aload_n hC 0 dX4_wish_84 rfl rfl ?_
                refine v_getR hC foX4_29 dX4_wish_85 rfl rfl rfl (by decide) (by first | decide | (simp only [vdn]; omega)) ?_
                refine v_iconst hC dX4_wish_88 ⟨by decide, by decide⟩ ?_
                refine v_iload_n hC 1 dX4_wish_89 rfl rfl ?_
                refine v_imul hC dX4_wish_90 ⟨by omega, by omega⟩ ?_
                refine v_aload_n hC 0 dX4_wish_91 rfl rfl ?_
                refine v_getR hC foX4_26 dX4_wish_92 rfl rfl rfl (by decide) (by first | decide | (simp only [vdn]; omega)) ?_
                refine v_iload_n hC 1 dX4_wish_95 rfl rfl ?_
                refine v_iald hC dX4_wish_96 rfl rfl rfl (by first | decide | (simp only [vdn]; omega)) ⟨by first | omega | (simp only [mlen]; omega), by first | omega | (simp only [mlen]; omega)⟩ ?_
                try simp only [Int.toNat_natCast, upM_at, upM_nef, ne_eq, not_false_eq_true, Nat.reduceEqDiff, Nat.reduceAdd]
                refine v_iadd hC dX4_wish_97 ⟨by omega, by omega⟩ ?_
                refine v_iload_n hC 2 dX4_wish_98 rfl rfl ?_
                refine v_iast hC dX4_wish_99 rfl rfl rfl (by decide) (by first | decide | (simp only [vdn]; omega)) ⟨by first | omega | (simp only [mlen]; omega), by first | omega | (simp only [mlen]; omega)⟩ ?_
                try simp only [Int.toNat_natCast, upM_at, upM_nef, ne_eq, not_false_eq_true, Nat.reduceEqDiff, Nat.reduceAdd]
                rw [ei]
                refine v_aload_n hC 0 dX4_wish_100 rfl rfl ?_
                refine v_getR hC foX4_26 dX4_wish_101 rfl rfl rfl (by decide) (by first | decide | (simp only [vdn]; omega)) ?_
                refine v_iload_n hC 1 dX4_wish_104 rfl rfl ?_
                refine v_dup2 hC dX4_wish_105 ?_
                refine v_iald hC dX4_wish_106 rfl rfl rfl (by first | decide | (simp only [vdn]; omega)) ⟨by first | omega | (simp only [mlen]; omega), by first | omega | (simp only [mlen]; omega)⟩ ?_
                try simp only [Int.toNat_natCast, upM_at, upM_nef, ne_eq, not_false_eq_true, Nat.reduceEqDiff, Nat.reduceAdd]
                refine v_iconst hC dX4_wish_107 ⟨by decide, by decide⟩ ?_
                refine v_iadd hC dX4_wish_108 ⟨by omega, by omega⟩ ?_
                refine v_iast hC dX4_wish_109 rfl rfl rfl (by decide) (by first | decide | (simp only [vdn]; omega)) ⟨by first | omega | (simp only [mlen]; omega), by first | omega | (simp only [mlen]; omega)⟩ ?_
                try simp only [Int.toNat_natCast, upM_at, upM_nef, ne_eq, not_false_eq_true, Nat.reduceEqDiff, Nat.reduceAdd]
                refine v_aload_n hC 0 dX4_wish_110 rfl rfl ?_
                refine v_getR hC foX4_26 dX4_wish_111 rfl rfl rfl (by decide) (by first | decide | (simp only [vdn]; omega)) ?_
                refine v_iload_n hC 1 dX4_wish_114 rfl rfl ?_
                refine v_iald hC dX4_wish_115 rfl rfl rfl (by first | decide | (simp only [vdn]; omega)) ⟨by first | omega | (simp only [mlen]; omega), by first | omega | (simp only [mlen]; omega)⟩ ?_
                try simp only [Int.toNat_natCast, upM_at, upM_nef, ne_eq, not_false_eq_true, Nat.reduceEqDiff, Nat.reduceAdd]
                exact v_iret hC hR dX4_wish_116 (⟨_, rfl, by rw [mwiM, if_neg hc, if_neg (by simp only [Int.toNat_natCast]; omega), if_neg (fun q => q.elim (fun q => q h54) h64)] <;> rfl, by rw [mwiR, if_neg hc, if_neg (by simp only [Int.toNat_natCast]; omega), if_neg (fun q => q.elim (fun q => q h54) h64)] <;> rfl⟩)
              · exfalso; omega
            · refine v_iconst hC dX4_wish_67 ⟨by decide, by decide⟩ ?_
              refine v_goto hC 72 dX4_wish_68 rfl ?_
              refine v_putI hC fwX4_59 dX4_wish_72 rfl rfl rfl (by decide) (by first | decide | (simp only [vdn]; omega)) ?_
              refine v_aload_n hC 0 dX4_wish_75 rfl rfl ?_
              refine v_getI hC foX4_59 dX4_wish_76 rfl rfl rfl (by first | decide | (simp only [vdn]; omega)) ?_
              try simp only [Int.toNat_natCast, upM_at, upM_nef, ne_eq, not_false_eq_true, Nat.reduceEqDiff, Nat.reduceAdd]
              refine v_if_le hC 84 dX4_wish_79 rfl (fun h79 => ?_) (fun h79 => ?_)
              · exfalso; omega
              · refine v_iconst hC dX4_wish_82 ⟨by decide, by decide⟩ ?_
                exact v_iret hC hR dX4_wish_83 (⟨_, rfl, by rw [mwiM, if_neg hc, if_neg (by simp only [Int.toNat_natCast]; omega), if_pos (Or.inr (show μ 29 ((p : Int)).toNat = 4 from h64))], by rw [mwiR, if_neg hc, if_neg (by simp only [Int.toNat_natCast]; omega), if_pos (Or.inr (show μ 29 ((p : Int)).toNat = 4 from h64))]⟩)
        · refine v_iconst hC dX4_wish_46 ⟨by decide, by decide⟩ ?_
          refine v_goto hC 72 dX4_wish_47 rfl ?_
          refine v_putI hC fwX4_59 dX4_wish_72 rfl rfl rfl (by decide) (by first | decide | (simp only [vdn]; omega)) ?_
          refine v_aload_n hC 0 dX4_wish_75 rfl rfl ?_
          refine v_getI hC foX4_59 dX4_wish_76 rfl rfl rfl (by first | decide | (simp only [vdn]; omega)) ?_
          try simp only [Int.toNat_natCast, upM_at, upM_nef, ne_eq, not_false_eq_true, Nat.reduceEqDiff, Nat.reduceAdd]
          refine v_if_le hC 84 dX4_wish_79 rfl (fun h79 => ?_) (fun h79 => ?_)
          · exfalso; omega
          · refine v_iconst hC dX4_wish_82 ⟨by decide, by decide⟩ ?_
            exact v_iret hC hR dX4_wish_83 (⟨_, rfl, by rw [mwiM, if_neg hc, if_pos (by simp only [Int.toNat_natCast]; omega)], by rw [mwiR, if_neg hc, if_pos (by simp only [Int.toNat_natCast]; omega)]⟩)
      · exfalso; omega
    · refine v_iconst hC dX4_wish_17 ⟨by decide, by decide⟩ ?_
      refine v_goto hC 22 dX4_wish_18 rfl ?_
      refine v_putI hC fwX4_59 dX4_wish_22 rfl rfl rfl (by decide) (by first | decide | (simp only [vdn]; omega)) ?_
      refine v_aload_n hC 0 dX4_wish_25 rfl rfl ?_
      refine v_getI hC foX4_59 dX4_wish_26 rfl rfl rfl (by first | decide | (simp only [vdn]; omega)) ?_
      try simp only [Int.toNat_natCast, upM_at, upM_nef, ne_eq, not_false_eq_true, Nat.reduceEqDiff, Nat.reduceAdd]
      refine v_if_le hC 34 dX4_wish_29 rfl (fun h29 => ?_) (fun h29 => ?_)
      · exfalso; omega
      · refine v_iconst hC dX4_wish_32 ⟨by decide, by decide⟩ ?_
        exact v_iret hC hR dX4_wish_33 (⟨_, rfl, if_pos (fun q => bI_z.1 h14 q.2), (if_pos (fun q => bI_z.1 h14 q.2)).symm⟩)
abbrev rmX4_draw : Room := { frames := 1, cells := 0, slots := 0, locals := 21 }
set_option maxRecDepth 100000 in
set_option maxHeartbeats 4000000 in
theorem cX4_draw_ok (P S n : Int) (μ : MU) (hSm : Sm μ) : CTi yX4_draw cX4_draw 5 (some .boolean) rmX4_draw [aR 12 0, aI P, aI S, aI n] μ (fun r μ' => mdrM μ P S n = μ' ∧ r = bI (mdrP μ P S n)) := by
  intro l9 b9 D9 K9
  refine met_of (by decide) (Nat.le_of_ble_eq_true rfl) (fun x hC hR hM hA => ?_)
  have hC : Ctx x RX4 cX4_draw rmX4_draw := hC
  obtain ⟨⟨s1, s2⟩, ⟨n1, n2⟩, hr, hkc, hq, hpp, hli, hnu⟩ := hSm
  refine v_aload_n hC 0 dX4_draw_0 rfl rfl ?_
  refine v_iconst hC dX4_draw_1 ⟨by decide, by decide⟩ ?_
  refine v_putI hC fwX4_59 dX4_draw_2 rfl rfl rfl (by decide) (by first | decide | (simp only [vdn]; omega)) ?_
  refine v_aload_n hC 0 dX4_draw_5 rfl rfl ?_
  refine v_iload_n hC 1 dX4_draw_6 rfl rfl ?_
  refine v_callI1 hC (cwX4_77 hC ⟨Nat.le_of_ble_eq_true rfl, Nat.le_of_ble_eq_true rfl⟩) dX4_draw_7 rfl rfl rfl (Nat.zero_le _) (Nat.zero_le _) (Nat.le_of_ble_eq_true rfl) (by first | decide | (simp only [vdn]; omega)) (cX4_isPupil_ok P (upM μ 20 0 0)) (fun r1 μ1 hp => ?_)
  obtain ⟨rfl, rfl⟩ := hp
  refine v_if_eq hC 39 dX4_draw_10 rfl (fun h10 => ?_) (fun h10 => ?_)
  · refine v_iconst hC dX4_draw_39 ⟨by decide, by decide⟩ ?_
    exact v_bret hC hR dX4_draw_40 (by omega) (⟨_, rfl, fin_f (fun q => bI_z.1 h10 q.1.1)⟩)
  · refine v_aload_n hC 0 dX4_draw_13 rfl rfl ?_
    refine v_iload_n hC 2 dX4_draw_14 rfl rfl ?_
    refine v_callI1 hC (cwX4_73 hC ⟨Nat.le_of_ble_eq_true rfl, Nat.le_of_ble_eq_true rfl⟩) dX4_draw_15 rfl rfl rfl (Nat.zero_le _) (Nat.zero_le _) (Nat.le_of_ble_eq_true rfl) (by first | decide | (simp only [vdn]; omega)) (cX4_isSchool_ok S (upM μ 20 0 0)) (fun r1 μ1 hp => ?_)
    obtain ⟨rfl, rfl⟩ := hp
    refine v_if_eq hC 39 dX4_draw_18 rfl (fun h18 => ?_) (fun h18 => ?_)
    · refine v_iconst hC dX4_draw_39 ⟨by decide, by decide⟩ ?_
      exact v_bret hC hR dX4_draw_40 (by omega) (⟨_, rfl, fin_f (fun q => bI_z.1 h18 q.1.2.1)⟩)
    · refine v_iload_n hC 3 dX4_draw_21 rfl rfl ?_
      refine v_if_lt hC 39 dX4_draw_22 rfl (fun h22 => ?_) (fun h22 => ?_)
      · refine v_iconst hC dX4_draw_39 ⟨by decide, by decide⟩ ?_
        exact v_bret hC hR dX4_draw_40 (by omega) (⟨_, rfl, fin_f (fun q => by have := q.1.2.2.1; omega)⟩)
      · refine v_iload_n hC 3 dX4_draw_25 rfl rfl ?_
        refine v_sipush hC dX4_draw_26 ⟨by decide, by decide⟩ ?_
        refine v_icmp_gt hC 39 dX4_draw_29 rfl (fun h29 => ?_) (fun h29 => ?_)
        · refine v_iconst hC dX4_draw_39 ⟨by decide, by decide⟩ ?_
          exact v_bret hC hR dX4_draw_40 (by omega) (⟨_, rfl, fin_f (fun q => by have := q.1.2.2.2.1; omega)⟩)
        · refine v_aload_n hC 0 dX4_draw_32 rfl rfl ?_
          refine v_getI hC foX4_69 dX4_draw_33 rfl rfl rfl (by first | decide | (simp only [vdn]; omega)) ?_
          try simp only [Int.toNat_natCast, upM_at, upM_nef, ne_eq, not_false_eq_true, Nat.reduceEqDiff, Nat.reduceAdd]
          refine v_if_eq hC 41 dX4_draw_36 rfl (fun h36 => ?_) (fun h36 => ?_)
          · refine v_iconst hC dX4_draw_41 ⟨by decide, by decide⟩ ?_
            refine v_istore hC dX4_draw_42 (Nat.le_of_ble_eq_true rfl) ?_
            obtain ⟨p1, p2⟩ : mIP μ P := bI_n.1 h10
            obtain ⟨q1, q2⟩ : mIS μ S := bI_n.1 h18
            refine v_loop (fun i : Nat => (μ 23 0).toNat - i) (fun i => i ≤ 20 ∧ fnd (fun q => decide (¬ (q : Int) = P ∧ μ 31 (6 * q + S.toNat) = n)) i ((μ 23 0).toNat - i) = mdrF μ P S n) (fun i => V x 0 0 none 44 [some (aR 12 0), some (aI P), some (aI S), some (aI n), some (aI (i : Int))] [] (upM μ 20 0 0)) (fun i hi ih => ?_) 0 ⟨by decide, rfl⟩
            have ei : ((6 : Int) * (i : Int) + S).toNat = 6 * i + S.toNat := by omega
            have ej : ((6 : Int) * P + S).toNat = 6 * P.toNat + S.toNat := by omega
            refine v_iload hC dX4_draw_44 rfl ?_
            refine v_aload_n hC 0 dX4_draw_46 rfl rfl ?_
            refine v_getI hC foX4_66 dX4_draw_47 rfl rfl rfl (by first | decide | (simp only [vdn]; omega)) ?_
            try simp only [Int.toNat_natCast, upM_at, upM_nef, ne_eq, not_false_eq_true, Nat.reduceEqDiff, Nat.reduceAdd]
            refine v_icmp_ge hC 83 dX4_draw_50 rfl (fun h50 => ?_) (fun h50 => ?_)
            · refine v_aload_n hC 0 dX4_draw_83 rfl rfl ?_
              refine v_getR hC foX4_32 dX4_draw_84 rfl rfl rfl (by decide) (by first | decide | (simp only [vdn]; omega)) ?_
              refine v_bipush hC dX4_draw_87 ⟨by decide, by decide⟩ ?_
              refine v_iload_n hC 1 dX4_draw_89 rfl rfl ?_
              refine v_imul hC dX4_draw_90 ⟨by omega, by omega⟩ ?_
              refine v_iload_n hC 2 dX4_draw_91 rfl rfl ?_
              refine v_iadd hC dX4_draw_92 ⟨by omega, by omega⟩ ?_
              refine v_iload_n hC 3 dX4_draw_93 rfl rfl ?_
              refine v_iast hC dX4_draw_94 rfl rfl rfl (by decide) (by first | decide | (simp only [vdn]; omega)) ⟨by first | omega | (simp only [mlen]; omega), by first | omega | (simp only [mlen]; omega)⟩ ?_
              try simp only [Int.toNat_natCast, upM_at, upM_nef, ne_eq, not_false_eq_true, Nat.reduceEqDiff, Nat.reduceAdd]
              rw [ej]
              refine v_iconst hC dX4_draw_95 ⟨by decide, by decide⟩ ?_
              exact v_bret hC hR dX4_draw_96 (by omega) (⟨_, rfl, fin_t ⟨⟨⟨p1, p2⟩, ⟨q1, q2⟩, by omega, by omega, h36⟩, by rw [← hi.2, fnd_done (by omega)]⟩⟩)
            · refine v_iload hC dX4_draw_53 rfl ?_
              refine v_iload_n hC 1 dX4_draw_55 rfl rfl ?_
              refine v_icmp_eq hC 77 dX4_draw_56 rfl (fun h56 => ?_) (fun h56 => ?_)
              · refine v_iinc hC dX4_draw_77 rfl ⟨by omega, by omega⟩ ?_
                refine v_goto hC 44 dX4_draw_80 rfl ?_
                exact ih (i + 1) ⟨by omega, fnd_next (by omega) (fun h => (of_decide_eq_true h).1 h56) hi.2⟩ (by omega)
              · refine v_aload_n hC 0 dX4_draw_59 rfl rfl ?_
                refine v_getR hC foX4_32 dX4_draw_60 rfl rfl rfl (by decide) (by first | decide | (simp only [vdn]; omega)) ?_
                refine v_bipush hC dX4_draw_63 ⟨by decide, by decide⟩ ?_
                refine v_iload hC dX4_draw_65 rfl ?_
                refine v_imul hC dX4_draw_67 ⟨by omega, by omega⟩ ?_
                refine v_iload_n hC 2 dX4_draw_68 rfl rfl ?_
                refine v_iadd hC dX4_draw_69 ⟨by omega, by omega⟩ ?_
                refine v_iald hC dX4_draw_70 rfl rfl rfl (by first | decide | (simp only [vdn]; omega)) ⟨by first | omega | (simp only [mlen]; omega), by first | omega | (simp only [mlen]; omega)⟩ ?_
                try simp only [Int.toNat_natCast, upM_at, upM_nef, ne_eq, not_false_eq_true, Nat.reduceEqDiff, Nat.reduceAdd]
                rw [ei]
                refine v_iload_n hC 3 dX4_draw_71 rfl rfl ?_
                refine v_icmp_ne hC 77 dX4_draw_72 rfl (fun h72 => ?_) (fun h72 => ?_)
                · refine v_iinc hC dX4_draw_77 rfl ⟨by omega, by omega⟩ ?_
                  refine v_goto hC 44 dX4_draw_80 rfl ?_
                  exact ih (i + 1) ⟨by omega, fnd_next (by omega) (fun h => h72 (of_decide_eq_true h).2) hi.2⟩ (by omega)
                · refine v_iconst hC dX4_draw_75 ⟨by decide, by decide⟩ ?_
                  exact v_bret hC hR dX4_draw_76 (by omega) (⟨_, rfl, fin_f (fun q => by have h9 := q.2; rw [← hi.2, fnd_yes (by omega) (decide_eq_true ⟨h56, h72⟩)] at h9; cases h9)⟩)
          · refine v_iconst hC dX4_draw_39 ⟨by decide, by decide⟩ ?_
            exact v_bret hC hR dX4_draw_40 (by omega) (⟨_, rfl, fin_f (fun q => h36 q.1.2.2.2.2)⟩)
abbrev rmX4_appeal : Room := { frames := 1, cells := 0, slots := 0, locals := 21 }
set_option maxRecDepth 100000 in
set_option maxHeartbeats 4000000 in
theorem cX4_appeal_ok (P f : Int) (μ : MU) (hSm : Sm μ) : CTi yX4_appeal cX4_appeal 3 (some .boolean) rmX4_appeal [aR 12 0, aI P, aI f] μ (fun r μ' => mapM μ P f = μ' ∧ r = bI (mapP μ P f)) := by
  intro l9 b9 D9 K9
  refine met_of (by decide) (Nat.le_of_ble_eq_true rfl) (fun x hC hR hM hA => ?_)
  have hC : Ctx x RX4 cX4_appeal rmX4_appeal := hC
  obtain ⟨⟨s1, s2⟩, ⟨n1, n2⟩, hr, hkc, hq, hpp, hli, hnu⟩ := hSm
  refine v_aload_n hC 0 dX4_appeal_0 rfl rfl ?_
  refine v_iconst hC dX4_appeal_1 ⟨by decide, by decide⟩ ?_
  refine v_putI hC fwX4_59 dX4_appeal_2 rfl rfl rfl (by decide) (by first | decide | (simp only [vdn]; omega)) ?_
  refine v_aload_n hC 0 dX4_appeal_5 rfl rfl ?_
  refine v_iload_n hC 1 dX4_appeal_6 rfl rfl ?_
  refine v_callI1 hC (cwX4_77 hC ⟨Nat.le_of_ble_eq_true rfl, Nat.le_of_ble_eq_true rfl⟩) dX4_appeal_7 rfl rfl rfl (Nat.zero_le _) (Nat.zero_le _) (Nat.le_of_ble_eq_true rfl) (by first | decide | (simp only [vdn]; omega)) (cX4_isPupil_ok P (upM μ 20 0 0)) (fun r1 μ1 hp => ?_)
  obtain ⟨rfl, rfl⟩ := hp
  refine v_if_eq hC 23 dX4_appeal_10 rfl (fun h10 => ?_) (fun h10 => ?_)
  · refine v_iconst hC dX4_appeal_23 ⟨by decide, by decide⟩ ?_
    exact v_bret hC hR dX4_appeal_24 (by omega) (⟨_, rfl, fin_f (fun q => bI_z.1 h10 q.1)⟩)
  · refine v_iload_n hC 2 dX4_appeal_13 rfl rfl ?_
    refine v_if_lt hC 23 dX4_appeal_14 rfl (fun h14 => ?_) (fun h14 => ?_)
    · refine v_iconst hC dX4_appeal_23 ⟨by decide, by decide⟩ ?_
      exact v_bret hC hR dX4_appeal_24 (by omega) (⟨_, rfl, fin_f (fun q => by have := q.2.1; omega)⟩)
    · refine v_iload_n hC 2 dX4_appeal_17 rfl rfl ?_
      refine v_bipush hC dX4_appeal_18 ⟨by decide, by decide⟩ ?_
      refine v_icmp_le hC 25 dX4_appeal_20 rfl (fun h20 => ?_) (fun h20 => ?_)
      · obtain ⟨p1, p2⟩ : mIP μ P := bI_n.1 h10
        refine v_aload_n hC 0 dX4_appeal_25 rfl rfl ?_
        refine v_getR hC foX4_19 dX4_appeal_26 rfl rfl rfl (by decide) (by first | decide | (simp only [vdn]; omega)) ?_
        refine v_iload_n hC 1 dX4_appeal_29 rfl rfl ?_
        refine v_iload_n hC 2 dX4_appeal_30 rfl rfl ?_
        refine v_iast hC dX4_appeal_31 rfl rfl rfl (by decide) (by first | decide | (simp only [vdn]; omega)) ⟨by first | omega | (simp only [mlen]; omega), by first | omega | (simp only [mlen]; omega)⟩ ?_
        try simp only [Int.toNat_natCast, upM_at, upM_nef, ne_eq, not_false_eq_true, Nat.reduceEqDiff, Nat.reduceAdd]
        refine v_iconst hC dX4_appeal_32 ⟨by decide, by decide⟩ ?_
        exact v_bret hC hR dX4_appeal_33 (by omega) (⟨_, rfl, fin_t ⟨⟨p1, p2⟩, by omega, by omega⟩⟩)
      · refine v_iconst hC dX4_appeal_23 ⟨by decide, by decide⟩ ?_
        exact v_bret hC hR dX4_appeal_24 (by omega) (⟨_, rfl, fin_f (fun q => by have := q.2.2; omega)⟩)
abbrev rmX4_stay : Room := { frames := 1, cells := 0, slots := 0, locals := 21 }
set_option maxRecDepth 100000 in
set_option maxHeartbeats 4000000 in
theorem cX4_stay_ok (P n : Int) (μ : MU) (hSm : Sm μ) : CTi yX4_stay cX4_stay 3 (some .boolean) rmX4_stay [aR 12 0, aI P, aI n] μ (fun r μ' => mstM μ P n = μ' ∧ r = bI (mstP μ P n)) := by
  intro l9 b9 D9 K9
  refine met_of (by decide) (Nat.le_of_ble_eq_true rfl) (fun x hC hR hM hA => ?_)
  have hC : Ctx x RX4 cX4_stay rmX4_stay := hC
  obtain ⟨⟨s1, s2⟩, ⟨n1, n2⟩, hr, hkc, hq, hpp, hli, hnu⟩ := hSm
  refine v_aload_n hC 0 dX4_stay_0 rfl rfl ?_
  refine v_iconst hC dX4_stay_1 ⟨by decide, by decide⟩ ?_
  refine v_putI hC fwX4_59 dX4_stay_2 rfl rfl rfl (by decide) (by first | decide | (simp only [vdn]; omega)) ?_
  refine v_aload_n hC 0 dX4_stay_5 rfl rfl ?_
  refine v_iload_n hC 1 dX4_stay_6 rfl rfl ?_
  refine v_callI1 hC (cwX4_77 hC ⟨Nat.le_of_ble_eq_true rfl, Nat.le_of_ble_eq_true rfl⟩) dX4_stay_7 rfl rfl rfl (Nat.zero_le _) (Nat.zero_le _) (Nat.le_of_ble_eq_true rfl) (by first | decide | (simp only [vdn]; omega)) (cX4_isPupil_ok P (upM μ 20 0 0)) (fun r1 μ1 hp => ?_)
  obtain ⟨rfl, rfl⟩ := hp
  refine v_if_eq hC 29 dX4_stay_10 rfl (fun h10 => ?_) (fun h10 => ?_)
  · refine v_iconst hC dX4_stay_29 ⟨by decide, by decide⟩ ?_
    exact v_bret hC hR dX4_stay_30 (by omega) (⟨_, rfl, fin_f (fun q => bI_z.1 h10 q.1)⟩)
  · refine v_aload_n hC 0 dX4_stay_13 rfl rfl ?_
    refine v_getI hC foX4_69 dX4_stay_14 rfl rfl rfl (by first | decide | (simp only [vdn]; omega)) ?_
    try simp only [Int.toNat_natCast, upM_at, upM_nef, ne_eq, not_false_eq_true, Nat.reduceEqDiff, Nat.reduceAdd]
    refine v_if_eq hC 29 dX4_stay_17 rfl (fun h17 => ?_) (fun h17 => ?_)
    · refine v_iconst hC dX4_stay_29 ⟨by decide, by decide⟩ ?_
      exact v_bret hC hR dX4_stay_30 (by omega) (⟨_, rfl, fin_f (fun q => q.2.2.2.1 h17)⟩)
    · refine v_iload_n hC 2 dX4_stay_20 rfl rfl ?_
      refine v_if_lt hC 29 dX4_stay_21 rfl (fun h21 => ?_) (fun h21 => ?_)
      · refine v_iconst hC dX4_stay_29 ⟨by decide, by decide⟩ ?_
        exact v_bret hC hR dX4_stay_30 (by omega) (⟨_, rfl, fin_f (fun q => by have := q.2.1; omega)⟩)
      · refine v_iload_n hC 2 dX4_stay_24 rfl rfl ?_
        refine v_iconst hC dX4_stay_25 ⟨by decide, by decide⟩ ?_
        refine v_icmp_le hC 31 dX4_stay_26 rfl (fun h26 => ?_) (fun h26 => ?_)
        · obtain ⟨p1, p2⟩ : mIP μ P := bI_n.1 h10
          refine v_aload_n hC 0 dX4_stay_31 rfl rfl ?_
          refine v_getR hC foX4_44 dX4_stay_32 rfl rfl rfl (by decide) (by first | decide | (simp only [vdn]; omega)) ?_
          refine v_iload_n hC 1 dX4_stay_35 rfl rfl ?_
          refine v_iald hC dX4_stay_36 rfl rfl rfl (by first | decide | (simp only [vdn]; omega)) ⟨by first | omega | (simp only [mlen]; omega), by first | omega | (simp only [mlen]; omega)⟩ ?_
          try simp only [Int.toNat_natCast, upM_at, upM_nef, ne_eq, not_false_eq_true, Nat.reduceEqDiff, Nat.reduceAdd]
          refine v_iconst hC dX4_stay_37 ⟨by decide, by decide⟩ ?_
          refine v_icmp_ne hC 43 dX4_stay_38 rfl (fun h38 => ?_) (fun h38 => ?_)
          · refine v_aload_n hC 0 dX4_stay_43 rfl rfl ?_
            refine v_getR hC foX4_50 dX4_stay_44 rfl rfl rfl (by decide) (by first | decide | (simp only [vdn]; omega)) ?_
            refine v_iload_n hC 1 dX4_stay_47 rfl rfl ?_
            refine v_iload_n hC 2 dX4_stay_48 rfl rfl ?_
            refine v_iast hC dX4_stay_49 rfl rfl rfl (by decide) (by first | decide | (simp only [vdn]; omega)) ⟨by first | omega | (simp only [mlen]; omega), by first | omega | (simp only [mlen]; omega)⟩ ?_
            try simp only [Int.toNat_natCast, upM_at, upM_nef, ne_eq, not_false_eq_true, Nat.reduceEqDiff, Nat.reduceAdd]
            refine v_iconst hC dX4_stay_50 ⟨by decide, by decide⟩ ?_
            exact v_bret hC hR dX4_stay_51 (by omega) (⟨_, rfl, fin_t ⟨⟨p1, p2⟩, by omega, by omega, h17, h38⟩⟩)
          · refine v_iconst hC dX4_stay_41 ⟨by decide, by decide⟩ ?_
            exact v_bret hC hR dX4_stay_42 (by omega) (⟨_, rfl, fin_f (fun q => q.2.2.2.2 h38)⟩)
        · refine v_iconst hC dX4_stay_29 ⟨by decide, by decide⟩ ?_
          exact v_bret hC hR dX4_stay_30 (by omega) (⟨_, rfl, fin_f (fun q => by have := q.2.2.1; omega)⟩)
abbrev rmX4_seat : Room := { frames := 1, cells := 0, slots := 0, locals := 21 }
set_option maxRecDepth 100000 in
set_option maxHeartbeats 4000000 in
theorem cX4_seat_ok (P w : Int) (μ : MU) (hSm : Sm μ) : CTi yX4_seat cX4_seat 3 (some .int) rmX4_seat [aR 12 0, aI P, aI w] μ (fun r μ' => upM μ 20 0 0 = μ' ∧ r = mseF μ P w) := by
  intro l9 b9 D9 K9
  refine met_of (by decide) (Nat.le_of_ble_eq_true rfl) (fun x hC hR hM hA => ?_)
  have hC : Ctx x RX4 cX4_seat rmX4_seat := hC
  obtain ⟨⟨s1, s2⟩, ⟨n1, n2⟩, hr, hkc, hq, hpp, hli, hnu⟩ := hSm
  refine v_aload_n hC 0 dX4_seat_0 rfl rfl ?_
  refine v_iconst hC dX4_seat_1 ⟨by decide, by decide⟩ ?_
  refine v_putI hC fwX4_59 dX4_seat_2 rfl rfl rfl (by decide) (by first | decide | (simp only [vdn]; omega)) ?_
  refine v_aload_n hC 0 dX4_seat_5 rfl rfl ?_
  refine v_iload_n hC 1 dX4_seat_6 rfl rfl ?_
  refine v_callI1 hC (cwX4_77 hC ⟨Nat.le_of_ble_eq_true rfl, Nat.le_of_ble_eq_true rfl⟩) dX4_seat_7 rfl rfl rfl (Nat.zero_le _) (Nat.zero_le _) (Nat.le_of_ble_eq_true rfl) (by first | decide | (simp only [vdn]; omega)) (cX4_isPupil_ok P (upM μ 20 0 0)) (fun r1 μ1 hp => ?_)
  obtain ⟨rfl, rfl⟩ := hp
  refine v_if_eq hC 22 dX4_seat_10 rfl (fun h10 => ?_) (fun h10 => ?_)
  · refine v_iconst hC dX4_seat_22 ⟨by decide, by decide⟩ ?_
    exact v_iret hC hR dX4_seat_23 (⟨_, rfl, rfl, by rw [mseF, if_neg (fun q => bI_z.1 h10 q.1)]⟩)
  · refine v_iload_n hC 2 dX4_seat_13 rfl rfl ?_
    refine v_if_lt hC 22 dX4_seat_14 rfl (fun h14 => ?_) (fun h14 => ?_)
    · refine v_iconst hC dX4_seat_22 ⟨by decide, by decide⟩ ?_
      exact v_iret hC hR dX4_seat_23 (⟨_, rfl, rfl, by rw [mseF, if_neg (fun q => by have := q.2.1; omega)]⟩)
    · refine v_iload_n hC 2 dX4_seat_17 rfl rfl ?_
      refine v_iconst hC dX4_seat_18 ⟨by decide, by decide⟩ ?_
      refine v_icmp_le hC 24 dX4_seat_19 rfl (fun h19 => ?_) (fun h19 => ?_)
      · obtain ⟨p1, p2⟩ : mIP μ P := bI_n.1 h10
        refine v_iload_n hC 2 dX4_seat_24 rfl rfl ?_
        refine v_if_ne hC 37 dX4_seat_25 rfl (fun h25 => ?_) (fun h25 => ?_)
        · refine v_iload_n hC 2 dX4_seat_37 rfl rfl ?_
          refine v_iconst hC dX4_seat_38 ⟨by decide, by decide⟩ ?_
          refine v_icmp_ne hC 51 dX4_seat_39 rfl (fun h39 => ?_) (fun h39 => ?_)
          · refine v_iload_n hC 2 dX4_seat_51 rfl rfl ?_
            refine v_iconst hC dX4_seat_52 ⟨by decide, by decide⟩ ?_
            refine v_icmp_ne hC 65 dX4_seat_53 rfl (fun h53 => ?_) (fun h53 => ?_)
            · refine v_iload_n hC 2 dX4_seat_65 rfl rfl ?_
              refine v_iconst hC dX4_seat_66 ⟨by decide, by decide⟩ ?_
              refine v_icmp_ne hC 79 dX4_seat_67 rfl (fun h67 => ?_) (fun h67 => ?_)
              · refine v_iload_n hC 2 dX4_seat_79 rfl rfl ?_
                refine v_iconst hC dX4_seat_80 ⟨by decide, by decide⟩ ?_
                refine v_icmp_ne hC 93 dX4_seat_81 rfl (fun h81 => ?_) (fun h81 => ?_)
                · refine v_aload_n hC 0 dX4_seat_93 rfl rfl ?_
                  refine v_getR hC foX4_19 dX4_seat_94 rfl rfl rfl (by decide) (by first | decide | (simp only [vdn]; omega)) ?_
                  refine v_iload_n hC 1 dX4_seat_97 rfl rfl ?_
                  refine v_iald hC dX4_seat_98 rfl rfl rfl (by first | decide | (simp only [vdn]; omega)) ⟨by first | omega | (simp only [mlen]; omega), by first | omega | (simp only [mlen]; omega)⟩ ?_
                  try simp only [Int.toNat_natCast, upM_at, upM_nef, ne_eq, not_false_eq_true, Nat.reduceEqDiff, Nat.reduceAdd]
                  exact v_iret hC hR dX4_seat_99 (⟨_, rfl, rfl, by rw [mseF, if_pos ⟨⟨p1, p2⟩, by omega, by omega⟩, if_neg (by omega), if_neg (by omega), if_neg (by omega), if_neg (by omega), if_neg (by omega)]⟩)
                · refine v_aload_n hC 0 dX4_seat_84 rfl rfl ?_
                  refine v_getR hC foX4_50 dX4_seat_85 rfl rfl rfl (by decide) (by first | decide | (simp only [vdn]; omega)) ?_
                  refine v_iload_n hC 1 dX4_seat_88 rfl rfl ?_
                  refine v_iald hC dX4_seat_89 rfl rfl rfl (by first | decide | (simp only [vdn]; omega)) ⟨by first | omega | (simp only [mlen]; omega), by first | omega | (simp only [mlen]; omega)⟩ ?_
                  try simp only [Int.toNat_natCast, upM_at, upM_nef, ne_eq, not_false_eq_true, Nat.reduceEqDiff, Nat.reduceAdd]
                  refine v_goto hC 99 dX4_seat_90 rfl ?_
                  exact v_iret hC hR dX4_seat_99 (⟨_, rfl, rfl, by rw [mseF, if_pos ⟨⟨p1, p2⟩, by omega, by omega⟩, if_neg (by omega), if_neg (by omega), if_neg (by omega), if_neg (by omega), if_pos (by omega)]⟩)
              · refine v_aload_n hC 0 dX4_seat_70 rfl rfl ?_
                refine v_getR hC foX4_44 dX4_seat_71 rfl rfl rfl (by decide) (by first | decide | (simp only [vdn]; omega)) ?_
                refine v_iload_n hC 1 dX4_seat_74 rfl rfl ?_
                refine v_iald hC dX4_seat_75 rfl rfl rfl (by first | decide | (simp only [vdn]; omega)) ⟨by first | omega | (simp only [mlen]; omega), by first | omega | (simp only [mlen]; omega)⟩ ?_
                try simp only [Int.toNat_natCast, upM_at, upM_nef, ne_eq, not_false_eq_true, Nat.reduceEqDiff, Nat.reduceAdd]
                refine v_goto hC 99 dX4_seat_76 rfl ?_
                exact v_iret hC hR dX4_seat_99 (⟨_, rfl, rfl, by rw [mseF, if_pos ⟨⟨p1, p2⟩, by omega, by omega⟩, if_neg (by omega), if_neg (by omega), if_neg (by omega), if_pos (by omega)]⟩)
            · refine v_aload_n hC 0 dX4_seat_56 rfl rfl ?_
              refine v_getR hC foX4_35 dX4_seat_57 rfl rfl rfl (by decide) (by first | decide | (simp only [vdn]; omega)) ?_
              refine v_iload_n hC 1 dX4_seat_60 rfl rfl ?_
              refine v_iald hC dX4_seat_61 rfl rfl rfl (by first | decide | (simp only [vdn]; omega)) ⟨by first | omega | (simp only [mlen]; omega), by first | omega | (simp only [mlen]; omega)⟩ ?_
              try simp only [Int.toNat_natCast, upM_at, upM_nef, ne_eq, not_false_eq_true, Nat.reduceEqDiff, Nat.reduceAdd]
              refine v_goto hC 99 dX4_seat_62 rfl ?_
              exact v_iret hC hR dX4_seat_99 (⟨_, rfl, rfl, by rw [mseF, if_pos ⟨⟨p1, p2⟩, by omega, by omega⟩, if_neg (by omega), if_neg (by omega), if_pos (by omega)]⟩)
          · refine v_aload_n hC 0 dX4_seat_42 rfl rfl ?_
            refine v_getR hC foX4_41 dX4_seat_43 rfl rfl rfl (by decide) (by first | decide | (simp only [vdn]; omega)) ?_
            refine v_iload_n hC 1 dX4_seat_46 rfl rfl ?_
            refine v_iald hC dX4_seat_47 rfl rfl rfl (by first | decide | (simp only [vdn]; omega)) ⟨by first | omega | (simp only [mlen]; omega), by first | omega | (simp only [mlen]; omega)⟩ ?_
            try simp only [Int.toNat_natCast, upM_at, upM_nef, ne_eq, not_false_eq_true, Nat.reduceEqDiff, Nat.reduceAdd]
            refine v_goto hC 99 dX4_seat_48 rfl ?_
            exact v_iret hC hR dX4_seat_99 (⟨_, rfl, rfl, by rw [mseF, if_pos ⟨⟨p1, p2⟩, by omega, by omega⟩, if_neg (by omega), if_pos (by omega)]⟩)
        · refine v_aload_n hC 0 dX4_seat_28 rfl rfl ?_
          refine v_getR hC foX4_38 dX4_seat_29 rfl rfl rfl (by decide) (by first | decide | (simp only [vdn]; omega)) ?_
          refine v_iload_n hC 1 dX4_seat_32 rfl rfl ?_
          refine v_iald hC dX4_seat_33 rfl rfl rfl (by first | decide | (simp only [vdn]; omega)) ⟨by first | omega | (simp only [mlen]; omega), by first | omega | (simp only [mlen]; omega)⟩ ?_
          try simp only [Int.toNat_natCast, upM_at, upM_nef, ne_eq, not_false_eq_true, Nat.reduceEqDiff, Nat.reduceAdd]
          refine v_goto hC 99 dX4_seat_34 rfl ?_
          exact v_iret hC hR dX4_seat_99 (⟨_, rfl, rfl, by rw [mseF, if_pos ⟨⟨p1, p2⟩, by omega, by omega⟩, if_pos (by omega)]⟩)
      · refine v_iconst hC dX4_seat_22 ⟨by decide, by decide⟩ ?_
        exact v_iret hC hR dX4_seat_23 (⟨_, rfl, rfl, by rw [mseF, if_neg (fun q => by have := q.2.2; omega)]⟩)
abbrev rmX4_look : Room := { frames := 1, cells := 0, slots := 0, locals := 22 }
set_option maxRecDepth 100000 in
set_option maxHeartbeats 4000000 in
theorem cX4_look_ok (w : Int) (μ : MU) (hSm : Sm μ) : CTi yX4_look cX4_look 4 (some .int) rmX4_look [aR 12 0, aI w] μ (fun r μ' => upM μ 20 0 0 = μ' ∧ r = mlkF μ w) := by
  intro l9 b9 D9 K9
  refine met_of (by decide) (Nat.le_of_ble_eq_true rfl) (fun x hC hR hM hA => ?_)
  have hC : Ctx x RX4 cX4_look rmX4_look := hC
  have hSm0 := hSm
  obtain ⟨⟨s1, s2⟩, ⟨n1, n2⟩, hr, hkc, hq, hpp, hli, hnu⟩ := hSm
  refine v_aload_n hC 0 dX4_look_0 rfl rfl ?_
  refine v_iconst hC dX4_look_1 ⟨by decide, by decide⟩ ?_
  refine v_putI hC fwX4_59 dX4_look_2 rfl rfl rfl (by decide) (by first | decide | (simp only [vdn]; omega)) ?_
  refine v_iconst hC dX4_look_5 ⟨by decide, by decide⟩ ?_
  refine v_istore_n hC 2 dX4_look_6 rfl (Nat.le_of_ble_eq_true rfl) ?_
  refine v_iconst hC dX4_look_7 ⟨by decide, by decide⟩ ?_
  refine v_istore_n hC 3 dX4_look_8 rfl (Nat.le_of_ble_eq_true rfl) ?_
  refine v_loop (fun i : Nat => (μ 23 0).toNat - i) (fun _ => True) (fun i => ∀ c : Int, i ≤ 20 → 0 ≤ c → c ≤ 4 * i → itr (fun p a => a + μ 32 p) i ((μ 23 0).toNat - i) c = itr (fun p a => a + μ 32 p) 0 (μ 23 0).toNat (0 : Int) → V x 0 0 none 9 [some (aR 12 0), some (aI w), some (aI c), some (aI (i : Int))] [] (upM μ 20 0 0)) (fun i _ ih c a1 a2 a3 a4 => ?_) 0 trivial 0 (by decide) (by decide) (by decide) rfl
  refine v_iload_n hC 3 dX4_look_9 rfl rfl ?_
  refine v_aload_n hC 0 dX4_look_10 rfl rfl ?_
  refine v_getI hC foX4_66 dX4_look_11 rfl rfl rfl (by first | decide | (simp only [vdn]; omega)) ?_
  try simp only [Int.toNat_natCast, upM_at, upM_nef, ne_eq, not_false_eq_true, Nat.reduceEqDiff, Nat.reduceAdd]
  refine v_icmp_ge hC 32 dX4_look_14 rfl (fun h14 => ?_) (fun h14 => ?_)
  · have a5 : c = itr (fun p a => a + μ 32 p) 0 (μ 23 0).toNat (0 : Int) := by rw [← a4, itr_done (by omega)]
    refine v_iload_n hC 1 dX4_look_32 rfl rfl ?_
    refine v_if_ne hC 43 dX4_look_33 rfl (fun h33 => ?_) (fun h33 => ?_)
    · refine v_iload_n hC 1 dX4_look_43 rfl rfl ?_
      refine v_iconst hC dX4_look_44 ⟨by decide, by decide⟩ ?_
      refine v_icmp_ne hC 55 dX4_look_45 rfl (fun h45 => ?_) (fun h45 => ?_)
      · refine v_iload_n hC 1 dX4_look_55 rfl rfl ?_
        refine v_iconst hC dX4_look_56 ⟨by decide, by decide⟩ ?_
        refine v_icmp_ne hC 75 dX4_look_57 rfl (fun h57 => ?_) (fun h57 => ?_)
        · refine v_iload_n hC 1 dX4_look_75 rfl rfl ?_
          refine v_iconst hC dX4_look_76 ⟨by decide, by decide⟩ ?_
          refine v_icmp_ne hC 84 dX4_look_77 rfl (fun h77 => ?_) (fun h77 => ?_)
          · refine v_iload_n hC 1 dX4_look_84 rfl rfl ?_
            refine v_iconst hC dX4_look_85 ⟨by decide, by decide⟩ ?_
            refine v_icmp_ne hC 96 dX4_look_86 rfl (fun h86 => ?_) (fun h86 => ?_)
            · refine v_iconst hC dX4_look_96 ⟨by decide, by decide⟩ ?_
              exact v_iret hC hR dX4_look_97 (⟨_, rfl, rfl, by rw [mlkF, if_neg (by omega), if_neg (by omega), if_neg (by omega), if_neg (by omega), if_neg (by omega)]⟩)
            · refine v_aload_n hC 0 dX4_look_89 rfl rfl ?_
              refine v_callI0 hC (cwX4_103 hC ⟨Nat.le_of_ble_eq_true rfl, Nat.le_of_ble_eq_true rfl⟩) dX4_look_90 rfl rfl rfl (Nat.zero_le _) (Nat.zero_le _) (Nat.le_of_ble_eq_true rfl) (by first | decide | (simp only [vdn]; omega)) (cX4_placed_ok (upM μ 20 0 0) (hSm0.up (by decide))) (fun r1 μ1 hp => ?_)
              obtain ⟨rfl, rfl⟩ := hp
              refine v_goto hC 97 dX4_look_93 rfl ?_
              exact v_iret hC hR dX4_look_97 (⟨_, rfl, rfl, by rw [mlkF, if_neg (by omega), if_neg (by omega), if_neg (by omega), if_neg (by omega), if_pos (by omega)] <;> rfl⟩)
          · refine v_iload_n hC 2 dX4_look_80 rfl rfl ?_
            refine v_goto hC 97 dX4_look_81 rfl ?_
            exact v_iret hC hR dX4_look_97 (⟨_, rfl, rfl, by rw [mlkF, if_neg (by omega), if_neg (by omega), if_neg (by omega), if_pos (by omega), ← a5]⟩)
        · refine v_aload_n hC 0 dX4_look_60 rfl rfl ?_
          refine v_getI hC foX4_69 dX4_look_61 rfl rfl rfl (by first | decide | (simp only [vdn]; omega)) ?_
          try simp only [Int.toNat_natCast, upM_at, upM_nef, ne_eq, not_false_eq_true, Nat.reduceEqDiff, Nat.reduceAdd]
          refine v_if_eq hC 71 dX4_look_64 rfl (fun h64 => ?_) (fun h64 => ?_)
          · refine v_iconst hC dX4_look_71 ⟨by decide, by decide⟩ ?_
            refine v_goto hC 97 dX4_look_72 rfl ?_
            exact v_iret hC hR dX4_look_97 (⟨_, rfl, rfl, by rw [mlkF, if_neg (by omega), if_neg (by omega), if_pos (by omega), if_pos h64]⟩)
          · refine v_iconst hC dX4_look_67 ⟨by decide, by decide⟩ ?_
            refine v_goto hC 97 dX4_look_68 rfl ?_
            exact v_iret hC hR dX4_look_97 (⟨_, rfl, rfl, by rw [mlkF, if_neg (by omega), if_neg (by omega), if_pos (by omega), if_neg h64]⟩)
      · refine v_aload_n hC 0 dX4_look_48 rfl rfl ?_
        refine v_getI hC foX4_66 dX4_look_49 rfl rfl rfl (by first | decide | (simp only [vdn]; omega)) ?_
        try simp only [Int.toNat_natCast, upM_at, upM_nef, ne_eq, not_false_eq_true, Nat.reduceEqDiff, Nat.reduceAdd]
        refine v_goto hC 97 dX4_look_52 rfl ?_
        exact v_iret hC hR dX4_look_97 (⟨_, rfl, rfl, by rw [mlkF, if_neg (by omega), if_pos (by omega)]⟩)
    · refine v_aload_n hC 0 dX4_look_36 rfl rfl ?_
      refine v_getI hC foX4_63 dX4_look_37 rfl rfl rfl (by first | decide | (simp only [vdn]; omega)) ?_
      try simp only [Int.toNat_natCast, upM_at, upM_nef, ne_eq, not_false_eq_true, Nat.reduceEqDiff, Nat.reduceAdd]
      refine v_goto hC 97 dX4_look_40 rfl ?_
      exact v_iret hC hR dX4_look_97 (⟨_, rfl, rfl, by rw [mlkF, if_pos (by omega)]⟩)
  · refine v_iload_n hC 2 dX4_look_17 rfl rfl ?_
    refine v_aload_n hC 0 dX4_look_18 rfl rfl ?_
    refine v_getR hC foX4_35 dX4_look_19 rfl rfl rfl (by decide) (by first | decide | (simp only [vdn]; omega)) ?_
    refine v_iload_n hC 3 dX4_look_22 rfl rfl ?_
    refine v_iald hC dX4_look_23 rfl rfl rfl (by first | decide | (simp only [vdn]; omega)) ⟨by first | omega | (simp only [mlen]; omega), by first | omega | (simp only [mlen]; omega)⟩ ?_
    try simp only [Int.toNat_natCast, upM_at, upM_nef, ne_eq, not_false_eq_true, Nat.reduceEqDiff, Nat.reduceAdd]
    have h32 := (hpp i (by omega)).2.2
    refine v_iadd hC dX4_look_24 ⟨by omega, by omega⟩ ?_
    refine v_istore_n hC 2 dX4_look_25 rfl (Nat.le_of_ble_eq_true rfl) ?_
    refine v_iinc hC dX4_look_26 rfl ⟨by omega, by omega⟩ ?_
    refine v_goto hC 9 dX4_look_29 rfl ?_
    exact ih (i + 1) trivial (by omega) (c + μ 32 i) (by omega) (by omega) (by omega) (itr_next (by omega) rfl a4)
end
section
/-! The reference's other calls. -/
abbrev manC (μ : MU) (P w : Int) : Prop := (mIP μ P ∧ ¬ μ 21 0 = 0 ∧ 0 ≤ w ∧ w ≤ 2) ∧ ¬ μ 35 P.toNat = 3 ∧ (2 ≤ w ∨ μ 36 P.toNat = 0 ∧ 0 ≤ μ 33 P.toNat)
abbrev manA (μ : MU) (P w : Int) : MU := upM (upM (upM μ 20 0 0) 36 P.toNat 1) 35 P.toNat (w + 1)
def manM (μ : MU) (P w : Int) : MU := if manC μ P w then (if 0 < w then upM (upM (upM (manA μ P w) 33 P.toNat (-1)) 34 P.toNat (-1)) 37 P.toNat 0 else manA μ P w) else upM μ 20 0 0
abbrev movC (μ : MU) (P S : Int) : Prop := o9 (mplF μ P.toNat S) = 9 ∨ (¬ μ 21 0 = 0 ∧ μ 33 P.toNat = S)
abbrev movD (μ : MU) (P : Int) : Prop := μ 21 0 = 0 ∨ μ 35 P.toNat = 3
def movM (μ : MU) (P S : Int) : MU := if ¬ mIP μ P then upM μ 20 0 1 else if movC μ P S then upM (upM μ 20 0 0) 20 0 1 else if movD μ P then upM (upM μ 20 0 0) 20 0 2 else upM (upM (upM (upM μ 20 0 0) 20 0 0) 33 P.toNat S) 34 P.toNat (-1)
def movR (μ : MU) (P S : Int) : Int := if ¬ mIP μ P then 0 else if movC μ P S then 0 else if movD μ P then 0 else 1
def mwhF (μ : MU) (P S : Int) : Int := if mIP μ P ∧ mIS μ S then (if μ 33 P.toNat = S then 0 else if o9 (mplF μ P.toNat S) = 9 then 1 else if (fnd (fun k => (mbnF μ P.toNat S.toNat k).isSome) 0 (μ 24 S.toNat).toNat).isSome = true then (if ownF μ P.toNat < o9 (mplF μ P.toNat S) then 3 else 4) else 2) else -1
abbrev menC (μ : MU) (a b : Int) : Prop := mIP μ a ∧ mIP μ b
abbrev menD (μ : MU) (b : Int) : Prop := 0 ≤ μ 33 b.toNat ∧ 0 ≤ μ 34 b.toNat
abbrev menP (μ : MU) (a b : Int) : Prop := o9 (mplF μ a.toNat (μ 33 b.toNat)) < ownF μ a.toNat ∧ (mbnF μ a.toNat (μ 33 b.toNat).toNat (μ 34 b.toNat).toNat).isSome = true ∧ (mbnF μ b.toNat (μ 33 b.toNat).toNat (μ 34 b.toNat).toNat).isSome = true ∧ rkF μ a.toNat (μ 33 b.toNat).toNat (μ 34 b.toNat).toNat < rkF μ b.toNat (μ 33 b.toNat).toNat (μ 34 b.toNat).toNat
def menM (μ : MU) (a b : Int) : MU := if menC μ a b then (if menD μ b then upM (upM μ 20 0 0) 20 0 0 else upM (upM μ 20 0 0) 20 0 1) else upM μ 20 0 1
def menR (μ : MU) (a b : Int) : Int := if menC μ a b then (if menD μ b then bI (menP μ a b) else 0) else 0
def mfr (μ : MU) : MU := upM μ 20 0 0
theorem ownF_of {a b : MU} {p : Nat} (h10 : ∀ j, b 30 j = a 30 j) (h11 : b 29 p = a 29 p) (h33 : b 33 p = a 33 p) : ownF b p = ownF a p := by
  unfold ownF
  rw [mplF_of h10 h11, h33]
/-- the last holder -/
def mlaS (μ : MU) (s k p : Nat) (l : Int) : Int := if μ 33 p = (s : Int) ∧ μ 34 p = (k : Int) then (if l < 0 ∨ ¬ (mbnF μ p s k).isSome = true ∨ ((mbnF μ l.toNat s k).isSome = true ∧ rkF μ l.toNat s k < rkF μ p s k) then (p : Int) else l) else l
def mlaF (μ : MU) (s k : Nat) : Int := itr (mlaS μ s k) 0 (μ 23 0).toNat (-1)
def mheF (μ : MU) (S K w : Int) : Int := if (mIS μ S ∧ 0 ≤ K ∧ 0 ≤ w ∧ w ≤ 2) ∧ K < μ 24 S.toNat then (if w = 0 then μ 25 (3 * S.toNat + K.toNat) else if w = 1 then cntF (fun p => decide (μ 33 p = (S.toNat : Int) ∧ μ 34 p = (K.toNat : Int))) (μ 23 0).toNat else mlaF μ S.toNat K.toNat) else -1
abbrev rmX4_answer : Room := { frames := 1, cells := 0, slots := 0, locals := 21 }
set_option maxRecDepth 100000 in
set_option maxHeartbeats 4000000 in
theorem cX4_answer_ok (P w : Int) (μ : MU) (hSm : Sm μ) : CTi yX4_answer cX4_answer 3 (some .boolean) rmX4_answer [aR 12 0, aI P, aI w] μ (fun r μ' => manM μ P w = μ' ∧ r = bI (manC μ P w)) := by
  intro l9 b9 D9 K9
  refine met_of (by decide) (Nat.le_of_ble_eq_true rfl) (fun x hC hR hM hA => ?_)
  have hC : Ctx x RX4 cX4_answer rmX4_answer := hC
  obtain ⟨⟨s1, s2⟩, ⟨n1, n2⟩, hr, hkc, hq, hpp, hli, hnu⟩ := hSm
  refine v_aload_n hC 0 dX4_answer_0 rfl rfl ?_
  refine v_iconst hC dX4_answer_1 ⟨by decide, by decide⟩ ?_
  refine v_putI hC fwX4_59 dX4_answer_2 rfl rfl rfl (by decide) (by first | decide | (simp only [vdn]; omega)) ?_
  refine v_aload_n hC 0 dX4_answer_5 rfl rfl ?_
  refine v_iload_n hC 1 dX4_answer_6 rfl rfl ?_
  refine v_callI1 hC (cwX4_77 hC ⟨Nat.le_of_ble_eq_true rfl, Nat.le_of_ble_eq_true rfl⟩) dX4_answer_7 rfl rfl rfl (Nat.zero_le _) (Nat.zero_le _) (Nat.le_of_ble_eq_true rfl) (by first | decide | (simp only [vdn]; omega)) (cX4_isPupil_ok P (upM μ 20 0 0)) (fun r1 μ1 hp => ?_)
  obtain ⟨rfl, rfl⟩ := hp
  refine v_if_eq hC 29 dX4_answer_10 rfl (fun h10 => ?_) (fun h10 => ?_)
  · refine v_iconst hC dX4_answer_29 ⟨by decide, by decide⟩ ?_
    exact v_bret hC hR dX4_answer_30 (by omega) (⟨_, rfl, fin_f (fun q => bI_z.1 h10 q.1.1)⟩)
  · refine v_aload_n hC 0 dX4_answer_13 rfl rfl ?_
    refine v_getI hC foX4_69 dX4_answer_14 rfl rfl rfl (by first | decide | (simp only [vdn]; omega)) ?_
    try simp only [Int.toNat_natCast, upM_at, upM_nef, ne_eq, not_false_eq_true, Nat.reduceEqDiff, Nat.reduceAdd]
    refine v_if_eq hC 29 dX4_answer_17 rfl (fun h17 => ?_) (fun h17 => ?_)
    · refine v_iconst hC dX4_answer_29 ⟨by decide, by decide⟩ ?_
      exact v_bret hC hR dX4_answer_30 (by omega) (⟨_, rfl, fin_f (fun q => q.1.2.1 h17)⟩)
    · refine v_iload_n hC 2 dX4_answer_20 rfl rfl ?_
      refine v_if_lt hC 29 dX4_answer_21 rfl (fun h21 => ?_) (fun h21 => ?_)
      · refine v_iconst hC dX4_answer_29 ⟨by decide, by decide⟩ ?_
        exact v_bret hC hR dX4_answer_30 (by omega) (⟨_, rfl, fin_f (fun q => by have := q.1.2.2.1; omega)⟩)
      · refine v_iload_n hC 2 dX4_answer_24 rfl rfl ?_
        refine v_iconst hC dX4_answer_25 ⟨by decide, by decide⟩ ?_
        refine v_icmp_le hC 31 dX4_answer_26 rfl (fun h26 => ?_) (fun h26 => ?_)
        · obtain ⟨p1, p2⟩ : mIP μ P := bI_n.1 h10
          have hc0 : mIP μ P ∧ ¬ μ 21 0 = 0 ∧ 0 ≤ w ∧ w ≤ 2 := ⟨⟨p1, p2⟩, h17, by omega, by omega⟩
          refine v_aload_n hC 0 dX4_answer_31 rfl rfl ?_
          refine v_getR hC foX4_44 dX4_answer_32 rfl rfl rfl (by decide) (by first | decide | (simp only [vdn]; omega)) ?_
          refine v_iload_n hC 1 dX4_answer_35 rfl rfl ?_
          refine v_iald hC dX4_answer_36 rfl rfl rfl (by first | decide | (simp only [vdn]; omega)) ⟨by first | omega | (simp only [mlen]; omega), by first | omega | (simp only [mlen]; omega)⟩ ?_
          try simp only [Int.toNat_natCast, upM_at, upM_nef, ne_eq, not_false_eq_true, Nat.reduceEqDiff, Nat.reduceAdd]
          refine v_iconst hC dX4_answer_37 ⟨by decide, by decide⟩ ?_
          refine v_icmp_eq hC 64 dX4_answer_38 rfl (fun h38 => ?_) (fun h38 => ?_)
          · refine v_iconst hC dX4_answer_64 ⟨by decide, by decide⟩ ?_
            exact v_bret hC hR dX4_answer_65 (by omega) (⟨_, rfl, fin_f (fun q => q.2.1 h38)⟩)
          · refine v_iload_n hC 2 dX4_answer_41 rfl rfl ?_
            refine v_iconst hC dX4_answer_42 ⟨by decide, by decide⟩ ?_
            refine v_icmp_ge hC 66 dX4_answer_43 rfl (fun h43 => ?_) (fun h43 => ?_)
            · have hc : manC μ P w := ⟨hc0, h38, Or.inl (by omega)⟩
              refine v_aload_n hC 0 dX4_answer_66 rfl rfl ?_
              refine v_getR hC foX4_47 dX4_answer_67 rfl rfl rfl (by decide) (by first | decide | (simp only [vdn]; omega)) ?_
              refine v_iload_n hC 1 dX4_answer_70 rfl rfl ?_
              refine v_iconst hC dX4_answer_71 ⟨by decide, by decide⟩ ?_
              refine v_zast hC dX4_answer_72 rfl rfl rfl (by decide) (by first | decide | (simp only [vdn]; omega)) ⟨by first | omega | (simp only [mlen]; omega), by first | omega | (simp only [mlen]; omega)⟩ (by omega) ?_
              try simp only [Int.toNat_natCast, upM_at, upM_nef, ne_eq, not_false_eq_true, Nat.reduceEqDiff, Nat.reduceAdd]
              refine v_aload_n hC 0 dX4_answer_73 rfl rfl ?_
              refine v_getR hC foX4_44 dX4_answer_74 rfl rfl rfl (by decide) (by first | decide | (simp only [vdn]; omega)) ?_
              refine v_iload_n hC 1 dX4_answer_77 rfl rfl ?_
              refine v_iload_n hC 2 dX4_answer_78 rfl rfl ?_
              refine v_iconst hC dX4_answer_79 ⟨by decide, by decide⟩ ?_
              refine v_iadd hC dX4_answer_80 ⟨by omega, by omega⟩ ?_
              refine v_iast hC dX4_answer_81 rfl rfl rfl (by decide) (by first | decide | (simp only [vdn]; omega)) ⟨by first | omega | (simp only [mlen]; omega), by first | omega | (simp only [mlen]; omega)⟩ ?_
              try simp only [Int.toNat_natCast, upM_at, upM_nef, ne_eq, not_false_eq_true, Nat.reduceEqDiff, Nat.reduceAdd]
              refine v_iload_n hC 2 dX4_answer_82 rfl rfl ?_
              refine v_if_le hC 91 dX4_answer_83 rfl (fun h83 => ?_) (fun h83 => ?_)
              · refine v_iconst hC dX4_answer_91 ⟨by decide, by decide⟩ ?_
                exact v_bret hC hR dX4_answer_92 (by omega) (⟨_, rfl, by rw [manM, if_pos hc, if_neg (by omega)], bI_t hc⟩)
              · obtain ⟨p, rfl⟩ := Int.eq_ofNat_of_zero_le p1
                refine v_aload_n hC 0 dX4_answer_86 rfl rfl ?_
                refine v_iload_n hC 1 dX4_answer_87 rfl rfl ?_
                refine v_callV1 hC (cwX4_107 hC ⟨Nat.le_of_ble_eq_true rfl, Nat.le_of_ble_eq_true rfl⟩) dX4_answer_88 rfl rfl rfl (Nat.zero_le _) (Nat.zero_le _) (Nat.le_of_ble_eq_true rfl) (by first | decide | (simp only [vdn]; omega)) (cX4_give_ok p _ (by omega)) (fun μ1 hp => ?_)
                subst hp
                refine v_iconst hC dX4_answer_91 ⟨by decide, by decide⟩ ?_
                exact v_bret hC hR dX4_answer_92 (by omega) (⟨_, rfl, by rw [manM, if_pos hc, if_pos (by omega)] <;> rfl, bI_t hc⟩)
            · refine v_aload_n hC 0 dX4_answer_46 rfl rfl ?_
              refine v_getR hC foX4_47 dX4_answer_47 rfl rfl rfl (by decide) (by first | decide | (simp only [vdn]; omega)) ?_
              refine v_iload_n hC 1 dX4_answer_50 rfl rfl ?_
              refine v_zald hC dX4_answer_51 rfl rfl rfl (by first | decide | (simp only [vdn]; omega)) ⟨by first | omega | (simp only [mlen]; omega), by first | omega | (simp only [mlen]; omega)⟩ ?_
              try simp only [Int.toNat_natCast, upM_at, upM_nef, ne_eq, not_false_eq_true, Nat.reduceEqDiff, Nat.reduceAdd]
              refine v_if_ne hC 64 dX4_answer_52 rfl (fun h52 => ?_) (fun h52 => ?_)
              · refine v_iconst hC dX4_answer_64 ⟨by decide, by decide⟩ ?_
                exact v_bret hC hR dX4_answer_65 (by omega) (⟨_, rfl, fin_f (fun q => q.2.2.elim (fun h => by omega) (fun h => h52 h.1))⟩)
              · refine v_aload_n hC 0 dX4_answer_55 rfl rfl ?_
                refine v_getR hC foX4_38 dX4_answer_56 rfl rfl rfl (by decide) (by first | decide | (simp only [vdn]; omega)) ?_
                refine v_iload_n hC 1 dX4_answer_59 rfl rfl ?_
                refine v_iald hC dX4_answer_60 rfl rfl rfl (by first | decide | (simp only [vdn]; omega)) ⟨by first | omega | (simp only [mlen]; omega), by first | omega | (simp only [mlen]; omega)⟩ ?_
                try simp only [Int.toNat_natCast, upM_at, upM_nef, ne_eq, not_false_eq_true, Nat.reduceEqDiff, Nat.reduceAdd]
                refine v_if_ge hC 66 dX4_answer_61 rfl (fun h61 => ?_) (fun h61 => ?_)
                · have hc : manC μ P w := ⟨hc0, h38, Or.inr ⟨h52, by omega⟩⟩
                  refine v_aload_n hC 0 dX4_answer_66 rfl rfl ?_
                  refine v_getR hC foX4_47 dX4_answer_67 rfl rfl rfl (by decide) (by first | decide | (simp only [vdn]; omega)) ?_
                  refine v_iload_n hC 1 dX4_answer_70 rfl rfl ?_
                  refine v_iconst hC dX4_answer_71 ⟨by decide, by decide⟩ ?_
                  refine v_zast hC dX4_answer_72 rfl rfl rfl (by decide) (by first | decide | (simp only [vdn]; omega)) ⟨by first | omega | (simp only [mlen]; omega), by first | omega | (simp only [mlen]; omega)⟩ (by omega) ?_
                  try simp only [Int.toNat_natCast, upM_at, upM_nef, ne_eq, not_false_eq_true, Nat.reduceEqDiff, Nat.reduceAdd]
                  refine v_aload_n hC 0 dX4_answer_73 rfl rfl ?_
                  refine v_getR hC foX4_44 dX4_answer_74 rfl rfl rfl (by decide) (by first | decide | (simp only [vdn]; omega)) ?_
                  refine v_iload_n hC 1 dX4_answer_77 rfl rfl ?_
                  refine v_iload_n hC 2 dX4_answer_78 rfl rfl ?_
                  refine v_iconst hC dX4_answer_79 ⟨by decide, by decide⟩ ?_
                  refine v_iadd hC dX4_answer_80 ⟨by omega, by omega⟩ ?_
                  refine v_iast hC dX4_answer_81 rfl rfl rfl (by decide) (by first | decide | (simp only [vdn]; omega)) ⟨by first | omega | (simp only [mlen]; omega), by first | omega | (simp only [mlen]; omega)⟩ ?_
                  try simp only [Int.toNat_natCast, upM_at, upM_nef, ne_eq, not_false_eq_true, Nat.reduceEqDiff, Nat.reduceAdd]
                  refine v_iload_n hC 2 dX4_answer_82 rfl rfl ?_
                  refine v_if_le hC 91 dX4_answer_83 rfl (fun h83 => ?_) (fun h83 => ?_)
                  · refine v_iconst hC dX4_answer_91 ⟨by decide, by decide⟩ ?_
                    exact v_bret hC hR dX4_answer_92 (by omega) (⟨_, rfl, by rw [manM, if_pos hc, if_neg (by omega)], bI_t hc⟩)
                  · obtain ⟨p, rfl⟩ := Int.eq_ofNat_of_zero_le p1
                    refine v_aload_n hC 0 dX4_answer_86 rfl rfl ?_
                    refine v_iload_n hC 1 dX4_answer_87 rfl rfl ?_
                    refine v_callV1 hC (cwX4_107 hC ⟨Nat.le_of_ble_eq_true rfl, Nat.le_of_ble_eq_true rfl⟩) dX4_answer_88 rfl rfl rfl (Nat.zero_le _) (Nat.zero_le _) (Nat.le_of_ble_eq_true rfl) (by first | decide | (simp only [vdn]; omega)) (cX4_give_ok p _ (by omega)) (fun μ1 hp => ?_)
                    subst hp
                    refine v_iconst hC dX4_answer_91 ⟨by decide, by decide⟩ ?_
                    exact v_bret hC hR dX4_answer_92 (by omega) (⟨_, rfl, by rw [manM, if_pos hc, if_pos (by omega)] <;> rfl, bI_t hc⟩)
                · refine v_iconst hC dX4_answer_64 ⟨by decide, by decide⟩ ?_
                  exact v_bret hC hR dX4_answer_65 (by omega) (⟨_, rfl, fin_f (fun q => q.2.2.elim (fun h => by omega) (fun h => by have := h.2; omega))⟩)
        · refine v_iconst hC dX4_answer_29 ⟨by decide, by decide⟩ ?_
          exact v_bret hC hR dX4_answer_30 (by omega) (⟨_, rfl, fin_f (fun q => by have := q.1.2.2.2; omega)⟩)
abbrev rmX4_over : Room := { frames := 1, cells := 0, slots := 0, locals := 23 }
set_option maxRecDepth 100000 in
set_option maxHeartbeats 4000000 in
theorem cX4_over_ok (P S : Int) (μ : MU) (hSm : Sm μ) : CTi yX4_over cX4_over 3 (some .boolean) rmX4_over [aR 12 0, aI P, aI S] μ (fun r μ' => movM μ P S = μ' ∧ r = movR μ P S) := by
  intro l9 b9 D9 K9
  refine met_of (by decide) (Nat.le_of_ble_eq_true rfl) (fun x hC hR hM hA => ?_)
  have hC : Ctx x RX4 cX4_over rmX4_over := hC
  have hSm0 := hSm
  obtain ⟨⟨s1, s2⟩, ⟨n1, n2⟩, hr, hkc, hq, hpp, hli, hnu⟩ := hSm
  refine v_aload_n hC 0 dX4_over_0 rfl rfl ?_
  refine v_aload_n hC 0 dX4_over_1 rfl rfl ?_
  refine v_iload_n hC 1 dX4_over_2 rfl rfl ?_
  refine v_callI1 hC (cwX4_77 hC ⟨Nat.le_of_ble_eq_true rfl, Nat.le_of_ble_eq_true rfl⟩) dX4_over_3 rfl rfl rfl (Nat.zero_le _) (Nat.zero_le _) (Nat.le_of_ble_eq_true rfl) (by first | decide | (simp only [vdn]; omega)) (cX4_isPupil_ok P μ) (fun r1 μ1 hp => ?_)
  obtain ⟨rfl, rfl⟩ := hp
  refine v_if_eq hC 13 dX4_over_6 rfl (fun h6 => ?_) (fun h6 => ?_)
  · refine v_iconst hC dX4_over_13 ⟨by decide, by decide⟩ ?_
    refine v_putI hC fwX4_59 dX4_over_14 rfl rfl rfl (by decide) (by first | decide | (simp only [vdn]; omega)) ?_
    refine v_aload_n hC 0 dX4_over_17 rfl rfl ?_
    refine v_getI hC foX4_59 dX4_over_18 rfl rfl rfl (by first | decide | (simp only [vdn]; omega)) ?_
    try simp only [Int.toNat_natCast, upM_at, upM_nef, ne_eq, not_false_eq_true, Nat.reduceEqDiff, Nat.reduceAdd]
    refine v_if_le hC 26 dX4_over_21 rfl (fun h21 => ?_) (fun h21 => ?_)
    · exfalso; omega
    · refine v_iconst hC dX4_over_24 ⟨by decide, by decide⟩ ?_
      exact v_bret hC hR dX4_over_25 (by omega) (⟨_, rfl, if_pos (bI_z.1 h6), (if_pos (bI_z.1 h6)).symm⟩)
  · refine v_iconst hC dX4_over_9 ⟨by decide, by decide⟩ ?_
    refine v_goto hC 14 dX4_over_10 rfl ?_
    refine v_putI hC fwX4_59 dX4_over_14 rfl rfl rfl (by decide) (by first | decide | (simp only [vdn]; omega)) ?_
    refine v_aload_n hC 0 dX4_over_17 rfl rfl ?_
    refine v_getI hC foX4_59 dX4_over_18 rfl rfl rfl (by first | decide | (simp only [vdn]; omega)) ?_
    try simp only [Int.toNat_natCast, upM_at, upM_nef, ne_eq, not_false_eq_true, Nat.reduceEqDiff, Nat.reduceAdd]
    refine v_if_le hC 26 dX4_over_21 rfl (fun h21 => ?_) (fun h21 => ?_)
    · obtain ⟨p1, p2⟩ : mIP μ P := bI_n.1 h6
      have hc : ¬ ¬ mIP μ P := fun h => h ⟨p1, p2⟩
      obtain ⟨p, rfl⟩ := Int.eq_ofNat_of_zero_le p1
      have hSm1 : Sm (upM μ 20 0 0) := hSm0.up (by decide)
      have epl : mplF (upM μ 20 0 0) p S = mplF μ p S := mplF_of (fun j => upM_nef (by decide)) (upM_nef (by decide))
      refine v_aload_n hC 0 dX4_over_26 rfl rfl ?_
      refine v_aload_n hC 0 dX4_over_27 rfl rfl ?_
      refine v_iload_n hC 1 dX4_over_28 rfl rfl ?_
      refine v_iload_n hC 2 dX4_over_29 rfl rfl ?_
      refine v_callI2 hC (cwX4_80 hC ⟨Nat.le_of_ble_eq_true rfl, Nat.le_of_ble_eq_true rfl⟩) dX4_over_30 rfl rfl rfl (Nat.zero_le _) (Nat.zero_le _) (Nat.le_of_ble_eq_true rfl) (by first | decide | (simp only [vdn]; omega)) (cX4_place_ok p S (upM μ 20 0 0) (by omega) hSm1) (fun r1 μ1 hp => ?_)
      obtain ⟨rfl, rfl⟩ := hp
      rw [epl]
      refine v_bipush hC dX4_over_33 ⟨by decide, by decide⟩ ?_
      refine v_icmp_eq hC 55 dX4_over_35 rfl (fun h35 => ?_) (fun h35 => ?_)
      · refine v_iconst hC dX4_over_55 ⟨by decide, by decide⟩ ?_
        refine v_goto hC 81 dX4_over_56 rfl ?_
        refine v_putI hC fwX4_59 dX4_over_81 rfl rfl rfl (by decide) (by first | decide | (simp only [vdn]; omega)) ?_
        have hd : movC μ (p : Int) S := Or.inl h35
        refine v_aload_n hC 0 dX4_over_84 rfl rfl ?_
        refine v_getI hC foX4_59 dX4_over_85 rfl rfl rfl (by first | decide | (simp only [vdn]; omega)) ?_
        try simp only [Int.toNat_natCast, upM_at, upM_nef, ne_eq, not_false_eq_true, Nat.reduceEqDiff, Nat.reduceAdd]
        refine v_if_le hC 93 dX4_over_88 rfl (fun h88 => ?_) (fun h88 => ?_)
        · exfalso; omega
        · refine v_iconst hC dX4_over_91 ⟨by decide, by decide⟩ ?_
          exact v_bret hC hR dX4_over_92 (by omega) (⟨_, rfl, by rw [movM, if_neg hc, if_pos hd], by rw [movR, if_neg hc, if_pos hd]⟩)
      · refine v_aload_n hC 0 dX4_over_38 rfl rfl ?_
        refine v_getI hC foX4_69 dX4_over_39 rfl rfl rfl (by first | decide | (simp only [vdn]; omega)) ?_
        try simp only [Int.toNat_natCast, upM_at, upM_nef, ne_eq, not_false_eq_true, Nat.reduceEqDiff, Nat.reduceAdd]
        refine v_if_eq hC 59 dX4_over_42 rfl (fun h42 => ?_) (fun h42 => ?_)
        · refine v_aload_n hC 0 dX4_over_59 rfl rfl ?_
          refine v_getI hC foX4_69 dX4_over_60 rfl rfl rfl (by first | decide | (simp only [vdn]; omega)) ?_
          try simp only [Int.toNat_natCast, upM_at, upM_nef, ne_eq, not_false_eq_true, Nat.reduceEqDiff, Nat.reduceAdd]
          refine v_if_eq hC 76 dX4_over_63 rfl (fun h63 => ?_) (fun h63 => ?_)
          · refine v_iconst hC dX4_over_76 ⟨by decide, by decide⟩ ?_
            refine v_goto hC 81 dX4_over_77 rfl ?_
            refine v_putI hC fwX4_59 dX4_over_81 rfl rfl rfl (by decide) (by first | decide | (simp only [vdn]; omega)) ?_
            have hd : ¬ movC μ (p : Int) S := fun q => q.elim h35 (fun q => q.1 h42)
            have hd2 : movD μ (p : Int) := Or.inl h63
            refine v_aload_n hC 0 dX4_over_84 rfl rfl ?_
            refine v_getI hC foX4_59 dX4_over_85 rfl rfl rfl (by first | decide | (simp only [vdn]; omega)) ?_
            try simp only [Int.toNat_natCast, upM_at, upM_nef, ne_eq, not_false_eq_true, Nat.reduceEqDiff, Nat.reduceAdd]
            refine v_if_le hC 93 dX4_over_88 rfl (fun h88 => ?_) (fun h88 => ?_)
            · exfalso; omega
            · refine v_iconst hC dX4_over_91 ⟨by decide, by decide⟩ ?_
              exact v_bret hC hR dX4_over_92 (by omega) (⟨_, rfl, by rw [movM, if_neg hc, if_neg hd, if_pos hd2], by rw [movR, if_neg hc, if_neg hd, if_pos hd2]⟩)
          · refine v_aload_n hC 0 dX4_over_66 rfl rfl ?_
            refine v_getR hC foX4_44 dX4_over_67 rfl rfl rfl (by decide) (by first | decide | (simp only [vdn]; omega)) ?_
            refine v_iload_n hC 1 dX4_over_70 rfl rfl ?_
            refine v_iald hC dX4_over_71 rfl rfl rfl (by first | decide | (simp only [vdn]; omega)) ⟨by first | omega | (simp only [mlen]; omega), by first | omega | (simp only [mlen]; omega)⟩ ?_
            try simp only [Int.toNat_natCast, upM_at, upM_nef, ne_eq, not_false_eq_true, Nat.reduceEqDiff, Nat.reduceAdd]
            refine v_iconst hC dX4_over_72 ⟨by decide, by decide⟩ ?_
            refine v_icmp_ne hC 80 dX4_over_73 rfl (fun h73 => ?_) (fun h73 => ?_)
            · refine v_iconst hC dX4_over_80 ⟨by decide, by decide⟩ ?_
              refine v_putI hC fwX4_59 dX4_over_81 rfl rfl rfl (by decide) (by first | decide | (simp only [vdn]; omega)) ?_
              have hd : ¬ movC μ (p : Int) S := fun q => q.elim h35 (fun q => q.1 h42)
              have hd2 : ¬ movD μ (p : Int) := fun q => q.elim h63 h73
              refine v_aload_n hC 0 dX4_over_84 rfl rfl ?_
              refine v_getI hC foX4_59 dX4_over_85 rfl rfl rfl (by first | decide | (simp only [vdn]; omega)) ?_
              try simp only [Int.toNat_natCast, upM_at, upM_nef, ne_eq, not_false_eq_true, Nat.reduceEqDiff, Nat.reduceAdd]
              refine v_if_le hC 93 dX4_over_88 rfl (fun h88 => ?_) (fun h88 => ?_)
              · refine v_aload_n hC 0 dX4_over_93 rfl rfl ?_
                refine v_getR hC foX4_38 dX4_over_94 rfl rfl rfl (by decide) (by first | decide | (simp only [vdn]; omega)) ?_
                refine v_iload_n hC 1 dX4_over_97 rfl rfl ?_
                refine v_iload_n hC 2 dX4_over_98 rfl rfl ?_
                refine v_iast hC dX4_over_99 rfl rfl rfl (by decide) (by first | decide | (simp only [vdn]; omega)) ⟨by first | omega | (simp only [mlen]; omega), by first | omega | (simp only [mlen]; omega)⟩ ?_
                try simp only [Int.toNat_natCast, upM_at, upM_nef, ne_eq, not_false_eq_true, Nat.reduceEqDiff, Nat.reduceAdd]
                refine v_aload_n hC 0 dX4_over_100 rfl rfl ?_
                refine v_getR hC foX4_41 dX4_over_101 rfl rfl rfl (by decide) (by first | decide | (simp only [vdn]; omega)) ?_
                refine v_iload_n hC 1 dX4_over_104 rfl rfl ?_
                refine v_iconst hC dX4_over_105 ⟨by decide, by decide⟩ ?_
                refine v_iast hC dX4_over_106 rfl rfl rfl (by decide) (by first | decide | (simp only [vdn]; omega)) ⟨by first | omega | (simp only [mlen]; omega), by first | omega | (simp only [mlen]; omega)⟩ ?_
                try simp only [Int.toNat_natCast, upM_at, upM_nef, ne_eq, not_false_eq_true, Nat.reduceEqDiff, Nat.reduceAdd]
                refine v_iconst hC dX4_over_107 ⟨by decide, by decide⟩ ?_
                exact v_bret hC hR dX4_over_108 (by omega) (⟨_, rfl, by rw [movM, if_neg hc, if_neg hd, if_neg hd2] <;> rfl, by rw [movR, if_neg hc, if_neg hd, if_neg hd2]⟩)
              · exfalso; omega
            · refine v_iconst hC dX4_over_76 ⟨by decide, by decide⟩ ?_
              refine v_goto hC 81 dX4_over_77 rfl ?_
              refine v_putI hC fwX4_59 dX4_over_81 rfl rfl rfl (by decide) (by first | decide | (simp only [vdn]; omega)) ?_
              have hd : ¬ movC μ (p : Int) S := fun q => q.elim h35 (fun q => q.1 h42)
              have hd2 : movD μ (p : Int) := Or.inr h73
              refine v_aload_n hC 0 dX4_over_84 rfl rfl ?_
              refine v_getI hC foX4_59 dX4_over_85 rfl rfl rfl (by first | decide | (simp only [vdn]; omega)) ?_
              try simp only [Int.toNat_natCast, upM_at, upM_nef, ne_eq, not_false_eq_true, Nat.reduceEqDiff, Nat.reduceAdd]
              refine v_if_le hC 93 dX4_over_88 rfl (fun h88 => ?_) (fun h88 => ?_)
              · exfalso; omega
              · refine v_iconst hC dX4_over_91 ⟨by decide, by decide⟩ ?_
                exact v_bret hC hR dX4_over_92 (by omega) (⟨_, rfl, by rw [movM, if_neg hc, if_neg hd, if_pos hd2], by rw [movR, if_neg hc, if_neg hd, if_pos hd2]⟩)
        · refine v_aload_n hC 0 dX4_over_45 rfl rfl ?_
          refine v_getR hC foX4_38 dX4_over_46 rfl rfl rfl (by decide) (by first | decide | (simp only [vdn]; omega)) ?_
          refine v_iload_n hC 1 dX4_over_49 rfl rfl ?_
          refine v_iald hC dX4_over_50 rfl rfl rfl (by first | decide | (simp only [vdn]; omega)) ⟨by first | omega | (simp only [mlen]; omega), by first | omega | (simp only [mlen]; omega)⟩ ?_
          try simp only [Int.toNat_natCast, upM_at, upM_nef, ne_eq, not_false_eq_true, Nat.reduceEqDiff, Nat.reduceAdd]
          refine v_iload_n hC 2 dX4_over_51 rfl rfl ?_
          refine v_icmp_ne hC 59 dX4_over_52 rfl (fun h52 => ?_) (fun h52 => ?_)
          · refine v_aload_n hC 0 dX4_over_59 rfl rfl ?_
            refine v_getI hC foX4_69 dX4_over_60 rfl rfl rfl (by first | decide | (simp only [vdn]; omega)) ?_
            try simp only [Int.toNat_natCast, upM_at, upM_nef, ne_eq, not_false_eq_true, Nat.reduceEqDiff, Nat.reduceAdd]
            refine v_if_eq hC 76 dX4_over_63 rfl (fun h63 => ?_) (fun h63 => ?_)
            · refine v_iconst hC dX4_over_76 ⟨by decide, by decide⟩ ?_
              refine v_goto hC 81 dX4_over_77 rfl ?_
              refine v_putI hC fwX4_59 dX4_over_81 rfl rfl rfl (by decide) (by first | decide | (simp only [vdn]; omega)) ?_
              have hd : ¬ movC μ (p : Int) S := fun q => q.elim h35 (fun q => h52 q.2)
              have hd2 : movD μ (p : Int) := Or.inl h63
              refine v_aload_n hC 0 dX4_over_84 rfl rfl ?_
              refine v_getI hC foX4_59 dX4_over_85 rfl rfl rfl (by first | decide | (simp only [vdn]; omega)) ?_
              try simp only [Int.toNat_natCast, upM_at, upM_nef, ne_eq, not_false_eq_true, Nat.reduceEqDiff, Nat.reduceAdd]
              refine v_if_le hC 93 dX4_over_88 rfl (fun h88 => ?_) (fun h88 => ?_)
              · exfalso; omega
              · refine v_iconst hC dX4_over_91 ⟨by decide, by decide⟩ ?_
                exact v_bret hC hR dX4_over_92 (by omega) (⟨_, rfl, by rw [movM, if_neg hc, if_neg hd, if_pos hd2], by rw [movR, if_neg hc, if_neg hd, if_pos hd2]⟩)
            · refine v_aload_n hC 0 dX4_over_66 rfl rfl ?_
              refine v_getR hC foX4_44 dX4_over_67 rfl rfl rfl (by decide) (by first | decide | (simp only [vdn]; omega)) ?_
              refine v_iload_n hC 1 dX4_over_70 rfl rfl ?_
              refine v_iald hC dX4_over_71 rfl rfl rfl (by first | decide | (simp only [vdn]; omega)) ⟨by first | omega | (simp only [mlen]; omega), by first | omega | (simp only [mlen]; omega)⟩ ?_
              try simp only [Int.toNat_natCast, upM_at, upM_nef, ne_eq, not_false_eq_true, Nat.reduceEqDiff, Nat.reduceAdd]
              refine v_iconst hC dX4_over_72 ⟨by decide, by decide⟩ ?_
              refine v_icmp_ne hC 80 dX4_over_73 rfl (fun h73 => ?_) (fun h73 => ?_)
              · refine v_iconst hC dX4_over_80 ⟨by decide, by decide⟩ ?_
                refine v_putI hC fwX4_59 dX4_over_81 rfl rfl rfl (by decide) (by first | decide | (simp only [vdn]; omega)) ?_
                have hd : ¬ movC μ (p : Int) S := fun q => q.elim h35 (fun q => h52 q.2)
                have hd2 : ¬ movD μ (p : Int) := fun q => q.elim h63 h73
                refine v_aload_n hC 0 dX4_over_84 rfl rfl ?_
                refine v_getI hC foX4_59 dX4_over_85 rfl rfl rfl (by first | decide | (simp only [vdn]; omega)) ?_
                try simp only [Int.toNat_natCast, upM_at, upM_nef, ne_eq, not_false_eq_true, Nat.reduceEqDiff, Nat.reduceAdd]
                refine v_if_le hC 93 dX4_over_88 rfl (fun h88 => ?_) (fun h88 => ?_)
                · refine v_aload_n hC 0 dX4_over_93 rfl rfl ?_
                  refine v_getR hC foX4_38 dX4_over_94 rfl rfl rfl (by decide) (by first | decide | (simp only [vdn]; omega)) ?_
                  refine v_iload_n hC 1 dX4_over_97 rfl rfl ?_
                  refine v_iload_n hC 2 dX4_over_98 rfl rfl ?_
                  refine v_iast hC dX4_over_99 rfl rfl rfl (by decide) (by first | decide | (simp only [vdn]; omega)) ⟨by first | omega | (simp only [mlen]; omega), by first | omega | (simp only [mlen]; omega)⟩ ?_
                  try simp only [Int.toNat_natCast, upM_at, upM_nef, ne_eq, not_false_eq_true, Nat.reduceEqDiff, Nat.reduceAdd]
                  refine v_aload_n hC 0 dX4_over_100 rfl rfl ?_
                  refine v_getR hC foX4_41 dX4_over_101 rfl rfl rfl (by decide) (by first | decide | (simp only [vdn]; omega)) ?_
                  refine v_iload_n hC 1 dX4_over_104 rfl rfl ?_
                  refine v_iconst hC dX4_over_105 ⟨by decide, by decide⟩ ?_
                  refine v_iast hC dX4_over_106 rfl rfl rfl (by decide) (by first | decide | (simp only [vdn]; omega)) ⟨by first | omega | (simp only [mlen]; omega), by first | omega | (simp only [mlen]; omega)⟩ ?_
                  try simp only [Int.toNat_natCast, upM_at, upM_nef, ne_eq, not_false_eq_true, Nat.reduceEqDiff, Nat.reduceAdd]
                  refine v_iconst hC dX4_over_107 ⟨by decide, by decide⟩ ?_
                  exact v_bret hC hR dX4_over_108 (by omega) (⟨_, rfl, by rw [movM, if_neg hc, if_neg hd, if_neg hd2] <;> rfl, by rw [movR, if_neg hc, if_neg hd, if_neg hd2]⟩)
                · exfalso; omega
              · refine v_iconst hC dX4_over_76 ⟨by decide, by decide⟩ ?_
                refine v_goto hC 81 dX4_over_77 rfl ?_
                refine v_putI hC fwX4_59 dX4_over_81 rfl rfl rfl (by decide) (by first | decide | (simp only [vdn]; omega)) ?_
                have hd : ¬ movC μ (p : Int) S := fun q => q.elim h35 (fun q => h52 q.2)
                have hd2 : movD μ (p : Int) := Or.inr h73
                refine v_aload_n hC 0 dX4_over_84 rfl rfl ?_
                refine v_getI hC foX4_59 dX4_over_85 rfl rfl rfl (by first | decide | (simp only [vdn]; omega)) ?_
                try simp only [Int.toNat_natCast, upM_at, upM_nef, ne_eq, not_false_eq_true, Nat.reduceEqDiff, Nat.reduceAdd]
                refine v_if_le hC 93 dX4_over_88 rfl (fun h88 => ?_) (fun h88 => ?_)
                · exfalso; omega
                · refine v_iconst hC dX4_over_91 ⟨by decide, by decide⟩ ?_
                  exact v_bret hC hR dX4_over_92 (by omega) (⟨_, rfl, by rw [movM, if_neg hc, if_neg hd, if_pos hd2], by rw [movR, if_neg hc, if_neg hd, if_pos hd2]⟩)
          · refine v_iconst hC dX4_over_55 ⟨by decide, by decide⟩ ?_
            refine v_goto hC 81 dX4_over_56 rfl ?_
            refine v_putI hC fwX4_59 dX4_over_81 rfl rfl rfl (by decide) (by first | decide | (simp only [vdn]; omega)) ?_
            have hd : movC μ (p : Int) S := Or.inr ⟨h42, h52⟩
            refine v_aload_n hC 0 dX4_over_84 rfl rfl ?_
            refine v_getI hC foX4_59 dX4_over_85 rfl rfl rfl (by first | decide | (simp only [vdn]; omega)) ?_
            try simp only [Int.toNat_natCast, upM_at, upM_nef, ne_eq, not_false_eq_true, Nat.reduceEqDiff, Nat.reduceAdd]
            refine v_if_le hC 93 dX4_over_88 rfl (fun h88 => ?_) (fun h88 => ?_)
            · exfalso; omega
            · refine v_iconst hC dX4_over_91 ⟨by decide, by decide⟩ ?_
              exact v_bret hC hR dX4_over_92 (by omega) (⟨_, rfl, by rw [movM, if_neg hc, if_pos hd], by rw [movR, if_neg hc, if_pos hd]⟩)
    · exfalso; omega
abbrev rmX4_why : Room := { frames := 2, cells := 0, slots := 0, locals := 48 }
set_option maxRecDepth 100000 in
set_option maxHeartbeats 4000000 in
theorem cX4_why_ok (P S : Int) (μ : MU) (hSm : Sm μ) : CTi yX4_why cX4_why 6 (some .int) rmX4_why [aR 12 0, aI P, aI S] μ (fun r μ' => upM μ 20 0 0 = μ' ∧ r = mwhF μ P S) := by
  intro l9 b9 D9 K9
  refine met_of (by decide) (Nat.le_of_ble_eq_true rfl) (fun x hC hR hM hA => ?_)
  have hC : Ctx x RX4 cX4_why rmX4_why := hC
  have hSm0 := hSm
  obtain ⟨⟨s1, s2⟩, ⟨n1, n2⟩, hr, hkc, hq, hpp, hli, hnu⟩ := hSm
  refine v_aload_n hC 0 dX4_why_0 rfl rfl ?_
  refine v_iconst hC dX4_why_1 ⟨by decide, by decide⟩ ?_
  refine v_putI hC fwX4_59 dX4_why_2 rfl rfl rfl (by decide) (by first | decide | (simp only [vdn]; omega)) ?_
  refine v_aload_n hC 0 dX4_why_5 rfl rfl ?_
  refine v_iload_n hC 1 dX4_why_6 rfl rfl ?_
  refine v_callI1 hC (cwX4_77 hC ⟨Nat.le_of_ble_eq_true rfl, Nat.le_of_ble_eq_true rfl⟩) dX4_why_7 rfl rfl rfl (Nat.zero_le _) (Nat.zero_le _) (Nat.le_of_ble_eq_true rfl) (by first | decide | (simp only [vdn]; omega)) (cX4_isPupil_ok P (upM μ 20 0 0)) (fun r1 μ1 hp => ?_)
  obtain ⟨rfl, rfl⟩ := hp
  refine v_if_eq hC 21 dX4_why_10 rfl (fun h10 => ?_) (fun h10 => ?_)
  · refine v_iconst hC dX4_why_21 ⟨by decide, by decide⟩ ?_
    exact v_iret hC hR dX4_why_22 (⟨_, rfl, rfl, by rw [mwhF, if_neg (fun q => bI_z.1 h10 q.1)]⟩)
  · refine v_aload_n hC 0 dX4_why_13 rfl rfl ?_
    refine v_iload_n hC 2 dX4_why_14 rfl rfl ?_
    refine v_callI1 hC (cwX4_73 hC ⟨Nat.le_of_ble_eq_true rfl, Nat.le_of_ble_eq_true rfl⟩) dX4_why_15 rfl rfl rfl (Nat.zero_le _) (Nat.zero_le _) (Nat.le_of_ble_eq_true rfl) (by first | decide | (simp only [vdn]; omega)) (cX4_isSchool_ok S (upM μ 20 0 0)) (fun r1 μ1 hp => ?_)
    obtain ⟨rfl, rfl⟩ := hp
    refine v_if_ne hC 23 dX4_why_18 rfl (fun h18 => ?_) (fun h18 => ?_)
    · obtain ⟨p1, p2⟩ : mIP μ P := bI_n.1 h10
      obtain ⟨q1, q2⟩ : mIS μ S := bI_n.1 h18
      have hc : mIP μ P ∧ mIS μ S := ⟨⟨p1, p2⟩, ⟨q1, q2⟩⟩
      obtain ⟨p, rfl⟩ := Int.eq_ofNat_of_zero_le p1
      obtain ⟨s, rfl⟩ := Int.eq_ofNat_of_zero_le q1
      have hk1 := hkc s (by omega)
      have hSm1 : Sm (upM μ 20 0 0) := hSm0.up (by decide)
      have epl : ∀ w, mplF (upM μ 20 0 0) p w = mplF μ p w := fun w => mplF_of (fun j => upM_nef (by decide)) (upM_nef (by decide))
      have ebn : ∀ k, mbnF (upM μ 20 0 0) p s k = mbnF μ p s k := fun k => mbnF_of (fun j => upM_nef (by decide)) (upM_nef (by decide))
      have eow : ownF (upM μ 20 0 0) p = ownF μ p := ownF_of (fun j => upM_nef (by decide)) (upM_nef (by decide)) (upM_nef (by decide))
      refine v_aload_n hC 0 dX4_why_23 rfl rfl ?_
      refine v_getR hC foX4_38 dX4_why_24 rfl rfl rfl (by decide) (by first | decide | (simp only [vdn]; omega)) ?_
      refine v_iload_n hC 1 dX4_why_27 rfl rfl ?_
      refine v_iald hC dX4_why_28 rfl rfl rfl (by first | decide | (simp only [vdn]; omega)) ⟨by first | omega | (simp only [mlen]; omega), by first | omega | (simp only [mlen]; omega)⟩ ?_
      try simp only [Int.toNat_natCast, upM_at, upM_nef, ne_eq, not_false_eq_true, Nat.reduceEqDiff, Nat.reduceAdd]
      refine v_iload_n hC 2 dX4_why_29 rfl rfl ?_
      refine v_icmp_ne hC 35 dX4_why_30 rfl (fun h30 => ?_) (fun h30 => ?_)
      · refine v_aload_n hC 0 dX4_why_35 rfl rfl ?_
        refine v_iload_n hC 1 dX4_why_36 rfl rfl ?_
        refine v_iload_n hC 2 dX4_why_37 rfl rfl ?_
        refine v_callI2 hC (cwX4_80 hC ⟨Nat.le_of_ble_eq_true rfl, Nat.le_of_ble_eq_true rfl⟩) dX4_why_38 rfl rfl rfl (Nat.zero_le _) (Nat.zero_le _) (Nat.le_of_ble_eq_true rfl) (by first | decide | (simp only [vdn]; omega)) (cX4_place_ok p s (upM μ 20 0 0) (by omega) hSm1) (fun r1 μ1 hp => ?_)
        obtain ⟨rfl, rfl⟩ := hp
        rw [epl]
        refine v_istore_n hC 3 dX4_why_41 rfl (Nat.le_of_ble_eq_true rfl) ?_
        refine v_iconst hC dX4_why_42 ⟨by decide, by decide⟩ ?_
        refine v_istore hC dX4_why_43 (Nat.le_of_ble_eq_true rfl) ?_
        refine v_iconst hC dX4_why_45 ⟨by decide, by decide⟩ ?_
        refine v_istore hC dX4_why_46 (Nat.le_of_ble_eq_true rfl) ?_
        refine v_loop (fun k : Nat => (μ 24 s).toNat - k) (fun _ => True) (fun k => ∀ c : Int, k ≤ 3 → (c = 0 ∧ fnd (fun k => (mbnF μ p s k).isSome) k ((μ 24 s).toNat - k) = fnd (fun k => (mbnF μ p s k).isSome) 0 (μ 24 s).toNat ∨ c = 1 ∧ (fnd (fun k => (mbnF μ p s k).isSome) 0 (μ 24 s).toNat).isSome = true) → V x 0 0 none 48 [some (aR 12 0), some (aI p), some (aI s), some (aI (o9 (mplF μ p s))), some (aI c), some (aI (k : Int))] [] (upM μ 20 0 0)) (fun k _ ih c a1 a2 => ?_) 0 trivial 0 (by decide) (Or.inl ⟨rfl, rfl⟩)
        refine v_iload hC dX4_why_48 rfl ?_
        refine v_aload_n hC 0 dX4_why_50 rfl rfl ?_
        refine v_getR hC foX4_7 dX4_why_51 rfl rfl rfl (by decide) (by first | decide | (simp only [vdn]; omega)) ?_
        refine v_iload_n hC 2 dX4_why_54 rfl rfl ?_
        refine v_iald hC dX4_why_55 rfl rfl rfl (by first | decide | (simp only [vdn]; omega)) ⟨by first | omega | (simp only [mlen]; omega), by first | omega | (simp only [mlen]; omega)⟩ ?_
        try simp only [Int.toNat_natCast, upM_at, upM_nef, ne_eq, not_false_eq_true, Nat.reduceEqDiff, Nat.reduceAdd]
        refine v_icmp_ge hC 88 dX4_why_56 rfl (fun h56 => ?_) (fun h56 => ?_)
        · have hany : ¬ c = 0 ↔ (fnd (fun k => (mbnF μ p s k).isSome) 0 (μ 24 s).toNat).isSome = true := by
            rcases a2 with ⟨h1, h2⟩ | ⟨h1, h2⟩
            · rw [← h2, fnd_done (by omega)]
              exact ⟨fun h => absurd h1 h, fun h => by cases h⟩
            · exact ⟨fun _ => h2, fun _ => by omega⟩
          have hc2 : ¬ μ 33 ((p : Int)).toNat = (s : Int) := h30
          refine v_iload_n hC 3 dX4_why_88 rfl rfl ?_
          refine v_bipush hC dX4_why_89 ⟨by decide, by decide⟩ ?_
          refine v_icmp_ne hC 98 dX4_why_91 rfl (fun h91 => ?_) (fun h91 => ?_)
          · refine v_iload hC dX4_why_98 rfl ?_
            refine v_if_ne hC 107 dX4_why_100 rfl (fun h100 => ?_) (fun h100 => ?_)
            · refine v_aload_n hC 0 dX4_why_107 rfl rfl ?_
              refine v_iload_n hC 1 dX4_why_108 rfl rfl ?_
              refine v_callI1 hC (cwX4_110 hC ⟨Nat.le_of_ble_eq_true rfl, Nat.le_of_ble_eq_true rfl⟩) dX4_why_109 rfl rfl rfl (Nat.zero_le _) (Nat.zero_le _) (Nat.le_of_ble_eq_true rfl) (by first | decide | (simp only [vdn]; omega)) (cX4_own_ok p (upM μ 20 0 0) (by omega) hSm1) (fun r1 μ1 hp => ?_)
              obtain ⟨rfl, hr9⟩ := hp
              have hr9 : r1 = ownF (upM μ 20 0 0) p := hr9
              rw [eow] at hr9
              subst hr9
              refine v_iload_n hC 3 dX4_why_112 rfl rfl ?_
              refine v_icmp_ge hC 120 dX4_why_113 rfl (fun h113 => ?_) (fun h113 => ?_)
              · refine v_iconst hC dX4_why_120 ⟨by decide, by decide⟩ ?_
                exact v_iret hC hR dX4_why_121 (⟨_, rfl, rfl, by rw [mwhF, if_pos hc]; simp only [Int.toNat_natCast]; rw [if_neg h30, if_neg h91, if_pos (hany.1 h100), if_neg (by omega)]⟩)
              · refine v_iconst hC dX4_why_116 ⟨by decide, by decide⟩ ?_
                refine v_goto hC 121 dX4_why_117 rfl ?_
                exact v_iret hC hR dX4_why_121 (⟨_, rfl, rfl, by rw [mwhF, if_pos hc]; simp only [Int.toNat_natCast]; rw [if_neg h30, if_neg h91, if_pos (hany.1 h100), if_pos (by omega)]⟩)
            · refine v_iconst hC dX4_why_103 ⟨by decide, by decide⟩ ?_
              refine v_goto hC 121 dX4_why_104 rfl ?_
              exact v_iret hC hR dX4_why_121 (⟨_, rfl, rfl, by rw [mwhF, if_pos hc]; simp only [Int.toNat_natCast]; rw [if_neg h30, if_neg h91, if_neg (fun h => (hany.2 h) h100)]⟩)
          · refine v_iconst hC dX4_why_94 ⟨by decide, by decide⟩ ?_
            refine v_goto hC 121 dX4_why_95 rfl ?_
            exact v_iret hC hR dX4_why_121 (⟨_, rfl, rfl, by rw [mwhF, if_pos hc, if_neg hc2, if_pos (show o9 (mplF μ ((p : Int)).toNat s) = 9 from h91)]⟩)
        · refine v_iload hC dX4_why_59 rfl ?_
          refine v_if_ne hC 75 dX4_why_61 rfl (fun h61 => ?_) (fun h61 => ?_)
          · refine v_iconst hC dX4_why_75 ⟨by decide, by decide⟩ ?_
            refine v_goto hC 80 dX4_why_76 rfl ?_
            refine v_istore hC dX4_why_80 (Nat.le_of_ble_eq_true rfl) ?_
            refine v_iinc hC dX4_why_82 rfl ⟨by omega, by omega⟩ ?_
            refine v_goto hC 48 dX4_why_85 rfl ?_
            exact ih (k + 1) trivial (by omega) 1 (by omega) (Or.inr ⟨rfl, (a2.resolve_left (fun h => h61 h.1)).2⟩)
          · refine v_aload_n hC 0 dX4_why_64 rfl rfl ?_
            refine v_iload_n hC 1 dX4_why_65 rfl rfl ?_
            refine v_iload_n hC 2 dX4_why_66 rfl rfl ?_
            refine v_iload hC dX4_why_67 rfl ?_
            refine v_callI3 hC (cwX4_89 hC ⟨Nat.le_of_ble_eq_true rfl, Nat.le_of_ble_eq_true rfl⟩) dX4_why_69 rfl rfl rfl (Nat.zero_le _) (Nat.zero_le _) (Nat.le_of_ble_eq_true rfl) (by first | decide | (simp only [vdn]; omega)) (cX4_eligible_ok p s k (upM μ 20 0 0) (by omega) (by omega) (by omega)) (fun r1 μ1 hp => ?_)
            obtain ⟨rfl, rfl⟩ := hp
            refine v_if_eq hC 79 dX4_why_72 rfl (fun h72 => ?_) (fun h72 => ?_)
            · refine v_iconst hC dX4_why_79 ⟨by decide, by decide⟩ ?_
              refine v_istore hC dX4_why_80 (Nat.le_of_ble_eq_true rfl) ?_
              refine v_iinc hC dX4_why_82 rfl ⟨by omega, by omega⟩ ?_
              refine v_goto hC 48 dX4_why_85 rfl ?_
              rw [ebn] at h72
              exact ih (k + 1) trivial (by omega) 0 (by omega) (Or.inl ⟨rfl, fnd_next (by omega) (bI_z.1 h72) (a2.resolve_right (fun h => by omega)).2⟩)
            · refine v_iconst hC dX4_why_75 ⟨by decide, by decide⟩ ?_
              refine v_goto hC 80 dX4_why_76 rfl ?_
              refine v_istore hC dX4_why_80 (Nat.le_of_ble_eq_true rfl) ?_
              refine v_iinc hC dX4_why_82 rfl ⟨by omega, by omega⟩ ?_
              refine v_goto hC 48 dX4_why_85 rfl ?_
              rw [ebn] at h72
              exact ih (k + 1) trivial (by omega) 1 (by omega) (Or.inr ⟨rfl, by rw [← (a2.resolve_right (fun h => by omega)).2, fnd_yes (by omega) (bI_n.1 h72)]; rfl⟩)
      · refine v_iconst hC dX4_why_33 ⟨by decide, by decide⟩ ?_
        exact v_iret hC hR dX4_why_34 (⟨_, rfl, rfl, by rw [mwhF, if_pos hc, if_pos (show μ 33 ((p : Int)).toNat = (s : Int) from h30)]⟩)
    · refine v_iconst hC dX4_why_21 ⟨by decide, by decide⟩ ?_
      exact v_iret hC hR dX4_why_22 (⟨_, rfl, rfl, by rw [mwhF, if_neg (fun q => bI_z.1 h18 q.2)]⟩)
abbrev rmX4_envies : Room := { frames := 2, cells := 0, slots := 0, locals := 49 }
set_option maxRecDepth 100000 in
set_option maxHeartbeats 4000000 in
theorem cX4_envies_ok (a b : Int) (μ : MU) (hSm : Sm μ) (hkd : ∀ q : Nat, q < 20 → μ 33 q < 6 ∧ μ 34 q < 3) : CTi yX4_envies cX4_envies 5 (some .boolean) rmX4_envies [aR 12 0, aI a, aI b] μ (fun r μ' => menM μ a b = μ' ∧ r = menR μ a b) := by
  intro l9 b9 D9 K9
  refine met_of (by decide) (Nat.le_of_ble_eq_true rfl) (fun x hC hR hM hA => ?_)
  have hC : Ctx x RX4 cX4_envies rmX4_envies := hC
  have hSm0 := hSm
  obtain ⟨⟨s1, s2⟩, ⟨n1, n2⟩, hr, hkc, hq, hpp, hli, hnu⟩ := hSm
  refine v_aload_n hC 0 dX4_envies_0 rfl rfl ?_
  refine v_aload_n hC 0 dX4_envies_1 rfl rfl ?_
  refine v_iload_n hC 1 dX4_envies_2 rfl rfl ?_
  refine v_callI1 hC (cwX4_77 hC ⟨Nat.le_of_ble_eq_true rfl, Nat.le_of_ble_eq_true rfl⟩) dX4_envies_3 rfl rfl rfl (Nat.zero_le _) (Nat.zero_le _) (Nat.le_of_ble_eq_true rfl) (by first | decide | (simp only [vdn]; omega)) (cX4_isPupil_ok a μ) (fun r1 μ1 hp => ?_)
  obtain ⟨rfl, rfl⟩ := hp
  refine v_if_eq hC 21 dX4_envies_6 rfl (fun h6 => ?_) (fun h6 => ?_)
  · refine v_iconst hC dX4_envies_21 ⟨by decide, by decide⟩ ?_
    refine v_putI hC fwX4_59 dX4_envies_22 rfl rfl rfl (by decide) (by first | decide | (simp only [vdn]; omega)) ?_
    refine v_aload_n hC 0 dX4_envies_25 rfl rfl ?_
    refine v_getI hC foX4_59 dX4_envies_26 rfl rfl rfl (by first | decide | (simp only [vdn]; omega)) ?_
    try simp only [Int.toNat_natCast, upM_at, upM_nef, ne_eq, not_false_eq_true, Nat.reduceEqDiff, Nat.reduceAdd]
    refine v_if_le hC 34 dX4_envies_29 rfl (fun h29 => ?_) (fun h29 => ?_)
    · exfalso; omega
    · refine v_iconst hC dX4_envies_32 ⟨by decide, by decide⟩ ?_
      exact v_bret hC hR dX4_envies_33 (by omega) (⟨_, rfl, if_neg (fun q => bI_z.1 h6 q.1), (if_neg (fun q => bI_z.1 h6 q.1)).symm⟩)
  · refine v_aload_n hC 0 dX4_envies_9 rfl rfl ?_
    refine v_iload_n hC 2 dX4_envies_10 rfl rfl ?_
    refine v_callI1 hC (cwX4_77 hC ⟨Nat.le_of_ble_eq_true rfl, Nat.le_of_ble_eq_true rfl⟩) dX4_envies_11 rfl rfl rfl (Nat.zero_le _) (Nat.zero_le _) (Nat.le_of_ble_eq_true rfl) (by first | decide | (simp only [vdn]; omega)) (cX4_isPupil_ok b μ) (fun r1 μ1 hp => ?_)
    obtain ⟨rfl, rfl⟩ := hp
    refine v_if_eq hC 21 dX4_envies_14 rfl (fun h14 => ?_) (fun h14 => ?_)
    · refine v_iconst hC dX4_envies_21 ⟨by decide, by decide⟩ ?_
      refine v_putI hC fwX4_59 dX4_envies_22 rfl rfl rfl (by decide) (by first | decide | (simp only [vdn]; omega)) ?_
      refine v_aload_n hC 0 dX4_envies_25 rfl rfl ?_
      refine v_getI hC foX4_59 dX4_envies_26 rfl rfl rfl (by first | decide | (simp only [vdn]; omega)) ?_
      try simp only [Int.toNat_natCast, upM_at, upM_nef, ne_eq, not_false_eq_true, Nat.reduceEqDiff, Nat.reduceAdd]
      refine v_if_le hC 34 dX4_envies_29 rfl (fun h29 => ?_) (fun h29 => ?_)
      · exfalso; omega
      · refine v_iconst hC dX4_envies_32 ⟨by decide, by decide⟩ ?_
        exact v_bret hC hR dX4_envies_33 (by omega) (⟨_, rfl, if_neg (fun q => bI_z.1 h14 q.2), (if_neg (fun q => bI_z.1 h14 q.2)).symm⟩)
    · refine v_iconst hC dX4_envies_17 ⟨by decide, by decide⟩ ?_
      refine v_goto hC 22 dX4_envies_18 rfl ?_
      refine v_putI hC fwX4_59 dX4_envies_22 rfl rfl rfl (by decide) (by first | decide | (simp only [vdn]; omega)) ?_
      refine v_aload_n hC 0 dX4_envies_25 rfl rfl ?_
      refine v_getI hC foX4_59 dX4_envies_26 rfl rfl rfl (by first | decide | (simp only [vdn]; omega)) ?_
      try simp only [Int.toNat_natCast, upM_at, upM_nef, ne_eq, not_false_eq_true, Nat.reduceEqDiff, Nat.reduceAdd]
      refine v_if_le hC 34 dX4_envies_29 rfl (fun h29 => ?_) (fun h29 => ?_)
      · obtain ⟨p1, p2⟩ : mIP μ a := bI_n.1 h6
        obtain ⟨q1, q2⟩ : mIP μ b := bI_n.1 h14
        have hc : menC μ a b := ⟨⟨p1, p2⟩, ⟨q1, q2⟩⟩
        obtain ⟨pa, rfl⟩ := Int.eq_ofNat_of_zero_le p1
        obtain ⟨pb, rfl⟩ := Int.eq_ofNat_of_zero_le q1
        have hkb := hkd pb (by omega)
        refine v_aload_n hC 0 dX4_envies_34 rfl rfl ?_
        refine v_aload_n hC 0 dX4_envies_35 rfl rfl ?_
        refine v_getR hC foX4_38 dX4_envies_36 rfl rfl rfl (by decide) (by first | decide | (simp only [vdn]; omega)) ?_
        refine v_iload_n hC 2 dX4_envies_39 rfl rfl ?_
        refine v_iald hC dX4_envies_40 rfl rfl rfl (by first | decide | (simp only [vdn]; omega)) ⟨by first | omega | (simp only [mlen]; omega), by first | omega | (simp only [mlen]; omega)⟩ ?_
        try simp only [Int.toNat_natCast, upM_at, upM_nef, ne_eq, not_false_eq_true, Nat.reduceEqDiff, Nat.reduceAdd]
        refine v_if_lt hC 57 dX4_envies_41 rfl (fun h41 => ?_) (fun h41 => ?_)
        · refine v_iconst hC dX4_envies_57 ⟨by decide, by decide⟩ ?_
          refine v_putI hC fwX4_59 dX4_envies_58 rfl rfl rfl (by decide) (by first | decide | (simp only [vdn]; omega)) ?_
          refine v_aload_n hC 0 dX4_envies_61 rfl rfl ?_
          refine v_getI hC foX4_59 dX4_envies_62 rfl rfl rfl (by first | decide | (simp only [vdn]; omega)) ?_
          try simp only [Int.toNat_natCast, upM_at, upM_nef, ne_eq, not_false_eq_true, Nat.reduceEqDiff, Nat.reduceAdd]
          refine v_if_le hC 70 dX4_envies_65 rfl (fun h65 => ?_) (fun h65 => ?_)
          · exfalso; omega
          · refine v_iconst hC dX4_envies_68 ⟨by decide, by decide⟩ ?_
            exact v_bret hC hR dX4_envies_69 (by omega) (⟨_, rfl, by rw [menM, if_pos hc, if_neg (fun q => by have : 0 ≤ μ 33 pb := q.1; omega)], by rw [menR, if_pos hc, if_neg (fun q => by have : 0 ≤ μ 33 pb := q.1; omega)]⟩)
        · refine v_aload_n hC 0 dX4_envies_44 rfl rfl ?_
          refine v_getR hC foX4_41 dX4_envies_45 rfl rfl rfl (by decide) (by first | decide | (simp only [vdn]; omega)) ?_
          refine v_iload_n hC 2 dX4_envies_48 rfl rfl ?_
          refine v_iald hC dX4_envies_49 rfl rfl rfl (by first | decide | (simp only [vdn]; omega)) ⟨by first | omega | (simp only [mlen]; omega), by first | omega | (simp only [mlen]; omega)⟩ ?_
          try simp only [Int.toNat_natCast, upM_at, upM_nef, ne_eq, not_false_eq_true, Nat.reduceEqDiff, Nat.reduceAdd]
          refine v_if_lt hC 57 dX4_envies_50 rfl (fun h50 => ?_) (fun h50 => ?_)
          · refine v_iconst hC dX4_envies_57 ⟨by decide, by decide⟩ ?_
            refine v_putI hC fwX4_59 dX4_envies_58 rfl rfl rfl (by decide) (by first | decide | (simp only [vdn]; omega)) ?_
            refine v_aload_n hC 0 dX4_envies_61 rfl rfl ?_
            refine v_getI hC foX4_59 dX4_envies_62 rfl rfl rfl (by first | decide | (simp only [vdn]; omega)) ?_
            try simp only [Int.toNat_natCast, upM_at, upM_nef, ne_eq, not_false_eq_true, Nat.reduceEqDiff, Nat.reduceAdd]
            refine v_if_le hC 70 dX4_envies_65 rfl (fun h65 => ?_) (fun h65 => ?_)
            · exfalso; omega
            · refine v_iconst hC dX4_envies_68 ⟨by decide, by decide⟩ ?_
              exact v_bret hC hR dX4_envies_69 (by omega) (⟨_, rfl, by rw [menM, if_pos hc, if_neg (fun q => by have : 0 ≤ μ 34 pb := q.2; omega)], by rw [menR, if_pos hc, if_neg (fun q => by have : 0 ≤ μ 34 pb := q.2; omega)]⟩)
          · refine v_iconst hC dX4_envies_53 ⟨by decide, by decide⟩ ?_
            refine v_goto hC 58 dX4_envies_54 rfl ?_
            refine v_putI hC fwX4_59 dX4_envies_58 rfl rfl rfl (by decide) (by first | decide | (simp only [vdn]; omega)) ?_
            refine v_aload_n hC 0 dX4_envies_61 rfl rfl ?_
            refine v_getI hC foX4_59 dX4_envies_62 rfl rfl rfl (by first | decide | (simp only [vdn]; omega)) ?_
            try simp only [Int.toNat_natCast, upM_at, upM_nef, ne_eq, not_false_eq_true, Nat.reduceEqDiff, Nat.reduceAdd]
            refine v_if_le hC 70 dX4_envies_65 rfl (fun h65 => ?_) (fun h65 => ?_)
            · have hd : menD μ (pb : Int) := ⟨show 0 ≤ μ 33 pb by omega, show 0 ≤ μ 34 pb by omega⟩
              obtain ⟨s, hs⟩ := Int.eq_ofNat_of_zero_le (show 0 ≤ μ 33 pb by omega)
              obtain ⟨k, hk⟩ := Int.eq_ofNat_of_zero_le (show 0 ≤ μ 34 pb by omega)
              have hSm1 : Sm (upM (upM μ 20 0 0) 20 0 0) := (hSm0.up (by decide)).up (by decide)
              have epl : ∀ w, mplF (upM (upM μ 20 0 0) 20 0 0) pa w = mplF μ pa w := fun w => mplF_of (fun j => (upM_nef (by decide)).trans (upM_nef (by decide))) ((upM_nef (by decide)).trans (upM_nef (by decide)))
              have ebn : ∀ p s k, mbnF (upM (upM μ 20 0 0) 20 0 0) p s k = mbnF μ p s k := fun p s k => mbnF_of (fun j => (upM_nef (by decide)).trans (upM_nef (by decide))) ((upM_nef (by decide)).trans (upM_nef (by decide)))
              have erk : ∀ p s k, rkF (upM (upM μ 20 0 0) 20 0 0) p s k = rkF μ p s k := fun p s k => ((Fr.up (S := [20]) (Fr.up Fr.rf (by decide)) (by decide)).rk (by decide) p s k)
              have eow : ownF (upM (upM μ 20 0 0) 20 0 0) pa = ownF μ pa := ownF_of (fun j => (upM_nef (by decide)).trans (upM_nef (by decide))) ((upM_nef (by decide)).trans (upM_nef (by decide))) ((upM_nef (by decide)).trans (upM_nef (by decide)))
              have hP : menP μ (pa : Int) (pb : Int) ↔ (o9 (mplF μ pa s) < ownF μ pa ∧ (mbnF μ pa s k).isSome = true ∧ (mbnF μ pb s k).isSome = true ∧ rkF μ pa s k < rkF μ pb s k) := by
                unfold menP
                simp only [Int.toNat_natCast, hs, hk]
              refine v_aload_n hC 0 dX4_envies_70 rfl rfl ?_
              refine v_getR hC foX4_38 dX4_envies_71 rfl rfl rfl (by decide) (by first | decide | (simp only [vdn]; omega)) ?_
              refine v_iload_n hC 2 dX4_envies_74 rfl rfl ?_
              refine v_iald hC dX4_envies_75 rfl rfl rfl (by first | decide | (simp only [vdn]; omega)) ⟨by first | omega | (simp only [mlen]; omega), by first | omega | (simp only [mlen]; omega)⟩ ?_
              try simp only [Int.toNat_natCast, upM_at, upM_nef, ne_eq, not_false_eq_true, Nat.reduceEqDiff, Nat.reduceAdd]
              rw [hs]
              refine v_istore_n hC 3 dX4_envies_76 rfl (Nat.le_of_ble_eq_true rfl) ?_
              refine v_aload_n hC 0 dX4_envies_77 rfl rfl ?_
              refine v_getR hC foX4_41 dX4_envies_78 rfl rfl rfl (by decide) (by first | decide | (simp only [vdn]; omega)) ?_
              refine v_iload_n hC 2 dX4_envies_81 rfl rfl ?_
              refine v_iald hC dX4_envies_82 rfl rfl rfl (by first | decide | (simp only [vdn]; omega)) ⟨by first | omega | (simp only [mlen]; omega), by first | omega | (simp only [mlen]; omega)⟩ ?_
              try simp only [Int.toNat_natCast, upM_at, upM_nef, ne_eq, not_false_eq_true, Nat.reduceEqDiff, Nat.reduceAdd]
              rw [hk]
              refine v_istore hC dX4_envies_83 (Nat.le_of_ble_eq_true rfl) ?_
              refine v_aload_n hC 0 dX4_envies_85 rfl rfl ?_
              refine v_iload_n hC 1 dX4_envies_86 rfl rfl ?_
              refine v_iload_n hC 3 dX4_envies_87 rfl rfl ?_
              refine v_callI2 hC (cwX4_80 hC ⟨Nat.le_of_ble_eq_true rfl, Nat.le_of_ble_eq_true rfl⟩) dX4_envies_88 rfl rfl rfl (Nat.zero_le _) (Nat.zero_le _) (Nat.le_of_ble_eq_true rfl) (by first | decide | (simp only [vdn]; omega)) (cX4_place_ok pa s (upM (upM μ 20 0 0) 20 0 0) (by omega) hSm1) (fun r1 μ1 hp => ?_)
              obtain ⟨rfl, rfl⟩ := hp
              rw [epl]
              refine v_aload_n hC 0 dX4_envies_91 rfl rfl ?_
              refine v_iload_n hC 1 dX4_envies_92 rfl rfl ?_
              refine v_callI1 hC (cwX4_110 hC ⟨Nat.le_of_ble_eq_true rfl, Nat.le_of_ble_eq_true rfl⟩) dX4_envies_93 rfl rfl rfl (Nat.zero_le _) (Nat.zero_le _) (Nat.le_of_ble_eq_true rfl) (by first | decide | (simp only [vdn]; omega)) (cX4_own_ok pa (upM (upM μ 20 0 0) 20 0 0) (by omega) hSm1) (fun r1 μ1 hp => ?_)
              obtain ⟨rfl, hr9⟩ := hp
              have hr9 : r1 = ownF (upM (upM μ 20 0 0) 20 0 0) pa := hr9
              rw [eow] at hr9
              subst hr9
              refine v_icmp_ge hC 144 dX4_envies_96 rfl (fun h96 => ?_) (fun h96 => ?_)
              · refine v_iconst hC dX4_envies_144 ⟨by decide, by decide⟩ ?_
                exact v_bret hC hR dX4_envies_145 (by omega) (⟨_, rfl, by rw [menM, if_pos hc, if_pos hd], by rw [menR, if_pos hc, if_pos hd]; exact bI_f (fun q => by have := (hP.1 q).1; omega)⟩)
              · refine v_aload_n hC 0 dX4_envies_99 rfl rfl ?_
                refine v_iload_n hC 1 dX4_envies_100 rfl rfl ?_
                refine v_iload_n hC 3 dX4_envies_101 rfl rfl ?_
                refine v_iload hC dX4_envies_102 rfl ?_
                refine v_callI3 hC (cwX4_89 hC ⟨Nat.le_of_ble_eq_true rfl, Nat.le_of_ble_eq_true rfl⟩) dX4_envies_104 rfl rfl rfl (Nat.zero_le _) (Nat.zero_le _) (Nat.le_of_ble_eq_true rfl) (by first | decide | (simp only [vdn]; omega)) (cX4_eligible_ok pa s k (upM (upM μ 20 0 0) 20 0 0) (by omega) (by omega) (by omega)) (fun r1 μ1 hp => ?_)
                obtain ⟨rfl, rfl⟩ := hp
                rw [ebn]
                refine v_if_eq hC 144 dX4_envies_107 rfl (fun h107 => ?_) (fun h107 => ?_)
                · refine v_iconst hC dX4_envies_144 ⟨by decide, by decide⟩ ?_
                  exact v_bret hC hR dX4_envies_145 (by omega) (⟨_, rfl, by rw [menM, if_pos hc, if_pos hd], by rw [menR, if_pos hc, if_pos hd]; exact bI_f (fun q => bI_z.1 h107 (hP.1 q).2.1)⟩)
                · refine v_aload_n hC 0 dX4_envies_110 rfl rfl ?_
                  refine v_iload_n hC 2 dX4_envies_111 rfl rfl ?_
                  refine v_iload_n hC 3 dX4_envies_112 rfl rfl ?_
                  refine v_iload hC dX4_envies_113 rfl ?_
                  refine v_callI3 hC (cwX4_89 hC ⟨Nat.le_of_ble_eq_true rfl, Nat.le_of_ble_eq_true rfl⟩) dX4_envies_115 rfl rfl rfl (Nat.zero_le _) (Nat.zero_le _) (Nat.le_of_ble_eq_true rfl) (by first | decide | (simp only [vdn]; omega)) (cX4_eligible_ok pb s k (upM (upM μ 20 0 0) 20 0 0) (by omega) (by omega) (by omega)) (fun r1 μ1 hp => ?_)
                  obtain ⟨rfl, rfl⟩ := hp
                  rw [ebn]
                  refine v_if_eq hC 144 dX4_envies_118 rfl (fun h118 => ?_) (fun h118 => ?_)
                  · refine v_iconst hC dX4_envies_144 ⟨by decide, by decide⟩ ?_
                    exact v_bret hC hR dX4_envies_145 (by omega) (⟨_, rfl, by rw [menM, if_pos hc, if_pos hd], by rw [menR, if_pos hc, if_pos hd]; exact bI_f (fun q => bI_z.1 h118 (hP.1 q).2.2.1)⟩)
                  · refine v_aload_n hC 0 dX4_envies_121 rfl rfl ?_
                    refine v_iload_n hC 1 dX4_envies_122 rfl rfl ?_
                    refine v_iload_n hC 3 dX4_envies_123 rfl rfl ?_
                    refine v_iload hC dX4_envies_124 rfl ?_
                    refine v_callI3 hC (cwX4_93 hC ⟨Nat.le_of_ble_eq_true rfl, Nat.le_of_ble_eq_true rfl⟩) dX4_envies_126 rfl rfl rfl (Nat.zero_le _) (Nat.zero_le _) (Nat.le_of_ble_eq_true rfl) (by first | decide | (simp only [vdn]; omega)) (cX4_rank_ok pa s k (upM (upM μ 20 0 0) 20 0 0) (by omega) (by omega) (by omega) hSm1) (fun r1 μ1 hp => ?_)
                    obtain ⟨rfl, rfl⟩ := hp
                    rw [erk]
                    refine v_aload_n hC 0 dX4_envies_129 rfl rfl ?_
                    refine v_iload_n hC 2 dX4_envies_130 rfl rfl ?_
                    refine v_iload_n hC 3 dX4_envies_131 rfl rfl ?_
                    refine v_iload hC dX4_envies_132 rfl ?_
                    refine v_callI3 hC (cwX4_93 hC ⟨Nat.le_of_ble_eq_true rfl, Nat.le_of_ble_eq_true rfl⟩) dX4_envies_134 rfl rfl rfl (Nat.zero_le _) (Nat.zero_le _) (Nat.le_of_ble_eq_true rfl) (by first | decide | (simp only [vdn]; omega)) (cX4_rank_ok pb s k (upM (upM μ 20 0 0) 20 0 0) (by omega) (by omega) (by omega) hSm1) (fun r1 μ1 hp => ?_)
                    obtain ⟨rfl, rfl⟩ := hp
                    rw [erk]
                    refine v_icmp_ge hC 144 dX4_envies_137 rfl (fun h137 => ?_) (fun h137 => ?_)
                    · refine v_iconst hC dX4_envies_144 ⟨by decide, by decide⟩ ?_
                      exact v_bret hC hR dX4_envies_145 (by omega) (⟨_, rfl, by rw [menM, if_pos hc, if_pos hd], by rw [menR, if_pos hc, if_pos hd]; exact bI_f (fun q => by have := (hP.1 q).2.2.2; omega)⟩)
                    · refine v_iconst hC dX4_envies_140 ⟨by decide, by decide⟩ ?_
                      refine v_goto hC 145 dX4_envies_141 rfl ?_
                      exact v_bret hC hR dX4_envies_145 (by omega) (⟨_, rfl, by rw [menM, if_pos hc, if_pos hd], by rw [menR, if_pos hc, if_pos hd]; exact bI_t (hP.2 ⟨by omega, bI_n.1 h107, bI_n.1 h118, by omega⟩)⟩)
            · exfalso; omega
      · exfalso; omega
end
