section
-- ===== PART A: goes FIRST, ahead of the names: the tables' words, and 'selects' of the private methods out of them =====
/-- a private method of a class that the tables say can be made, by its rows of tables_1 -/
def lw_okq (q : MethodName × Nat) : Prop := (q.1.cls ≠ "java/lang/invoke/MethodHandle" ∧ q.1.cls ≠ "java/lang/invoke/VarHandle") ∧ Cond.instantiable q.1.cls q.2 ∈ tables_1 ∧ Cond.privateMethod q.1 ∈ tables_1 ∧ Cond.instanceMethod q.1 ∈ tables_1
theorem lw_p0 : lw_okq (⟨"ForkedStore", "isUser", "(I)Z"⟩, 5) := ⟨⟨by decide +kernel, by decide +kernel⟩, List.mem_of_getElem? (i := 11) (by decide +kernel), List.mem_of_getElem? (i := 234) (by decide +kernel), List.mem_of_getElem? (i := 235) (by decide +kernel)⟩
theorem lw_p1 : lw_okq (⟨"ForkedStore", "operate", "(I)I"⟩, 5) := ⟨⟨by decide +kernel, by decide +kernel⟩, List.mem_of_getElem? (i := 11) (by decide +kernel), List.mem_of_getElem? (i := 238) (by decide +kernel), List.mem_of_getElem? (i := 239) (by decide +kernel)⟩
theorem lw_p2 : lw_okq (⟨"ForkedStore", "alarmAhead", "(I)I"⟩, 5) := ⟨⟨by decide +kernel, by decide +kernel⟩, List.mem_of_getElem? (i := 11) (by decide +kernel), List.mem_of_getElem? (i := 242) (by decide +kernel), List.mem_of_getElem? (i := 243) (by decide +kernel)⟩
theorem lw_p3 : lw_okq (⟨"ForkedStore", "entriesShownTo", "(I)LForkedStore$Entries;"⟩, 5) := ⟨⟨by decide +kernel, by decide +kernel⟩, List.mem_of_getElem? (i := 11) (by decide +kernel), List.mem_of_getElem? (i := 246) (by decide +kernel), List.mem_of_getElem? (i := 247) (by decide +kernel)⟩
theorem lw_p4 : lw_okq (⟨"ForkedStore", "isView", "(I)Z"⟩, 5) := ⟨⟨by decide +kernel, by decide +kernel⟩, List.mem_of_getElem? (i := 11) (by decide +kernel), List.mem_of_getElem? (i := 325) (by decide +kernel), List.mem_of_getElem? (i := 326) (by decide +kernel)⟩
theorem lw_p5 : lw_okq (⟨"ForkedStore", "usersAttachedTo", "(I)I"⟩, 5) := ⟨⟨by decide +kernel, by decide +kernel⟩, List.mem_of_getElem? (i := 11) (by decide +kernel), List.mem_of_getElem? (i := 329) (by decide +kernel), List.mem_of_getElem? (i := 330) (by decide +kernel)⟩
theorem lw_p6 : lw_okq (⟨"ForkedStore", "usersWithAlarm", "()I"⟩, 5) := ⟨⟨by decide +kernel, by decide +kernel⟩, List.mem_of_getElem? (i := 11) (by decide +kernel), List.mem_of_getElem? (i := 400) (by decide +kernel), List.mem_of_getElem? (i := 401) (by decide +kernel)⟩
theorem lw_p7 : lw_okq (⟨"ForkedStore", "usersWithProof", "()I"⟩, 5) := ⟨⟨by decide +kernel, by decide +kernel⟩, List.mem_of_getElem? (i := 11) (by decide +kernel), List.mem_of_getElem? (i := 404) (by decide +kernel), List.mem_of_getElem? (i := 405) (by decide +kernel)⟩
theorem lw_p8 : lw_okq (⟨"ForkedStore", "operationsOfAll", "()I"⟩, 5) := ⟨⟨by decide +kernel, by decide +kernel⟩, List.mem_of_getElem? (i := 11) (by decide +kernel), List.mem_of_getElem? (i := 408) (by decide +kernel), List.mem_of_getElem? (i := 409) (by decide +kernel)⟩
theorem lw_p9 : lw_okq (⟨"ForkedStore", "lettersInBoxes", "()I"⟩, 5) := ⟨⟨by decide +kernel, by decide +kernel⟩, List.mem_of_getElem? (i := 11) (by decide +kernel), List.mem_of_getElem? (i := 412) (by decide +kernel), List.mem_of_getElem? (i := 413) (by decide +kernel)⟩
theorem lw_p10 : lw_okq (⟨"ForkedStore", "knowForkedVectors", "(II)Z"⟩, 5) := ⟨⟨by decide +kernel, by decide +kernel⟩, List.mem_of_getElem? (i := 11) (by decide +kernel), List.mem_of_getElem? (i := 448) (by decide +kernel), List.mem_of_getElem? (i := 449) (by decide +kernel)⟩
theorem lw_p11 : lw_okq (⟨"ForkedStore", "isUnaware", "(I)Z"⟩, 5) := ⟨⟨by decide +kernel, by decide +kernel⟩, List.mem_of_getElem? (i := 11) (by decide +kernel), List.mem_of_getElem? (i := 460) (by decide +kernel), List.mem_of_getElem? (i := 461) (by decide +kernel)⟩
theorem lw_p12 : lw_okq (⟨"ForkedStore", "carryOut", "(III)Z"⟩, 5) := ⟨⟨by decide +kernel, by decide +kernel⟩, List.mem_of_getElem? (i := 11) (by decide +kernel), List.mem_of_getElem? (i := 494) (by decide +kernel), List.mem_of_getElem? (i := 495) (by decide +kernel)⟩
theorem lw_p13 : lw_okq (⟨"ForkedStore", "readLetters", "(II)Z"⟩, 5) := ⟨⟨by decide +kernel, by decide +kernel⟩, List.mem_of_getElem? (i := 11) (by decide +kernel), List.mem_of_getElem? (i := 501) (by decide +kernel), List.mem_of_getElem? (i := 502) (by decide +kernel)⟩
theorem lw_p14 : lw_okq (⟨"ForkedStoreModel", "begin", "(I)V"⟩, 25) := ⟨⟨by decide +kernel, by decide +kernel⟩, List.mem_of_getElem? (i := 507) (by decide +kernel), List.mem_of_getElem? (i := 513) (by decide +kernel), List.mem_of_getElem? (i := 514) (by decide +kernel)⟩
theorem lw_p15 : lw_okq (⟨"ForkedStoreModel", "noUser", "(I)Z"⟩, 25) := ⟨⟨by decide +kernel, by decide +kernel⟩, List.mem_of_getElem? (i := 507) (by decide +kernel), List.mem_of_getElem? (i := 606) (by decide +kernel), List.mem_of_getElem? (i := 607) (by decide +kernel)⟩
def lw_privs_1 : List (MethodName × Nat) := [(⟨"ForkedStore", "isUser", "(I)Z"⟩, 5), (⟨"ForkedStore", "operate", "(I)I"⟩, 5), (⟨"ForkedStore", "alarmAhead", "(I)I"⟩, 5), (⟨"ForkedStore", "entriesShownTo", "(I)LForkedStore$Entries;"⟩, 5), (⟨"ForkedStore", "isView", "(I)Z"⟩, 5), (⟨"ForkedStore", "usersAttachedTo", "(I)I"⟩, 5), (⟨"ForkedStore", "usersWithAlarm", "()I"⟩, 5), (⟨"ForkedStore", "usersWithProof", "()I"⟩, 5), (⟨"ForkedStore", "operationsOfAll", "()I"⟩, 5), (⟨"ForkedStore", "lettersInBoxes", "()I"⟩, 5), (⟨"ForkedStore", "knowForkedVectors", "(II)Z"⟩, 5), (⟨"ForkedStore", "isUnaware", "(I)Z"⟩, 5), (⟨"ForkedStore", "carryOut", "(III)Z"⟩, 5), (⟨"ForkedStore", "readLetters", "(II)Z"⟩, 5), (⟨"ForkedStoreModel", "begin", "(I)V"⟩, 25), (⟨"ForkedStoreModel", "noUser", "(I)Z"⟩, 25)]
theorem lw_r1 : ∀ q ∈ lw_privs_1, lw_okq q := List.forall_mem_cons.mpr ⟨lw_p0, List.forall_mem_cons.mpr ⟨lw_p1, List.forall_mem_cons.mpr ⟨lw_p2, List.forall_mem_cons.mpr ⟨lw_p3, List.forall_mem_cons.mpr ⟨lw_p4, List.forall_mem_cons.mpr ⟨lw_p5, List.forall_mem_cons.mpr ⟨lw_p6, List.forall_mem_cons.mpr ⟨lw_p7, List.forall_mem_cons.mpr ⟨lw_p8, List.forall_mem_cons.mpr ⟨lw_p9, List.forall_mem_cons.mpr ⟨lw_p10, List.forall_mem_cons.mpr ⟨lw_p11, List.forall_mem_cons.mpr ⟨lw_p12, List.forall_mem_cons.mpr ⟨lw_p13, List.forall_mem_cons.mpr ⟨lw_p14, List.forall_mem_cons.mpr ⟨lw_p15, fun _ h => absurd h List.not_mem_nil⟩⟩⟩⟩⟩⟩⟩⟩⟩⟩⟩⟩⟩⟩⟩⟩
theorem lw_p16 : lw_okq (⟨"ForkedStoreModel", "operate", "(I)I"⟩, 25) := ⟨⟨by decide +kernel, by decide +kernel⟩, List.mem_of_getElem? (i := 507) (by decide +kernel), List.mem_of_getElem? (i := 610) (by decide +kernel), List.mem_of_getElem? (i := 611) (by decide +kernel)⟩
theorem lw_p17 : lw_okq (⟨"ForkedStoreModel", "alarmFor", "(I)I"⟩, 25) := ⟨⟨by decide +kernel, by decide +kernel⟩, List.mem_of_getElem? (i := 507) (by decide +kernel), List.mem_of_getElem? (i := 614) (by decide +kernel), List.mem_of_getElem? (i := 615) (by decide +kernel)⟩
theorem lw_p18 : lw_okq (⟨"ForkedStoreModel", "atMost", "([II[II)Z"⟩, 25) := ⟨⟨by decide +kernel, by decide +kernel⟩, List.mem_of_getElem? (i := 507) (by decide +kernel), List.mem_of_getElem? (i := 621) (by decide +kernel), List.mem_of_getElem? (i := 622) (by decide +kernel)⟩
theorem lw_p19 : lw_okq (⟨"ForkedStoreModel", "greatest", "(I)I"⟩, 25) := ⟨⟨by decide +kernel, by decide +kernel⟩, List.mem_of_getElem? (i := 507) (by decide +kernel), List.mem_of_getElem? (i := 625) (by decide +kernel), List.mem_of_getElem? (i := 626) (by decide +kernel)⟩
theorem lw_p20 : lw_okq (⟨"ForkedStoreModel", "areApart", "([II[II)Z"⟩, 25) := ⟨⟨by decide +kernel, by decide +kernel⟩, List.mem_of_getElem? (i := 507) (by decide +kernel), List.mem_of_getElem? (i := 629) (by decide +kernel), List.mem_of_getElem? (i := 630) (by decide +kernel)⟩
theorem lw_p21 : lw_okq (⟨"ForkedStoreModel", "raises", "(II)V"⟩, 25) := ⟨⟨by decide +kernel, by decide +kernel⟩, List.mem_of_getElem? (i := 507) (by decide +kernel), List.mem_of_getElem? (i := 633) (by decide +kernel), List.mem_of_getElem? (i := 634) (by decide +kernel)⟩
theorem lw_p22 : lw_okq (⟨"ForkedStoreModel", "proves", "(I[II[III)V"⟩, 25) := ⟨⟨by decide +kernel, by decide +kernel⟩, List.mem_of_getElem? (i := 507) (by decide +kernel), List.mem_of_getElem? (i := 637) (by decide +kernel), List.mem_of_getElem? (i := 638) (by decide +kernel)⟩
theorem lw_p23 : lw_okq (⟨"ForkedStoreModel", "copy", "([II[II)V"⟩, 25) := ⟨⟨by decide +kernel, by decide +kernel⟩, List.mem_of_getElem? (i := 507) (by decide +kernel), List.mem_of_getElem? (i := 641) (by decide +kernel), List.mem_of_getElem? (i := 642) (by decide +kernel)⟩
theorem lw_p24 : lw_okq (⟨"ForkedStoreModel", "remember", "(I)V"⟩, 25) := ⟨⟨by decide +kernel, by decide +kernel⟩, List.mem_of_getElem? (i := 507) (by decide +kernel), List.mem_of_getElem? (i := 645) (by decide +kernel), List.mem_of_getElem? (i := 646) (by decide +kernel)⟩
theorem lw_p25 : lw_okq (⟨"ForkedStoreModel", "noView", "(I)Z"⟩, 25) := ⟨⟨by decide +kernel, by decide +kernel⟩, List.mem_of_getElem? (i := 507) (by decide +kernel), List.mem_of_getElem? (i := 665) (by decide +kernel), List.mem_of_getElem? (i := 666) (by decide +kernel)⟩
theorem lw_p26 : lw_okq (⟨"ForkedStoreModel", "attached", "(I)I"⟩, 25) := ⟨⟨by decide +kernel, by decide +kernel⟩, List.mem_of_getElem? (i := 507) (by decide +kernel), List.mem_of_getElem? (i := 669) (by decide +kernel), List.mem_of_getElem? (i := 670) (by decide +kernel)⟩
theorem lw_p27 : lw_okq (⟨"ForkedStoreModel", "takesLetter", "(I)V"⟩, 25) := ⟨⟨by decide +kernel, by decide +kernel⟩, List.mem_of_getElem? (i := 507) (by decide +kernel), List.mem_of_getElem? (i := 693) (by decide +kernel), List.mem_of_getElem? (i := 694) (by decide +kernel)⟩
theorem lw_p28 : lw_okq (⟨"ForkedStoreModel", "compared", "([III)I"⟩, 25) := ⟨⟨by decide +kernel, by decide +kernel⟩, List.mem_of_getElem? (i := 507) (by decide +kernel), List.mem_of_getElem? (i := 733) (by decide +kernel), List.mem_of_getElem? (i := 734) (by decide +kernel)⟩
theorem lw_p29 : lw_okq (⟨"ForkedStoreModel", "fault", "()I"⟩, 25) := ⟨⟨by decide +kernel, by decide +kernel⟩, List.mem_of_getElem? (i := 507) (by decide +kernel), List.mem_of_getElem? (i := 761) (by decide +kernel), List.mem_of_getElem? (i := 762) (by decide +kernel)⟩
theorem lw_p30 : lw_okq (⟨"ForkedStoreModel", "carries", "(CII)Z"⟩, 25) := ⟨⟨by decide +kernel, by decide +kernel⟩, List.mem_of_getElem? (i := 507) (by decide +kernel), List.mem_of_getElem? (i := 768) (by decide +kernel), List.mem_of_getElem? (i := 769) (by decide +kernel)⟩
def lw_privs_2 : List (MethodName × Nat) := [(⟨"ForkedStoreModel", "operate", "(I)I"⟩, 25), (⟨"ForkedStoreModel", "alarmFor", "(I)I"⟩, 25), (⟨"ForkedStoreModel", "atMost", "([II[II)Z"⟩, 25), (⟨"ForkedStoreModel", "greatest", "(I)I"⟩, 25), (⟨"ForkedStoreModel", "areApart", "([II[II)Z"⟩, 25), (⟨"ForkedStoreModel", "raises", "(II)V"⟩, 25), (⟨"ForkedStoreModel", "proves", "(I[II[III)V"⟩, 25), (⟨"ForkedStoreModel", "copy", "([II[II)V"⟩, 25), (⟨"ForkedStoreModel", "remember", "(I)V"⟩, 25), (⟨"ForkedStoreModel", "noView", "(I)Z"⟩, 25), (⟨"ForkedStoreModel", "attached", "(I)I"⟩, 25), (⟨"ForkedStoreModel", "takesLetter", "(I)V"⟩, 25), (⟨"ForkedStoreModel", "compared", "([III)I"⟩, 25), (⟨"ForkedStoreModel", "fault", "()I"⟩, 25), (⟨"ForkedStoreModel", "carries", "(CII)Z"⟩, 25)]
theorem lw_r2 : ∀ q ∈ lw_privs_2, lw_okq q := List.forall_mem_cons.mpr ⟨lw_p16, List.forall_mem_cons.mpr ⟨lw_p17, List.forall_mem_cons.mpr ⟨lw_p18, List.forall_mem_cons.mpr ⟨lw_p19, List.forall_mem_cons.mpr ⟨lw_p20, List.forall_mem_cons.mpr ⟨lw_p21, List.forall_mem_cons.mpr ⟨lw_p22, List.forall_mem_cons.mpr ⟨lw_p23, List.forall_mem_cons.mpr ⟨lw_p24, List.forall_mem_cons.mpr ⟨lw_p25, List.forall_mem_cons.mpr ⟨lw_p26, List.forall_mem_cons.mpr ⟨lw_p27, List.forall_mem_cons.mpr ⟨lw_p28, List.forall_mem_cons.mpr ⟨lw_p29, List.forall_mem_cons.mpr ⟨lw_p30, fun _ h => absurd h List.not_mem_nil⟩⟩⟩⟩⟩⟩⟩⟩⟩⟩⟩⟩⟩⟩⟩
def lw_privs : List (MethodName × Nat) := lw_privs_1 ++ (lw_privs_2)
def lw_tbl : List Cond := k2_sels lw_privs ++ tables_1
theorem lw_privs_ok : ∀ q ∈ lw_privs, lw_okq q := by
  show ∀ q ∈ lw_privs_1 ++ (lw_privs_2), lw_okq q
  exact List.forall_mem_append.mpr ⟨lw_r1, lw_r2⟩
-- ===== end of PART A =====
end
section
def RX0 : String := "ForkedStore$Box"
def TX0 : u_T := fun k => match k with
  | 0 => ("ForkedStore$Box", "letters", "[LForkedStore$VersionVector;", true)
  | _ => ("ForkedStore$Box", "size", "I", false)
def tyX0 : Nat → FieldType := fun k => match k with
  | 0 => .array (.object "ForkedStore$VersionVector")
  | _ => .int
abbrev wsX00 : List Cond := u_ws RX0 TX0 2
theorem nmX0 : ∀ a, a < 2 → ∀ b, b < 2 → a ≠ b → (TX0 a).2.1 ≠ (TX0 b).2.1 := by decide +kernel
theorem tyX0_ok : ∀ k, k < 2 → parseFieldDescriptor (TX0 k).2.2.1 = some (tyX0 k) := by decide +kernel
abbrev cX0_init : ByteArray := prog_2_method_1_code
def yX0_init : MethodName := ⟨RX0, "<init>", "()V"⟩
abbrev cX0_put : ByteArray := prog_2_method_2_code
def yX0_put : MethodName := ⟨RX0, "put", "(LForkedStore$VersionVector;)V"⟩
abbrev cX0_dropFirst : ByteArray := prog_2_method_3_code
def yX0_dropFirst : MethodName := ⟨RX0, "dropFirst", "()V"⟩
def RX1 : String := "ForkedStore$Entries"
def TX1 : u_T := fun k => match k with
  | 0 => ("ForkedStore$Entries", "vectors", "[LForkedStore$VersionVector;", true)
  | _ => ("ForkedStore$Entries", "contents", "[I", true)
def tyX1 : Nat → FieldType := fun k => match k with
  | 0 => .array (.object "ForkedStore$VersionVector")
  | _ => .array .int
abbrev wsX10 : List Cond := u_ws RX1 TX1 2
theorem nmX1 : ∀ a, a < 2 → ∀ b, b < 2 → a ≠ b → (TX1 a).2.1 ≠ (TX1 b).2.1 := by decide +kernel
theorem tyX1_ok : ∀ k, k < 2 → parseFieldDescriptor (TX1 k).2.2.1 = some (tyX1 k) := by decide +kernel
abbrev cX1_init : ByteArray := prog_3_method_1_code
def yX1_init : MethodName := ⟨RX1, "<init>", "()V"⟩
abbrev cX1_clear : ByteArray := prog_3_method_2_code
def yX1_clear : MethodName := ⟨RX1, "clear", "()V"⟩
abbrev cX1_copyFrom : ByteArray := prog_3_method_3_code
def yX1_copyFrom : MethodName := ⟨RX1, "copyFrom", "(LForkedStore$Entries;)V"⟩
abbrev cX1_replaceByLater : ByteArray := prog_3_method_4_code
def yX1_replaceByLater : MethodName := ⟨RX1, "replaceByLater", "(LForkedStore$Entries;)I"⟩
abbrev cX1_areForked : ByteArray := prog_3_method_5_code
def yX1_areForked : MethodName := ⟨RX1, "areForked", "()Z"⟩
abbrev cX1_greatest : ByteArray := prog_3_method_6_code
def yX1_greatest : MethodName := ⟨RX1, "greatest", "()LForkedStore$VersionVector;"⟩
abbrev cX1_prove : ByteArray := prog_3_method_7_code
def yX1_prove : MethodName := ⟨RX1, "prove", "(LForkedStore$Proof;)V"⟩
def RX2 : String := "ForkedStore$Member"
def TX2 : u_T := fun k => match k with
  | 0 => ("ForkedStore$Member", "signed", "LForkedStore$VersionVector;", true)
  | 1 => ("ForkedStore$Member", "known", "LForkedStore$VersionVector;", true)
  | 2 => ("ForkedStore$Member", "proof", "LForkedStore$Proof;", true)
  | 3 => ("ForkedStore$Member", "box", "LForkedStore$Box;", true)
  | 4 => ("ForkedStore$Member", "view", "I", false)
  | 5 => ("ForkedStore$Member", "alarm", "I", false)
  | 6 => ("ForkedStore$Member", "hasHeard", "Z", false)
  | 7 => ("ForkedStore$Member", "heard", "I", false)
  | 8 => ("ForkedStore$Member", "operations", "I", false)
  | 9 => ("ForkedStore$Member", "shown", "I", false)
  | _ => ("ForkedStore$Member", "sent", "I", false)
def tyX2 : Nat → FieldType := fun k => match k with
  | 0 => .object "ForkedStore$VersionVector"
  | 1 => .object "ForkedStore$VersionVector"
  | 2 => .object "ForkedStore$Proof"
  | 3 => .object "ForkedStore$Box"
  | 4 => .int
  | 5 => .int
  | 6 => .boolean
  | 7 => .int
  | 8 => .int
  | 9 => .int
  | _ => .int
abbrev wsX20 : List Cond := u_ws RX2 TX2 11
theorem nmX2 : ∀ a, a < 11 → ∀ b, b < 11 → a ≠ b → (TX2 a).2.1 ≠ (TX2 b).2.1 := by decide +kernel
theorem tyX2_ok : ∀ k, k < 11 → parseFieldDescriptor (TX2 k).2.2.1 = some (tyX2 k) := by decide +kernel
abbrev cX2_init : ByteArray := prog_4_method_1_code
def yX2_init : MethodName := ⟨RX2, "<init>", "()V"⟩
abbrev cX2_clear : ByteArray := prog_4_method_2_code
def yX2_clear : MethodName := ⟨RX2, "clear", "()V"⟩
abbrev cX2_hear : ByteArray := prog_4_method_3_code
def yX2_hear : MethodName := ⟨RX2, "hear", "(I)V"⟩
abbrev cX2_raise : ByteArray := prog_4_method_4_code
def yX2_raise : MethodName := ⟨RX2, "raise", "(I)V"⟩
abbrev cX2_sign : ByteArray := prog_4_method_5_code
def yX2_sign : MethodName := ⟨RX2, "sign", "(ILForkedStore$Entries;)V"⟩
abbrev cX2_proveLack : ByteArray := prog_4_method_6_code
def yX2_proveLack : MethodName := ⟨RX2, "proveLack", "(LForkedStore$VersionVector;)V"⟩
abbrev cX2_learn : ByteArray := prog_4_method_7_code
def yX2_learn : MethodName := ⟨RX2, "learn", "(LForkedStore$VersionVector;)I"⟩
def RX3 : String := "ForkedStore$Proof"
def TX3 : u_T := fun k => match k with
  | 0 => ("ForkedStore$Proof", "first", "LForkedStore$VersionVector;", true)
  | 1 => ("ForkedStore$Proof", "second", "LForkedStore$VersionVector;", true)
  | 2 => ("ForkedStore$Proof", "isHeld", "Z", false)
  | _ => ("ForkedStore$Proof", "depth", "I", false)
def tyX3 : Nat → FieldType := fun k => match k with
  | 0 => .object "ForkedStore$VersionVector"
  | 1 => .object "ForkedStore$VersionVector"
  | 2 => .boolean
  | _ => .int
abbrev wsX30 : List Cond := u_ws RX3 TX3 4
theorem nmX3 : ∀ a, a < 4 → ∀ b, b < 4 → a ≠ b → (TX3 a).2.1 ≠ (TX3 b).2.1 := by decide +kernel
theorem tyX3_ok : ∀ k, k < 4 → parseFieldDescriptor (TX3 k).2.2.1 = some (tyX3 k) := by decide +kernel
abbrev cX3_init : ByteArray := prog_5_method_1_code
def yX3_init : MethodName := ⟨RX3, "<init>", "()V"⟩
abbrev cX3_clear : ByteArray := prog_5_method_2_code
def yX3_clear : MethodName := ⟨RX3, "clear", "()V"⟩
abbrev cX3_keepFirst : ByteArray := prog_5_method_3_code
def yX3_keepFirst : MethodName := ⟨RX3, "keepFirst", "(LForkedStore$VersionVector;LForkedStore$VersionVector;I)V"⟩
def RX4 : String := "ForkedStore$Script"
def TX4 : u_T := fun k => match k with
  | 0 => ("ForkedStore$Script", "signs", "[I", true)
  | _ => ("ForkedStore$Script", "length", "I", false)
def tyX4 : Nat → FieldType := fun k => match k with
  | 0 => .array .int
  | _ => .int
abbrev wsX40 : List Cond := u_ws RX4 TX4 2
theorem nmX4 : ∀ a, a < 2 → ∀ b, b < 2 → a ≠ b → (TX4 a).2.1 ≠ (TX4 b).2.1 := by decide +kernel
theorem tyX4_ok : ∀ k, k < 2 → parseFieldDescriptor (TX4 k).2.2.1 = some (tyX4 k) := by decide +kernel
abbrev cX4_init : ByteArray := prog_6_method_1_code
def yX4_init : MethodName := ⟨RX4, "<init>", "()V"⟩
abbrev cX4_append : ByteArray := prog_6_method_2_code
def yX4_append : MethodName := ⟨RX4, "append", "(C)V"⟩
abbrev cX4_digit : ByteArray := prog_6_method_3_code
def yX4_digit : MethodName := ⟨RX4, "digit", "(I)I"⟩
abbrev cX4_fault : ByteArray := prog_6_method_4_code
def yX4_fault : MethodName := ⟨RX4, "fault", "()I"⟩
abbrev cX4_isLetter : ByteArray := prog_6_method_5_code
def yX4_isLetter : MethodName := ⟨RX4, "isLetter", "(I)Z"⟩
abbrev cX4_isDigit : ByteArray := prog_6_method_6_code
def yX4_isDigit : MethodName := ⟨RX4, "isDigit", "(I)Z"⟩
def RX5 : String := "ForkedStore$VersionVector"
def TX5 : u_T := fun k => match k with
  | _ => ("ForkedStore$VersionVector", "numbers", "[I", true)
def tyX5 : Nat → FieldType := fun k => match k with
  | _ => .array .int
abbrev wsX50 : List Cond := u_ws RX5 TX5 1
theorem nmX5 : ∀ a, a < 1 → ∀ b, b < 1 → a ≠ b → (TX5 a).2.1 ≠ (TX5 b).2.1 := by decide +kernel
theorem tyX5_ok : ∀ k, k < 1 → parseFieldDescriptor (TX5 k).2.2.1 = some (tyX5 k) := by decide +kernel
abbrev cX5_init : ByteArray := prog_7_method_1_code
def yX5_init : MethodName := ⟨RX5, "<init>", "()V"⟩
abbrev cX5_clear : ByteArray := prog_7_method_2_code
def yX5_clear : MethodName := ⟨RX5, "clear", "()V"⟩
abbrev cX5_copyFrom : ByteArray := prog_7_method_3_code
def yX5_copyFrom : MethodName := ⟨RX5, "copyFrom", "(LForkedStore$VersionVector;)V"⟩
abbrev cX5_isAtMost : ByteArray := prog_7_method_4_code
def yX5_isAtMost : MethodName := ⟨RX5, "isAtMost", "(LForkedStore$VersionVector;)Z"⟩
abbrev cX5_relationTo : ByteArray := prog_7_method_5_code
def yX5_relationTo : MethodName := ⟨RX5, "relationTo", "(LForkedStore$VersionVector;)I"⟩
abbrev cX5_sum : ByteArray := prog_7_method_6_code
def yX5_sum : MethodName := ⟨RX5, "sum", "()I"⟩
def RX6 : String := "ForkedStore$View"
def TX6 : u_T := fun k => match k with
  | 0 => ("ForkedStore$View", "entries", "LForkedStore$Entries;", true)
  | 1 => ("ForkedStore$View", "before", "[LForkedStore$Entries;", true)
  | 2 => ("ForkedStore$View", "remembered", "I", false)
  | _ => ("ForkedStore$View", "next", "I", false)
def tyX6 : Nat → FieldType := fun k => match k with
  | 0 => .object "ForkedStore$Entries"
  | 1 => .array (.object "ForkedStore$Entries")
  | 2 => .int
  | _ => .int
abbrev wsX60 : List Cond := u_ws RX6 TX6 4
theorem nmX6 : ∀ a, a < 4 → ∀ b, b < 4 → a ≠ b → (TX6 a).2.1 ≠ (TX6 b).2.1 := by decide +kernel
theorem tyX6_ok : ∀ k, k < 4 → parseFieldDescriptor (TX6 k).2.2.1 = some (tyX6 k) := by decide +kernel
abbrev cX6_init : ByteArray := prog_8_method_1_code
def yX6_init : MethodName := ⟨RX6, "<init>", "()V"⟩
abbrev cX6_clear : ByteArray := prog_8_method_2_code
def yX6_clear : MethodName := ⟨RX6, "clear", "()V"⟩
abbrev cX6_forget : ByteArray := prog_8_method_3_code
def yX6_forget : MethodName := ⟨RX6, "forget", "()V"⟩
abbrev cX6_copyFrom : ByteArray := prog_8_method_4_code
def yX6_copyFrom : MethodName := ⟨RX6, "copyFrom", "(LForkedStore$View;)V"⟩
abbrev cX6_remember : ByteArray := prog_8_method_5_code
def yX6_remember : MethodName := ⟨RX6, "remember", "()V"⟩
abbrev cX6_takeBack : ByteArray := prog_8_method_6_code
def yX6_takeBack : MethodName := ⟨RX6, "takeBack", "(I)V"⟩
def RX7 : String := "ForkedStore"
def TX7 : u_T := fun k => match k with
  | 0 => ("ForkedStore", "members", "[LForkedStore$Member;", true)
  | 1 => ("ForkedStore", "views", "[LForkedStore$View;", true)
  | 2 => ("ForkedStore", "script", "LForkedStore$Script;", true)
  | 3 => ("ForkedStore", "users", "I", false)
  | _ => ("ForkedStore", "viewCount", "I", false)
def tyX7 : Nat → FieldType := fun k => match k with
  | 0 => .array (.object "ForkedStore$Member")
  | 1 => .array (.object "ForkedStore$View")
  | 2 => .object "ForkedStore$Script"
  | 3 => .int
  | _ => .int
abbrev wsX70 : List Cond := u_ws RX7 TX7 5
theorem nmX7 : ∀ a, a < 5 → ∀ b, b < 5 → a ≠ b → (TX7 a).2.1 ≠ (TX7 b).2.1 := by decide +kernel
theorem tyX7_ok : ∀ k, k < 5 → parseFieldDescriptor (TX7 k).2.2.1 = some (tyX7 k) := by decide +kernel
abbrev cX7_init : ByteArray := prog_1_method_1_code
def yX7_init : MethodName := ⟨RX7, "<init>", "()V"⟩
abbrev cX7_reset : ByteArray := prog_1_method_2_code
def yX7_reset : MethodName := ⟨RX7, "reset", "(I)I"⟩
abbrev cX7_write : ByteArray := prog_1_method_3_code
def yX7_write : MethodName := ⟨RX7, "write", "(II)I"⟩
abbrev cX7_read : ByteArray := prog_1_method_4_code
def yX7_read : MethodName := ⟨RX7, "read", "(II)I"⟩
abbrev cX7_lastRead : ByteArray := prog_1_method_5_code
def yX7_lastRead : MethodName := ⟨RX7, "lastRead", "(I)I"⟩
abbrev cX7_check : ByteArray := prog_1_method_6_code
def yX7_check : MethodName := ⟨RX7, "check", "(I)I"⟩
abbrev cX7_fork : ByteArray := prog_1_method_7_code
def yX7_fork : MethodName := ⟨RX7, "fork", "(II)I"⟩
abbrev cX7_attach : ByteArray := prog_1_method_8_code
def yX7_attach : MethodName := ⟨RX7, "attach", "(II)I"⟩
abbrev cX7_rollBack : ByteArray := prog_1_method_9_code
def yX7_rollBack : MethodName := ⟨RX7, "rollBack", "(II)I"⟩
abbrev cX7_mix : ByteArray := prog_1_method_10_code
def yX7_mix : MethodName := ⟨RX7, "mix", "(II)I"⟩
abbrev cX7_sendLetter : ByteArray := prog_1_method_11_code
def yX7_sendLetter : MethodName := ⟨RX7, "sendLetter", "(II)I"⟩
abbrev cX7_readLetter : ByteArray := prog_1_method_12_code
def yX7_readLetter : MethodName := ⟨RX7, "readLetter", "(I)I"⟩
abbrev cX7_loseLetter : ByteArray := prog_1_method_13_code
def yX7_loseLetter : MethodName := ⟨RX7, "loseLetter", "(I)I"⟩
abbrev cX7_passProof : ByteArray := prog_1_method_14_code
def yX7_passProof : MethodName := ⟨RX7, "passProof", "(II)I"⟩
abbrev cX7_count : ByteArray := prog_1_method_15_code
def yX7_count : MethodName := ⟨RX7, "count", "(I)I"⟩
abbrev cX7_user : ByteArray := prog_1_method_16_code
def yX7_user : MethodName := ⟨RX7, "user", "(II)I"⟩
abbrev cX7_vector : ByteArray := prog_1_method_17_code
def yX7_vector : MethodName := ⟨RX7, "vector", "(III)I"⟩
abbrev cX7_entry : ByteArray := prog_1_method_18_code
def yX7_entry : MethodName := ⟨RX7, "entry", "(III)I"⟩
abbrev cX7_content : ByteArray := prog_1_method_19_code
def yX7_content : MethodName := ⟨RX7, "content", "(II)I"⟩
abbrev cX7_view : ByteArray := prog_1_method_20_code
def yX7_view : MethodName := ⟨RX7, "view", "(II)I"⟩
abbrev cX7_compare : ByteArray := prog_1_method_21_code
def yX7_compare : MethodName := ⟨RX7, "compare", "(IIZ)I"⟩
abbrev cX7_forkedPairs : ByteArray := prog_1_method_22_code
def yX7_forkedPairs : MethodName := ⟨RX7, "forkedPairs", "()I"⟩
abbrev cX7_tellingLetter : ByteArray := prog_1_method_23_code
def yX7_tellingLetter : MethodName := ⟨RX7, "tellingLetter", "()I"⟩
abbrev cX7_unaware : ByteArray := prog_1_method_24_code
def yX7_unaware : MethodName := ⟨RX7, "unaware", "()I"⟩
abbrev cX7_type : ByteArray := prog_1_method_25_code
def yX7_type : MethodName := ⟨RX7, "type", "(C)I"⟩
abbrev cX7_clearText : ByteArray := prog_1_method_26_code
def yX7_clearText : MethodName := ⟨RX7, "clearText", "()I"⟩
abbrev cX7_run : ByteArray := prog_1_method_27_code
def yX7_run : MethodName := ⟨RX7, "run", "()I"⟩
abbrev cX7_isUser : ByteArray := prog_1_method_28_code
def yX7_isUser : MethodName := ⟨RX7, "isUser", "(I)Z"⟩
abbrev cX7_isView : ByteArray := prog_1_method_29_code
def yX7_isView : MethodName := ⟨RX7, "isView", "(I)Z"⟩
abbrev cX7_contains : ByteArray := prog_1_method_30_code
def yX7_contains : MethodName := ⟨RX7, "contains", "(II)Z"⟩
abbrev cX7_oneIf : ByteArray := prog_1_method_31_code
def yX7_oneIf : MethodName := ⟨RX7, "oneIf", "(Z)I"⟩
abbrev cX7_entriesShownTo : ByteArray := prog_1_method_32_code
def yX7_entriesShownTo : MethodName := ⟨RX7, "entriesShownTo", "(I)LForkedStore$Entries;"⟩
abbrev cX7_usersAttachedTo : ByteArray := prog_1_method_33_code
def yX7_usersAttachedTo : MethodName := ⟨RX7, "usersAttachedTo", "(I)I"⟩
abbrev cX7_alarmAhead : ByteArray := prog_1_method_34_code
def yX7_alarmAhead : MethodName := ⟨RX7, "alarmAhead", "(I)I"⟩
abbrev cX7_operate : ByteArray := prog_1_method_35_code
def yX7_operate : MethodName := ⟨RX7, "operate", "(I)I"⟩
abbrev cX7_usersWithAlarm : ByteArray := prog_1_method_36_code
def yX7_usersWithAlarm : MethodName := ⟨RX7, "usersWithAlarm", "()I"⟩
abbrev cX7_usersWithProof : ByteArray := prog_1_method_37_code
def yX7_usersWithProof : MethodName := ⟨RX7, "usersWithProof", "()I"⟩
abbrev cX7_operationsOfAll : ByteArray := prog_1_method_38_code
def yX7_operationsOfAll : MethodName := ⟨RX7, "operationsOfAll", "()I"⟩
abbrev cX7_lettersInBoxes : ByteArray := prog_1_method_39_code
def yX7_lettersInBoxes : MethodName := ⟨RX7, "lettersInBoxes", "()I"⟩
abbrev cX7_knowForkedVectors : ByteArray := prog_1_method_40_code
def yX7_knowForkedVectors : MethodName := ⟨RX7, "knowForkedVectors", "(II)Z"⟩
abbrev cX7_isUnaware : ByteArray := prog_1_method_41_code
def yX7_isUnaware : MethodName := ⟨RX7, "isUnaware", "(I)Z"⟩
abbrev cX7_carryOut : ByteArray := prog_1_method_42_code
def yX7_carryOut : MethodName := ⟨RX7, "carryOut", "(III)Z"⟩
abbrev cX7_readLetters : ByteArray := prog_1_method_43_code
def yX7_readLetters : MethodName := ⟨RX7, "readLetters", "(II)Z"⟩
def RX8 : String := "ForkedStoreModel"
def TX8 : u_T := fun k => match k with
  | 0 => ("ForkedStoreModel", "users", "I", false)
  | 1 => ("ForkedStoreModel", "views", "I", false)
  | 2 => ("ForkedStoreModel", "operations", "I", false)
  | 3 => ("ForkedStoreModel", "row", "[I", true)
  | 4 => ("ForkedStoreModel", "keptOf", "[I", true)
  | 5 => ("ForkedStoreModel", "keptRow", "[I", true)
  | 6 => ("ForkedStoreModel", "viewOf", "[I", true)
  | 7 => ("ForkedStoreModel", "alarmOf", "[I", true)
  | 8 => ("ForkedStoreModel", "hasProof", "[Z", true)
  | 9 => ("ForkedStoreModel", "depthOf", "[I", true)
  | 10 => ("ForkedStoreModel", "proofOf", "[I", true)
  | 11 => ("ForkedStoreModel", "signedOf", "[I", true)
  | 12 => ("ForkedStoreModel", "knownOf", "[I", true)
  | 13 => ("ForkedStoreModel", "doneOf", "[I", true)
  | 14 => ("ForkedStoreModel", "shownTo", "[I", true)
  | 15 => ("ForkedStoreModel", "sentBy", "[I", true)
  | 16 => ("ForkedStoreModel", "hasRead", "[Z", true)
  | 17 => ("ForkedStoreModel", "readOf", "[I", true)
  | 18 => ("ForkedStoreModel", "lettersOf", "[I", true)
  | 19 => ("ForkedStoreModel", "letter", "[I", true)
  | 20 => ("ForkedStoreModel", "pairOne", "I", false)
  | 21 => ("ForkedStoreModel", "pairTwo", "I", false)
  | 22 => ("ForkedStoreModel", "hand", "[I", true)
  | 23 => ("ForkedStoreModel", "typed", "I", false)
  | _ => ("ForkedStoreModel", "text", "[C", true)
def tyX8 : Nat → FieldType := fun k => match k with
  | 0 => .int
  | 1 => .int
  | 2 => .int
  | 3 => .array .int
  | 4 => .array .int
  | 5 => .array .int
  | 6 => .array .int
  | 7 => .array .int
  | 8 => .array .boolean
  | 9 => .array .int
  | 10 => .array .int
  | 11 => .array .int
  | 12 => .array .int
  | 13 => .array .int
  | 14 => .array .int
  | 15 => .array .int
  | 16 => .array .boolean
  | 17 => .array .int
  | 18 => .array .int
  | 19 => .array .int
  | 20 => .int
  | 21 => .int
  | 22 => .array .int
  | 23 => .int
  | _ => .array .char
abbrev wsX80 : List Cond := u_ws RX8 TX8 25
theorem nmX8 : ∀ a, a < 25 → ∀ b, b < 25 → a ≠ b → (TX8 a).2.1 ≠ (TX8 b).2.1 := by decide +kernel
theorem tyX8_ok : ∀ k, k < 25 → parseFieldDescriptor (TX8 k).2.2.1 = some (tyX8 k) := by decide +kernel
abbrev cX8_init : ByteArray := prog_10_method_1_code
def yX8_init : MethodName := ⟨RX8, "<init>", "()V"⟩
abbrev cX8_in : ByteArray := prog_10_method_2_code
def yX8_in : MethodName := ⟨RX8, "in", "(III)Z"⟩
abbrev cX8_begin : ByteArray := prog_10_method_3_code
def yX8_begin : MethodName := ⟨RX8, "begin", "(I)V"⟩
abbrev cX8_reset : ByteArray := prog_10_method_4_code
def yX8_reset : MethodName := ⟨RX8, "reset", "(I)I"⟩
abbrev cX8_noUser : ByteArray := prog_10_method_5_code
def yX8_noUser : MethodName := ⟨RX8, "noUser", "(I)Z"⟩
abbrev cX8_noView : ByteArray := prog_10_method_6_code
def yX8_noView : MethodName := ⟨RX8, "noView", "(I)Z"⟩
abbrev cX8_atMost : ByteArray := prog_10_method_7_code
def yX8_atMost : MethodName := ⟨RX8, "atMost", "([II[II)Z"⟩
abbrev cX8_areApart : ByteArray := prog_10_method_8_code
def yX8_areApart : MethodName := ⟨RX8, "areApart", "([II[II)Z"⟩
abbrev cX8_copy : ByteArray := prog_10_method_9_code
def yX8_copy : MethodName := ⟨RX8, "copy", "([II[II)V"⟩
abbrev cX8_entryAt : ByteArray := prog_10_method_10_code
def yX8_entryAt : MethodName := ⟨RX8, "entryAt", "(II)I"⟩
abbrev cX8_greatest : ByteArray := prog_10_method_11_code
def yX8_greatest : MethodName := ⟨RX8, "greatest", "(I)I"⟩
abbrev cX8_alarmFor : ByteArray := prog_10_method_12_code
def yX8_alarmFor : MethodName := ⟨RX8, "alarmFor", "(I)I"⟩
abbrev cX8_proves : ByteArray := prog_10_method_13_code
def yX8_proves : MethodName := ⟨RX8, "proves", "(I[II[III)V"⟩
abbrev cX8_raises : ByteArray := prog_10_method_14_code
def yX8_raises : MethodName := ⟨RX8, "raises", "(II)V"⟩
abbrev cX8_remember : ByteArray := prog_10_method_15_code
def yX8_remember : MethodName := ⟨RX8, "remember", "(I)V"⟩
abbrev cX8_operate : ByteArray := prog_10_method_16_code
def yX8_operate : MethodName := ⟨RX8, "operate", "(I)I"⟩
abbrev cX8_write : ByteArray := prog_10_method_17_code
def yX8_write : MethodName := ⟨RX8, "write", "(II)I"⟩
abbrev cX8_read : ByteArray := prog_10_method_18_code
def yX8_read : MethodName := ⟨RX8, "read", "(II)I"⟩
abbrev cX8_lastRead : ByteArray := prog_10_method_19_code
def yX8_lastRead : MethodName := ⟨RX8, "lastRead", "(I)I"⟩
abbrev cX8_check : ByteArray := prog_10_method_20_code
def yX8_check : MethodName := ⟨RX8, "check", "(I)I"⟩
abbrev cX8_fork : ByteArray := prog_10_method_21_code
def yX8_fork : MethodName := ⟨RX8, "fork", "(II)I"⟩
abbrev cX8_attached : ByteArray := prog_10_method_22_code
def yX8_attached : MethodName := ⟨RX8, "attached", "(I)I"⟩
abbrev cX8_attach : ByteArray := prog_10_method_23_code
def yX8_attach : MethodName := ⟨RX8, "attach", "(II)I"⟩
abbrev cX8_rollBack : ByteArray := prog_10_method_24_code
def yX8_rollBack : MethodName := ⟨RX8, "rollBack", "(II)I"⟩
abbrev cX8_mix : ByteArray := prog_10_method_25_code
def yX8_mix : MethodName := ⟨RX8, "mix", "(II)I"⟩
abbrev cX8_sendLetter : ByteArray := prog_10_method_26_code
def yX8_sendLetter : MethodName := ⟨RX8, "sendLetter", "(II)I"⟩
abbrev cX8_takesLetter : ByteArray := prog_10_method_27_code
def yX8_takesLetter : MethodName := ⟨RX8, "takesLetter", "(I)V"⟩
abbrev cX8_readLetter : ByteArray := prog_10_method_28_code
def yX8_readLetter : MethodName := ⟨RX8, "readLetter", "(I)I"⟩
abbrev cX8_loseLetter : ByteArray := prog_10_method_29_code
def yX8_loseLetter : MethodName := ⟨RX8, "loseLetter", "(I)I"⟩
abbrev cX8_passProof : ByteArray := prog_10_method_30_code
def yX8_passProof : MethodName := ⟨RX8, "passProof", "(II)I"⟩
abbrev cX8_count : ByteArray := prog_10_method_31_code
def yX8_count : MethodName := ⟨RX8, "count", "(I)I"⟩
abbrev cX8_user : ByteArray := prog_10_method_32_code
def yX8_user : MethodName := ⟨RX8, "user", "(II)I"⟩
abbrev cX8_vector : ByteArray := prog_10_method_33_code
def yX8_vector : MethodName := ⟨RX8, "vector", "(III)I"⟩
abbrev cX8_entry : ByteArray := prog_10_method_34_code
def yX8_entry : MethodName := ⟨RX8, "entry", "(III)I"⟩
abbrev cX8_content : ByteArray := prog_10_method_35_code
def yX8_content : MethodName := ⟨RX8, "content", "(II)I"⟩
abbrev cX8_view : ByteArray := prog_10_method_36_code
def yX8_view : MethodName := ⟨RX8, "view", "(II)I"⟩
abbrev cX8_compared : ByteArray := prog_10_method_37_code
def yX8_compared : MethodName := ⟨RX8, "compared", "([III)I"⟩
abbrev cX8_compare : ByteArray := prog_10_method_38_code
def yX8_compare : MethodName := ⟨RX8, "compare", "(IIZ)I"⟩
abbrev cX8_forkedPairs : ByteArray := prog_10_method_39_code
def yX8_forkedPairs : MethodName := ⟨RX8, "forkedPairs", "()I"⟩
abbrev cX8_tellingLetter : ByteArray := prog_10_method_40_code
def yX8_tellingLetter : MethodName := ⟨RX8, "tellingLetter", "()I"⟩
abbrev cX8_unaware : ByteArray := prog_10_method_41_code
def yX8_unaware : MethodName := ⟨RX8, "unaware", "()I"⟩
abbrev cX8_type : ByteArray := prog_10_method_42_code
def yX8_type : MethodName := ⟨RX8, "type", "(C)I"⟩
abbrev cX8_clearText : ByteArray := prog_10_method_43_code
def yX8_clearText : MethodName := ⟨RX8, "clearText", "()I"⟩
abbrev cX8_isCommand : ByteArray := prog_10_method_44_code
def yX8_isCommand : MethodName := ⟨RX8, "isCommand", "(C)Z"⟩
abbrev cX8_fault : ByteArray := prog_10_method_45_code
def yX8_fault : MethodName := ⟨RX8, "fault", "()I"⟩
abbrev cX8_carries : ByteArray := prog_10_method_46_code
def yX8_carries : MethodName := ⟨RX8, "carries", "(CII)Z"⟩
abbrev cX8_run : ByteArray := prog_10_method_47_code
def yX8_run : MethodName := ⟨RX8, "run", "()I"⟩
def RL : String := "ForkedStoreLaw"
abbrev cL_law : ByteArray := code
def yL_law : MethodName := ⟨RL, "law", "([I)Z"⟩
abbrev vwCl : List vw_C := [(RX0, TX0, 2), (RX1, TX1, 2), (RX2, TX2, 11), (RX3, TX3, 4), (RX4, TX4, 2), (RX5, TX5, 1), (RX6, TX6, 4), (RX7, TX7, 5), (RX8, TX8, 25)]
end
section
theorem dL_law_0 : decode cL_law 0 = .ok (.new 7, 3) := by decide +kernel
theorem dL_law_3 : decode cL_law 3 = .ok (.dup, 1) := by decide +kernel
theorem dL_law_4 : decode cL_law 4 = .ok (.invokespecial 9, 3) := by decide +kernel
theorem dL_law_7 : decode cL_law 7 = .ok (.astore_n 1, 1) := by decide +kernel
theorem dL_law_8 : decode cL_law 8 = .ok (.new 10, 3) := by decide +kernel
theorem dL_law_11 : decode cL_law 11 = .ok (.dup, 1) := by decide +kernel
theorem dL_law_12 : decode cL_law 12 = .ok (.invokespecial 12, 3) := by decide +kernel
theorem dL_law_15 : decode cL_law 15 = .ok (.astore_n 2, 1) := by decide +kernel
theorem dL_law_16 : decode cL_law 16 = .ok (.iconst 0, 1) := by decide +kernel
theorem dL_law_17 : decode cL_law 17 = .ok (.istore_n 3, 1) := by decide +kernel
theorem dL_law_18 : decode cL_law 18 = .ok (.iload_n 3, 1) := by decide +kernel
theorem dL_law_19 : decode cL_law 19 = .ok (.aload_n 0, 1) := by decide +kernel
theorem dL_law_20 : decode cL_law 20 = .ok (.arraylength, 1) := by decide +kernel
theorem dL_law_21 : decode cL_law 21 = .ok (.iconst 4, 1) := by decide +kernel
theorem dL_law_22 : decode cL_law 22 = .ok (.isub, 1) := by decide +kernel
theorem dL_law_23 : decode cL_law 23 = .ok (.if_icmp .gt 871, 3) := by decide +kernel
theorem dL_law_26 : decode cL_law 26 = .ok (.aload_n 0, 1) := by decide +kernel
theorem dL_law_27 : decode cL_law 27 = .ok (.iload_n 3, 1) := by decide +kernel
theorem dL_law_28 : decode cL_law 28 = .ok (.iaload, 1) := by decide +kernel
theorem dL_law_29 : decode cL_law 29 = .ok (.bipush 31, 2) := by decide +kernel
theorem dL_law_31 : decode cL_law 31 = .ok (.iand, 1) := by decide +kernel
theorem dL_law_32 : decode cL_law 32 = .ok (.tableswitch 856 0 25 #[120, 143, 176, 209, 232, 255, 288, 321, 354, 387, 420, 443, 466, 499, 522, 555, 598, 641, 674, 707, 766, 779, 792, 805, 830, 843], 120) := by decide +kernel
theorem dL_law_152 : decode cL_law 152 = .ok (.aload_n 1, 1) := by decide +kernel
theorem dL_law_153 : decode cL_law 153 = .ok (.aload_n 0, 1) := by decide +kernel
theorem dL_law_154 : decode cL_law 154 = .ok (.iload_n 3, 1) := by decide +kernel
theorem dL_law_155 : decode cL_law 155 = .ok (.iconst 1, 1) := by decide +kernel
theorem dL_law_156 : decode cL_law 156 = .ok (.iadd, 1) := by decide +kernel
theorem dL_law_157 : decode cL_law 157 = .ok (.iaload, 1) := by decide +kernel
theorem dL_law_158 : decode cL_law 158 = .ok (.invokevirtual 13, 3) := by decide +kernel
theorem dL_law_161 : decode cL_law 161 = .ok (.aload_n 2, 1) := by decide +kernel
theorem dL_law_162 : decode cL_law 162 = .ok (.aload_n 0, 1) := by decide +kernel
theorem dL_law_163 : decode cL_law 163 = .ok (.iload_n 3, 1) := by decide +kernel
theorem dL_law_164 : decode cL_law 164 = .ok (.iconst 1, 1) := by decide +kernel
theorem dL_law_165 : decode cL_law 165 = .ok (.iadd, 1) := by decide +kernel
theorem dL_law_166 : decode cL_law 166 = .ok (.iaload, 1) := by decide +kernel
theorem dL_law_167 : decode cL_law 167 = .ok (.invokevirtual 17, 3) := by decide +kernel
theorem dL_law_170 : decode cL_law 170 = .ok (.if_icmp .eq 718, 3) := by decide +kernel
theorem dL_law_173 : decode cL_law 173 = .ok (.iconst 0, 1) := by decide +kernel
theorem dL_law_174 : decode cL_law 174 = .ok (.ireturn, 1) := by decide +kernel
theorem dL_law_175 : decode cL_law 175 = .ok (.aload_n 1, 1) := by decide +kernel
theorem dL_law_176 : decode cL_law 176 = .ok (.aload_n 0, 1) := by decide +kernel
theorem dL_law_177 : decode cL_law 177 = .ok (.iload_n 3, 1) := by decide +kernel
theorem dL_law_178 : decode cL_law 178 = .ok (.iconst 1, 1) := by decide +kernel
theorem dL_law_179 : decode cL_law 179 = .ok (.iadd, 1) := by decide +kernel
theorem dL_law_180 : decode cL_law 180 = .ok (.iaload, 1) := by decide +kernel
theorem dL_law_181 : decode cL_law 181 = .ok (.aload_n 0, 1) := by decide +kernel
theorem dL_law_182 : decode cL_law 182 = .ok (.iload_n 3, 1) := by decide +kernel
theorem dL_law_183 : decode cL_law 183 = .ok (.iconst 2, 1) := by decide +kernel
theorem dL_law_184 : decode cL_law 184 = .ok (.iadd, 1) := by decide +kernel
theorem dL_law_185 : decode cL_law 185 = .ok (.iaload, 1) := by decide +kernel
theorem dL_law_186 : decode cL_law 186 = .ok (.invokevirtual 18, 3) := by decide +kernel
theorem dL_law_189 : decode cL_law 189 = .ok (.aload_n 2, 1) := by decide +kernel
theorem dL_law_190 : decode cL_law 190 = .ok (.aload_n 0, 1) := by decide +kernel
theorem dL_law_191 : decode cL_law 191 = .ok (.iload_n 3, 1) := by decide +kernel
theorem dL_law_192 : decode cL_law 192 = .ok (.iconst 1, 1) := by decide +kernel
theorem dL_law_193 : decode cL_law 193 = .ok (.iadd, 1) := by decide +kernel
theorem dL_law_194 : decode cL_law 194 = .ok (.iaload, 1) := by decide +kernel
theorem dL_law_195 : decode cL_law 195 = .ok (.aload_n 0, 1) := by decide +kernel
theorem dL_law_196 : decode cL_law 196 = .ok (.iload_n 3, 1) := by decide +kernel
theorem dL_law_197 : decode cL_law 197 = .ok (.iconst 2, 1) := by decide +kernel
theorem dL_law_198 : decode cL_law 198 = .ok (.iadd, 1) := by decide +kernel
theorem dL_law_199 : decode cL_law 199 = .ok (.iaload, 1) := by decide +kernel
theorem dL_law_200 : decode cL_law 200 = .ok (.invokevirtual 22, 3) := by decide +kernel
theorem dL_law_203 : decode cL_law 203 = .ok (.if_icmp .eq 685, 3) := by decide +kernel
theorem dL_law_206 : decode cL_law 206 = .ok (.iconst 0, 1) := by decide +kernel
theorem dL_law_207 : decode cL_law 207 = .ok (.ireturn, 1) := by decide +kernel
theorem dL_law_208 : decode cL_law 208 = .ok (.aload_n 1, 1) := by decide +kernel
theorem dL_law_209 : decode cL_law 209 = .ok (.aload_n 0, 1) := by decide +kernel
theorem dL_law_210 : decode cL_law 210 = .ok (.iload_n 3, 1) := by decide +kernel
theorem dL_law_211 : decode cL_law 211 = .ok (.iconst 1, 1) := by decide +kernel
theorem dL_law_212 : decode cL_law 212 = .ok (.iadd, 1) := by decide +kernel
theorem dL_law_213 : decode cL_law 213 = .ok (.iaload, 1) := by decide +kernel
theorem dL_law_214 : decode cL_law 214 = .ok (.aload_n 0, 1) := by decide +kernel
theorem dL_law_215 : decode cL_law 215 = .ok (.iload_n 3, 1) := by decide +kernel
theorem dL_law_216 : decode cL_law 216 = .ok (.iconst 2, 1) := by decide +kernel
theorem dL_law_217 : decode cL_law 217 = .ok (.iadd, 1) := by decide +kernel
theorem dL_law_218 : decode cL_law 218 = .ok (.iaload, 1) := by decide +kernel
theorem dL_law_219 : decode cL_law 219 = .ok (.invokevirtual 23, 3) := by decide +kernel
theorem dL_law_222 : decode cL_law 222 = .ok (.aload_n 2, 1) := by decide +kernel
theorem dL_law_223 : decode cL_law 223 = .ok (.aload_n 0, 1) := by decide +kernel
theorem dL_law_224 : decode cL_law 224 = .ok (.iload_n 3, 1) := by decide +kernel
theorem dL_law_225 : decode cL_law 225 = .ok (.iconst 1, 1) := by decide +kernel
theorem dL_law_226 : decode cL_law 226 = .ok (.iadd, 1) := by decide +kernel
theorem dL_law_227 : decode cL_law 227 = .ok (.iaload, 1) := by decide +kernel
theorem dL_law_228 : decode cL_law 228 = .ok (.aload_n 0, 1) := by decide +kernel
theorem dL_law_229 : decode cL_law 229 = .ok (.iload_n 3, 1) := by decide +kernel
theorem dL_law_230 : decode cL_law 230 = .ok (.iconst 2, 1) := by decide +kernel
theorem dL_law_231 : decode cL_law 231 = .ok (.iadd, 1) := by decide +kernel
theorem dL_law_232 : decode cL_law 232 = .ok (.iaload, 1) := by decide +kernel
theorem dL_law_233 : decode cL_law 233 = .ok (.invokevirtual 26, 3) := by decide +kernel
theorem dL_law_236 : decode cL_law 236 = .ok (.if_icmp .eq 652, 3) := by decide +kernel
theorem dL_law_239 : decode cL_law 239 = .ok (.iconst 0, 1) := by decide +kernel
theorem dL_law_240 : decode cL_law 240 = .ok (.ireturn, 1) := by decide +kernel
theorem dL_law_241 : decode cL_law 241 = .ok (.aload_n 1, 1) := by decide +kernel
theorem dL_law_242 : decode cL_law 242 = .ok (.aload_n 0, 1) := by decide +kernel
theorem dL_law_243 : decode cL_law 243 = .ok (.iload_n 3, 1) := by decide +kernel
theorem dL_law_244 : decode cL_law 244 = .ok (.iconst 1, 1) := by decide +kernel
theorem dL_law_245 : decode cL_law 245 = .ok (.iadd, 1) := by decide +kernel
theorem dL_law_246 : decode cL_law 246 = .ok (.iaload, 1) := by decide +kernel
theorem dL_law_247 : decode cL_law 247 = .ok (.invokevirtual 27, 3) := by decide +kernel
theorem dL_law_250 : decode cL_law 250 = .ok (.aload_n 2, 1) := by decide +kernel
theorem dL_law_251 : decode cL_law 251 = .ok (.aload_n 0, 1) := by decide +kernel
theorem dL_law_252 : decode cL_law 252 = .ok (.iload_n 3, 1) := by decide +kernel
theorem dL_law_253 : decode cL_law 253 = .ok (.iconst 1, 1) := by decide +kernel
theorem dL_law_254 : decode cL_law 254 = .ok (.iadd, 1) := by decide +kernel
theorem dL_law_255 : decode cL_law 255 = .ok (.iaload, 1) := by decide +kernel
theorem dL_law_256 : decode cL_law 256 = .ok (.invokevirtual 30, 3) := by decide +kernel
theorem dL_law_259 : decode cL_law 259 = .ok (.if_icmp .eq 629, 3) := by decide +kernel
theorem dL_law_262 : decode cL_law 262 = .ok (.iconst 0, 1) := by decide +kernel
theorem dL_law_263 : decode cL_law 263 = .ok (.ireturn, 1) := by decide +kernel
theorem dL_law_264 : decode cL_law 264 = .ok (.aload_n 1, 1) := by decide +kernel
theorem dL_law_265 : decode cL_law 265 = .ok (.aload_n 0, 1) := by decide +kernel
theorem dL_law_266 : decode cL_law 266 = .ok (.iload_n 3, 1) := by decide +kernel
theorem dL_law_267 : decode cL_law 267 = .ok (.iconst 1, 1) := by decide +kernel
theorem dL_law_268 : decode cL_law 268 = .ok (.iadd, 1) := by decide +kernel
theorem dL_law_269 : decode cL_law 269 = .ok (.iaload, 1) := by decide +kernel
theorem dL_law_270 : decode cL_law 270 = .ok (.invokevirtual 31, 3) := by decide +kernel
theorem dL_law_273 : decode cL_law 273 = .ok (.aload_n 2, 1) := by decide +kernel
theorem dL_law_274 : decode cL_law 274 = .ok (.aload_n 0, 1) := by decide +kernel
theorem dL_law_275 : decode cL_law 275 = .ok (.iload_n 3, 1) := by decide +kernel
theorem dL_law_276 : decode cL_law 276 = .ok (.iconst 1, 1) := by decide +kernel
theorem dL_law_277 : decode cL_law 277 = .ok (.iadd, 1) := by decide +kernel
theorem dL_law_278 : decode cL_law 278 = .ok (.iaload, 1) := by decide +kernel
theorem dL_law_279 : decode cL_law 279 = .ok (.invokevirtual 34, 3) := by decide +kernel
theorem dL_law_282 : decode cL_law 282 = .ok (.if_icmp .eq 606, 3) := by decide +kernel
theorem dL_law_285 : decode cL_law 285 = .ok (.iconst 0, 1) := by decide +kernel
theorem dL_law_286 : decode cL_law 286 = .ok (.ireturn, 1) := by decide +kernel
theorem dL_law_287 : decode cL_law 287 = .ok (.aload_n 1, 1) := by decide +kernel
theorem dL_law_288 : decode cL_law 288 = .ok (.aload_n 0, 1) := by decide +kernel
theorem dL_law_289 : decode cL_law 289 = .ok (.iload_n 3, 1) := by decide +kernel
theorem dL_law_290 : decode cL_law 290 = .ok (.iconst 1, 1) := by decide +kernel
theorem dL_law_291 : decode cL_law 291 = .ok (.iadd, 1) := by decide +kernel
theorem dL_law_292 : decode cL_law 292 = .ok (.iaload, 1) := by decide +kernel
theorem dL_law_293 : decode cL_law 293 = .ok (.aload_n 0, 1) := by decide +kernel
theorem dL_law_294 : decode cL_law 294 = .ok (.iload_n 3, 1) := by decide +kernel
theorem dL_law_295 : decode cL_law 295 = .ok (.iconst 2, 1) := by decide +kernel
theorem dL_law_296 : decode cL_law 296 = .ok (.iadd, 1) := by decide +kernel
theorem dL_law_297 : decode cL_law 297 = .ok (.iaload, 1) := by decide +kernel
theorem dL_law_298 : decode cL_law 298 = .ok (.invokevirtual 35, 3) := by decide +kernel
theorem dL_law_301 : decode cL_law 301 = .ok (.aload_n 2, 1) := by decide +kernel
theorem dL_law_302 : decode cL_law 302 = .ok (.aload_n 0, 1) := by decide +kernel
theorem dL_law_303 : decode cL_law 303 = .ok (.iload_n 3, 1) := by decide +kernel
theorem dL_law_304 : decode cL_law 304 = .ok (.iconst 1, 1) := by decide +kernel
theorem dL_law_305 : decode cL_law 305 = .ok (.iadd, 1) := by decide +kernel
theorem dL_law_306 : decode cL_law 306 = .ok (.iaload, 1) := by decide +kernel
theorem dL_law_307 : decode cL_law 307 = .ok (.aload_n 0, 1) := by decide +kernel
theorem dL_law_308 : decode cL_law 308 = .ok (.iload_n 3, 1) := by decide +kernel
theorem dL_law_309 : decode cL_law 309 = .ok (.iconst 2, 1) := by decide +kernel
theorem dL_law_310 : decode cL_law 310 = .ok (.iadd, 1) := by decide +kernel
theorem dL_law_311 : decode cL_law 311 = .ok (.iaload, 1) := by decide +kernel
theorem dL_law_312 : decode cL_law 312 = .ok (.invokevirtual 38, 3) := by decide +kernel
theorem dL_law_315 : decode cL_law 315 = .ok (.if_icmp .eq 573, 3) := by decide +kernel
theorem dL_law_318 : decode cL_law 318 = .ok (.iconst 0, 1) := by decide +kernel
theorem dL_law_319 : decode cL_law 319 = .ok (.ireturn, 1) := by decide +kernel
theorem dL_law_320 : decode cL_law 320 = .ok (.aload_n 1, 1) := by decide +kernel
theorem dL_law_321 : decode cL_law 321 = .ok (.aload_n 0, 1) := by decide +kernel
theorem dL_law_322 : decode cL_law 322 = .ok (.iload_n 3, 1) := by decide +kernel
theorem dL_law_323 : decode cL_law 323 = .ok (.iconst 1, 1) := by decide +kernel
theorem dL_law_324 : decode cL_law 324 = .ok (.iadd, 1) := by decide +kernel
theorem dL_law_325 : decode cL_law 325 = .ok (.iaload, 1) := by decide +kernel
theorem dL_law_326 : decode cL_law 326 = .ok (.aload_n 0, 1) := by decide +kernel
theorem dL_law_327 : decode cL_law 327 = .ok (.iload_n 3, 1) := by decide +kernel
theorem dL_law_328 : decode cL_law 328 = .ok (.iconst 2, 1) := by decide +kernel
theorem dL_law_329 : decode cL_law 329 = .ok (.iadd, 1) := by decide +kernel
theorem dL_law_330 : decode cL_law 330 = .ok (.iaload, 1) := by decide +kernel
theorem dL_law_331 : decode cL_law 331 = .ok (.invokevirtual 39, 3) := by decide +kernel
theorem dL_law_334 : decode cL_law 334 = .ok (.aload_n 2, 1) := by decide +kernel
theorem dL_law_335 : decode cL_law 335 = .ok (.aload_n 0, 1) := by decide +kernel
theorem dL_law_336 : decode cL_law 336 = .ok (.iload_n 3, 1) := by decide +kernel
theorem dL_law_337 : decode cL_law 337 = .ok (.iconst 1, 1) := by decide +kernel
theorem dL_law_338 : decode cL_law 338 = .ok (.iadd, 1) := by decide +kernel
theorem dL_law_339 : decode cL_law 339 = .ok (.iaload, 1) := by decide +kernel
theorem dL_law_340 : decode cL_law 340 = .ok (.aload_n 0, 1) := by decide +kernel
theorem dL_law_341 : decode cL_law 341 = .ok (.iload_n 3, 1) := by decide +kernel
theorem dL_law_342 : decode cL_law 342 = .ok (.iconst 2, 1) := by decide +kernel
theorem dL_law_343 : decode cL_law 343 = .ok (.iadd, 1) := by decide +kernel
theorem dL_law_344 : decode cL_law 344 = .ok (.iaload, 1) := by decide +kernel
theorem dL_law_345 : decode cL_law 345 = .ok (.invokevirtual 42, 3) := by decide +kernel
theorem dL_law_348 : decode cL_law 348 = .ok (.if_icmp .eq 540, 3) := by decide +kernel
theorem dL_law_351 : decode cL_law 351 = .ok (.iconst 0, 1) := by decide +kernel
theorem dL_law_352 : decode cL_law 352 = .ok (.ireturn, 1) := by decide +kernel
theorem dL_law_353 : decode cL_law 353 = .ok (.aload_n 1, 1) := by decide +kernel
theorem dL_law_354 : decode cL_law 354 = .ok (.aload_n 0, 1) := by decide +kernel
theorem dL_law_355 : decode cL_law 355 = .ok (.iload_n 3, 1) := by decide +kernel
theorem dL_law_356 : decode cL_law 356 = .ok (.iconst 1, 1) := by decide +kernel
theorem dL_law_357 : decode cL_law 357 = .ok (.iadd, 1) := by decide +kernel
theorem dL_law_358 : decode cL_law 358 = .ok (.iaload, 1) := by decide +kernel
theorem dL_law_359 : decode cL_law 359 = .ok (.aload_n 0, 1) := by decide +kernel
theorem dL_law_360 : decode cL_law 360 = .ok (.iload_n 3, 1) := by decide +kernel
theorem dL_law_361 : decode cL_law 361 = .ok (.iconst 2, 1) := by decide +kernel
theorem dL_law_362 : decode cL_law 362 = .ok (.iadd, 1) := by decide +kernel
theorem dL_law_363 : decode cL_law 363 = .ok (.iaload, 1) := by decide +kernel
theorem dL_law_364 : decode cL_law 364 = .ok (.invokevirtual 43, 3) := by decide +kernel
theorem dL_law_367 : decode cL_law 367 = .ok (.aload_n 2, 1) := by decide +kernel
theorem dL_law_368 : decode cL_law 368 = .ok (.aload_n 0, 1) := by decide +kernel
theorem dL_law_369 : decode cL_law 369 = .ok (.iload_n 3, 1) := by decide +kernel
theorem dL_law_370 : decode cL_law 370 = .ok (.iconst 1, 1) := by decide +kernel
theorem dL_law_371 : decode cL_law 371 = .ok (.iadd, 1) := by decide +kernel
theorem dL_law_372 : decode cL_law 372 = .ok (.iaload, 1) := by decide +kernel
theorem dL_law_373 : decode cL_law 373 = .ok (.aload_n 0, 1) := by decide +kernel
theorem dL_law_374 : decode cL_law 374 = .ok (.iload_n 3, 1) := by decide +kernel
theorem dL_law_375 : decode cL_law 375 = .ok (.iconst 2, 1) := by decide +kernel
theorem dL_law_376 : decode cL_law 376 = .ok (.iadd, 1) := by decide +kernel
theorem dL_law_377 : decode cL_law 377 = .ok (.iaload, 1) := by decide +kernel
theorem dL_law_378 : decode cL_law 378 = .ok (.invokevirtual 46, 3) := by decide +kernel
theorem dL_law_381 : decode cL_law 381 = .ok (.if_icmp .eq 507, 3) := by decide +kernel
theorem dL_law_384 : decode cL_law 384 = .ok (.iconst 0, 1) := by decide +kernel
theorem dL_law_385 : decode cL_law 385 = .ok (.ireturn, 1) := by decide +kernel
theorem dL_law_386 : decode cL_law 386 = .ok (.aload_n 1, 1) := by decide +kernel
theorem dL_law_387 : decode cL_law 387 = .ok (.aload_n 0, 1) := by decide +kernel
theorem dL_law_388 : decode cL_law 388 = .ok (.iload_n 3, 1) := by decide +kernel
theorem dL_law_389 : decode cL_law 389 = .ok (.iconst 1, 1) := by decide +kernel
theorem dL_law_390 : decode cL_law 390 = .ok (.iadd, 1) := by decide +kernel
theorem dL_law_391 : decode cL_law 391 = .ok (.iaload, 1) := by decide +kernel
theorem dL_law_392 : decode cL_law 392 = .ok (.aload_n 0, 1) := by decide +kernel
theorem dL_law_393 : decode cL_law 393 = .ok (.iload_n 3, 1) := by decide +kernel
theorem dL_law_394 : decode cL_law 394 = .ok (.iconst 2, 1) := by decide +kernel
theorem dL_law_395 : decode cL_law 395 = .ok (.iadd, 1) := by decide +kernel
theorem dL_law_396 : decode cL_law 396 = .ok (.iaload, 1) := by decide +kernel
theorem dL_law_397 : decode cL_law 397 = .ok (.invokevirtual 47, 3) := by decide +kernel
theorem dL_law_400 : decode cL_law 400 = .ok (.aload_n 2, 1) := by decide +kernel
theorem dL_law_401 : decode cL_law 401 = .ok (.aload_n 0, 1) := by decide +kernel
theorem dL_law_402 : decode cL_law 402 = .ok (.iload_n 3, 1) := by decide +kernel
theorem dL_law_403 : decode cL_law 403 = .ok (.iconst 1, 1) := by decide +kernel
theorem dL_law_404 : decode cL_law 404 = .ok (.iadd, 1) := by decide +kernel
theorem dL_law_405 : decode cL_law 405 = .ok (.iaload, 1) := by decide +kernel
theorem dL_law_406 : decode cL_law 406 = .ok (.aload_n 0, 1) := by decide +kernel
theorem dL_law_407 : decode cL_law 407 = .ok (.iload_n 3, 1) := by decide +kernel
theorem dL_law_408 : decode cL_law 408 = .ok (.iconst 2, 1) := by decide +kernel
theorem dL_law_409 : decode cL_law 409 = .ok (.iadd, 1) := by decide +kernel
theorem dL_law_410 : decode cL_law 410 = .ok (.iaload, 1) := by decide +kernel
theorem dL_law_411 : decode cL_law 411 = .ok (.invokevirtual 50, 3) := by decide +kernel
theorem dL_law_414 : decode cL_law 414 = .ok (.if_icmp .eq 474, 3) := by decide +kernel
theorem dL_law_417 : decode cL_law 417 = .ok (.iconst 0, 1) := by decide +kernel
theorem dL_law_418 : decode cL_law 418 = .ok (.ireturn, 1) := by decide +kernel
theorem dL_law_419 : decode cL_law 419 = .ok (.aload_n 1, 1) := by decide +kernel
theorem dL_law_420 : decode cL_law 420 = .ok (.aload_n 0, 1) := by decide +kernel
theorem dL_law_421 : decode cL_law 421 = .ok (.iload_n 3, 1) := by decide +kernel
theorem dL_law_422 : decode cL_law 422 = .ok (.iconst 1, 1) := by decide +kernel
theorem dL_law_423 : decode cL_law 423 = .ok (.iadd, 1) := by decide +kernel
theorem dL_law_424 : decode cL_law 424 = .ok (.iaload, 1) := by decide +kernel
theorem dL_law_425 : decode cL_law 425 = .ok (.aload_n 0, 1) := by decide +kernel
theorem dL_law_426 : decode cL_law 426 = .ok (.iload_n 3, 1) := by decide +kernel
theorem dL_law_427 : decode cL_law 427 = .ok (.iconst 2, 1) := by decide +kernel
theorem dL_law_428 : decode cL_law 428 = .ok (.iadd, 1) := by decide +kernel
theorem dL_law_429 : decode cL_law 429 = .ok (.iaload, 1) := by decide +kernel
theorem dL_law_430 : decode cL_law 430 = .ok (.invokevirtual 51, 3) := by decide +kernel
theorem dL_law_433 : decode cL_law 433 = .ok (.aload_n 2, 1) := by decide +kernel
theorem dL_law_434 : decode cL_law 434 = .ok (.aload_n 0, 1) := by decide +kernel
theorem dL_law_435 : decode cL_law 435 = .ok (.iload_n 3, 1) := by decide +kernel
theorem dL_law_436 : decode cL_law 436 = .ok (.iconst 1, 1) := by decide +kernel
theorem dL_law_437 : decode cL_law 437 = .ok (.iadd, 1) := by decide +kernel
theorem dL_law_438 : decode cL_law 438 = .ok (.iaload, 1) := by decide +kernel
theorem dL_law_439 : decode cL_law 439 = .ok (.aload_n 0, 1) := by decide +kernel
theorem dL_law_440 : decode cL_law 440 = .ok (.iload_n 3, 1) := by decide +kernel
theorem dL_law_441 : decode cL_law 441 = .ok (.iconst 2, 1) := by decide +kernel
theorem dL_law_442 : decode cL_law 442 = .ok (.iadd, 1) := by decide +kernel
theorem dL_law_443 : decode cL_law 443 = .ok (.iaload, 1) := by decide +kernel
theorem dL_law_444 : decode cL_law 444 = .ok (.invokevirtual 54, 3) := by decide +kernel
theorem dL_law_447 : decode cL_law 447 = .ok (.if_icmp .eq 441, 3) := by decide +kernel
theorem dL_law_450 : decode cL_law 450 = .ok (.iconst 0, 1) := by decide +kernel
theorem dL_law_451 : decode cL_law 451 = .ok (.ireturn, 1) := by decide +kernel
theorem dL_law_452 : decode cL_law 452 = .ok (.aload_n 1, 1) := by decide +kernel
theorem dL_law_453 : decode cL_law 453 = .ok (.aload_n 0, 1) := by decide +kernel
theorem dL_law_454 : decode cL_law 454 = .ok (.iload_n 3, 1) := by decide +kernel
theorem dL_law_455 : decode cL_law 455 = .ok (.iconst 1, 1) := by decide +kernel
theorem dL_law_456 : decode cL_law 456 = .ok (.iadd, 1) := by decide +kernel
theorem dL_law_457 : decode cL_law 457 = .ok (.iaload, 1) := by decide +kernel
theorem dL_law_458 : decode cL_law 458 = .ok (.invokevirtual 55, 3) := by decide +kernel
theorem dL_law_461 : decode cL_law 461 = .ok (.aload_n 2, 1) := by decide +kernel
theorem dL_law_462 : decode cL_law 462 = .ok (.aload_n 0, 1) := by decide +kernel
theorem dL_law_463 : decode cL_law 463 = .ok (.iload_n 3, 1) := by decide +kernel
theorem dL_law_464 : decode cL_law 464 = .ok (.iconst 1, 1) := by decide +kernel
theorem dL_law_465 : decode cL_law 465 = .ok (.iadd, 1) := by decide +kernel
theorem dL_law_466 : decode cL_law 466 = .ok (.iaload, 1) := by decide +kernel
theorem dL_law_467 : decode cL_law 467 = .ok (.invokevirtual 58, 3) := by decide +kernel
theorem dL_law_470 : decode cL_law 470 = .ok (.if_icmp .eq 418, 3) := by decide +kernel
theorem dL_law_473 : decode cL_law 473 = .ok (.iconst 0, 1) := by decide +kernel
theorem dL_law_474 : decode cL_law 474 = .ok (.ireturn, 1) := by decide +kernel
theorem dL_law_475 : decode cL_law 475 = .ok (.aload_n 1, 1) := by decide +kernel
theorem dL_law_476 : decode cL_law 476 = .ok (.aload_n 0, 1) := by decide +kernel
theorem dL_law_477 : decode cL_law 477 = .ok (.iload_n 3, 1) := by decide +kernel
theorem dL_law_478 : decode cL_law 478 = .ok (.iconst 1, 1) := by decide +kernel
theorem dL_law_479 : decode cL_law 479 = .ok (.iadd, 1) := by decide +kernel
theorem dL_law_480 : decode cL_law 480 = .ok (.iaload, 1) := by decide +kernel
theorem dL_law_481 : decode cL_law 481 = .ok (.invokevirtual 59, 3) := by decide +kernel
theorem dL_law_484 : decode cL_law 484 = .ok (.aload_n 2, 1) := by decide +kernel
theorem dL_law_485 : decode cL_law 485 = .ok (.aload_n 0, 1) := by decide +kernel
theorem dL_law_486 : decode cL_law 486 = .ok (.iload_n 3, 1) := by decide +kernel
theorem dL_law_487 : decode cL_law 487 = .ok (.iconst 1, 1) := by decide +kernel
theorem dL_law_488 : decode cL_law 488 = .ok (.iadd, 1) := by decide +kernel
theorem dL_law_489 : decode cL_law 489 = .ok (.iaload, 1) := by decide +kernel
theorem dL_law_490 : decode cL_law 490 = .ok (.invokevirtual 62, 3) := by decide +kernel
theorem dL_law_493 : decode cL_law 493 = .ok (.if_icmp .eq 395, 3) := by decide +kernel
theorem dL_law_496 : decode cL_law 496 = .ok (.iconst 0, 1) := by decide +kernel
theorem dL_law_497 : decode cL_law 497 = .ok (.ireturn, 1) := by decide +kernel
theorem dL_law_498 : decode cL_law 498 = .ok (.aload_n 1, 1) := by decide +kernel
theorem dL_law_499 : decode cL_law 499 = .ok (.aload_n 0, 1) := by decide +kernel
theorem dL_law_500 : decode cL_law 500 = .ok (.iload_n 3, 1) := by decide +kernel
theorem dL_law_501 : decode cL_law 501 = .ok (.iconst 1, 1) := by decide +kernel
theorem dL_law_502 : decode cL_law 502 = .ok (.iadd, 1) := by decide +kernel
theorem dL_law_503 : decode cL_law 503 = .ok (.iaload, 1) := by decide +kernel
theorem dL_law_504 : decode cL_law 504 = .ok (.aload_n 0, 1) := by decide +kernel
theorem dL_law_505 : decode cL_law 505 = .ok (.iload_n 3, 1) := by decide +kernel
theorem dL_law_506 : decode cL_law 506 = .ok (.iconst 2, 1) := by decide +kernel
theorem dL_law_507 : decode cL_law 507 = .ok (.iadd, 1) := by decide +kernel
theorem dL_law_508 : decode cL_law 508 = .ok (.iaload, 1) := by decide +kernel
theorem dL_law_509 : decode cL_law 509 = .ok (.invokevirtual 63, 3) := by decide +kernel
theorem dL_law_512 : decode cL_law 512 = .ok (.aload_n 2, 1) := by decide +kernel
theorem dL_law_513 : decode cL_law 513 = .ok (.aload_n 0, 1) := by decide +kernel
theorem dL_law_514 : decode cL_law 514 = .ok (.iload_n 3, 1) := by decide +kernel
theorem dL_law_515 : decode cL_law 515 = .ok (.iconst 1, 1) := by decide +kernel
theorem dL_law_516 : decode cL_law 516 = .ok (.iadd, 1) := by decide +kernel
theorem dL_law_517 : decode cL_law 517 = .ok (.iaload, 1) := by decide +kernel
theorem dL_law_518 : decode cL_law 518 = .ok (.aload_n 0, 1) := by decide +kernel
theorem dL_law_519 : decode cL_law 519 = .ok (.iload_n 3, 1) := by decide +kernel
theorem dL_law_520 : decode cL_law 520 = .ok (.iconst 2, 1) := by decide +kernel
theorem dL_law_521 : decode cL_law 521 = .ok (.iadd, 1) := by decide +kernel
theorem dL_law_522 : decode cL_law 522 = .ok (.iaload, 1) := by decide +kernel
theorem dL_law_523 : decode cL_law 523 = .ok (.invokevirtual 66, 3) := by decide +kernel
theorem dL_law_526 : decode cL_law 526 = .ok (.if_icmp .eq 362, 3) := by decide +kernel
theorem dL_law_529 : decode cL_law 529 = .ok (.iconst 0, 1) := by decide +kernel
theorem dL_law_530 : decode cL_law 530 = .ok (.ireturn, 1) := by decide +kernel
theorem dL_law_531 : decode cL_law 531 = .ok (.aload_n 1, 1) := by decide +kernel
theorem dL_law_532 : decode cL_law 532 = .ok (.aload_n 0, 1) := by decide +kernel
theorem dL_law_533 : decode cL_law 533 = .ok (.iload_n 3, 1) := by decide +kernel
theorem dL_law_534 : decode cL_law 534 = .ok (.iconst 1, 1) := by decide +kernel
theorem dL_law_535 : decode cL_law 535 = .ok (.iadd, 1) := by decide +kernel
theorem dL_law_536 : decode cL_law 536 = .ok (.iaload, 1) := by decide +kernel
theorem dL_law_537 : decode cL_law 537 = .ok (.invokevirtual 67, 3) := by decide +kernel
theorem dL_law_540 : decode cL_law 540 = .ok (.aload_n 2, 1) := by decide +kernel
theorem dL_law_541 : decode cL_law 541 = .ok (.aload_n 0, 1) := by decide +kernel
theorem dL_law_542 : decode cL_law 542 = .ok (.iload_n 3, 1) := by decide +kernel
theorem dL_law_543 : decode cL_law 543 = .ok (.iconst 1, 1) := by decide +kernel
theorem dL_law_544 : decode cL_law 544 = .ok (.iadd, 1) := by decide +kernel
theorem dL_law_545 : decode cL_law 545 = .ok (.iaload, 1) := by decide +kernel
theorem dL_law_546 : decode cL_law 546 = .ok (.invokevirtual 70, 3) := by decide +kernel
theorem dL_law_549 : decode cL_law 549 = .ok (.if_icmp .eq 339, 3) := by decide +kernel
theorem dL_law_552 : decode cL_law 552 = .ok (.iconst 0, 1) := by decide +kernel
theorem dL_law_553 : decode cL_law 553 = .ok (.ireturn, 1) := by decide +kernel
theorem dL_law_554 : decode cL_law 554 = .ok (.aload_n 1, 1) := by decide +kernel
theorem dL_law_555 : decode cL_law 555 = .ok (.aload_n 0, 1) := by decide +kernel
theorem dL_law_556 : decode cL_law 556 = .ok (.iload_n 3, 1) := by decide +kernel
theorem dL_law_557 : decode cL_law 557 = .ok (.iconst 1, 1) := by decide +kernel
theorem dL_law_558 : decode cL_law 558 = .ok (.iadd, 1) := by decide +kernel
theorem dL_law_559 : decode cL_law 559 = .ok (.iaload, 1) := by decide +kernel
theorem dL_law_560 : decode cL_law 560 = .ok (.aload_n 0, 1) := by decide +kernel
theorem dL_law_561 : decode cL_law 561 = .ok (.iload_n 3, 1) := by decide +kernel
theorem dL_law_562 : decode cL_law 562 = .ok (.iconst 2, 1) := by decide +kernel
theorem dL_law_563 : decode cL_law 563 = .ok (.iadd, 1) := by decide +kernel
theorem dL_law_564 : decode cL_law 564 = .ok (.iaload, 1) := by decide +kernel
theorem dL_law_565 : decode cL_law 565 = .ok (.invokevirtual 71, 3) := by decide +kernel
theorem dL_law_568 : decode cL_law 568 = .ok (.aload_n 2, 1) := by decide +kernel
theorem dL_law_569 : decode cL_law 569 = .ok (.aload_n 0, 1) := by decide +kernel
theorem dL_law_570 : decode cL_law 570 = .ok (.iload_n 3, 1) := by decide +kernel
theorem dL_law_571 : decode cL_law 571 = .ok (.iconst 1, 1) := by decide +kernel
theorem dL_law_572 : decode cL_law 572 = .ok (.iadd, 1) := by decide +kernel
theorem dL_law_573 : decode cL_law 573 = .ok (.iaload, 1) := by decide +kernel
theorem dL_law_574 : decode cL_law 574 = .ok (.aload_n 0, 1) := by decide +kernel
theorem dL_law_575 : decode cL_law 575 = .ok (.iload_n 3, 1) := by decide +kernel
theorem dL_law_576 : decode cL_law 576 = .ok (.iconst 2, 1) := by decide +kernel
theorem dL_law_577 : decode cL_law 577 = .ok (.iadd, 1) := by decide +kernel
theorem dL_law_578 : decode cL_law 578 = .ok (.iaload, 1) := by decide +kernel
theorem dL_law_579 : decode cL_law 579 = .ok (.invokevirtual 74, 3) := by decide +kernel
theorem dL_law_582 : decode cL_law 582 = .ok (.if_icmp .eq 306, 3) := by decide +kernel
theorem dL_law_585 : decode cL_law 585 = .ok (.iconst 0, 1) := by decide +kernel
theorem dL_law_586 : decode cL_law 586 = .ok (.ireturn, 1) := by decide +kernel
theorem dL_law_587 : decode cL_law 587 = .ok (.aload_n 1, 1) := by decide +kernel
theorem dL_law_588 : decode cL_law 588 = .ok (.aload_n 0, 1) := by decide +kernel
theorem dL_law_589 : decode cL_law 589 = .ok (.iload_n 3, 1) := by decide +kernel
theorem dL_law_590 : decode cL_law 590 = .ok (.iconst 1, 1) := by decide +kernel
theorem dL_law_591 : decode cL_law 591 = .ok (.iadd, 1) := by decide +kernel
theorem dL_law_592 : decode cL_law 592 = .ok (.iaload, 1) := by decide +kernel
theorem dL_law_593 : decode cL_law 593 = .ok (.aload_n 0, 1) := by decide +kernel
theorem dL_law_594 : decode cL_law 594 = .ok (.iload_n 3, 1) := by decide +kernel
theorem dL_law_595 : decode cL_law 595 = .ok (.iconst 2, 1) := by decide +kernel
theorem dL_law_596 : decode cL_law 596 = .ok (.iadd, 1) := by decide +kernel
theorem dL_law_597 : decode cL_law 597 = .ok (.iaload, 1) := by decide +kernel
theorem dL_law_598 : decode cL_law 598 = .ok (.aload_n 0, 1) := by decide +kernel
theorem dL_law_599 : decode cL_law 599 = .ok (.iload_n 3, 1) := by decide +kernel
theorem dL_law_600 : decode cL_law 600 = .ok (.iconst 3, 1) := by decide +kernel
theorem dL_law_601 : decode cL_law 601 = .ok (.iadd, 1) := by decide +kernel
theorem dL_law_602 : decode cL_law 602 = .ok (.iaload, 1) := by decide +kernel
theorem dL_law_603 : decode cL_law 603 = .ok (.invokevirtual 75, 3) := by decide +kernel
theorem dL_law_606 : decode cL_law 606 = .ok (.aload_n 2, 1) := by decide +kernel
theorem dL_law_607 : decode cL_law 607 = .ok (.aload_n 0, 1) := by decide +kernel
theorem dL_law_608 : decode cL_law 608 = .ok (.iload_n 3, 1) := by decide +kernel
theorem dL_law_609 : decode cL_law 609 = .ok (.iconst 1, 1) := by decide +kernel
theorem dL_law_610 : decode cL_law 610 = .ok (.iadd, 1) := by decide +kernel
theorem dL_law_611 : decode cL_law 611 = .ok (.iaload, 1) := by decide +kernel
theorem dL_law_612 : decode cL_law 612 = .ok (.aload_n 0, 1) := by decide +kernel
theorem dL_law_613 : decode cL_law 613 = .ok (.iload_n 3, 1) := by decide +kernel
theorem dL_law_614 : decode cL_law 614 = .ok (.iconst 2, 1) := by decide +kernel
theorem dL_law_615 : decode cL_law 615 = .ok (.iadd, 1) := by decide +kernel
theorem dL_law_616 : decode cL_law 616 = .ok (.iaload, 1) := by decide +kernel
theorem dL_law_617 : decode cL_law 617 = .ok (.aload_n 0, 1) := by decide +kernel
theorem dL_law_618 : decode cL_law 618 = .ok (.iload_n 3, 1) := by decide +kernel
theorem dL_law_619 : decode cL_law 619 = .ok (.iconst 3, 1) := by decide +kernel
theorem dL_law_620 : decode cL_law 620 = .ok (.iadd, 1) := by decide +kernel
theorem dL_law_621 : decode cL_law 621 = .ok (.iaload, 1) := by decide +kernel
theorem dL_law_622 : decode cL_law 622 = .ok (.invokevirtual 79, 3) := by decide +kernel
theorem dL_law_625 : decode cL_law 625 = .ok (.if_icmp .eq 263, 3) := by decide +kernel
theorem dL_law_628 : decode cL_law 628 = .ok (.iconst 0, 1) := by decide +kernel
theorem dL_law_629 : decode cL_law 629 = .ok (.ireturn, 1) := by decide +kernel
theorem dL_law_630 : decode cL_law 630 = .ok (.aload_n 1, 1) := by decide +kernel
theorem dL_law_631 : decode cL_law 631 = .ok (.aload_n 0, 1) := by decide +kernel
theorem dL_law_632 : decode cL_law 632 = .ok (.iload_n 3, 1) := by decide +kernel
theorem dL_law_633 : decode cL_law 633 = .ok (.iconst 1, 1) := by decide +kernel
theorem dL_law_634 : decode cL_law 634 = .ok (.iadd, 1) := by decide +kernel
theorem dL_law_635 : decode cL_law 635 = .ok (.iaload, 1) := by decide +kernel
theorem dL_law_636 : decode cL_law 636 = .ok (.aload_n 0, 1) := by decide +kernel
theorem dL_law_637 : decode cL_law 637 = .ok (.iload_n 3, 1) := by decide +kernel
theorem dL_law_638 : decode cL_law 638 = .ok (.iconst 2, 1) := by decide +kernel
theorem dL_law_639 : decode cL_law 639 = .ok (.iadd, 1) := by decide +kernel
theorem dL_law_640 : decode cL_law 640 = .ok (.iaload, 1) := by decide +kernel
theorem dL_law_641 : decode cL_law 641 = .ok (.aload_n 0, 1) := by decide +kernel
theorem dL_law_642 : decode cL_law 642 = .ok (.iload_n 3, 1) := by decide +kernel
theorem dL_law_643 : decode cL_law 643 = .ok (.iconst 3, 1) := by decide +kernel
theorem dL_law_644 : decode cL_law 644 = .ok (.iadd, 1) := by decide +kernel
theorem dL_law_645 : decode cL_law 645 = .ok (.iaload, 1) := by decide +kernel
theorem dL_law_646 : decode cL_law 646 = .ok (.invokevirtual 80, 3) := by decide +kernel
theorem dL_law_649 : decode cL_law 649 = .ok (.aload_n 2, 1) := by decide +kernel
theorem dL_law_650 : decode cL_law 650 = .ok (.aload_n 0, 1) := by decide +kernel
theorem dL_law_651 : decode cL_law 651 = .ok (.iload_n 3, 1) := by decide +kernel
theorem dL_law_652 : decode cL_law 652 = .ok (.iconst 1, 1) := by decide +kernel
theorem dL_law_653 : decode cL_law 653 = .ok (.iadd, 1) := by decide +kernel
theorem dL_law_654 : decode cL_law 654 = .ok (.iaload, 1) := by decide +kernel
theorem dL_law_655 : decode cL_law 655 = .ok (.aload_n 0, 1) := by decide +kernel
theorem dL_law_656 : decode cL_law 656 = .ok (.iload_n 3, 1) := by decide +kernel
theorem dL_law_657 : decode cL_law 657 = .ok (.iconst 2, 1) := by decide +kernel
theorem dL_law_658 : decode cL_law 658 = .ok (.iadd, 1) := by decide +kernel
theorem dL_law_659 : decode cL_law 659 = .ok (.iaload, 1) := by decide +kernel
theorem dL_law_660 : decode cL_law 660 = .ok (.aload_n 0, 1) := by decide +kernel
theorem dL_law_661 : decode cL_law 661 = .ok (.iload_n 3, 1) := by decide +kernel
theorem dL_law_662 : decode cL_law 662 = .ok (.iconst 3, 1) := by decide +kernel
theorem dL_law_663 : decode cL_law 663 = .ok (.iadd, 1) := by decide +kernel
theorem dL_law_664 : decode cL_law 664 = .ok (.iaload, 1) := by decide +kernel
theorem dL_law_665 : decode cL_law 665 = .ok (.invokevirtual 83, 3) := by decide +kernel
theorem dL_law_668 : decode cL_law 668 = .ok (.if_icmp .eq 220, 3) := by decide +kernel
theorem dL_law_671 : decode cL_law 671 = .ok (.iconst 0, 1) := by decide +kernel
theorem dL_law_672 : decode cL_law 672 = .ok (.ireturn, 1) := by decide +kernel
theorem dL_law_673 : decode cL_law 673 = .ok (.aload_n 1, 1) := by decide +kernel
theorem dL_law_674 : decode cL_law 674 = .ok (.aload_n 0, 1) := by decide +kernel
theorem dL_law_675 : decode cL_law 675 = .ok (.iload_n 3, 1) := by decide +kernel
theorem dL_law_676 : decode cL_law 676 = .ok (.iconst 1, 1) := by decide +kernel
theorem dL_law_677 : decode cL_law 677 = .ok (.iadd, 1) := by decide +kernel
theorem dL_law_678 : decode cL_law 678 = .ok (.iaload, 1) := by decide +kernel
theorem dL_law_679 : decode cL_law 679 = .ok (.aload_n 0, 1) := by decide +kernel
theorem dL_law_680 : decode cL_law 680 = .ok (.iload_n 3, 1) := by decide +kernel
theorem dL_law_681 : decode cL_law 681 = .ok (.iconst 2, 1) := by decide +kernel
theorem dL_law_682 : decode cL_law 682 = .ok (.iadd, 1) := by decide +kernel
theorem dL_law_683 : decode cL_law 683 = .ok (.iaload, 1) := by decide +kernel
theorem dL_law_684 : decode cL_law 684 = .ok (.invokevirtual 84, 3) := by decide +kernel
theorem dL_law_687 : decode cL_law 687 = .ok (.aload_n 2, 1) := by decide +kernel
theorem dL_law_688 : decode cL_law 688 = .ok (.aload_n 0, 1) := by decide +kernel
theorem dL_law_689 : decode cL_law 689 = .ok (.iload_n 3, 1) := by decide +kernel
theorem dL_law_690 : decode cL_law 690 = .ok (.iconst 1, 1) := by decide +kernel
theorem dL_law_691 : decode cL_law 691 = .ok (.iadd, 1) := by decide +kernel
theorem dL_law_692 : decode cL_law 692 = .ok (.iaload, 1) := by decide +kernel
theorem dL_law_693 : decode cL_law 693 = .ok (.aload_n 0, 1) := by decide +kernel
theorem dL_law_694 : decode cL_law 694 = .ok (.iload_n 3, 1) := by decide +kernel
theorem dL_law_695 : decode cL_law 695 = .ok (.iconst 2, 1) := by decide +kernel
theorem dL_law_696 : decode cL_law 696 = .ok (.iadd, 1) := by decide +kernel
theorem dL_law_697 : decode cL_law 697 = .ok (.iaload, 1) := by decide +kernel
theorem dL_law_698 : decode cL_law 698 = .ok (.invokevirtual 87, 3) := by decide +kernel
theorem dL_law_701 : decode cL_law 701 = .ok (.if_icmp .eq 187, 3) := by decide +kernel
theorem dL_law_704 : decode cL_law 704 = .ok (.iconst 0, 1) := by decide +kernel
theorem dL_law_705 : decode cL_law 705 = .ok (.ireturn, 1) := by decide +kernel
theorem dL_law_706 : decode cL_law 706 = .ok (.aload_n 1, 1) := by decide +kernel
theorem dL_law_707 : decode cL_law 707 = .ok (.aload_n 0, 1) := by decide +kernel
theorem dL_law_708 : decode cL_law 708 = .ok (.iload_n 3, 1) := by decide +kernel
theorem dL_law_709 : decode cL_law 709 = .ok (.iconst 1, 1) := by decide +kernel
theorem dL_law_710 : decode cL_law 710 = .ok (.iadd, 1) := by decide +kernel
theorem dL_law_711 : decode cL_law 711 = .ok (.iaload, 1) := by decide +kernel
theorem dL_law_712 : decode cL_law 712 = .ok (.aload_n 0, 1) := by decide +kernel
theorem dL_law_713 : decode cL_law 713 = .ok (.iload_n 3, 1) := by decide +kernel
theorem dL_law_714 : decode cL_law 714 = .ok (.iconst 2, 1) := by decide +kernel
theorem dL_law_715 : decode cL_law 715 = .ok (.iadd, 1) := by decide +kernel
theorem dL_law_716 : decode cL_law 716 = .ok (.iaload, 1) := by decide +kernel
theorem dL_law_717 : decode cL_law 717 = .ok (.invokevirtual 88, 3) := by decide +kernel
theorem dL_law_720 : decode cL_law 720 = .ok (.aload_n 2, 1) := by decide +kernel
theorem dL_law_721 : decode cL_law 721 = .ok (.aload_n 0, 1) := by decide +kernel
theorem dL_law_722 : decode cL_law 722 = .ok (.iload_n 3, 1) := by decide +kernel
theorem dL_law_723 : decode cL_law 723 = .ok (.iconst 1, 1) := by decide +kernel
theorem dL_law_724 : decode cL_law 724 = .ok (.iadd, 1) := by decide +kernel
theorem dL_law_725 : decode cL_law 725 = .ok (.iaload, 1) := by decide +kernel
theorem dL_law_726 : decode cL_law 726 = .ok (.aload_n 0, 1) := by decide +kernel
theorem dL_law_727 : decode cL_law 727 = .ok (.iload_n 3, 1) := by decide +kernel
theorem dL_law_728 : decode cL_law 728 = .ok (.iconst 2, 1) := by decide +kernel
theorem dL_law_729 : decode cL_law 729 = .ok (.iadd, 1) := by decide +kernel
theorem dL_law_730 : decode cL_law 730 = .ok (.iaload, 1) := by decide +kernel
theorem dL_law_731 : decode cL_law 731 = .ok (.invokevirtual 91, 3) := by decide +kernel
theorem dL_law_734 : decode cL_law 734 = .ok (.if_icmp .eq 154, 3) := by decide +kernel
theorem dL_law_737 : decode cL_law 737 = .ok (.iconst 0, 1) := by decide +kernel
theorem dL_law_738 : decode cL_law 738 = .ok (.ireturn, 1) := by decide +kernel
theorem dL_law_739 : decode cL_law 739 = .ok (.aload_n 1, 1) := by decide +kernel
theorem dL_law_740 : decode cL_law 740 = .ok (.aload_n 0, 1) := by decide +kernel
theorem dL_law_741 : decode cL_law 741 = .ok (.iload_n 3, 1) := by decide +kernel
theorem dL_law_742 : decode cL_law 742 = .ok (.iconst 1, 1) := by decide +kernel
theorem dL_law_743 : decode cL_law 743 = .ok (.iadd, 1) := by decide +kernel
theorem dL_law_744 : decode cL_law 744 = .ok (.iaload, 1) := by decide +kernel
theorem dL_law_745 : decode cL_law 745 = .ok (.aload_n 0, 1) := by decide +kernel
theorem dL_law_746 : decode cL_law 746 = .ok (.iload_n 3, 1) := by decide +kernel
theorem dL_law_747 : decode cL_law 747 = .ok (.iconst 2, 1) := by decide +kernel
theorem dL_law_748 : decode cL_law 748 = .ok (.iadd, 1) := by decide +kernel
theorem dL_law_749 : decode cL_law 749 = .ok (.iaload, 1) := by decide +kernel
theorem dL_law_750 : decode cL_law 750 = .ok (.aload_n 0, 1) := by decide +kernel
theorem dL_law_751 : decode cL_law 751 = .ok (.iload_n 3, 1) := by decide +kernel
theorem dL_law_752 : decode cL_law 752 = .ok (.iconst 3, 1) := by decide +kernel
theorem dL_law_753 : decode cL_law 753 = .ok (.iadd, 1) := by decide +kernel
theorem dL_law_754 : decode cL_law 754 = .ok (.iaload, 1) := by decide +kernel
theorem dL_law_755 : decode cL_law 755 = .ok (.ifCond .eq 7, 3) := by decide +kernel
theorem dL_law_758 : decode cL_law 758 = .ok (.iconst 1, 1) := by decide +kernel
theorem dL_law_759 : decode cL_law 759 = .ok (.goto 4, 3) := by decide +kernel
theorem dL_law_762 : decode cL_law 762 = .ok (.iconst 0, 1) := by decide +kernel
theorem dL_law_763 : decode cL_law 763 = .ok (.invokevirtual 92, 3) := by decide +kernel
theorem dL_law_766 : decode cL_law 766 = .ok (.aload_n 2, 1) := by decide +kernel
theorem dL_law_767 : decode cL_law 767 = .ok (.aload_n 0, 1) := by decide +kernel
theorem dL_law_768 : decode cL_law 768 = .ok (.iload_n 3, 1) := by decide +kernel
theorem dL_law_769 : decode cL_law 769 = .ok (.iconst 1, 1) := by decide +kernel
theorem dL_law_770 : decode cL_law 770 = .ok (.iadd, 1) := by decide +kernel
theorem dL_law_771 : decode cL_law 771 = .ok (.iaload, 1) := by decide +kernel
theorem dL_law_772 : decode cL_law 772 = .ok (.aload_n 0, 1) := by decide +kernel
theorem dL_law_773 : decode cL_law 773 = .ok (.iload_n 3, 1) := by decide +kernel
theorem dL_law_774 : decode cL_law 774 = .ok (.iconst 2, 1) := by decide +kernel
theorem dL_law_775 : decode cL_law 775 = .ok (.iadd, 1) := by decide +kernel
theorem dL_law_776 : decode cL_law 776 = .ok (.iaload, 1) := by decide +kernel
theorem dL_law_777 : decode cL_law 777 = .ok (.aload_n 0, 1) := by decide +kernel
theorem dL_law_778 : decode cL_law 778 = .ok (.iload_n 3, 1) := by decide +kernel
theorem dL_law_779 : decode cL_law 779 = .ok (.iconst 3, 1) := by decide +kernel
theorem dL_law_780 : decode cL_law 780 = .ok (.iadd, 1) := by decide +kernel
theorem dL_law_781 : decode cL_law 781 = .ok (.iaload, 1) := by decide +kernel
theorem dL_law_782 : decode cL_law 782 = .ok (.ifCond .eq 7, 3) := by decide +kernel
theorem dL_law_785 : decode cL_law 785 = .ok (.iconst 1, 1) := by decide +kernel
theorem dL_law_786 : decode cL_law 786 = .ok (.goto 4, 3) := by decide +kernel
theorem dL_law_789 : decode cL_law 789 = .ok (.iconst 0, 1) := by decide +kernel
theorem dL_law_790 : decode cL_law 790 = .ok (.invokevirtual 96, 3) := by decide +kernel
theorem dL_law_793 : decode cL_law 793 = .ok (.if_icmp .eq 95, 3) := by decide +kernel
theorem dL_law_796 : decode cL_law 796 = .ok (.iconst 0, 1) := by decide +kernel
theorem dL_law_797 : decode cL_law 797 = .ok (.ireturn, 1) := by decide +kernel
theorem dL_law_798 : decode cL_law 798 = .ok (.aload_n 1, 1) := by decide +kernel
theorem dL_law_799 : decode cL_law 799 = .ok (.invokevirtual 97, 3) := by decide +kernel
theorem dL_law_802 : decode cL_law 802 = .ok (.aload_n 2, 1) := by decide +kernel
theorem dL_law_803 : decode cL_law 803 = .ok (.invokevirtual 101, 3) := by decide +kernel
theorem dL_law_806 : decode cL_law 806 = .ok (.if_icmp .eq 82, 3) := by decide +kernel
theorem dL_law_809 : decode cL_law 809 = .ok (.iconst 0, 1) := by decide +kernel
theorem dL_law_810 : decode cL_law 810 = .ok (.ireturn, 1) := by decide +kernel
theorem dL_law_811 : decode cL_law 811 = .ok (.aload_n 1, 1) := by decide +kernel
theorem dL_law_812 : decode cL_law 812 = .ok (.invokevirtual 102, 3) := by decide +kernel
theorem dL_law_815 : decode cL_law 815 = .ok (.aload_n 2, 1) := by decide +kernel
theorem dL_law_816 : decode cL_law 816 = .ok (.invokevirtual 105, 3) := by decide +kernel
theorem dL_law_819 : decode cL_law 819 = .ok (.if_icmp .eq 69, 3) := by decide +kernel
theorem dL_law_822 : decode cL_law 822 = .ok (.iconst 0, 1) := by decide +kernel
theorem dL_law_823 : decode cL_law 823 = .ok (.ireturn, 1) := by decide +kernel
theorem dL_law_824 : decode cL_law 824 = .ok (.aload_n 1, 1) := by decide +kernel
theorem dL_law_825 : decode cL_law 825 = .ok (.invokevirtual 106, 3) := by decide +kernel
theorem dL_law_828 : decode cL_law 828 = .ok (.aload_n 2, 1) := by decide +kernel
theorem dL_law_829 : decode cL_law 829 = .ok (.invokevirtual 109, 3) := by decide +kernel
theorem dL_law_832 : decode cL_law 832 = .ok (.if_icmp .eq 56, 3) := by decide +kernel
theorem dL_law_835 : decode cL_law 835 = .ok (.iconst 0, 1) := by decide +kernel
theorem dL_law_836 : decode cL_law 836 = .ok (.ireturn, 1) := by decide +kernel
theorem dL_law_837 : decode cL_law 837 = .ok (.aload_n 1, 1) := by decide +kernel
theorem dL_law_838 : decode cL_law 838 = .ok (.aload_n 0, 1) := by decide +kernel
theorem dL_law_839 : decode cL_law 839 = .ok (.iload_n 3, 1) := by decide +kernel
theorem dL_law_840 : decode cL_law 840 = .ok (.iconst 1, 1) := by decide +kernel
theorem dL_law_841 : decode cL_law 841 = .ok (.iadd, 1) := by decide +kernel
theorem dL_law_842 : decode cL_law 842 = .ok (.iaload, 1) := by decide +kernel
theorem dL_law_843 : decode cL_law 843 = .ok (.i2c, 1) := by decide +kernel
theorem dL_law_844 : decode cL_law 844 = .ok (.invokevirtual 110, 3) := by decide +kernel
theorem dL_law_847 : decode cL_law 847 = .ok (.aload_n 2, 1) := by decide +kernel
theorem dL_law_848 : decode cL_law 848 = .ok (.aload_n 0, 1) := by decide +kernel
theorem dL_law_849 : decode cL_law 849 = .ok (.iload_n 3, 1) := by decide +kernel
theorem dL_law_850 : decode cL_law 850 = .ok (.iconst 1, 1) := by decide +kernel
theorem dL_law_851 : decode cL_law 851 = .ok (.iadd, 1) := by decide +kernel
theorem dL_law_852 : decode cL_law 852 = .ok (.iaload, 1) := by decide +kernel
theorem dL_law_853 : decode cL_law 853 = .ok (.i2c, 1) := by decide +kernel
theorem dL_law_854 : decode cL_law 854 = .ok (.invokevirtual 114, 3) := by decide +kernel
theorem dL_law_857 : decode cL_law 857 = .ok (.if_icmp .eq 31, 3) := by decide +kernel
theorem dL_law_860 : decode cL_law 860 = .ok (.iconst 0, 1) := by decide +kernel
theorem dL_law_861 : decode cL_law 861 = .ok (.ireturn, 1) := by decide +kernel
theorem dL_law_862 : decode cL_law 862 = .ok (.aload_n 1, 1) := by decide +kernel
theorem dL_law_863 : decode cL_law 863 = .ok (.invokevirtual 115, 3) := by decide +kernel
theorem dL_law_866 : decode cL_law 866 = .ok (.aload_n 2, 1) := by decide +kernel
theorem dL_law_867 : decode cL_law 867 = .ok (.invokevirtual 118, 3) := by decide +kernel
theorem dL_law_870 : decode cL_law 870 = .ok (.if_icmp .eq 18, 3) := by decide +kernel
theorem dL_law_873 : decode cL_law 873 = .ok (.iconst 0, 1) := by decide +kernel
theorem dL_law_874 : decode cL_law 874 = .ok (.ireturn, 1) := by decide +kernel
theorem dL_law_875 : decode cL_law 875 = .ok (.aload_n 1, 1) := by decide +kernel
theorem dL_law_876 : decode cL_law 876 = .ok (.invokevirtual 119, 3) := by decide +kernel
theorem dL_law_879 : decode cL_law 879 = .ok (.aload_n 2, 1) := by decide +kernel
theorem dL_law_880 : decode cL_law 880 = .ok (.invokevirtual 122, 3) := by decide +kernel
theorem dL_law_883 : decode cL_law 883 = .ok (.if_icmp .eq 5, 3) := by decide +kernel
theorem dL_law_886 : decode cL_law 886 = .ok (.iconst 0, 1) := by decide +kernel
theorem dL_law_887 : decode cL_law 887 = .ok (.ireturn, 1) := by decide +kernel
theorem dL_law_888 : decode cL_law 888 = .ok (.iinc 3 4, 3) := by decide +kernel
theorem dL_law_891 : decode cL_law 891 = .ok (.goto (-873), 3) := by decide +kernel
theorem dL_law_894 : decode cL_law 894 = .ok (.iconst 1, 1) := by decide +kernel
theorem dL_law_895 : decode cL_law 895 = .ok (.ireturn, 1) := by decide +kernel
end
section
theorem dX0_init_0 : decode cX0_init 0 = .ok (.aload_n 0, 1) := by decide +kernel
theorem dX0_init_1 : decode cX0_init 1 = .ok (.invokespecial 3, 3) := by decide +kernel
theorem dX0_init_4 : decode cX0_init 4 = .ok (.aload_n 0, 1) := by decide +kernel
theorem dX0_init_5 : decode cX0_init 5 = .ok (.iconst 4, 1) := by decide +kernel
theorem dX0_init_6 : decode cX0_init 6 = .ok (.anewarray 9, 3) := by decide +kernel
theorem dX0_init_9 : decode cX0_init 9 = .ok (.putfield 11, 3) := by decide +kernel
theorem dX0_init_12 : decode cX0_init 12 = .ok (.iconst 0, 1) := by decide +kernel
theorem dX0_init_13 : decode cX0_init 13 = .ok (.istore_n 1, 1) := by decide +kernel
theorem dX0_init_14 : decode cX0_init 14 = .ok (.iload_n 1, 1) := by decide +kernel
theorem dX0_init_15 : decode cX0_init 15 = .ok (.iconst 4, 1) := by decide +kernel
theorem dX0_init_16 : decode cX0_init 16 = .ok (.if_icmp .ge 22, 3) := by decide +kernel
theorem dX0_init_19 : decode cX0_init 19 = .ok (.aload_n 0, 1) := by decide +kernel
theorem dX0_init_20 : decode cX0_init 20 = .ok (.getfield 11, 3) := by decide +kernel
theorem dX0_init_23 : decode cX0_init 23 = .ok (.iload_n 1, 1) := by decide +kernel
theorem dX0_init_24 : decode cX0_init 24 = .ok (.new 9, 3) := by decide +kernel
theorem dX0_init_27 : decode cX0_init 27 = .ok (.dup, 1) := by decide +kernel
theorem dX0_init_28 : decode cX0_init 28 = .ok (.invokespecial 17, 3) := by decide +kernel
theorem dX0_init_31 : decode cX0_init 31 = .ok (.aastore, 1) := by decide +kernel
theorem dX0_init_32 : decode cX0_init 32 = .ok (.iinc 1 1, 3) := by decide +kernel
theorem dX0_init_35 : decode cX0_init 35 = .ok (.goto (-21), 3) := by decide +kernel
theorem dX0_init_38 : decode cX0_init 38 = .ok (.return_, 1) := by decide +kernel
theorem dX0_put_0 : decode cX0_put 0 = .ok (.aload_n 0, 1) := by decide +kernel
theorem dX0_put_1 : decode cX0_put 1 = .ok (.getfield 18, 3) := by decide +kernel
theorem dX0_put_4 : decode cX0_put 4 = .ok (.iconst 4, 1) := by decide +kernel
theorem dX0_put_5 : decode cX0_put 5 = .ok (.if_icmp .ge 26, 3) := by decide +kernel
theorem dX0_put_8 : decode cX0_put 8 = .ok (.aload_n 0, 1) := by decide +kernel
theorem dX0_put_9 : decode cX0_put 9 = .ok (.getfield 11, 3) := by decide +kernel
theorem dX0_put_12 : decode cX0_put 12 = .ok (.aload_n 0, 1) := by decide +kernel
theorem dX0_put_13 : decode cX0_put 13 = .ok (.getfield 18, 3) := by decide +kernel
theorem dX0_put_16 : decode cX0_put 16 = .ok (.aaload, 1) := by decide +kernel
theorem dX0_put_17 : decode cX0_put 17 = .ok (.aload_n 1, 1) := by decide +kernel
theorem dX0_put_18 : decode cX0_put 18 = .ok (.invokevirtual 22, 3) := by decide +kernel
theorem dX0_put_21 : decode cX0_put 21 = .ok (.aload_n 0, 1) := by decide +kernel
theorem dX0_put_22 : decode cX0_put 22 = .ok (.dup, 1) := by decide +kernel
theorem dX0_put_23 : decode cX0_put 23 = .ok (.getfield 18, 3) := by decide +kernel
theorem dX0_put_26 : decode cX0_put 26 = .ok (.iconst 1, 1) := by decide +kernel
theorem dX0_put_27 : decode cX0_put 27 = .ok (.iadd, 1) := by decide +kernel
theorem dX0_put_28 : decode cX0_put 28 = .ok (.putfield 18, 3) := by decide +kernel
theorem dX0_put_31 : decode cX0_put 31 = .ok (.return_, 1) := by decide +kernel
theorem dX0_dropFirst_0 : decode cX0_dropFirst 0 = .ok (.iconst 1, 1) := by decide +kernel
theorem dX0_dropFirst_1 : decode cX0_dropFirst 1 = .ok (.istore_n 1, 1) := by decide +kernel
theorem dX0_dropFirst_2 : decode cX0_dropFirst 2 = .ok (.iload_n 1, 1) := by decide +kernel
theorem dX0_dropFirst_3 : decode cX0_dropFirst 3 = .ok (.aload_n 0, 1) := by decide +kernel
theorem dX0_dropFirst_4 : decode cX0_dropFirst 4 = .ok (.getfield 18, 3) := by decide +kernel
theorem dX0_dropFirst_7 : decode cX0_dropFirst 7 = .ok (.if_icmp .ge 26, 3) := by decide +kernel
theorem dX0_dropFirst_10 : decode cX0_dropFirst 10 = .ok (.aload_n 0, 1) := by decide +kernel
theorem dX0_dropFirst_11 : decode cX0_dropFirst 11 = .ok (.getfield 11, 3) := by decide +kernel
theorem dX0_dropFirst_14 : decode cX0_dropFirst 14 = .ok (.iload_n 1, 1) := by decide +kernel
theorem dX0_dropFirst_15 : decode cX0_dropFirst 15 = .ok (.iconst 1, 1) := by decide +kernel
theorem dX0_dropFirst_16 : decode cX0_dropFirst 16 = .ok (.isub, 1) := by decide +kernel
theorem dX0_dropFirst_17 : decode cX0_dropFirst 17 = .ok (.aaload, 1) := by decide +kernel
theorem dX0_dropFirst_18 : decode cX0_dropFirst 18 = .ok (.aload_n 0, 1) := by decide +kernel
theorem dX0_dropFirst_19 : decode cX0_dropFirst 19 = .ok (.getfield 11, 3) := by decide +kernel
theorem dX0_dropFirst_22 : decode cX0_dropFirst 22 = .ok (.iload_n 1, 1) := by decide +kernel
theorem dX0_dropFirst_23 : decode cX0_dropFirst 23 = .ok (.aaload, 1) := by decide +kernel
theorem dX0_dropFirst_24 : decode cX0_dropFirst 24 = .ok (.invokevirtual 22, 3) := by decide +kernel
theorem dX0_dropFirst_27 : decode cX0_dropFirst 27 = .ok (.iinc 1 1, 3) := by decide +kernel
theorem dX0_dropFirst_30 : decode cX0_dropFirst 30 = .ok (.goto (-28), 3) := by decide +kernel
theorem dX0_dropFirst_33 : decode cX0_dropFirst 33 = .ok (.aload_n 0, 1) := by decide +kernel
theorem dX0_dropFirst_34 : decode cX0_dropFirst 34 = .ok (.getfield 18, 3) := by decide +kernel
theorem dX0_dropFirst_37 : decode cX0_dropFirst 37 = .ok (.ifCond .le 13, 3) := by decide +kernel
theorem dX0_dropFirst_40 : decode cX0_dropFirst 40 = .ok (.aload_n 0, 1) := by decide +kernel
theorem dX0_dropFirst_41 : decode cX0_dropFirst 41 = .ok (.dup, 1) := by decide +kernel
theorem dX0_dropFirst_42 : decode cX0_dropFirst 42 = .ok (.getfield 18, 3) := by decide +kernel
theorem dX0_dropFirst_45 : decode cX0_dropFirst 45 = .ok (.iconst 1, 1) := by decide +kernel
theorem dX0_dropFirst_46 : decode cX0_dropFirst 46 = .ok (.isub, 1) := by decide +kernel
theorem dX0_dropFirst_47 : decode cX0_dropFirst 47 = .ok (.putfield 18, 3) := by decide +kernel
theorem dX0_dropFirst_50 : decode cX0_dropFirst 50 = .ok (.return_, 1) := by decide +kernel
theorem dX1_init_0 : decode cX1_init 0 = .ok (.aload_n 0, 1) := by decide +kernel
theorem dX1_init_1 : decode cX1_init 1 = .ok (.invokespecial 3, 3) := by decide +kernel
theorem dX1_init_4 : decode cX1_init 4 = .ok (.aload_n 0, 1) := by decide +kernel
theorem dX1_init_5 : decode cX1_init 5 = .ok (.iconst 5, 1) := by decide +kernel
theorem dX1_init_6 : decode cX1_init 6 = .ok (.anewarray 9, 3) := by decide +kernel
theorem dX1_init_9 : decode cX1_init 9 = .ok (.putfield 11, 3) := by decide +kernel
theorem dX1_init_12 : decode cX1_init 12 = .ok (.aload_n 0, 1) := by decide +kernel
theorem dX1_init_13 : decode cX1_init 13 = .ok (.iconst 5, 1) := by decide +kernel
theorem dX1_init_14 : decode cX1_init 14 = .ok (.newarray .int, 2) := by decide +kernel
theorem dX1_init_16 : decode cX1_init 16 = .ok (.putfield 17, 3) := by decide +kernel
theorem dX1_init_19 : decode cX1_init 19 = .ok (.iconst 0, 1) := by decide +kernel
theorem dX1_init_20 : decode cX1_init 20 = .ok (.istore_n 1, 1) := by decide +kernel
theorem dX1_init_21 : decode cX1_init 21 = .ok (.iload_n 1, 1) := by decide +kernel
theorem dX1_init_22 : decode cX1_init 22 = .ok (.iconst 5, 1) := by decide +kernel
theorem dX1_init_23 : decode cX1_init 23 = .ok (.if_icmp .ge 22, 3) := by decide +kernel
theorem dX1_init_26 : decode cX1_init 26 = .ok (.aload_n 0, 1) := by decide +kernel
theorem dX1_init_27 : decode cX1_init 27 = .ok (.getfield 11, 3) := by decide +kernel
theorem dX1_init_30 : decode cX1_init 30 = .ok (.iload_n 1, 1) := by decide +kernel
theorem dX1_init_31 : decode cX1_init 31 = .ok (.new 9, 3) := by decide +kernel
theorem dX1_init_34 : decode cX1_init 34 = .ok (.dup, 1) := by decide +kernel
theorem dX1_init_35 : decode cX1_init 35 = .ok (.invokespecial 21, 3) := by decide +kernel
theorem dX1_init_38 : decode cX1_init 38 = .ok (.aastore, 1) := by decide +kernel
theorem dX1_init_39 : decode cX1_init 39 = .ok (.iinc 1 1, 3) := by decide +kernel
theorem dX1_init_42 : decode cX1_init 42 = .ok (.goto (-21), 3) := by decide +kernel
theorem dX1_init_45 : decode cX1_init 45 = .ok (.return_, 1) := by decide +kernel
theorem dX1_clear_0 : decode cX1_clear 0 = .ok (.iconst 0, 1) := by decide +kernel
theorem dX1_clear_1 : decode cX1_clear 1 = .ok (.istore_n 1, 1) := by decide +kernel
theorem dX1_clear_2 : decode cX1_clear 2 = .ok (.iload_n 1, 1) := by decide +kernel
theorem dX1_clear_3 : decode cX1_clear 3 = .ok (.iconst 5, 1) := by decide +kernel
theorem dX1_clear_4 : decode cX1_clear 4 = .ok (.if_icmp .ge 25, 3) := by decide +kernel
theorem dX1_clear_7 : decode cX1_clear 7 = .ok (.aload_n 0, 1) := by decide +kernel
theorem dX1_clear_8 : decode cX1_clear 8 = .ok (.getfield 11, 3) := by decide +kernel
theorem dX1_clear_11 : decode cX1_clear 11 = .ok (.iload_n 1, 1) := by decide +kernel
theorem dX1_clear_12 : decode cX1_clear 12 = .ok (.aaload, 1) := by decide +kernel
theorem dX1_clear_13 : decode cX1_clear 13 = .ok (.invokevirtual 22, 3) := by decide +kernel
theorem dX1_clear_16 : decode cX1_clear 16 = .ok (.aload_n 0, 1) := by decide +kernel
theorem dX1_clear_17 : decode cX1_clear 17 = .ok (.getfield 17, 3) := by decide +kernel
theorem dX1_clear_20 : decode cX1_clear 20 = .ok (.iload_n 1, 1) := by decide +kernel
theorem dX1_clear_21 : decode cX1_clear 21 = .ok (.iconst 0, 1) := by decide +kernel
theorem dX1_clear_22 : decode cX1_clear 22 = .ok (.iastore, 1) := by decide +kernel
theorem dX1_clear_23 : decode cX1_clear 23 = .ok (.iinc 1 1, 3) := by decide +kernel
theorem dX1_clear_26 : decode cX1_clear 26 = .ok (.goto (-24), 3) := by decide +kernel
theorem dX1_clear_29 : decode cX1_clear 29 = .ok (.return_, 1) := by decide +kernel
theorem dX1_copyFrom_0 : decode cX1_copyFrom 0 = .ok (.iconst 0, 1) := by decide +kernel
theorem dX1_copyFrom_1 : decode cX1_copyFrom 1 = .ok (.istore_n 2, 1) := by decide +kernel
theorem dX1_copyFrom_2 : decode cX1_copyFrom 2 = .ok (.iload_n 2, 1) := by decide +kernel
theorem dX1_copyFrom_3 : decode cX1_copyFrom 3 = .ok (.iconst 5, 1) := by decide +kernel
theorem dX1_copyFrom_4 : decode cX1_copyFrom 4 = .ok (.if_icmp .ge 36, 3) := by decide +kernel
theorem dX1_copyFrom_7 : decode cX1_copyFrom 7 = .ok (.aload_n 0, 1) := by decide +kernel
theorem dX1_copyFrom_8 : decode cX1_copyFrom 8 = .ok (.getfield 11, 3) := by decide +kernel
theorem dX1_copyFrom_11 : decode cX1_copyFrom 11 = .ok (.iload_n 2, 1) := by decide +kernel
theorem dX1_copyFrom_12 : decode cX1_copyFrom 12 = .ok (.aaload, 1) := by decide +kernel
theorem dX1_copyFrom_13 : decode cX1_copyFrom 13 = .ok (.aload_n 1, 1) := by decide +kernel
theorem dX1_copyFrom_14 : decode cX1_copyFrom 14 = .ok (.getfield 11, 3) := by decide +kernel
theorem dX1_copyFrom_17 : decode cX1_copyFrom 17 = .ok (.iload_n 2, 1) := by decide +kernel
theorem dX1_copyFrom_18 : decode cX1_copyFrom 18 = .ok (.aaload, 1) := by decide +kernel
theorem dX1_copyFrom_19 : decode cX1_copyFrom 19 = .ok (.invokevirtual 25, 3) := by decide +kernel
theorem dX1_copyFrom_22 : decode cX1_copyFrom 22 = .ok (.aload_n 0, 1) := by decide +kernel
theorem dX1_copyFrom_23 : decode cX1_copyFrom 23 = .ok (.getfield 17, 3) := by decide +kernel
theorem dX1_copyFrom_26 : decode cX1_copyFrom 26 = .ok (.iload_n 2, 1) := by decide +kernel
theorem dX1_copyFrom_27 : decode cX1_copyFrom 27 = .ok (.aload_n 1, 1) := by decide +kernel
theorem dX1_copyFrom_28 : decode cX1_copyFrom 28 = .ok (.getfield 17, 3) := by decide +kernel
theorem dX1_copyFrom_31 : decode cX1_copyFrom 31 = .ok (.iload_n 2, 1) := by decide +kernel
theorem dX1_copyFrom_32 : decode cX1_copyFrom 32 = .ok (.iaload, 1) := by decide +kernel
theorem dX1_copyFrom_33 : decode cX1_copyFrom 33 = .ok (.iastore, 1) := by decide +kernel
theorem dX1_copyFrom_34 : decode cX1_copyFrom 34 = .ok (.iinc 2 1, 3) := by decide +kernel
theorem dX1_copyFrom_37 : decode cX1_copyFrom 37 = .ok (.goto (-35), 3) := by decide +kernel
theorem dX1_copyFrom_40 : decode cX1_copyFrom 40 = .ok (.return_, 1) := by decide +kernel
theorem dX1_replaceByLater_0 : decode cX1_replaceByLater 0 = .ok (.iconst 0, 1) := by decide +kernel
theorem dX1_replaceByLater_1 : decode cX1_replaceByLater 1 = .ok (.istore_n 2, 1) := by decide +kernel
theorem dX1_replaceByLater_2 : decode cX1_replaceByLater 2 = .ok (.iconst 0, 1) := by decide +kernel
theorem dX1_replaceByLater_3 : decode cX1_replaceByLater 3 = .ok (.istore_n 3, 1) := by decide +kernel
theorem dX1_replaceByLater_4 : decode cX1_replaceByLater 4 = .ok (.iload_n 3, 1) := by decide +kernel
theorem dX1_replaceByLater_5 : decode cX1_replaceByLater 5 = .ok (.iconst 5, 1) := by decide +kernel
theorem dX1_replaceByLater_6 : decode cX1_replaceByLater 6 = .ok (.if_icmp .ge 64, 3) := by decide +kernel
theorem dX1_replaceByLater_9 : decode cX1_replaceByLater 9 = .ok (.aload_n 1, 1) := by decide +kernel
theorem dX1_replaceByLater_10 : decode cX1_replaceByLater 10 = .ok (.getfield 11, 3) := by decide +kernel
theorem dX1_replaceByLater_13 : decode cX1_replaceByLater 13 = .ok (.iload_n 3, 1) := by decide +kernel
theorem dX1_replaceByLater_14 : decode cX1_replaceByLater 14 = .ok (.aaload, 1) := by decide +kernel
theorem dX1_replaceByLater_15 : decode cX1_replaceByLater 15 = .ok (.getfield 29, 3) := by decide +kernel
theorem dX1_replaceByLater_18 : decode cX1_replaceByLater 18 = .ok (.iload_n 3, 1) := by decide +kernel
theorem dX1_replaceByLater_19 : decode cX1_replaceByLater 19 = .ok (.iaload, 1) := by decide +kernel
theorem dX1_replaceByLater_20 : decode cX1_replaceByLater 20 = .ok (.aload_n 0, 1) := by decide +kernel
theorem dX1_replaceByLater_21 : decode cX1_replaceByLater 21 = .ok (.getfield 11, 3) := by decide +kernel
theorem dX1_replaceByLater_24 : decode cX1_replaceByLater 24 = .ok (.iload_n 3, 1) := by decide +kernel
theorem dX1_replaceByLater_25 : decode cX1_replaceByLater 25 = .ok (.aaload, 1) := by decide +kernel
theorem dX1_replaceByLater_26 : decode cX1_replaceByLater 26 = .ok (.getfield 29, 3) := by decide +kernel
theorem dX1_replaceByLater_29 : decode cX1_replaceByLater 29 = .ok (.iload_n 3, 1) := by decide +kernel
theorem dX1_replaceByLater_30 : decode cX1_replaceByLater 30 = .ok (.iaload, 1) := by decide +kernel
theorem dX1_replaceByLater_31 : decode cX1_replaceByLater 31 = .ok (.if_icmp .le 33, 3) := by decide +kernel
theorem dX1_replaceByLater_34 : decode cX1_replaceByLater 34 = .ok (.aload_n 0, 1) := by decide +kernel
theorem dX1_replaceByLater_35 : decode cX1_replaceByLater 35 = .ok (.getfield 11, 3) := by decide +kernel
theorem dX1_replaceByLater_38 : decode cX1_replaceByLater 38 = .ok (.iload_n 3, 1) := by decide +kernel
theorem dX1_replaceByLater_39 : decode cX1_replaceByLater 39 = .ok (.aaload, 1) := by decide +kernel
theorem dX1_replaceByLater_40 : decode cX1_replaceByLater 40 = .ok (.aload_n 1, 1) := by decide +kernel
theorem dX1_replaceByLater_41 : decode cX1_replaceByLater 41 = .ok (.getfield 11, 3) := by decide +kernel
theorem dX1_replaceByLater_44 : decode cX1_replaceByLater 44 = .ok (.iload_n 3, 1) := by decide +kernel
theorem dX1_replaceByLater_45 : decode cX1_replaceByLater 45 = .ok (.aaload, 1) := by decide +kernel
theorem dX1_replaceByLater_46 : decode cX1_replaceByLater 46 = .ok (.invokevirtual 25, 3) := by decide +kernel
theorem dX1_replaceByLater_49 : decode cX1_replaceByLater 49 = .ok (.aload_n 0, 1) := by decide +kernel
theorem dX1_replaceByLater_50 : decode cX1_replaceByLater 50 = .ok (.getfield 17, 3) := by decide +kernel
theorem dX1_replaceByLater_53 : decode cX1_replaceByLater 53 = .ok (.iload_n 3, 1) := by decide +kernel
theorem dX1_replaceByLater_54 : decode cX1_replaceByLater 54 = .ok (.aload_n 1, 1) := by decide +kernel
theorem dX1_replaceByLater_55 : decode cX1_replaceByLater 55 = .ok (.getfield 17, 3) := by decide +kernel
theorem dX1_replaceByLater_58 : decode cX1_replaceByLater 58 = .ok (.iload_n 3, 1) := by decide +kernel
theorem dX1_replaceByLater_59 : decode cX1_replaceByLater 59 = .ok (.iaload, 1) := by decide +kernel
theorem dX1_replaceByLater_60 : decode cX1_replaceByLater 60 = .ok (.iastore, 1) := by decide +kernel
theorem dX1_replaceByLater_61 : decode cX1_replaceByLater 61 = .ok (.iinc 2 1, 3) := by decide +kernel
theorem dX1_replaceByLater_64 : decode cX1_replaceByLater 64 = .ok (.iinc 3 1, 3) := by decide +kernel
theorem dX1_replaceByLater_67 : decode cX1_replaceByLater 67 = .ok (.goto (-63), 3) := by decide +kernel
theorem dX1_replaceByLater_70 : decode cX1_replaceByLater 70 = .ok (.iload_n 2, 1) := by decide +kernel
theorem dX1_replaceByLater_71 : decode cX1_replaceByLater 71 = .ok (.ireturn, 1) := by decide +kernel
theorem dX1_areForked_0 : decode cX1_areForked 0 = .ok (.iconst 0, 1) := by decide +kernel
theorem dX1_areForked_1 : decode cX1_areForked 1 = .ok (.istore_n 1, 1) := by decide +kernel
theorem dX1_areForked_2 : decode cX1_areForked 2 = .ok (.iload_n 1, 1) := by decide +kernel
theorem dX1_areForked_3 : decode cX1_areForked 3 = .ok (.iconst 5, 1) := by decide +kernel
theorem dX1_areForked_4 : decode cX1_areForked 4 = .ok (.if_icmp .ge 45, 3) := by decide +kernel
theorem dX1_areForked_7 : decode cX1_areForked 7 = .ok (.iload_n 1, 1) := by decide +kernel
theorem dX1_areForked_8 : decode cX1_areForked 8 = .ok (.iconst 1, 1) := by decide +kernel
theorem dX1_areForked_9 : decode cX1_areForked 9 = .ok (.iadd, 1) := by decide +kernel
theorem dX1_areForked_10 : decode cX1_areForked 10 = .ok (.istore_n 2, 1) := by decide +kernel
theorem dX1_areForked_11 : decode cX1_areForked 11 = .ok (.iload_n 2, 1) := by decide +kernel
theorem dX1_areForked_12 : decode cX1_areForked 12 = .ok (.iconst 5, 1) := by decide +kernel
theorem dX1_areForked_13 : decode cX1_areForked 13 = .ok (.if_icmp .ge 30, 3) := by decide +kernel
theorem dX1_areForked_16 : decode cX1_areForked 16 = .ok (.aload_n 0, 1) := by decide +kernel
theorem dX1_areForked_17 : decode cX1_areForked 17 = .ok (.getfield 11, 3) := by decide +kernel
theorem dX1_areForked_20 : decode cX1_areForked 20 = .ok (.iload_n 1, 1) := by decide +kernel
theorem dX1_areForked_21 : decode cX1_areForked 21 = .ok (.aaload, 1) := by decide +kernel
theorem dX1_areForked_22 : decode cX1_areForked 22 = .ok (.aload_n 0, 1) := by decide +kernel
theorem dX1_areForked_23 : decode cX1_areForked 23 = .ok (.getfield 11, 3) := by decide +kernel
theorem dX1_areForked_26 : decode cX1_areForked 26 = .ok (.iload_n 2, 1) := by decide +kernel
theorem dX1_areForked_27 : decode cX1_areForked 27 = .ok (.aaload, 1) := by decide +kernel
theorem dX1_areForked_28 : decode cX1_areForked 28 = .ok (.invokevirtual 32, 3) := by decide +kernel
theorem dX1_areForked_31 : decode cX1_areForked 31 = .ok (.iconst 2, 1) := by decide +kernel
theorem dX1_areForked_32 : decode cX1_areForked 32 = .ok (.if_icmp .ne 5, 3) := by decide +kernel
theorem dX1_areForked_35 : decode cX1_areForked 35 = .ok (.iconst 1, 1) := by decide +kernel
theorem dX1_areForked_36 : decode cX1_areForked 36 = .ok (.ireturn, 1) := by decide +kernel
theorem dX1_areForked_37 : decode cX1_areForked 37 = .ok (.iinc 2 1, 3) := by decide +kernel
theorem dX1_areForked_40 : decode cX1_areForked 40 = .ok (.goto (-29), 3) := by decide +kernel
theorem dX1_areForked_43 : decode cX1_areForked 43 = .ok (.iinc 1 1, 3) := by decide +kernel
theorem dX1_areForked_46 : decode cX1_areForked 46 = .ok (.goto (-44), 3) := by decide +kernel
theorem dX1_areForked_49 : decode cX1_areForked 49 = .ok (.iconst 0, 1) := by decide +kernel
theorem dX1_areForked_50 : decode cX1_areForked 50 = .ok (.ireturn, 1) := by decide +kernel
theorem dX1_greatest_0 : decode cX1_greatest 0 = .ok (.aload_n 0, 1) := by decide +kernel
theorem dX1_greatest_1 : decode cX1_greatest 1 = .ok (.getfield 11, 3) := by decide +kernel
theorem dX1_greatest_4 : decode cX1_greatest 4 = .ok (.iconst 0, 1) := by decide +kernel
theorem dX1_greatest_5 : decode cX1_greatest 5 = .ok (.aaload, 1) := by decide +kernel
theorem dX1_greatest_6 : decode cX1_greatest 6 = .ok (.astore_n 1, 1) := by decide +kernel
theorem dX1_greatest_7 : decode cX1_greatest 7 = .ok (.iconst 1, 1) := by decide +kernel
theorem dX1_greatest_8 : decode cX1_greatest 8 = .ok (.istore_n 2, 1) := by decide +kernel
theorem dX1_greatest_9 : decode cX1_greatest 9 = .ok (.iload_n 2, 1) := by decide +kernel
theorem dX1_greatest_10 : decode cX1_greatest 10 = .ok (.iconst 5, 1) := by decide +kernel
theorem dX1_greatest_11 : decode cX1_greatest 11 = .ok (.if_icmp .ge 29, 3) := by decide +kernel
theorem dX1_greatest_14 : decode cX1_greatest 14 = .ok (.aload_n 1, 1) := by decide +kernel
theorem dX1_greatest_15 : decode cX1_greatest 15 = .ok (.aload_n 0, 1) := by decide +kernel
theorem dX1_greatest_16 : decode cX1_greatest 16 = .ok (.getfield 11, 3) := by decide +kernel
theorem dX1_greatest_19 : decode cX1_greatest 19 = .ok (.iload_n 2, 1) := by decide +kernel
theorem dX1_greatest_20 : decode cX1_greatest 20 = .ok (.aaload, 1) := by decide +kernel
theorem dX1_greatest_21 : decode cX1_greatest 21 = .ok (.invokevirtual 36, 3) := by decide +kernel
theorem dX1_greatest_24 : decode cX1_greatest 24 = .ok (.ifCond .eq 10, 3) := by decide +kernel
theorem dX1_greatest_27 : decode cX1_greatest 27 = .ok (.aload_n 0, 1) := by decide +kernel
theorem dX1_greatest_28 : decode cX1_greatest 28 = .ok (.getfield 11, 3) := by decide +kernel
theorem dX1_greatest_31 : decode cX1_greatest 31 = .ok (.iload_n 2, 1) := by decide +kernel
theorem dX1_greatest_32 : decode cX1_greatest 32 = .ok (.aaload, 1) := by decide +kernel
theorem dX1_greatest_33 : decode cX1_greatest 33 = .ok (.astore_n 1, 1) := by decide +kernel
theorem dX1_greatest_34 : decode cX1_greatest 34 = .ok (.iinc 2 1, 3) := by decide +kernel
theorem dX1_greatest_37 : decode cX1_greatest 37 = .ok (.goto (-28), 3) := by decide +kernel
theorem dX1_greatest_40 : decode cX1_greatest 40 = .ok (.aload_n 1, 1) := by decide +kernel
theorem dX1_greatest_41 : decode cX1_greatest 41 = .ok (.areturn, 1) := by decide +kernel
theorem dX1_prove_0 : decode cX1_prove 0 = .ok (.iconst 0, 1) := by decide +kernel
theorem dX1_prove_1 : decode cX1_prove 1 = .ok (.istore_n 2, 1) := by decide +kernel
theorem dX1_prove_2 : decode cX1_prove 2 = .ok (.iload_n 2, 1) := by decide +kernel
theorem dX1_prove_3 : decode cX1_prove 3 = .ok (.iconst 5, 1) := by decide +kernel
theorem dX1_prove_4 : decode cX1_prove 4 = .ok (.if_icmp .ge 61, 3) := by decide +kernel
theorem dX1_prove_7 : decode cX1_prove 7 = .ok (.iload_n 2, 1) := by decide +kernel
theorem dX1_prove_8 : decode cX1_prove 8 = .ok (.iconst 1, 1) := by decide +kernel
theorem dX1_prove_9 : decode cX1_prove 9 = .ok (.iadd, 1) := by decide +kernel
theorem dX1_prove_10 : decode cX1_prove 10 = .ok (.istore_n 3, 1) := by decide +kernel
theorem dX1_prove_11 : decode cX1_prove 11 = .ok (.iload_n 3, 1) := by decide +kernel
theorem dX1_prove_12 : decode cX1_prove 12 = .ok (.iconst 5, 1) := by decide +kernel
theorem dX1_prove_13 : decode cX1_prove 13 = .ok (.if_icmp .ge 46, 3) := by decide +kernel
theorem dX1_prove_16 : decode cX1_prove 16 = .ok (.aload_n 0, 1) := by decide +kernel
theorem dX1_prove_17 : decode cX1_prove 17 = .ok (.getfield 11, 3) := by decide +kernel
theorem dX1_prove_20 : decode cX1_prove 20 = .ok (.iload_n 2, 1) := by decide +kernel
theorem dX1_prove_21 : decode cX1_prove 21 = .ok (.aaload, 1) := by decide +kernel
theorem dX1_prove_22 : decode cX1_prove 22 = .ok (.aload_n 0, 1) := by decide +kernel
theorem dX1_prove_23 : decode cX1_prove 23 = .ok (.getfield 11, 3) := by decide +kernel
theorem dX1_prove_26 : decode cX1_prove 26 = .ok (.iload_n 3, 1) := by decide +kernel
theorem dX1_prove_27 : decode cX1_prove 27 = .ok (.aaload, 1) := by decide +kernel
theorem dX1_prove_28 : decode cX1_prove 28 = .ok (.invokevirtual 32, 3) := by decide +kernel
theorem dX1_prove_31 : decode cX1_prove 31 = .ok (.iconst 2, 1) := by decide +kernel
theorem dX1_prove_32 : decode cX1_prove 32 = .ok (.if_icmp .ne 21, 3) := by decide +kernel
theorem dX1_prove_35 : decode cX1_prove 35 = .ok (.aload_n 1, 1) := by decide +kernel
theorem dX1_prove_36 : decode cX1_prove 36 = .ok (.aload_n 0, 1) := by decide +kernel
theorem dX1_prove_37 : decode cX1_prove 37 = .ok (.getfield 11, 3) := by decide +kernel
theorem dX1_prove_40 : decode cX1_prove 40 = .ok (.iload_n 2, 1) := by decide +kernel
theorem dX1_prove_41 : decode cX1_prove 41 = .ok (.aaload, 1) := by decide +kernel
theorem dX1_prove_42 : decode cX1_prove 42 = .ok (.aload_n 0, 1) := by decide +kernel
theorem dX1_prove_43 : decode cX1_prove 43 = .ok (.getfield 11, 3) := by decide +kernel
theorem dX1_prove_46 : decode cX1_prove 46 = .ok (.iload_n 3, 1) := by decide +kernel
theorem dX1_prove_47 : decode cX1_prove 47 = .ok (.aaload, 1) := by decide +kernel
theorem dX1_prove_48 : decode cX1_prove 48 = .ok (.iconst 0, 1) := by decide +kernel
theorem dX1_prove_49 : decode cX1_prove 49 = .ok (.invokevirtual 40, 3) := by decide +kernel
theorem dX1_prove_52 : decode cX1_prove 52 = .ok (.return_, 1) := by decide +kernel
theorem dX1_prove_53 : decode cX1_prove 53 = .ok (.iinc 3 1, 3) := by decide +kernel
theorem dX1_prove_56 : decode cX1_prove 56 = .ok (.goto (-45), 3) := by decide +kernel
theorem dX1_prove_59 : decode cX1_prove 59 = .ok (.iinc 2 1, 3) := by decide +kernel
theorem dX1_prove_62 : decode cX1_prove 62 = .ok (.goto (-60), 3) := by decide +kernel
theorem dX1_prove_65 : decode cX1_prove 65 = .ok (.return_, 1) := by decide +kernel
theorem dX2_init_0 : decode cX2_init 0 = .ok (.aload_n 0, 1) := by decide +kernel
theorem dX2_init_1 : decode cX2_init 1 = .ok (.invokespecial 3, 3) := by decide +kernel
theorem dX2_init_4 : decode cX2_init 4 = .ok (.aload_n 0, 1) := by decide +kernel
theorem dX2_init_5 : decode cX2_init 5 = .ok (.new 9, 3) := by decide +kernel
theorem dX2_init_8 : decode cX2_init 8 = .ok (.dup, 1) := by decide +kernel
theorem dX2_init_9 : decode cX2_init 9 = .ok (.invokespecial 11, 3) := by decide +kernel
theorem dX2_init_12 : decode cX2_init 12 = .ok (.putfield 12, 3) := by decide +kernel
theorem dX2_init_15 : decode cX2_init 15 = .ok (.aload_n 0, 1) := by decide +kernel
theorem dX2_init_16 : decode cX2_init 16 = .ok (.new 9, 3) := by decide +kernel
theorem dX2_init_19 : decode cX2_init 19 = .ok (.dup, 1) := by decide +kernel
theorem dX2_init_20 : decode cX2_init 20 = .ok (.invokespecial 11, 3) := by decide +kernel
theorem dX2_init_23 : decode cX2_init 23 = .ok (.putfield 18, 3) := by decide +kernel
theorem dX2_init_26 : decode cX2_init 26 = .ok (.aload_n 0, 1) := by decide +kernel
theorem dX2_init_27 : decode cX2_init 27 = .ok (.new 21, 3) := by decide +kernel
theorem dX2_init_30 : decode cX2_init 30 = .ok (.dup, 1) := by decide +kernel
theorem dX2_init_31 : decode cX2_init 31 = .ok (.invokespecial 23, 3) := by decide +kernel
theorem dX2_init_34 : decode cX2_init 34 = .ok (.putfield 24, 3) := by decide +kernel
theorem dX2_init_37 : decode cX2_init 37 = .ok (.aload_n 0, 1) := by decide +kernel
theorem dX2_init_38 : decode cX2_init 38 = .ok (.new 28, 3) := by decide +kernel
theorem dX2_init_41 : decode cX2_init 41 = .ok (.dup, 1) := by decide +kernel
theorem dX2_init_42 : decode cX2_init 42 = .ok (.invokespecial 30, 3) := by decide +kernel
theorem dX2_init_45 : decode cX2_init 45 = .ok (.putfield 31, 3) := by decide +kernel
theorem dX2_init_48 : decode cX2_init 48 = .ok (.return_, 1) := by decide +kernel
theorem dX2_clear_0 : decode cX2_clear 0 = .ok (.aload_n 0, 1) := by decide +kernel
theorem dX2_clear_1 : decode cX2_clear 1 = .ok (.getfield 12, 3) := by decide +kernel
theorem dX2_clear_4 : decode cX2_clear 4 = .ok (.invokevirtual 35, 3) := by decide +kernel
theorem dX2_clear_7 : decode cX2_clear 7 = .ok (.aload_n 0, 1) := by decide +kernel
theorem dX2_clear_8 : decode cX2_clear 8 = .ok (.getfield 18, 3) := by decide +kernel
theorem dX2_clear_11 : decode cX2_clear 11 = .ok (.invokevirtual 35, 3) := by decide +kernel
theorem dX2_clear_14 : decode cX2_clear 14 = .ok (.aload_n 0, 1) := by decide +kernel
theorem dX2_clear_15 : decode cX2_clear 15 = .ok (.getfield 24, 3) := by decide +kernel
theorem dX2_clear_18 : decode cX2_clear 18 = .ok (.invokevirtual 38, 3) := by decide +kernel
theorem dX2_clear_21 : decode cX2_clear 21 = .ok (.aload_n 0, 1) := by decide +kernel
theorem dX2_clear_22 : decode cX2_clear 22 = .ok (.getfield 31, 3) := by decide +kernel
theorem dX2_clear_25 : decode cX2_clear 25 = .ok (.iconst 0, 1) := by decide +kernel
theorem dX2_clear_26 : decode cX2_clear 26 = .ok (.putfield 39, 3) := by decide +kernel
theorem dX2_clear_29 : decode cX2_clear 29 = .ok (.aload_n 0, 1) := by decide +kernel
theorem dX2_clear_30 : decode cX2_clear 30 = .ok (.iconst 0, 1) := by decide +kernel
theorem dX2_clear_31 : decode cX2_clear 31 = .ok (.putfield 43, 3) := by decide +kernel
theorem dX2_clear_34 : decode cX2_clear 34 = .ok (.aload_n 0, 1) := by decide +kernel
theorem dX2_clear_35 : decode cX2_clear 35 = .ok (.iconst 0, 1) := by decide +kernel
theorem dX2_clear_36 : decode cX2_clear 36 = .ok (.putfield 46, 3) := by decide +kernel
theorem dX2_clear_39 : decode cX2_clear 39 = .ok (.aload_n 0, 1) := by decide +kernel
theorem dX2_clear_40 : decode cX2_clear 40 = .ok (.iconst 0, 1) := by decide +kernel
theorem dX2_clear_41 : decode cX2_clear 41 = .ok (.putfield 49, 3) := by decide +kernel
theorem dX2_clear_44 : decode cX2_clear 44 = .ok (.aload_n 0, 1) := by decide +kernel
theorem dX2_clear_45 : decode cX2_clear 45 = .ok (.iconst 0, 1) := by decide +kernel
theorem dX2_clear_46 : decode cX2_clear 46 = .ok (.putfield 53, 3) := by decide +kernel
theorem dX2_clear_49 : decode cX2_clear 49 = .ok (.aload_n 0, 1) := by decide +kernel
theorem dX2_clear_50 : decode cX2_clear 50 = .ok (.iconst 0, 1) := by decide +kernel
theorem dX2_clear_51 : decode cX2_clear 51 = .ok (.putfield 56, 3) := by decide +kernel
theorem dX2_clear_54 : decode cX2_clear 54 = .ok (.aload_n 0, 1) := by decide +kernel
theorem dX2_clear_55 : decode cX2_clear 55 = .ok (.iconst 0, 1) := by decide +kernel
theorem dX2_clear_56 : decode cX2_clear 56 = .ok (.putfield 59, 3) := by decide +kernel
theorem dX2_clear_59 : decode cX2_clear 59 = .ok (.return_, 1) := by decide +kernel
theorem dX2_hear_0 : decode cX2_hear 0 = .ok (.aload_n 0, 1) := by decide +kernel
theorem dX2_hear_1 : decode cX2_hear 1 = .ok (.iload_n 1, 1) := by decide +kernel
theorem dX2_hear_2 : decode cX2_hear 2 = .ok (.putfield 62, 3) := by decide +kernel
theorem dX2_hear_5 : decode cX2_hear 5 = .ok (.aload_n 0, 1) := by decide +kernel
theorem dX2_hear_6 : decode cX2_hear 6 = .ok (.iconst 1, 1) := by decide +kernel
theorem dX2_hear_7 : decode cX2_hear 7 = .ok (.putfield 49, 3) := by decide +kernel
theorem dX2_hear_10 : decode cX2_hear 10 = .ok (.return_, 1) := by decide +kernel
theorem dX2_raise_0 : decode cX2_raise 0 = .ok (.aload_n 0, 1) := by decide +kernel
theorem dX2_raise_1 : decode cX2_raise 1 = .ok (.getfield 46, 3) := by decide +kernel
theorem dX2_raise_4 : decode cX2_raise 4 = .ok (.ifCond .ne 8, 3) := by decide +kernel
theorem dX2_raise_7 : decode cX2_raise 7 = .ok (.aload_n 0, 1) := by decide +kernel
theorem dX2_raise_8 : decode cX2_raise 8 = .ok (.iload_n 1, 1) := by decide +kernel
theorem dX2_raise_9 : decode cX2_raise 9 = .ok (.putfield 46, 3) := by decide +kernel
theorem dX2_raise_12 : decode cX2_raise 12 = .ok (.return_, 1) := by decide +kernel
theorem dX2_sign_0 : decode cX2_sign 0 = .ok (.aload_n 0, 1) := by decide +kernel
theorem dX2_sign_1 : decode cX2_sign 1 = .ok (.getfield 18, 3) := by decide +kernel
theorem dX2_sign_4 : decode cX2_sign 4 = .ok (.aload_n 2, 1) := by decide +kernel
theorem dX2_sign_5 : decode cX2_sign 5 = .ok (.invokevirtual 65, 3) := by decide +kernel
theorem dX2_sign_8 : decode cX2_sign 8 = .ok (.invokevirtual 71, 3) := by decide +kernel
theorem dX2_sign_11 : decode cX2_sign 11 = .ok (.aload_n 0, 1) := by decide +kernel
theorem dX2_sign_12 : decode cX2_sign 12 = .ok (.getfield 18, 3) := by decide +kernel
theorem dX2_sign_15 : decode cX2_sign 15 = .ok (.getfield 75, 3) := by decide +kernel
theorem dX2_sign_18 : decode cX2_sign 18 = .ok (.iload_n 1, 1) := by decide +kernel
theorem dX2_sign_19 : decode cX2_sign 19 = .ok (.dup2, 1) := by decide +kernel
theorem dX2_sign_20 : decode cX2_sign 20 = .ok (.iaload, 1) := by decide +kernel
theorem dX2_sign_21 : decode cX2_sign 21 = .ok (.iconst 1, 1) := by decide +kernel
theorem dX2_sign_22 : decode cX2_sign 22 = .ok (.iadd, 1) := by decide +kernel
theorem dX2_sign_23 : decode cX2_sign 23 = .ok (.iastore, 1) := by decide +kernel
theorem dX2_sign_24 : decode cX2_sign 24 = .ok (.aload_n 0, 1) := by decide +kernel
theorem dX2_sign_25 : decode cX2_sign 25 = .ok (.getfield 12, 3) := by decide +kernel
theorem dX2_sign_28 : decode cX2_sign 28 = .ok (.aload_n 0, 1) := by decide +kernel
theorem dX2_sign_29 : decode cX2_sign 29 = .ok (.getfield 18, 3) := by decide +kernel
theorem dX2_sign_32 : decode cX2_sign 32 = .ok (.invokevirtual 71, 3) := by decide +kernel
theorem dX2_sign_35 : decode cX2_sign 35 = .ok (.aload_n 2, 1) := by decide +kernel
theorem dX2_sign_36 : decode cX2_sign 36 = .ok (.getfield 79, 3) := by decide +kernel
theorem dX2_sign_39 : decode cX2_sign 39 = .ok (.iload_n 1, 1) := by decide +kernel
theorem dX2_sign_40 : decode cX2_sign 40 = .ok (.aaload, 1) := by decide +kernel
theorem dX2_sign_41 : decode cX2_sign 41 = .ok (.aload_n 0, 1) := by decide +kernel
theorem dX2_sign_42 : decode cX2_sign 42 = .ok (.getfield 18, 3) := by decide +kernel
theorem dX2_sign_45 : decode cX2_sign 45 = .ok (.invokevirtual 71, 3) := by decide +kernel
theorem dX2_sign_48 : decode cX2_sign 48 = .ok (.aload_n 0, 1) := by decide +kernel
theorem dX2_sign_49 : decode cX2_sign 49 = .ok (.dup, 1) := by decide +kernel
theorem dX2_sign_50 : decode cX2_sign 50 = .ok (.getfield 53, 3) := by decide +kernel
theorem dX2_sign_53 : decode cX2_sign 53 = .ok (.iconst 1, 1) := by decide +kernel
theorem dX2_sign_54 : decode cX2_sign 54 = .ok (.iadd, 1) := by decide +kernel
theorem dX2_sign_55 : decode cX2_sign 55 = .ok (.putfield 53, 3) := by decide +kernel
theorem dX2_sign_58 : decode cX2_sign 58 = .ok (.return_, 1) := by decide +kernel
theorem dX2_proveLack_0 : decode cX2_proveLack 0 = .ok (.aload_n 0, 1) := by decide +kernel
theorem dX2_proveLack_1 : decode cX2_proveLack 1 = .ok (.getfield 18, 3) := by decide +kernel
theorem dX2_proveLack_4 : decode cX2_proveLack 4 = .ok (.aload_n 1, 1) := by decide +kernel
theorem dX2_proveLack_5 : decode cX2_proveLack 5 = .ok (.invokevirtual 83, 3) := by decide +kernel
theorem dX2_proveLack_8 : decode cX2_proveLack 8 = .ok (.iconst 2, 1) := by decide +kernel
theorem dX2_proveLack_9 : decode cX2_proveLack 9 = .ok (.if_icmp .ne 16, 3) := by decide +kernel
theorem dX2_proveLack_12 : decode cX2_proveLack 12 = .ok (.aload_n 0, 1) := by decide +kernel
theorem dX2_proveLack_13 : decode cX2_proveLack 13 = .ok (.getfield 24, 3) := by decide +kernel
theorem dX2_proveLack_16 : decode cX2_proveLack 16 = .ok (.aload_n 0, 1) := by decide +kernel
theorem dX2_proveLack_17 : decode cX2_proveLack 17 = .ok (.getfield 18, 3) := by decide +kernel
theorem dX2_proveLack_20 : decode cX2_proveLack 20 = .ok (.aload_n 1, 1) := by decide +kernel
theorem dX2_proveLack_21 : decode cX2_proveLack 21 = .ok (.iconst 0, 1) := by decide +kernel
theorem dX2_proveLack_22 : decode cX2_proveLack 22 = .ok (.invokevirtual 87, 3) := by decide +kernel
theorem dX2_proveLack_25 : decode cX2_proveLack 25 = .ok (.return_, 1) := by decide +kernel
theorem dX2_learn_0 : decode cX2_learn 0 = .ok (.aload_n 1, 1) := by decide +kernel
theorem dX2_learn_1 : decode cX2_learn 1 = .ok (.aload_n 0, 1) := by decide +kernel
theorem dX2_learn_2 : decode cX2_learn 2 = .ok (.getfield 18, 3) := by decide +kernel
theorem dX2_learn_5 : decode cX2_learn 5 = .ok (.invokevirtual 91, 3) := by decide +kernel
theorem dX2_learn_8 : decode cX2_learn 8 = .ok (.ifCond .eq 5, 3) := by decide +kernel
theorem dX2_learn_11 : decode cX2_learn 11 = .ok (.iconst 0, 1) := by decide +kernel
theorem dX2_learn_12 : decode cX2_learn 12 = .ok (.ireturn, 1) := by decide +kernel
theorem dX2_learn_13 : decode cX2_learn 13 = .ok (.aload_n 0, 1) := by decide +kernel
theorem dX2_learn_14 : decode cX2_learn 14 = .ok (.getfield 18, 3) := by decide +kernel
theorem dX2_learn_17 : decode cX2_learn 17 = .ok (.aload_n 1, 1) := by decide +kernel
theorem dX2_learn_18 : decode cX2_learn 18 = .ok (.invokevirtual 91, 3) := by decide +kernel
theorem dX2_learn_21 : decode cX2_learn 21 = .ok (.ifCond .eq 13, 3) := by decide +kernel
theorem dX2_learn_24 : decode cX2_learn 24 = .ok (.aload_n 0, 1) := by decide +kernel
theorem dX2_learn_25 : decode cX2_learn 25 = .ok (.getfield 18, 3) := by decide +kernel
theorem dX2_learn_28 : decode cX2_learn 28 = .ok (.aload_n 1, 1) := by decide +kernel
theorem dX2_learn_29 : decode cX2_learn 29 = .ok (.invokevirtual 71, 3) := by decide +kernel
theorem dX2_learn_32 : decode cX2_learn 32 = .ok (.iconst 1, 1) := by decide +kernel
theorem dX2_learn_33 : decode cX2_learn 33 = .ok (.ireturn, 1) := by decide +kernel
theorem dX2_learn_34 : decode cX2_learn 34 = .ok (.aload_n 0, 1) := by decide +kernel
theorem dX2_learn_35 : decode cX2_learn 35 = .ok (.getfield 24, 3) := by decide +kernel
theorem dX2_learn_38 : decode cX2_learn 38 = .ok (.aload_n 0, 1) := by decide +kernel
theorem dX2_learn_39 : decode cX2_learn 39 = .ok (.getfield 18, 3) := by decide +kernel
theorem dX2_learn_42 : decode cX2_learn 42 = .ok (.aload_n 1, 1) := by decide +kernel
theorem dX2_learn_43 : decode cX2_learn 43 = .ok (.iconst 0, 1) := by decide +kernel
theorem dX2_learn_44 : decode cX2_learn 44 = .ok (.invokevirtual 87, 3) := by decide +kernel
theorem dX2_learn_47 : decode cX2_learn 47 = .ok (.aload_n 0, 1) := by decide +kernel
theorem dX2_learn_48 : decode cX2_learn 48 = .ok (.iconst 4, 1) := by decide +kernel
theorem dX2_learn_49 : decode cX2_learn 49 = .ok (.invokevirtual 95, 3) := by decide +kernel
theorem dX2_learn_52 : decode cX2_learn 52 = .ok (.iconst 2, 1) := by decide +kernel
theorem dX2_learn_53 : decode cX2_learn 53 = .ok (.ireturn, 1) := by decide +kernel
theorem dX3_init_0 : decode cX3_init 0 = .ok (.aload_n 0, 1) := by decide +kernel
theorem dX3_init_1 : decode cX3_init 1 = .ok (.invokespecial 1, 3) := by decide +kernel
theorem dX3_init_4 : decode cX3_init 4 = .ok (.aload_n 0, 1) := by decide +kernel
theorem dX3_init_5 : decode cX3_init 5 = .ok (.new 7, 3) := by decide +kernel
theorem dX3_init_8 : decode cX3_init 8 = .ok (.dup, 1) := by decide +kernel
theorem dX3_init_9 : decode cX3_init 9 = .ok (.invokespecial 9, 3) := by decide +kernel
theorem dX3_init_12 : decode cX3_init 12 = .ok (.putfield 10, 3) := by decide +kernel
theorem dX3_init_15 : decode cX3_init 15 = .ok (.aload_n 0, 1) := by decide +kernel
theorem dX3_init_16 : decode cX3_init 16 = .ok (.new 7, 3) := by decide +kernel
theorem dX3_init_19 : decode cX3_init 19 = .ok (.dup, 1) := by decide +kernel
theorem dX3_init_20 : decode cX3_init 20 = .ok (.invokespecial 9, 3) := by decide +kernel
theorem dX3_init_23 : decode cX3_init 23 = .ok (.putfield 16, 3) := by decide +kernel
theorem dX3_init_26 : decode cX3_init 26 = .ok (.return_, 1) := by decide +kernel
theorem dX3_clear_0 : decode cX3_clear 0 = .ok (.aload_n 0, 1) := by decide +kernel
theorem dX3_clear_1 : decode cX3_clear 1 = .ok (.iconst 0, 1) := by decide +kernel
theorem dX3_clear_2 : decode cX3_clear 2 = .ok (.putfield 19, 3) := by decide +kernel
theorem dX3_clear_5 : decode cX3_clear 5 = .ok (.return_, 1) := by decide +kernel
theorem dX3_keepFirst_0 : decode cX3_keepFirst 0 = .ok (.aload_n 0, 1) := by decide +kernel
theorem dX3_keepFirst_1 : decode cX3_keepFirst 1 = .ok (.getfield 19, 3) := by decide +kernel
theorem dX3_keepFirst_4 : decode cX3_keepFirst 4 = .ok (.ifCond .eq 4, 3) := by decide +kernel
theorem dX3_keepFirst_7 : decode cX3_keepFirst 7 = .ok (.return_, 1) := by decide +kernel
theorem dX3_keepFirst_8 : decode cX3_keepFirst 8 = .ok (.aload_n 0, 1) := by decide +kernel
theorem dX3_keepFirst_9 : decode cX3_keepFirst 9 = .ok (.getfield 10, 3) := by decide +kernel
theorem dX3_keepFirst_12 : decode cX3_keepFirst 12 = .ok (.aload_n 1, 1) := by decide +kernel
theorem dX3_keepFirst_13 : decode cX3_keepFirst 13 = .ok (.invokevirtual 23, 3) := by decide +kernel
theorem dX3_keepFirst_16 : decode cX3_keepFirst 16 = .ok (.aload_n 0, 1) := by decide +kernel
theorem dX3_keepFirst_17 : decode cX3_keepFirst 17 = .ok (.getfield 16, 3) := by decide +kernel
theorem dX3_keepFirst_20 : decode cX3_keepFirst 20 = .ok (.aload_n 2, 1) := by decide +kernel
theorem dX3_keepFirst_21 : decode cX3_keepFirst 21 = .ok (.invokevirtual 23, 3) := by decide +kernel
theorem dX3_keepFirst_24 : decode cX3_keepFirst 24 = .ok (.aload_n 0, 1) := by decide +kernel
theorem dX3_keepFirst_25 : decode cX3_keepFirst 25 = .ok (.iload_n 3, 1) := by decide +kernel
theorem dX3_keepFirst_26 : decode cX3_keepFirst 26 = .ok (.putfield 27, 3) := by decide +kernel
theorem dX3_keepFirst_29 : decode cX3_keepFirst 29 = .ok (.aload_n 0, 1) := by decide +kernel
theorem dX3_keepFirst_30 : decode cX3_keepFirst 30 = .ok (.iconst 1, 1) := by decide +kernel
theorem dX3_keepFirst_31 : decode cX3_keepFirst 31 = .ok (.putfield 19, 3) := by decide +kernel
theorem dX3_keepFirst_34 : decode cX3_keepFirst 34 = .ok (.return_, 1) := by decide +kernel
theorem dX4_init_0 : decode cX4_init 0 = .ok (.aload_n 0, 1) := by decide +kernel
theorem dX4_init_1 : decode cX4_init 1 = .ok (.invokespecial 3, 3) := by decide +kernel
theorem dX4_init_4 : decode cX4_init 4 = .ok (.aload_n 0, 1) := by decide +kernel
theorem dX4_init_5 : decode cX4_init 5 = .ok (.bipush 60, 2) := by decide +kernel
theorem dX4_init_7 : decode cX4_init 7 = .ok (.newarray .int, 2) := by decide +kernel
theorem dX4_init_9 : decode cX4_init 9 = .ok (.putfield 9, 3) := by decide +kernel
theorem dX4_init_12 : decode cX4_init 12 = .ok (.return_, 1) := by decide +kernel
theorem dX4_append_0 : decode cX4_append 0 = .ok (.aload_n 0, 1) := by decide +kernel
theorem dX4_append_1 : decode cX4_append 1 = .ok (.getfield 15, 3) := by decide +kernel
theorem dX4_append_4 : decode cX4_append 4 = .ok (.bipush 60, 2) := by decide +kernel
theorem dX4_append_6 : decode cX4_append 6 = .ok (.if_icmp .ge 23, 3) := by decide +kernel
theorem dX4_append_9 : decode cX4_append 9 = .ok (.aload_n 0, 1) := by decide +kernel
theorem dX4_append_10 : decode cX4_append 10 = .ok (.getfield 9, 3) := by decide +kernel
theorem dX4_append_13 : decode cX4_append 13 = .ok (.aload_n 0, 1) := by decide +kernel
theorem dX4_append_14 : decode cX4_append 14 = .ok (.getfield 15, 3) := by decide +kernel
theorem dX4_append_17 : decode cX4_append 17 = .ok (.iload_n 1, 1) := by decide +kernel
theorem dX4_append_18 : decode cX4_append 18 = .ok (.iastore, 1) := by decide +kernel
theorem dX4_append_19 : decode cX4_append 19 = .ok (.aload_n 0, 1) := by decide +kernel
theorem dX4_append_20 : decode cX4_append 20 = .ok (.dup, 1) := by decide +kernel
theorem dX4_append_21 : decode cX4_append 21 = .ok (.getfield 15, 3) := by decide +kernel
theorem dX4_append_24 : decode cX4_append 24 = .ok (.iconst 1, 1) := by decide +kernel
theorem dX4_append_25 : decode cX4_append 25 = .ok (.iadd, 1) := by decide +kernel
theorem dX4_append_26 : decode cX4_append 26 = .ok (.putfield 15, 3) := by decide +kernel
theorem dX4_append_29 : decode cX4_append 29 = .ok (.return_, 1) := by decide +kernel
theorem dX4_digit_0 : decode cX4_digit 0 = .ok (.iload_n 1, 1) := by decide +kernel
theorem dX4_digit_1 : decode cX4_digit 1 = .ok (.ifCond .lt 23, 3) := by decide +kernel
theorem dX4_digit_4 : decode cX4_digit 4 = .ok (.iload_n 1, 1) := by decide +kernel
theorem dX4_digit_5 : decode cX4_digit 5 = .ok (.aload_n 0, 1) := by decide +kernel
theorem dX4_digit_6 : decode cX4_digit 6 = .ok (.getfield 15, 3) := by decide +kernel
theorem dX4_digit_9 : decode cX4_digit 9 = .ok (.if_icmp .ge 15, 3) := by decide +kernel
theorem dX4_digit_12 : decode cX4_digit 12 = .ok (.aload_n 0, 1) := by decide +kernel
theorem dX4_digit_13 : decode cX4_digit 13 = .ok (.getfield 9, 3) := by decide +kernel
theorem dX4_digit_16 : decode cX4_digit 16 = .ok (.iload_n 1, 1) := by decide +kernel
theorem dX4_digit_17 : decode cX4_digit 17 = .ok (.iaload, 1) := by decide +kernel
theorem dX4_digit_18 : decode cX4_digit 18 = .ok (.bipush 48, 2) := by decide +kernel
theorem dX4_digit_20 : decode cX4_digit 20 = .ok (.isub, 1) := by decide +kernel
theorem dX4_digit_21 : decode cX4_digit 21 = .ok (.goto 4, 3) := by decide +kernel
theorem dX4_digit_24 : decode cX4_digit 24 = .ok (.iconst 0, 1) := by decide +kernel
theorem dX4_digit_25 : decode cX4_digit 25 = .ok (.ireturn, 1) := by decide +kernel
theorem dX4_fault_0 : decode cX4_fault 0 = .ok (.iconst 0, 1) := by decide +kernel
theorem dX4_fault_1 : decode cX4_fault 1 = .ok (.istore_n 1, 1) := by decide +kernel
theorem dX4_fault_2 : decode cX4_fault 2 = .ok (.iload_n 1, 1) := by decide +kernel
theorem dX4_fault_3 : decode cX4_fault 3 = .ok (.aload_n 0, 1) := by decide +kernel
theorem dX4_fault_4 : decode cX4_fault 4 = .ok (.getfield 15, 3) := by decide +kernel
theorem dX4_fault_7 : decode cX4_fault 7 = .ok (.if_icmp .ge 43, 3) := by decide +kernel
theorem dX4_fault_10 : decode cX4_fault 10 = .ok (.iload_n 1, 1) := by decide +kernel
theorem dX4_fault_11 : decode cX4_fault 11 = .ok (.iconst 3, 1) := by decide +kernel
theorem dX4_fault_12 : decode cX4_fault 12 = .ok (.irem, 1) := by decide +kernel
theorem dX4_fault_13 : decode cX4_fault 13 = .ok (.ifCond .ne 15, 3) := by decide +kernel
theorem dX4_fault_16 : decode cX4_fault 16 = .ok (.aload_n 0, 1) := by decide +kernel
theorem dX4_fault_17 : decode cX4_fault 17 = .ok (.getfield 9, 3) := by decide +kernel
theorem dX4_fault_20 : decode cX4_fault 20 = .ok (.iload_n 1, 1) := by decide +kernel
theorem dX4_fault_21 : decode cX4_fault 21 = .ok (.iaload, 1) := by decide +kernel
theorem dX4_fault_22 : decode cX4_fault 22 = .ok (.invokestatic 19, 3) := by decide +kernel
theorem dX4_fault_25 : decode cX4_fault 25 = .ok (.goto 12, 3) := by decide +kernel
theorem dX4_fault_28 : decode cX4_fault 28 = .ok (.aload_n 0, 1) := by decide +kernel
theorem dX4_fault_29 : decode cX4_fault 29 = .ok (.getfield 9, 3) := by decide +kernel
theorem dX4_fault_32 : decode cX4_fault 32 = .ok (.iload_n 1, 1) := by decide +kernel
theorem dX4_fault_33 : decode cX4_fault 33 = .ok (.iaload, 1) := by decide +kernel
theorem dX4_fault_34 : decode cX4_fault 34 = .ok (.invokestatic 23, 3) := by decide +kernel
theorem dX4_fault_37 : decode cX4_fault 37 = .ok (.istore_n 2, 1) := by decide +kernel
theorem dX4_fault_38 : decode cX4_fault 38 = .ok (.iload_n 2, 1) := by decide +kernel
theorem dX4_fault_39 : decode cX4_fault 39 = .ok (.ifCond .ne 5, 3) := by decide +kernel
theorem dX4_fault_42 : decode cX4_fault 42 = .ok (.iload_n 1, 1) := by decide +kernel
theorem dX4_fault_43 : decode cX4_fault 43 = .ok (.ireturn, 1) := by decide +kernel
theorem dX4_fault_44 : decode cX4_fault 44 = .ok (.iinc 1 1, 3) := by decide +kernel
theorem dX4_fault_47 : decode cX4_fault 47 = .ok (.goto (-45), 3) := by decide +kernel
theorem dX4_fault_50 : decode cX4_fault 50 = .ok (.aload_n 0, 1) := by decide +kernel
theorem dX4_fault_51 : decode cX4_fault 51 = .ok (.getfield 15, 3) := by decide +kernel
theorem dX4_fault_54 : decode cX4_fault 54 = .ok (.iconst 3, 1) := by decide +kernel
theorem dX4_fault_55 : decode cX4_fault 55 = .ok (.irem, 1) := by decide +kernel
theorem dX4_fault_56 : decode cX4_fault 56 = .ok (.ifCond .ne 7, 3) := by decide +kernel
theorem dX4_fault_59 : decode cX4_fault 59 = .ok (.iconst (-1), 1) := by decide +kernel
theorem dX4_fault_60 : decode cX4_fault 60 = .ok (.goto 7, 3) := by decide +kernel
theorem dX4_fault_63 : decode cX4_fault 63 = .ok (.aload_n 0, 1) := by decide +kernel
theorem dX4_fault_64 : decode cX4_fault 64 = .ok (.getfield 15, 3) := by decide +kernel
theorem dX4_fault_67 : decode cX4_fault 67 = .ok (.ireturn, 1) := by decide +kernel
theorem dX4_isLetter_0 : decode cX4_isLetter 0 = .ok (.iload_n 0, 1) := by decide +kernel
theorem dX4_isLetter_1 : decode cX4_isLetter 1 = .ok (.bipush 119, 2) := by decide +kernel
theorem dX4_isLetter_3 : decode cX4_isLetter 3 = .ok (.if_icmp .eq 27, 3) := by decide +kernel
theorem dX4_isLetter_6 : decode cX4_isLetter 6 = .ok (.iload_n 0, 1) := by decide +kernel
theorem dX4_isLetter_7 : decode cX4_isLetter 7 = .ok (.bipush 114, 2) := by decide +kernel
theorem dX4_isLetter_9 : decode cX4_isLetter 9 = .ok (.if_icmp .eq 21, 3) := by decide +kernel
theorem dX4_isLetter_12 : decode cX4_isLetter 12 = .ok (.iload_n 0, 1) := by decide +kernel
theorem dX4_isLetter_13 : decode cX4_isLetter 13 = .ok (.bipush 115, 2) := by decide +kernel
theorem dX4_isLetter_15 : decode cX4_isLetter 15 = .ok (.if_icmp .eq 15, 3) := by decide +kernel
theorem dX4_isLetter_18 : decode cX4_isLetter 18 = .ok (.iload_n 0, 1) := by decide +kernel
theorem dX4_isLetter_19 : decode cX4_isLetter 19 = .ok (.bipush 103, 2) := by decide +kernel
theorem dX4_isLetter_21 : decode cX4_isLetter 21 = .ok (.if_icmp .eq 9, 3) := by decide +kernel
theorem dX4_isLetter_24 : decode cX4_isLetter 24 = .ok (.iload_n 0, 1) := by decide +kernel
theorem dX4_isLetter_25 : decode cX4_isLetter 25 = .ok (.bipush 109, 2) := by decide +kernel
theorem dX4_isLetter_27 : decode cX4_isLetter 27 = .ok (.if_icmp .ne 7, 3) := by decide +kernel
theorem dX4_isLetter_30 : decode cX4_isLetter 30 = .ok (.iconst 1, 1) := by decide +kernel
theorem dX4_isLetter_31 : decode cX4_isLetter 31 = .ok (.goto 4, 3) := by decide +kernel
theorem dX4_isLetter_34 : decode cX4_isLetter 34 = .ok (.iconst 0, 1) := by decide +kernel
theorem dX4_isLetter_35 : decode cX4_isLetter 35 = .ok (.ireturn, 1) := by decide +kernel
theorem dX4_isDigit_0 : decode cX4_isDigit 0 = .ok (.iload_n 0, 1) := by decide +kernel
theorem dX4_isDigit_1 : decode cX4_isDigit 1 = .ok (.bipush 48, 2) := by decide +kernel
theorem dX4_isDigit_3 : decode cX4_isDigit 3 = .ok (.if_icmp .lt 13, 3) := by decide +kernel
theorem dX4_isDigit_6 : decode cX4_isDigit 6 = .ok (.iload_n 0, 1) := by decide +kernel
theorem dX4_isDigit_7 : decode cX4_isDigit 7 = .ok (.bipush 57, 2) := by decide +kernel
theorem dX4_isDigit_9 : decode cX4_isDigit 9 = .ok (.if_icmp .gt 7, 3) := by decide +kernel
theorem dX4_isDigit_12 : decode cX4_isDigit 12 = .ok (.iconst 1, 1) := by decide +kernel
theorem dX4_isDigit_13 : decode cX4_isDigit 13 = .ok (.goto 4, 3) := by decide +kernel
theorem dX4_isDigit_16 : decode cX4_isDigit 16 = .ok (.iconst 0, 1) := by decide +kernel
theorem dX4_isDigit_17 : decode cX4_isDigit 17 = .ok (.ireturn, 1) := by decide +kernel
theorem dX5_init_0 : decode cX5_init 0 = .ok (.aload_n 0, 1) := by decide +kernel
theorem dX5_init_1 : decode cX5_init 1 = .ok (.invokespecial 3, 3) := by decide +kernel
theorem dX5_init_4 : decode cX5_init 4 = .ok (.aload_n 0, 1) := by decide +kernel
theorem dX5_init_5 : decode cX5_init 5 = .ok (.iconst 5, 1) := by decide +kernel
theorem dX5_init_6 : decode cX5_init 6 = .ok (.newarray .int, 2) := by decide +kernel
theorem dX5_init_8 : decode cX5_init 8 = .ok (.putfield 9, 3) := by decide +kernel
theorem dX5_init_11 : decode cX5_init 11 = .ok (.return_, 1) := by decide +kernel
theorem dX5_clear_0 : decode cX5_clear 0 = .ok (.iconst 0, 1) := by decide +kernel
theorem dX5_clear_1 : decode cX5_clear 1 = .ok (.istore_n 1, 1) := by decide +kernel
theorem dX5_clear_2 : decode cX5_clear 2 = .ok (.iload_n 1, 1) := by decide +kernel
theorem dX5_clear_3 : decode cX5_clear 3 = .ok (.iconst 5, 1) := by decide +kernel
theorem dX5_clear_4 : decode cX5_clear 4 = .ok (.if_icmp .ge 16, 3) := by decide +kernel
theorem dX5_clear_7 : decode cX5_clear 7 = .ok (.aload_n 0, 1) := by decide +kernel
theorem dX5_clear_8 : decode cX5_clear 8 = .ok (.getfield 9, 3) := by decide +kernel
theorem dX5_clear_11 : decode cX5_clear 11 = .ok (.iload_n 1, 1) := by decide +kernel
theorem dX5_clear_12 : decode cX5_clear 12 = .ok (.iconst 0, 1) := by decide +kernel
theorem dX5_clear_13 : decode cX5_clear 13 = .ok (.iastore, 1) := by decide +kernel
theorem dX5_clear_14 : decode cX5_clear 14 = .ok (.iinc 1 1, 3) := by decide +kernel
theorem dX5_clear_17 : decode cX5_clear 17 = .ok (.goto (-15), 3) := by decide +kernel
theorem dX5_clear_20 : decode cX5_clear 20 = .ok (.return_, 1) := by decide +kernel
theorem dX5_copyFrom_0 : decode cX5_copyFrom 0 = .ok (.iconst 0, 1) := by decide +kernel
theorem dX5_copyFrom_1 : decode cX5_copyFrom 1 = .ok (.istore_n 2, 1) := by decide +kernel
theorem dX5_copyFrom_2 : decode cX5_copyFrom 2 = .ok (.iload_n 2, 1) := by decide +kernel
theorem dX5_copyFrom_3 : decode cX5_copyFrom 3 = .ok (.iconst 5, 1) := by decide +kernel
theorem dX5_copyFrom_4 : decode cX5_copyFrom 4 = .ok (.if_icmp .ge 21, 3) := by decide +kernel
theorem dX5_copyFrom_7 : decode cX5_copyFrom 7 = .ok (.aload_n 0, 1) := by decide +kernel
theorem dX5_copyFrom_8 : decode cX5_copyFrom 8 = .ok (.getfield 9, 3) := by decide +kernel
theorem dX5_copyFrom_11 : decode cX5_copyFrom 11 = .ok (.iload_n 2, 1) := by decide +kernel
theorem dX5_copyFrom_12 : decode cX5_copyFrom 12 = .ok (.aload_n 1, 1) := by decide +kernel
theorem dX5_copyFrom_13 : decode cX5_copyFrom 13 = .ok (.getfield 9, 3) := by decide +kernel
theorem dX5_copyFrom_16 : decode cX5_copyFrom 16 = .ok (.iload_n 2, 1) := by decide +kernel
theorem dX5_copyFrom_17 : decode cX5_copyFrom 17 = .ok (.iaload, 1) := by decide +kernel
theorem dX5_copyFrom_18 : decode cX5_copyFrom 18 = .ok (.iastore, 1) := by decide +kernel
theorem dX5_copyFrom_19 : decode cX5_copyFrom 19 = .ok (.iinc 2 1, 3) := by decide +kernel
theorem dX5_copyFrom_22 : decode cX5_copyFrom 22 = .ok (.goto (-20), 3) := by decide +kernel
theorem dX5_copyFrom_25 : decode cX5_copyFrom 25 = .ok (.return_, 1) := by decide +kernel
theorem dX5_isAtMost_0 : decode cX5_isAtMost 0 = .ok (.iconst 0, 1) := by decide +kernel
theorem dX5_isAtMost_1 : decode cX5_isAtMost 1 = .ok (.istore_n 2, 1) := by decide +kernel
theorem dX5_isAtMost_2 : decode cX5_isAtMost 2 = .ok (.iload_n 2, 1) := by decide +kernel
theorem dX5_isAtMost_3 : decode cX5_isAtMost 3 = .ok (.iconst 5, 1) := by decide +kernel
theorem dX5_isAtMost_4 : decode cX5_isAtMost 4 = .ok (.if_icmp .ge 26, 3) := by decide +kernel
theorem dX5_isAtMost_7 : decode cX5_isAtMost 7 = .ok (.aload_n 0, 1) := by decide +kernel
theorem dX5_isAtMost_8 : decode cX5_isAtMost 8 = .ok (.getfield 9, 3) := by decide +kernel
theorem dX5_isAtMost_11 : decode cX5_isAtMost 11 = .ok (.iload_n 2, 1) := by decide +kernel
theorem dX5_isAtMost_12 : decode cX5_isAtMost 12 = .ok (.iaload, 1) := by decide +kernel
theorem dX5_isAtMost_13 : decode cX5_isAtMost 13 = .ok (.aload_n 1, 1) := by decide +kernel
theorem dX5_isAtMost_14 : decode cX5_isAtMost 14 = .ok (.getfield 9, 3) := by decide +kernel
theorem dX5_isAtMost_17 : decode cX5_isAtMost 17 = .ok (.iload_n 2, 1) := by decide +kernel
theorem dX5_isAtMost_18 : decode cX5_isAtMost 18 = .ok (.iaload, 1) := by decide +kernel
theorem dX5_isAtMost_19 : decode cX5_isAtMost 19 = .ok (.if_icmp .le 5, 3) := by decide +kernel
theorem dX5_isAtMost_22 : decode cX5_isAtMost 22 = .ok (.iconst 0, 1) := by decide +kernel
theorem dX5_isAtMost_23 : decode cX5_isAtMost 23 = .ok (.ireturn, 1) := by decide +kernel
theorem dX5_isAtMost_24 : decode cX5_isAtMost 24 = .ok (.iinc 2 1, 3) := by decide +kernel
theorem dX5_isAtMost_27 : decode cX5_isAtMost 27 = .ok (.goto (-25), 3) := by decide +kernel
theorem dX5_isAtMost_30 : decode cX5_isAtMost 30 = .ok (.iconst 1, 1) := by decide +kernel
theorem dX5_isAtMost_31 : decode cX5_isAtMost 31 = .ok (.ireturn, 1) := by decide +kernel
theorem dX5_relationTo_0 : decode cX5_relationTo 0 = .ok (.iconst 0, 1) := by decide +kernel
theorem dX5_relationTo_1 : decode cX5_relationTo 1 = .ok (.istore_n 2, 1) := by decide +kernel
theorem dX5_relationTo_2 : decode cX5_relationTo 2 = .ok (.iconst 0, 1) := by decide +kernel
theorem dX5_relationTo_3 : decode cX5_relationTo 3 = .ok (.istore_n 3, 1) := by decide +kernel
theorem dX5_relationTo_4 : decode cX5_relationTo 4 = .ok (.iconst 0, 1) := by decide +kernel
theorem dX5_relationTo_5 : decode cX5_relationTo 5 = .ok (.istore 4, 2) := by decide +kernel
theorem dX5_relationTo_7 : decode cX5_relationTo 7 = .ok (.iload 4, 2) := by decide +kernel
theorem dX5_relationTo_9 : decode cX5_relationTo 9 = .ok (.iconst 5, 1) := by decide +kernel
theorem dX5_relationTo_10 : decode cX5_relationTo 10 = .ok (.if_icmp .ge 47, 3) := by decide +kernel
theorem dX5_relationTo_13 : decode cX5_relationTo 13 = .ok (.aload_n 0, 1) := by decide +kernel
theorem dX5_relationTo_14 : decode cX5_relationTo 14 = .ok (.getfield 9, 3) := by decide +kernel
theorem dX5_relationTo_17 : decode cX5_relationTo 17 = .ok (.iload 4, 2) := by decide +kernel
theorem dX5_relationTo_19 : decode cX5_relationTo 19 = .ok (.iaload, 1) := by decide +kernel
theorem dX5_relationTo_20 : decode cX5_relationTo 20 = .ok (.aload_n 1, 1) := by decide +kernel
theorem dX5_relationTo_21 : decode cX5_relationTo 21 = .ok (.getfield 9, 3) := by decide +kernel
theorem dX5_relationTo_24 : decode cX5_relationTo 24 = .ok (.iload 4, 2) := by decide +kernel
theorem dX5_relationTo_26 : decode cX5_relationTo 26 = .ok (.iaload, 1) := by decide +kernel
theorem dX5_relationTo_27 : decode cX5_relationTo 27 = .ok (.if_icmp .ge 5, 3) := by decide +kernel
theorem dX5_relationTo_30 : decode cX5_relationTo 30 = .ok (.iconst 1, 1) := by decide +kernel
theorem dX5_relationTo_31 : decode cX5_relationTo 31 = .ok (.istore_n 2, 1) := by decide +kernel
theorem dX5_relationTo_32 : decode cX5_relationTo 32 = .ok (.aload_n 0, 1) := by decide +kernel
theorem dX5_relationTo_33 : decode cX5_relationTo 33 = .ok (.getfield 9, 3) := by decide +kernel
theorem dX5_relationTo_36 : decode cX5_relationTo 36 = .ok (.iload 4, 2) := by decide +kernel
theorem dX5_relationTo_38 : decode cX5_relationTo 38 = .ok (.iaload, 1) := by decide +kernel
theorem dX5_relationTo_39 : decode cX5_relationTo 39 = .ok (.aload_n 1, 1) := by decide +kernel
theorem dX5_relationTo_40 : decode cX5_relationTo 40 = .ok (.getfield 9, 3) := by decide +kernel
theorem dX5_relationTo_43 : decode cX5_relationTo 43 = .ok (.iload 4, 2) := by decide +kernel
theorem dX5_relationTo_45 : decode cX5_relationTo 45 = .ok (.iaload, 1) := by decide +kernel
theorem dX5_relationTo_46 : decode cX5_relationTo 46 = .ok (.if_icmp .le 5, 3) := by decide +kernel
theorem dX5_relationTo_49 : decode cX5_relationTo 49 = .ok (.iconst 1, 1) := by decide +kernel
theorem dX5_relationTo_50 : decode cX5_relationTo 50 = .ok (.istore_n 3, 1) := by decide +kernel
theorem dX5_relationTo_51 : decode cX5_relationTo 51 = .ok (.iinc 4 1, 3) := by decide +kernel
theorem dX5_relationTo_54 : decode cX5_relationTo 54 = .ok (.goto (-47), 3) := by decide +kernel
theorem dX5_relationTo_57 : decode cX5_relationTo 57 = .ok (.iload_n 2, 1) := by decide +kernel
theorem dX5_relationTo_58 : decode cX5_relationTo 58 = .ok (.ifCond .eq 13, 3) := by decide +kernel
theorem dX5_relationTo_61 : decode cX5_relationTo 61 = .ok (.iload_n 3, 1) := by decide +kernel
theorem dX5_relationTo_62 : decode cX5_relationTo 62 = .ok (.ifCond .eq 7, 3) := by decide +kernel
theorem dX5_relationTo_65 : decode cX5_relationTo 65 = .ok (.iconst 2, 1) := by decide +kernel
theorem dX5_relationTo_66 : decode cX5_relationTo 66 = .ok (.goto 4, 3) := by decide +kernel
theorem dX5_relationTo_69 : decode cX5_relationTo 69 = .ok (.iconst (-1), 1) := by decide +kernel
theorem dX5_relationTo_70 : decode cX5_relationTo 70 = .ok (.ireturn, 1) := by decide +kernel
theorem dX5_relationTo_71 : decode cX5_relationTo 71 = .ok (.iload_n 3, 1) := by decide +kernel
theorem dX5_relationTo_72 : decode cX5_relationTo 72 = .ok (.ifCond .eq 7, 3) := by decide +kernel
theorem dX5_relationTo_75 : decode cX5_relationTo 75 = .ok (.iconst 1, 1) := by decide +kernel
theorem dX5_relationTo_76 : decode cX5_relationTo 76 = .ok (.goto 4, 3) := by decide +kernel
theorem dX5_relationTo_79 : decode cX5_relationTo 79 = .ok (.iconst 0, 1) := by decide +kernel
theorem dX5_relationTo_80 : decode cX5_relationTo 80 = .ok (.ireturn, 1) := by decide +kernel
theorem dX5_sum_0 : decode cX5_sum 0 = .ok (.iconst 0, 1) := by decide +kernel
theorem dX5_sum_1 : decode cX5_sum 1 = .ok (.istore_n 1, 1) := by decide +kernel
theorem dX5_sum_2 : decode cX5_sum 2 = .ok (.iconst 0, 1) := by decide +kernel
theorem dX5_sum_3 : decode cX5_sum 3 = .ok (.istore_n 2, 1) := by decide +kernel
theorem dX5_sum_4 : decode cX5_sum 4 = .ok (.iload_n 2, 1) := by decide +kernel
theorem dX5_sum_5 : decode cX5_sum 5 = .ok (.iconst 5, 1) := by decide +kernel
theorem dX5_sum_6 : decode cX5_sum 6 = .ok (.if_icmp .ge 18, 3) := by decide +kernel
theorem dX5_sum_9 : decode cX5_sum 9 = .ok (.iload_n 1, 1) := by decide +kernel
theorem dX5_sum_10 : decode cX5_sum 10 = .ok (.aload_n 0, 1) := by decide +kernel
theorem dX5_sum_11 : decode cX5_sum 11 = .ok (.getfield 9, 3) := by decide +kernel
theorem dX5_sum_14 : decode cX5_sum 14 = .ok (.iload_n 2, 1) := by decide +kernel
theorem dX5_sum_15 : decode cX5_sum 15 = .ok (.iaload, 1) := by decide +kernel
theorem dX5_sum_16 : decode cX5_sum 16 = .ok (.iadd, 1) := by decide +kernel
theorem dX5_sum_17 : decode cX5_sum 17 = .ok (.istore_n 1, 1) := by decide +kernel
theorem dX5_sum_18 : decode cX5_sum 18 = .ok (.iinc 2 1, 3) := by decide +kernel
theorem dX5_sum_21 : decode cX5_sum 21 = .ok (.goto (-17), 3) := by decide +kernel
theorem dX5_sum_24 : decode cX5_sum 24 = .ok (.iload_n 1, 1) := by decide +kernel
theorem dX5_sum_25 : decode cX5_sum 25 = .ok (.ireturn, 1) := by decide +kernel
theorem dX6_init_0 : decode cX6_init 0 = .ok (.aload_n 0, 1) := by decide +kernel
theorem dX6_init_1 : decode cX6_init 1 = .ok (.invokespecial 3, 3) := by decide +kernel
theorem dX6_init_4 : decode cX6_init 4 = .ok (.aload_n 0, 1) := by decide +kernel
theorem dX6_init_5 : decode cX6_init 5 = .ok (.new 9, 3) := by decide +kernel
theorem dX6_init_8 : decode cX6_init 8 = .ok (.dup, 1) := by decide +kernel
theorem dX6_init_9 : decode cX6_init 9 = .ok (.invokespecial 11, 3) := by decide +kernel
theorem dX6_init_12 : decode cX6_init 12 = .ok (.putfield 12, 3) := by decide +kernel
theorem dX6_init_15 : decode cX6_init 15 = .ok (.aload_n 0, 1) := by decide +kernel
theorem dX6_init_16 : decode cX6_init 16 = .ok (.iconst 5, 1) := by decide +kernel
theorem dX6_init_17 : decode cX6_init 17 = .ok (.anewarray 9, 3) := by decide +kernel
theorem dX6_init_20 : decode cX6_init 20 = .ok (.putfield 18, 3) := by decide +kernel
theorem dX6_init_23 : decode cX6_init 23 = .ok (.iconst 0, 1) := by decide +kernel
theorem dX6_init_24 : decode cX6_init 24 = .ok (.istore_n 1, 1) := by decide +kernel
theorem dX6_init_25 : decode cX6_init 25 = .ok (.iload_n 1, 1) := by decide +kernel
theorem dX6_init_26 : decode cX6_init 26 = .ok (.iconst 5, 1) := by decide +kernel
theorem dX6_init_27 : decode cX6_init 27 = .ok (.if_icmp .ge 22, 3) := by decide +kernel
theorem dX6_init_30 : decode cX6_init 30 = .ok (.aload_n 0, 1) := by decide +kernel
theorem dX6_init_31 : decode cX6_init 31 = .ok (.getfield 18, 3) := by decide +kernel
theorem dX6_init_34 : decode cX6_init 34 = .ok (.iload_n 1, 1) := by decide +kernel
theorem dX6_init_35 : decode cX6_init 35 = .ok (.new 9, 3) := by decide +kernel
theorem dX6_init_38 : decode cX6_init 38 = .ok (.dup, 1) := by decide +kernel
theorem dX6_init_39 : decode cX6_init 39 = .ok (.invokespecial 11, 3) := by decide +kernel
theorem dX6_init_42 : decode cX6_init 42 = .ok (.aastore, 1) := by decide +kernel
theorem dX6_init_43 : decode cX6_init 43 = .ok (.iinc 1 1, 3) := by decide +kernel
theorem dX6_init_46 : decode cX6_init 46 = .ok (.goto (-21), 3) := by decide +kernel
theorem dX6_init_49 : decode cX6_init 49 = .ok (.return_, 1) := by decide +kernel
theorem dX6_clear_0 : decode cX6_clear 0 = .ok (.aload_n 0, 1) := by decide +kernel
theorem dX6_clear_1 : decode cX6_clear 1 = .ok (.getfield 12, 3) := by decide +kernel
theorem dX6_clear_4 : decode cX6_clear 4 = .ok (.invokevirtual 22, 3) := by decide +kernel
theorem dX6_clear_7 : decode cX6_clear 7 = .ok (.aload_n 0, 1) := by decide +kernel
theorem dX6_clear_8 : decode cX6_clear 8 = .ok (.invokevirtual 25, 3) := by decide +kernel
theorem dX6_clear_11 : decode cX6_clear 11 = .ok (.return_, 1) := by decide +kernel
theorem dX6_forget_0 : decode cX6_forget 0 = .ok (.aload_n 0, 1) := by decide +kernel
theorem dX6_forget_1 : decode cX6_forget 1 = .ok (.iconst 0, 1) := by decide +kernel
theorem dX6_forget_2 : decode cX6_forget 2 = .ok (.putfield 28, 3) := by decide +kernel
theorem dX6_forget_5 : decode cX6_forget 5 = .ok (.aload_n 0, 1) := by decide +kernel
theorem dX6_forget_6 : decode cX6_forget 6 = .ok (.iconst 0, 1) := by decide +kernel
theorem dX6_forget_7 : decode cX6_forget 7 = .ok (.putfield 32, 3) := by decide +kernel
theorem dX6_forget_10 : decode cX6_forget 10 = .ok (.return_, 1) := by decide +kernel
theorem dX6_copyFrom_0 : decode cX6_copyFrom 0 = .ok (.aload_n 0, 1) := by decide +kernel
theorem dX6_copyFrom_1 : decode cX6_copyFrom 1 = .ok (.getfield 12, 3) := by decide +kernel
theorem dX6_copyFrom_4 : decode cX6_copyFrom 4 = .ok (.aload_n 1, 1) := by decide +kernel
theorem dX6_copyFrom_5 : decode cX6_copyFrom 5 = .ok (.getfield 12, 3) := by decide +kernel
theorem dX6_copyFrom_8 : decode cX6_copyFrom 8 = .ok (.invokevirtual 35, 3) := by decide +kernel
theorem dX6_copyFrom_11 : decode cX6_copyFrom 11 = .ok (.iconst 0, 1) := by decide +kernel
theorem dX6_copyFrom_12 : decode cX6_copyFrom 12 = .ok (.istore_n 2, 1) := by decide +kernel
theorem dX6_copyFrom_13 : decode cX6_copyFrom 13 = .ok (.iload_n 2, 1) := by decide +kernel
theorem dX6_copyFrom_14 : decode cX6_copyFrom 14 = .ok (.iconst 5, 1) := by decide +kernel
theorem dX6_copyFrom_15 : decode cX6_copyFrom 15 = .ok (.if_icmp .ge 24, 3) := by decide +kernel
theorem dX6_copyFrom_18 : decode cX6_copyFrom 18 = .ok (.aload_n 0, 1) := by decide +kernel
theorem dX6_copyFrom_19 : decode cX6_copyFrom 19 = .ok (.getfield 18, 3) := by decide +kernel
theorem dX6_copyFrom_22 : decode cX6_copyFrom 22 = .ok (.iload_n 2, 1) := by decide +kernel
theorem dX6_copyFrom_23 : decode cX6_copyFrom 23 = .ok (.aaload, 1) := by decide +kernel
theorem dX6_copyFrom_24 : decode cX6_copyFrom 24 = .ok (.aload_n 1, 1) := by decide +kernel
theorem dX6_copyFrom_25 : decode cX6_copyFrom 25 = .ok (.getfield 18, 3) := by decide +kernel
theorem dX6_copyFrom_28 : decode cX6_copyFrom 28 = .ok (.iload_n 2, 1) := by decide +kernel
theorem dX6_copyFrom_29 : decode cX6_copyFrom 29 = .ok (.aaload, 1) := by decide +kernel
theorem dX6_copyFrom_30 : decode cX6_copyFrom 30 = .ok (.invokevirtual 35, 3) := by decide +kernel
theorem dX6_copyFrom_33 : decode cX6_copyFrom 33 = .ok (.iinc 2 1, 3) := by decide +kernel
theorem dX6_copyFrom_36 : decode cX6_copyFrom 36 = .ok (.goto (-23), 3) := by decide +kernel
theorem dX6_copyFrom_39 : decode cX6_copyFrom 39 = .ok (.aload_n 0, 1) := by decide +kernel
theorem dX6_copyFrom_40 : decode cX6_copyFrom 40 = .ok (.aload_n 1, 1) := by decide +kernel
theorem dX6_copyFrom_41 : decode cX6_copyFrom 41 = .ok (.getfield 28, 3) := by decide +kernel
theorem dX6_copyFrom_44 : decode cX6_copyFrom 44 = .ok (.putfield 28, 3) := by decide +kernel
theorem dX6_copyFrom_47 : decode cX6_copyFrom 47 = .ok (.aload_n 0, 1) := by decide +kernel
theorem dX6_copyFrom_48 : decode cX6_copyFrom 48 = .ok (.aload_n 1, 1) := by decide +kernel
theorem dX6_copyFrom_49 : decode cX6_copyFrom 49 = .ok (.getfield 32, 3) := by decide +kernel
theorem dX6_copyFrom_52 : decode cX6_copyFrom 52 = .ok (.putfield 32, 3) := by decide +kernel
theorem dX6_copyFrom_55 : decode cX6_copyFrom 55 = .ok (.return_, 1) := by decide +kernel
theorem dX6_remember_0 : decode cX6_remember 0 = .ok (.aload_n 0, 1) := by decide +kernel
theorem dX6_remember_1 : decode cX6_remember 1 = .ok (.getfield 18, 3) := by decide +kernel
theorem dX6_remember_4 : decode cX6_remember 4 = .ok (.aload_n 0, 1) := by decide +kernel
theorem dX6_remember_5 : decode cX6_remember 5 = .ok (.getfield 32, 3) := by decide +kernel
theorem dX6_remember_8 : decode cX6_remember 8 = .ok (.aaload, 1) := by decide +kernel
theorem dX6_remember_9 : decode cX6_remember 9 = .ok (.aload_n 0, 1) := by decide +kernel
theorem dX6_remember_10 : decode cX6_remember 10 = .ok (.getfield 12, 3) := by decide +kernel
theorem dX6_remember_13 : decode cX6_remember 13 = .ok (.invokevirtual 35, 3) := by decide +kernel
theorem dX6_remember_16 : decode cX6_remember 16 = .ok (.aload_n 0, 1) := by decide +kernel
theorem dX6_remember_17 : decode cX6_remember 17 = .ok (.aload_n 0, 1) := by decide +kernel
theorem dX6_remember_18 : decode cX6_remember 18 = .ok (.getfield 32, 3) := by decide +kernel
theorem dX6_remember_21 : decode cX6_remember 21 = .ok (.iconst 1, 1) := by decide +kernel
theorem dX6_remember_22 : decode cX6_remember 22 = .ok (.iadd, 1) := by decide +kernel
theorem dX6_remember_23 : decode cX6_remember 23 = .ok (.iconst 5, 1) := by decide +kernel
theorem dX6_remember_24 : decode cX6_remember 24 = .ok (.irem, 1) := by decide +kernel
theorem dX6_remember_25 : decode cX6_remember 25 = .ok (.putfield 32, 3) := by decide +kernel
theorem dX6_remember_28 : decode cX6_remember 28 = .ok (.aload_n 0, 1) := by decide +kernel
theorem dX6_remember_29 : decode cX6_remember 29 = .ok (.getfield 28, 3) := by decide +kernel
theorem dX6_remember_32 : decode cX6_remember 32 = .ok (.iconst 5, 1) := by decide +kernel
theorem dX6_remember_33 : decode cX6_remember 33 = .ok (.if_icmp .ge 13, 3) := by decide +kernel
theorem dX6_remember_36 : decode cX6_remember 36 = .ok (.aload_n 0, 1) := by decide +kernel
theorem dX6_remember_37 : decode cX6_remember 37 = .ok (.dup, 1) := by decide +kernel
theorem dX6_remember_38 : decode cX6_remember 38 = .ok (.getfield 28, 3) := by decide +kernel
theorem dX6_remember_41 : decode cX6_remember 41 = .ok (.iconst 1, 1) := by decide +kernel
theorem dX6_remember_42 : decode cX6_remember 42 = .ok (.iadd, 1) := by decide +kernel
theorem dX6_remember_43 : decode cX6_remember 43 = .ok (.putfield 28, 3) := by decide +kernel
theorem dX6_remember_46 : decode cX6_remember 46 = .ok (.return_, 1) := by decide +kernel
theorem dX6_takeBack_0 : decode cX6_takeBack 0 = .ok (.aload_n 0, 1) := by decide +kernel
theorem dX6_takeBack_1 : decode cX6_takeBack 1 = .ok (.aload_n 0, 1) := by decide +kernel
theorem dX6_takeBack_2 : decode cX6_takeBack 2 = .ok (.getfield 32, 3) := by decide +kernel
theorem dX6_takeBack_5 : decode cX6_takeBack 5 = .ok (.iconst 5, 1) := by decide +kernel
theorem dX6_takeBack_6 : decode cX6_takeBack 6 = .ok (.iadd, 1) := by decide +kernel
theorem dX6_takeBack_7 : decode cX6_takeBack 7 = .ok (.iload_n 1, 1) := by decide +kernel
theorem dX6_takeBack_8 : decode cX6_takeBack 8 = .ok (.isub, 1) := by decide +kernel
theorem dX6_takeBack_9 : decode cX6_takeBack 9 = .ok (.iconst 5, 1) := by decide +kernel
theorem dX6_takeBack_10 : decode cX6_takeBack 10 = .ok (.irem, 1) := by decide +kernel
theorem dX6_takeBack_11 : decode cX6_takeBack 11 = .ok (.putfield 32, 3) := by decide +kernel
theorem dX6_takeBack_14 : decode cX6_takeBack 14 = .ok (.aload_n 0, 1) := by decide +kernel
theorem dX6_takeBack_15 : decode cX6_takeBack 15 = .ok (.getfield 12, 3) := by decide +kernel
theorem dX6_takeBack_18 : decode cX6_takeBack 18 = .ok (.aload_n 0, 1) := by decide +kernel
theorem dX6_takeBack_19 : decode cX6_takeBack 19 = .ok (.getfield 18, 3) := by decide +kernel
theorem dX6_takeBack_22 : decode cX6_takeBack 22 = .ok (.aload_n 0, 1) := by decide +kernel
theorem dX6_takeBack_23 : decode cX6_takeBack 23 = .ok (.getfield 32, 3) := by decide +kernel
theorem dX6_takeBack_26 : decode cX6_takeBack 26 = .ok (.aaload, 1) := by decide +kernel
theorem dX6_takeBack_27 : decode cX6_takeBack 27 = .ok (.invokevirtual 35, 3) := by decide +kernel
theorem dX6_takeBack_30 : decode cX6_takeBack 30 = .ok (.aload_n 0, 1) := by decide +kernel
theorem dX6_takeBack_31 : decode cX6_takeBack 31 = .ok (.dup, 1) := by decide +kernel
theorem dX6_takeBack_32 : decode cX6_takeBack 32 = .ok (.getfield 28, 3) := by decide +kernel
theorem dX6_takeBack_35 : decode cX6_takeBack 35 = .ok (.iload_n 1, 1) := by decide +kernel
theorem dX6_takeBack_36 : decode cX6_takeBack 36 = .ok (.isub, 1) := by decide +kernel
theorem dX6_takeBack_37 : decode cX6_takeBack 37 = .ok (.putfield 28, 3) := by decide +kernel
theorem dX6_takeBack_40 : decode cX6_takeBack 40 = .ok (.return_, 1) := by decide +kernel
end
section
theorem dX7_init_0 : decode cX7_init 0 = .ok (.aload_n 0, 1) := by decide +kernel
theorem dX7_init_1 : decode cX7_init 1 = .ok (.invokespecial 1, 3) := by decide +kernel
theorem dX7_init_4 : decode cX7_init 4 = .ok (.aload_n 0, 1) := by decide +kernel
theorem dX7_init_5 : decode cX7_init 5 = .ok (.iconst 5, 1) := by decide +kernel
theorem dX7_init_6 : decode cX7_init 6 = .ok (.anewarray 9, 3) := by decide +kernel
theorem dX7_init_9 : decode cX7_init 9 = .ok (.putfield 11, 3) := by decide +kernel
theorem dX7_init_12 : decode cX7_init 12 = .ok (.aload_n 0, 1) := by decide +kernel
theorem dX7_init_13 : decode cX7_init 13 = .ok (.bipush 6, 2) := by decide +kernel
theorem dX7_init_15 : decode cX7_init 15 = .ok (.anewarray 15, 3) := by decide +kernel
theorem dX7_init_18 : decode cX7_init 18 = .ok (.putfield 17, 3) := by decide +kernel
theorem dX7_init_21 : decode cX7_init 21 = .ok (.aload_n 0, 1) := by decide +kernel
theorem dX7_init_22 : decode cX7_init 22 = .ok (.new 21, 3) := by decide +kernel
theorem dX7_init_25 : decode cX7_init 25 = .ok (.dup, 1) := by decide +kernel
theorem dX7_init_26 : decode cX7_init 26 = .ok (.invokespecial 23, 3) := by decide +kernel
theorem dX7_init_29 : decode cX7_init 29 = .ok (.putfield 24, 3) := by decide +kernel
theorem dX7_init_32 : decode cX7_init 32 = .ok (.aload_n 0, 1) := by decide +kernel
theorem dX7_init_33 : decode cX7_init 33 = .ok (.iconst 3, 1) := by decide +kernel
theorem dX7_init_34 : decode cX7_init 34 = .ok (.putfield 28, 3) := by decide +kernel
theorem dX7_init_37 : decode cX7_init 37 = .ok (.aload_n 0, 1) := by decide +kernel
theorem dX7_init_38 : decode cX7_init 38 = .ok (.iconst 1, 1) := by decide +kernel
theorem dX7_init_39 : decode cX7_init 39 = .ok (.putfield 32, 3) := by decide +kernel
theorem dX7_init_42 : decode cX7_init 42 = .ok (.iconst 0, 1) := by decide +kernel
theorem dX7_init_43 : decode cX7_init 43 = .ok (.istore_n 1, 1) := by decide +kernel
theorem dX7_init_44 : decode cX7_init 44 = .ok (.iload_n 1, 1) := by decide +kernel
theorem dX7_init_45 : decode cX7_init 45 = .ok (.iconst 5, 1) := by decide +kernel
theorem dX7_init_46 : decode cX7_init 46 = .ok (.if_icmp .ge 22, 3) := by decide +kernel
theorem dX7_init_49 : decode cX7_init 49 = .ok (.aload_n 0, 1) := by decide +kernel
theorem dX7_init_50 : decode cX7_init 50 = .ok (.getfield 11, 3) := by decide +kernel
theorem dX7_init_53 : decode cX7_init 53 = .ok (.iload_n 1, 1) := by decide +kernel
theorem dX7_init_54 : decode cX7_init 54 = .ok (.new 9, 3) := by decide +kernel
theorem dX7_init_57 : decode cX7_init 57 = .ok (.dup, 1) := by decide +kernel
theorem dX7_init_58 : decode cX7_init 58 = .ok (.invokespecial 35, 3) := by decide +kernel
theorem dX7_init_61 : decode cX7_init 61 = .ok (.aastore, 1) := by decide +kernel
theorem dX7_init_62 : decode cX7_init 62 = .ok (.iinc 1 1, 3) := by decide +kernel
theorem dX7_init_65 : decode cX7_init 65 = .ok (.goto (-21), 3) := by decide +kernel
theorem dX7_init_68 : decode cX7_init 68 = .ok (.iconst 0, 1) := by decide +kernel
theorem dX7_init_69 : decode cX7_init 69 = .ok (.istore_n 1, 1) := by decide +kernel
theorem dX7_init_70 : decode cX7_init 70 = .ok (.iload_n 1, 1) := by decide +kernel
theorem dX7_init_71 : decode cX7_init 71 = .ok (.bipush 6, 2) := by decide +kernel
theorem dX7_init_73 : decode cX7_init 73 = .ok (.if_icmp .ge 22, 3) := by decide +kernel
theorem dX7_init_76 : decode cX7_init 76 = .ok (.aload_n 0, 1) := by decide +kernel
theorem dX7_init_77 : decode cX7_init 77 = .ok (.getfield 17, 3) := by decide +kernel
theorem dX7_init_80 : decode cX7_init 80 = .ok (.iload_n 1, 1) := by decide +kernel
theorem dX7_init_81 : decode cX7_init 81 = .ok (.new 15, 3) := by decide +kernel
theorem dX7_init_84 : decode cX7_init 84 = .ok (.dup, 1) := by decide +kernel
theorem dX7_init_85 : decode cX7_init 85 = .ok (.invokespecial 36, 3) := by decide +kernel
theorem dX7_init_88 : decode cX7_init 88 = .ok (.aastore, 1) := by decide +kernel
theorem dX7_init_89 : decode cX7_init 89 = .ok (.iinc 1 1, 3) := by decide +kernel
theorem dX7_init_92 : decode cX7_init 92 = .ok (.goto (-22), 3) := by decide +kernel
theorem dX7_init_95 : decode cX7_init 95 = .ok (.return_, 1) := by decide +kernel
theorem dX7_reset_0 : decode cX7_reset 0 = .ok (.iload_n 1, 1) := by decide +kernel
theorem dX7_reset_1 : decode cX7_reset 1 = .ok (.iconst 2, 1) := by decide +kernel
theorem dX7_reset_2 : decode cX7_reset 2 = .ok (.if_icmp .lt 8, 3) := by decide +kernel
theorem dX7_reset_5 : decode cX7_reset 5 = .ok (.iload_n 1, 1) := by decide +kernel
theorem dX7_reset_6 : decode cX7_reset 6 = .ok (.iconst 5, 1) := by decide +kernel
theorem dX7_reset_7 : decode cX7_reset 7 = .ok (.if_icmp .le 7, 3) := by decide +kernel
theorem dX7_reset_10 : decode cX7_reset 10 = .ok (.sipush (-10002), 3) := by decide +kernel
theorem dX7_reset_13 : decode cX7_reset 13 = .ok (.ireturn, 1) := by decide +kernel
theorem dX7_reset_14 : decode cX7_reset 14 = .ok (.aload_n 0, 1) := by decide +kernel
theorem dX7_reset_15 : decode cX7_reset 15 = .ok (.getfield 28, 3) := by decide +kernel
theorem dX7_reset_18 : decode cX7_reset 18 = .ok (.istore_n 2, 1) := by decide +kernel
theorem dX7_reset_19 : decode cX7_reset 19 = .ok (.aload_n 0, 1) := by decide +kernel
theorem dX7_reset_20 : decode cX7_reset 20 = .ok (.iload_n 1, 1) := by decide +kernel
theorem dX7_reset_21 : decode cX7_reset 21 = .ok (.putfield 28, 3) := by decide +kernel
theorem dX7_reset_24 : decode cX7_reset 24 = .ok (.aload_n 0, 1) := by decide +kernel
theorem dX7_reset_25 : decode cX7_reset 25 = .ok (.iconst 1, 1) := by decide +kernel
theorem dX7_reset_26 : decode cX7_reset 26 = .ok (.putfield 32, 3) := by decide +kernel
theorem dX7_reset_29 : decode cX7_reset 29 = .ok (.iconst 0, 1) := by decide +kernel
theorem dX7_reset_30 : decode cX7_reset 30 = .ok (.istore_n 3, 1) := by decide +kernel
theorem dX7_reset_31 : decode cX7_reset 31 = .ok (.iload_n 3, 1) := by decide +kernel
theorem dX7_reset_32 : decode cX7_reset 32 = .ok (.iconst 5, 1) := by decide +kernel
theorem dX7_reset_33 : decode cX7_reset 33 = .ok (.if_icmp .ge 18, 3) := by decide +kernel
theorem dX7_reset_36 : decode cX7_reset 36 = .ok (.aload_n 0, 1) := by decide +kernel
theorem dX7_reset_37 : decode cX7_reset 37 = .ok (.getfield 11, 3) := by decide +kernel
theorem dX7_reset_40 : decode cX7_reset 40 = .ok (.iload_n 3, 1) := by decide +kernel
theorem dX7_reset_41 : decode cX7_reset 41 = .ok (.aaload, 1) := by decide +kernel
theorem dX7_reset_42 : decode cX7_reset 42 = .ok (.invokevirtual 37, 3) := by decide +kernel
theorem dX7_reset_45 : decode cX7_reset 45 = .ok (.iinc 3 1, 3) := by decide +kernel
theorem dX7_reset_48 : decode cX7_reset 48 = .ok (.goto (-17), 3) := by decide +kernel
theorem dX7_reset_51 : decode cX7_reset 51 = .ok (.aload_n 0, 1) := by decide +kernel
theorem dX7_reset_52 : decode cX7_reset 52 = .ok (.getfield 17, 3) := by decide +kernel
theorem dX7_reset_55 : decode cX7_reset 55 = .ok (.iconst 0, 1) := by decide +kernel
theorem dX7_reset_56 : decode cX7_reset 56 = .ok (.aaload, 1) := by decide +kernel
theorem dX7_reset_57 : decode cX7_reset 57 = .ok (.invokevirtual 40, 3) := by decide +kernel
theorem dX7_reset_60 : decode cX7_reset 60 = .ok (.iload_n 2, 1) := by decide +kernel
theorem dX7_reset_61 : decode cX7_reset 61 = .ok (.ireturn, 1) := by decide +kernel
theorem dX7_write_0 : decode cX7_write 0 = .ok (.aload_n 0, 1) := by decide +kernel
theorem dX7_write_1 : decode cX7_write 1 = .ok (.iload_n 1, 1) := by decide +kernel
theorem dX7_write_2 : decode cX7_write 2 = .ok (.invokevirtual 41, 3) := by decide +kernel
theorem dX7_write_5 : decode cX7_write 5 = .ok (.ifCond .ne 7, 3) := by decide +kernel
theorem dX7_write_8 : decode cX7_write 8 = .ok (.sipush (-10001), 3) := by decide +kernel
theorem dX7_write_11 : decode cX7_write 11 = .ok (.ireturn, 1) := by decide +kernel
theorem dX7_write_12 : decode cX7_write 12 = .ok (.iload_n 2, 1) := by decide +kernel
theorem dX7_write_13 : decode cX7_write 13 = .ok (.sipush (-1000), 3) := by decide +kernel
theorem dX7_write_16 : decode cX7_write 16 = .ok (.if_icmp .lt 10, 3) := by decide +kernel
theorem dX7_write_19 : decode cX7_write 19 = .ok (.iload_n 2, 1) := by decide +kernel
theorem dX7_write_20 : decode cX7_write 20 = .ok (.sipush 1000, 3) := by decide +kernel
theorem dX7_write_23 : decode cX7_write 23 = .ok (.if_icmp .le 7, 3) := by decide +kernel
theorem dX7_write_26 : decode cX7_write 26 = .ok (.sipush (-10002), 3) := by decide +kernel
theorem dX7_write_29 : decode cX7_write 29 = .ok (.ireturn, 1) := by decide +kernel
theorem dX7_write_30 : decode cX7_write 30 = .ok (.aload_n 0, 1) := by decide +kernel
theorem dX7_write_31 : decode cX7_write 31 = .ok (.getfield 11, 3) := by decide +kernel
theorem dX7_write_34 : decode cX7_write 34 = .ok (.iload_n 1, 1) := by decide +kernel
theorem dX7_write_35 : decode cX7_write 35 = .ok (.aaload, 1) := by decide +kernel
theorem dX7_write_36 : decode cX7_write 36 = .ok (.getfield 45, 3) := by decide +kernel
theorem dX7_write_39 : decode cX7_write 39 = .ok (.ifCond .eq 7, 3) := by decide +kernel
theorem dX7_write_42 : decode cX7_write 42 = .ok (.sipush (-10003), 3) := by decide +kernel
theorem dX7_write_45 : decode cX7_write 45 = .ok (.ireturn, 1) := by decide +kernel
theorem dX7_write_46 : decode cX7_write 46 = .ok (.aload_n 0, 1) := by decide +kernel
theorem dX7_write_47 : decode cX7_write 47 = .ok (.iload_n 1, 1) := by decide +kernel
theorem dX7_write_48 : decode cX7_write 48 = .ok (.invokevirtual 48, 3) := by decide +kernel
theorem dX7_write_51 : decode cX7_write 51 = .ok (.istore_n 3, 1) := by decide +kernel
theorem dX7_write_52 : decode cX7_write 52 = .ok (.iload_n 3, 1) := by decide +kernel
theorem dX7_write_53 : decode cX7_write 53 = .ok (.ifCond .ne 14, 3) := by decide +kernel
theorem dX7_write_56 : decode cX7_write 56 = .ok (.aload_n 0, 1) := by decide +kernel
theorem dX7_write_57 : decode cX7_write 57 = .ok (.iload_n 1, 1) := by decide +kernel
theorem dX7_write_58 : decode cX7_write 58 = .ok (.invokevirtual 52, 3) := by decide +kernel
theorem dX7_write_61 : decode cX7_write 61 = .ok (.getfield 56, 3) := by decide +kernel
theorem dX7_write_64 : decode cX7_write 64 = .ok (.iload_n 1, 1) := by decide +kernel
theorem dX7_write_65 : decode cX7_write 65 = .ok (.iload_n 2, 1) := by decide +kernel
theorem dX7_write_66 : decode cX7_write 66 = .ok (.iastore, 1) := by decide +kernel
theorem dX7_write_67 : decode cX7_write 67 = .ok (.iload_n 3, 1) := by decide +kernel
theorem dX7_write_68 : decode cX7_write 68 = .ok (.ireturn, 1) := by decide +kernel
theorem dX7_read_0 : decode cX7_read 0 = .ok (.aload_n 0, 1) := by decide +kernel
theorem dX7_read_1 : decode cX7_read 1 = .ok (.iload_n 1, 1) := by decide +kernel
theorem dX7_read_2 : decode cX7_read 2 = .ok (.invokevirtual 41, 3) := by decide +kernel
theorem dX7_read_5 : decode cX7_read 5 = .ok (.ifCond .eq 11, 3) := by decide +kernel
theorem dX7_read_8 : decode cX7_read 8 = .ok (.aload_n 0, 1) := by decide +kernel
theorem dX7_read_9 : decode cX7_read 9 = .ok (.iload_n 2, 1) := by decide +kernel
theorem dX7_read_10 : decode cX7_read 10 = .ok (.invokevirtual 41, 3) := by decide +kernel
theorem dX7_read_13 : decode cX7_read 13 = .ok (.ifCond .ne 7, 3) := by decide +kernel
theorem dX7_read_16 : decode cX7_read 16 = .ok (.sipush (-10001), 3) := by decide +kernel
theorem dX7_read_19 : decode cX7_read 19 = .ok (.ireturn, 1) := by decide +kernel
theorem dX7_read_20 : decode cX7_read 20 = .ok (.aload_n 0, 1) := by decide +kernel
theorem dX7_read_21 : decode cX7_read 21 = .ok (.getfield 11, 3) := by decide +kernel
theorem dX7_read_24 : decode cX7_read 24 = .ok (.iload_n 1, 1) := by decide +kernel
theorem dX7_read_25 : decode cX7_read 25 = .ok (.aaload, 1) := by decide +kernel
theorem dX7_read_26 : decode cX7_read 26 = .ok (.getfield 45, 3) := by decide +kernel
theorem dX7_read_29 : decode cX7_read 29 = .ok (.ifCond .eq 7, 3) := by decide +kernel
theorem dX7_read_32 : decode cX7_read 32 = .ok (.sipush (-10003), 3) := by decide +kernel
theorem dX7_read_35 : decode cX7_read 35 = .ok (.ireturn, 1) := by decide +kernel
theorem dX7_read_36 : decode cX7_read 36 = .ok (.aload_n 0, 1) := by decide +kernel
theorem dX7_read_37 : decode cX7_read 37 = .ok (.iload_n 1, 1) := by decide +kernel
theorem dX7_read_38 : decode cX7_read 38 = .ok (.invokevirtual 48, 3) := by decide +kernel
theorem dX7_read_41 : decode cX7_read 41 = .ok (.istore_n 3, 1) := by decide +kernel
theorem dX7_read_42 : decode cX7_read 42 = .ok (.iload_n 3, 1) := by decide +kernel
theorem dX7_read_43 : decode cX7_read 43 = .ok (.ifCond .ne 22, 3) := by decide +kernel
theorem dX7_read_46 : decode cX7_read 46 = .ok (.aload_n 0, 1) := by decide +kernel
theorem dX7_read_47 : decode cX7_read 47 = .ok (.getfield 11, 3) := by decide +kernel
theorem dX7_read_50 : decode cX7_read 50 = .ok (.iload_n 1, 1) := by decide +kernel
theorem dX7_read_51 : decode cX7_read 51 = .ok (.aaload, 1) := by decide +kernel
theorem dX7_read_52 : decode cX7_read 52 = .ok (.aload_n 0, 1) := by decide +kernel
theorem dX7_read_53 : decode cX7_read 53 = .ok (.iload_n 1, 1) := by decide +kernel
theorem dX7_read_54 : decode cX7_read 54 = .ok (.invokevirtual 52, 3) := by decide +kernel
theorem dX7_read_57 : decode cX7_read 57 = .ok (.getfield 56, 3) := by decide +kernel
theorem dX7_read_60 : decode cX7_read 60 = .ok (.iload_n 2, 1) := by decide +kernel
theorem dX7_read_61 : decode cX7_read 61 = .ok (.iaload, 1) := by decide +kernel
theorem dX7_read_62 : decode cX7_read 62 = .ok (.invokevirtual 62, 3) := by decide +kernel
theorem dX7_read_65 : decode cX7_read 65 = .ok (.iload_n 3, 1) := by decide +kernel
theorem dX7_read_66 : decode cX7_read 66 = .ok (.ireturn, 1) := by decide +kernel
theorem dX7_lastRead_0 : decode cX7_lastRead 0 = .ok (.aload_n 0, 1) := by decide +kernel
theorem dX7_lastRead_1 : decode cX7_lastRead 1 = .ok (.iload_n 1, 1) := by decide +kernel
theorem dX7_lastRead_2 : decode cX7_lastRead 2 = .ok (.invokevirtual 41, 3) := by decide +kernel
theorem dX7_lastRead_5 : decode cX7_lastRead 5 = .ok (.ifCond .ne 7, 3) := by decide +kernel
theorem dX7_lastRead_8 : decode cX7_lastRead 8 = .ok (.sipush (-10001), 3) := by decide +kernel
theorem dX7_lastRead_11 : decode cX7_lastRead 11 = .ok (.ireturn, 1) := by decide +kernel
theorem dX7_lastRead_12 : decode cX7_lastRead 12 = .ok (.aload_n 0, 1) := by decide +kernel
theorem dX7_lastRead_13 : decode cX7_lastRead 13 = .ok (.getfield 11, 3) := by decide +kernel
theorem dX7_lastRead_16 : decode cX7_lastRead 16 = .ok (.iload_n 1, 1) := by decide +kernel
theorem dX7_lastRead_17 : decode cX7_lastRead 17 = .ok (.aaload, 1) := by decide +kernel
theorem dX7_lastRead_18 : decode cX7_lastRead 18 = .ok (.getfield 66, 3) := by decide +kernel
theorem dX7_lastRead_21 : decode cX7_lastRead 21 = .ok (.ifCond .ne 7, 3) := by decide +kernel
theorem dX7_lastRead_24 : decode cX7_lastRead 24 = .ok (.sipush (-10005), 3) := by decide +kernel
theorem dX7_lastRead_27 : decode cX7_lastRead 27 = .ok (.ireturn, 1) := by decide +kernel
theorem dX7_lastRead_28 : decode cX7_lastRead 28 = .ok (.aload_n 0, 1) := by decide +kernel
theorem dX7_lastRead_29 : decode cX7_lastRead 29 = .ok (.getfield 11, 3) := by decide +kernel
theorem dX7_lastRead_32 : decode cX7_lastRead 32 = .ok (.iload_n 1, 1) := by decide +kernel
theorem dX7_lastRead_33 : decode cX7_lastRead 33 = .ok (.aaload, 1) := by decide +kernel
theorem dX7_lastRead_34 : decode cX7_lastRead 34 = .ok (.getfield 70, 3) := by decide +kernel
theorem dX7_lastRead_37 : decode cX7_lastRead 37 = .ok (.ireturn, 1) := by decide +kernel
theorem dX7_check_0 : decode cX7_check 0 = .ok (.aload_n 0, 1) := by decide +kernel
theorem dX7_check_1 : decode cX7_check 1 = .ok (.iload_n 1, 1) := by decide +kernel
theorem dX7_check_2 : decode cX7_check 2 = .ok (.invokevirtual 41, 3) := by decide +kernel
theorem dX7_check_5 : decode cX7_check 5 = .ok (.ifCond .ne 7, 3) := by decide +kernel
theorem dX7_check_8 : decode cX7_check 8 = .ok (.sipush (-10001), 3) := by decide +kernel
theorem dX7_check_11 : decode cX7_check 11 = .ok (.ireturn, 1) := by decide +kernel
theorem dX7_check_12 : decode cX7_check 12 = .ok (.aload_n 0, 1) := by decide +kernel
theorem dX7_check_13 : decode cX7_check 13 = .ok (.getfield 11, 3) := by decide +kernel
theorem dX7_check_16 : decode cX7_check 16 = .ok (.iload_n 1, 1) := by decide +kernel
theorem dX7_check_17 : decode cX7_check 17 = .ok (.aaload, 1) := by decide +kernel
theorem dX7_check_18 : decode cX7_check 18 = .ok (.getfield 45, 3) := by decide +kernel
theorem dX7_check_21 : decode cX7_check 21 = .ok (.ifCond .eq 7, 3) := by decide +kernel
theorem dX7_check_24 : decode cX7_check 24 = .ok (.sipush (-10003), 3) := by decide +kernel
theorem dX7_check_27 : decode cX7_check 27 = .ok (.ireturn, 1) := by decide +kernel
theorem dX7_check_28 : decode cX7_check 28 = .ok (.aload_n 0, 1) := by decide +kernel
theorem dX7_check_29 : decode cX7_check 29 = .ok (.iload_n 1, 1) := by decide +kernel
theorem dX7_check_30 : decode cX7_check 30 = .ok (.invokevirtual 73, 3) := by decide +kernel
theorem dX7_check_33 : decode cX7_check 33 = .ok (.ireturn, 1) := by decide +kernel
theorem dX7_fork_0 : decode cX7_fork 0 = .ok (.aload_n 0, 1) := by decide +kernel
theorem dX7_fork_1 : decode cX7_fork 1 = .ok (.iload_n 1, 1) := by decide +kernel
theorem dX7_fork_2 : decode cX7_fork 2 = .ok (.invokevirtual 76, 3) := by decide +kernel
theorem dX7_fork_5 : decode cX7_fork 5 = .ok (.ifCond .ne 7, 3) := by decide +kernel
theorem dX7_fork_8 : decode cX7_fork 8 = .ok (.sipush (-10001), 3) := by decide +kernel
theorem dX7_fork_11 : decode cX7_fork 11 = .ok (.ireturn, 1) := by decide +kernel
theorem dX7_fork_12 : decode cX7_fork 12 = .ok (.iload_n 2, 1) := by decide +kernel
theorem dX7_fork_13 : decode cX7_fork 13 = .ok (.ifCond .eq 15, 3) := by decide +kernel
theorem dX7_fork_16 : decode cX7_fork 16 = .ok (.iload_n 2, 1) := by decide +kernel
theorem dX7_fork_17 : decode cX7_fork 17 = .ok (.aload_n 0, 1) := by decide +kernel
theorem dX7_fork_18 : decode cX7_fork 18 = .ok (.iload_n 1, 1) := by decide +kernel
theorem dX7_fork_19 : decode cX7_fork 19 = .ok (.invokevirtual 79, 3) := by decide +kernel
theorem dX7_fork_22 : decode cX7_fork 22 = .ok (.iconst (-1), 1) := by decide +kernel
theorem dX7_fork_23 : decode cX7_fork 23 = .ok (.ixor, 1) := by decide +kernel
theorem dX7_fork_24 : decode cX7_fork 24 = .ok (.iand, 1) := by decide +kernel
theorem dX7_fork_25 : decode cX7_fork 25 = .ok (.ifCond .eq 7, 3) := by decide +kernel
theorem dX7_fork_28 : decode cX7_fork 28 = .ok (.sipush (-10002), 3) := by decide +kernel
theorem dX7_fork_31 : decode cX7_fork 31 = .ok (.ireturn, 1) := by decide +kernel
theorem dX7_fork_32 : decode cX7_fork 32 = .ok (.aload_n 0, 1) := by decide +kernel
theorem dX7_fork_33 : decode cX7_fork 33 = .ok (.getfield 32, 3) := by decide +kernel
theorem dX7_fork_36 : decode cX7_fork 36 = .ok (.bipush 6, 2) := by decide +kernel
theorem dX7_fork_38 : decode cX7_fork 38 = .ok (.if_icmp .lt 7, 3) := by decide +kernel
theorem dX7_fork_41 : decode cX7_fork 41 = .ok (.sipush (-10004), 3) := by decide +kernel
theorem dX7_fork_44 : decode cX7_fork 44 = .ok (.ireturn, 1) := by decide +kernel
theorem dX7_fork_45 : decode cX7_fork 45 = .ok (.aload_n 0, 1) := by decide +kernel
theorem dX7_fork_46 : decode cX7_fork 46 = .ok (.getfield 32, 3) := by decide +kernel
theorem dX7_fork_49 : decode cX7_fork 49 = .ok (.istore_n 3, 1) := by decide +kernel
theorem dX7_fork_50 : decode cX7_fork 50 = .ok (.aload_n 0, 1) := by decide +kernel
theorem dX7_fork_51 : decode cX7_fork 51 = .ok (.dup, 1) := by decide +kernel
theorem dX7_fork_52 : decode cX7_fork 52 = .ok (.getfield 32, 3) := by decide +kernel
theorem dX7_fork_55 : decode cX7_fork 55 = .ok (.iconst 1, 1) := by decide +kernel
theorem dX7_fork_56 : decode cX7_fork 56 = .ok (.iadd, 1) := by decide +kernel
theorem dX7_fork_57 : decode cX7_fork 57 = .ok (.putfield 32, 3) := by decide +kernel
theorem dX7_fork_60 : decode cX7_fork 60 = .ok (.aload_n 0, 1) := by decide +kernel
theorem dX7_fork_61 : decode cX7_fork 61 = .ok (.getfield 17, 3) := by decide +kernel
theorem dX7_fork_64 : decode cX7_fork 64 = .ok (.iload_n 3, 1) := by decide +kernel
theorem dX7_fork_65 : decode cX7_fork 65 = .ok (.aaload, 1) := by decide +kernel
theorem dX7_fork_66 : decode cX7_fork 66 = .ok (.aload_n 0, 1) := by decide +kernel
theorem dX7_fork_67 : decode cX7_fork 67 = .ok (.getfield 17, 3) := by decide +kernel
theorem dX7_fork_70 : decode cX7_fork 70 = .ok (.iload_n 1, 1) := by decide +kernel
theorem dX7_fork_71 : decode cX7_fork 71 = .ok (.aaload, 1) := by decide +kernel
theorem dX7_fork_72 : decode cX7_fork 72 = .ok (.invokevirtual 82, 3) := by decide +kernel
theorem dX7_fork_75 : decode cX7_fork 75 = .ok (.iconst 0, 1) := by decide +kernel
theorem dX7_fork_76 : decode cX7_fork 76 = .ok (.istore 4, 2) := by decide +kernel
theorem dX7_fork_78 : decode cX7_fork 78 = .ok (.iload 4, 2) := by decide +kernel
theorem dX7_fork_80 : decode cX7_fork 80 = .ok (.aload_n 0, 1) := by decide +kernel
theorem dX7_fork_81 : decode cX7_fork 81 = .ok (.getfield 28, 3) := by decide +kernel
theorem dX7_fork_84 : decode cX7_fork 84 = .ok (.if_icmp .ge 29, 3) := by decide +kernel
theorem dX7_fork_87 : decode cX7_fork 87 = .ok (.iload_n 2, 1) := by decide +kernel
theorem dX7_fork_88 : decode cX7_fork 88 = .ok (.iload 4, 2) := by decide +kernel
theorem dX7_fork_90 : decode cX7_fork 90 = .ok (.invokestatic 86, 3) := by decide +kernel
theorem dX7_fork_93 : decode cX7_fork 93 = .ok (.ifCond .eq 14, 3) := by decide +kernel
theorem dX7_fork_96 : decode cX7_fork 96 = .ok (.aload_n 0, 1) := by decide +kernel
theorem dX7_fork_97 : decode cX7_fork 97 = .ok (.getfield 11, 3) := by decide +kernel
theorem dX7_fork_100 : decode cX7_fork 100 = .ok (.iload 4, 2) := by decide +kernel
theorem dX7_fork_102 : decode cX7_fork 102 = .ok (.aaload, 1) := by decide +kernel
theorem dX7_fork_103 : decode cX7_fork 103 = .ok (.iload_n 3, 1) := by decide +kernel
theorem dX7_fork_104 : decode cX7_fork 104 = .ok (.putfield 90, 3) := by decide +kernel
theorem dX7_fork_107 : decode cX7_fork 107 = .ok (.iinc 4 1, 3) := by decide +kernel
theorem dX7_fork_110 : decode cX7_fork 110 = .ok (.goto (-32), 3) := by decide +kernel
theorem dX7_fork_113 : decode cX7_fork 113 = .ok (.iload_n 3, 1) := by decide +kernel
theorem dX7_fork_114 : decode cX7_fork 114 = .ok (.ireturn, 1) := by decide +kernel
theorem dX7_attach_0 : decode cX7_attach 0 = .ok (.aload_n 0, 1) := by decide +kernel
theorem dX7_attach_1 : decode cX7_attach 1 = .ok (.iload_n 1, 1) := by decide +kernel
theorem dX7_attach_2 : decode cX7_attach 2 = .ok (.invokevirtual 41, 3) := by decide +kernel
theorem dX7_attach_5 : decode cX7_attach 5 = .ok (.ifCond .eq 11, 3) := by decide +kernel
theorem dX7_attach_8 : decode cX7_attach 8 = .ok (.aload_n 0, 1) := by decide +kernel
theorem dX7_attach_9 : decode cX7_attach 9 = .ok (.iload_n 2, 1) := by decide +kernel
theorem dX7_attach_10 : decode cX7_attach 10 = .ok (.invokevirtual 76, 3) := by decide +kernel
theorem dX7_attach_13 : decode cX7_attach 13 = .ok (.ifCond .ne 7, 3) := by decide +kernel
theorem dX7_attach_16 : decode cX7_attach 16 = .ok (.sipush (-10001), 3) := by decide +kernel
theorem dX7_attach_19 : decode cX7_attach 19 = .ok (.ireturn, 1) := by decide +kernel
theorem dX7_attach_20 : decode cX7_attach 20 = .ok (.aload_n 0, 1) := by decide +kernel
theorem dX7_attach_21 : decode cX7_attach 21 = .ok (.getfield 11, 3) := by decide +kernel
theorem dX7_attach_24 : decode cX7_attach 24 = .ok (.iload_n 1, 1) := by decide +kernel
theorem dX7_attach_25 : decode cX7_attach 25 = .ok (.aaload, 1) := by decide +kernel
theorem dX7_attach_26 : decode cX7_attach 26 = .ok (.getfield 90, 3) := by decide +kernel
theorem dX7_attach_29 : decode cX7_attach 29 = .ok (.istore_n 3, 1) := by decide +kernel
theorem dX7_attach_30 : decode cX7_attach 30 = .ok (.aload_n 0, 1) := by decide +kernel
theorem dX7_attach_31 : decode cX7_attach 31 = .ok (.getfield 11, 3) := by decide +kernel
theorem dX7_attach_34 : decode cX7_attach 34 = .ok (.iload_n 1, 1) := by decide +kernel
theorem dX7_attach_35 : decode cX7_attach 35 = .ok (.aaload, 1) := by decide +kernel
theorem dX7_attach_36 : decode cX7_attach 36 = .ok (.iload_n 2, 1) := by decide +kernel
theorem dX7_attach_37 : decode cX7_attach 37 = .ok (.putfield 90, 3) := by decide +kernel
theorem dX7_attach_40 : decode cX7_attach 40 = .ok (.iload_n 3, 1) := by decide +kernel
theorem dX7_attach_41 : decode cX7_attach 41 = .ok (.ireturn, 1) := by decide +kernel
theorem dX7_rollBack_0 : decode cX7_rollBack 0 = .ok (.aload_n 0, 1) := by decide +kernel
theorem dX7_rollBack_1 : decode cX7_rollBack 1 = .ok (.iload_n 1, 1) := by decide +kernel
theorem dX7_rollBack_2 : decode cX7_rollBack 2 = .ok (.invokevirtual 76, 3) := by decide +kernel
theorem dX7_rollBack_5 : decode cX7_rollBack 5 = .ok (.ifCond .ne 7, 3) := by decide +kernel
theorem dX7_rollBack_8 : decode cX7_rollBack 8 = .ok (.sipush (-10001), 3) := by decide +kernel
theorem dX7_rollBack_11 : decode cX7_rollBack 11 = .ok (.ireturn, 1) := by decide +kernel
theorem dX7_rollBack_12 : decode cX7_rollBack 12 = .ok (.iload_n 2, 1) := by decide +kernel
theorem dX7_rollBack_13 : decode cX7_rollBack 13 = .ok (.iconst 1, 1) := by decide +kernel
theorem dX7_rollBack_14 : decode cX7_rollBack 14 = .ok (.if_icmp .lt 8, 3) := by decide +kernel
theorem dX7_rollBack_17 : decode cX7_rollBack 17 = .ok (.iload_n 2, 1) := by decide +kernel
theorem dX7_rollBack_18 : decode cX7_rollBack 18 = .ok (.iconst 5, 1) := by decide +kernel
theorem dX7_rollBack_19 : decode cX7_rollBack 19 = .ok (.if_icmp .le 7, 3) := by decide +kernel
theorem dX7_rollBack_22 : decode cX7_rollBack 22 = .ok (.sipush (-10002), 3) := by decide +kernel
theorem dX7_rollBack_25 : decode cX7_rollBack 25 = .ok (.ireturn, 1) := by decide +kernel
theorem dX7_rollBack_26 : decode cX7_rollBack 26 = .ok (.iload_n 2, 1) := by decide +kernel
theorem dX7_rollBack_27 : decode cX7_rollBack 27 = .ok (.aload_n 0, 1) := by decide +kernel
theorem dX7_rollBack_28 : decode cX7_rollBack 28 = .ok (.getfield 17, 3) := by decide +kernel
theorem dX7_rollBack_31 : decode cX7_rollBack 31 = .ok (.iload_n 1, 1) := by decide +kernel
theorem dX7_rollBack_32 : decode cX7_rollBack 32 = .ok (.aaload, 1) := by decide +kernel
theorem dX7_rollBack_33 : decode cX7_rollBack 33 = .ok (.getfield 93, 3) := by decide +kernel
theorem dX7_rollBack_36 : decode cX7_rollBack 36 = .ok (.if_icmp .le 7, 3) := by decide +kernel
theorem dX7_rollBack_39 : decode cX7_rollBack 39 = .ok (.sipush (-10005), 3) := by decide +kernel
theorem dX7_rollBack_42 : decode cX7_rollBack 42 = .ok (.ireturn, 1) := by decide +kernel
theorem dX7_rollBack_43 : decode cX7_rollBack 43 = .ok (.aload_n 0, 1) := by decide +kernel
theorem dX7_rollBack_44 : decode cX7_rollBack 44 = .ok (.getfield 17, 3) := by decide +kernel
theorem dX7_rollBack_47 : decode cX7_rollBack 47 = .ok (.iload_n 1, 1) := by decide +kernel
theorem dX7_rollBack_48 : decode cX7_rollBack 48 = .ok (.aaload, 1) := by decide +kernel
theorem dX7_rollBack_49 : decode cX7_rollBack 49 = .ok (.iload_n 2, 1) := by decide +kernel
theorem dX7_rollBack_50 : decode cX7_rollBack 50 = .ok (.invokevirtual 96, 3) := by decide +kernel
theorem dX7_rollBack_53 : decode cX7_rollBack 53 = .ok (.aload_n 0, 1) := by decide +kernel
theorem dX7_rollBack_54 : decode cX7_rollBack 54 = .ok (.getfield 17, 3) := by decide +kernel
theorem dX7_rollBack_57 : decode cX7_rollBack 57 = .ok (.iload_n 1, 1) := by decide +kernel
theorem dX7_rollBack_58 : decode cX7_rollBack 58 = .ok (.aaload, 1) := by decide +kernel
theorem dX7_rollBack_59 : decode cX7_rollBack 59 = .ok (.getfield 93, 3) := by decide +kernel
theorem dX7_rollBack_62 : decode cX7_rollBack 62 = .ok (.ireturn, 1) := by decide +kernel
theorem dX7_mix_0 : decode cX7_mix 0 = .ok (.aload_n 0, 1) := by decide +kernel
theorem dX7_mix_1 : decode cX7_mix 1 = .ok (.iload_n 1, 1) := by decide +kernel
theorem dX7_mix_2 : decode cX7_mix 2 = .ok (.invokevirtual 76, 3) := by decide +kernel
theorem dX7_mix_5 : decode cX7_mix 5 = .ok (.ifCond .eq 11, 3) := by decide +kernel
theorem dX7_mix_8 : decode cX7_mix 8 = .ok (.aload_n 0, 1) := by decide +kernel
theorem dX7_mix_9 : decode cX7_mix 9 = .ok (.iload_n 2, 1) := by decide +kernel
theorem dX7_mix_10 : decode cX7_mix 10 = .ok (.invokevirtual 76, 3) := by decide +kernel
theorem dX7_mix_13 : decode cX7_mix 13 = .ok (.ifCond .ne 7, 3) := by decide +kernel
theorem dX7_mix_16 : decode cX7_mix 16 = .ok (.sipush (-10001), 3) := by decide +kernel
theorem dX7_mix_19 : decode cX7_mix 19 = .ok (.ireturn, 1) := by decide +kernel
theorem dX7_mix_20 : decode cX7_mix 20 = .ok (.iload_n 1, 1) := by decide +kernel
theorem dX7_mix_21 : decode cX7_mix 21 = .ok (.iload_n 2, 1) := by decide +kernel
theorem dX7_mix_22 : decode cX7_mix 22 = .ok (.if_icmp .ne 7, 3) := by decide +kernel
theorem dX7_mix_25 : decode cX7_mix 25 = .ok (.sipush (-10002), 3) := by decide +kernel
theorem dX7_mix_28 : decode cX7_mix 28 = .ok (.ireturn, 1) := by decide +kernel
theorem dX7_mix_29 : decode cX7_mix 29 = .ok (.iconst 0, 1) := by decide +kernel
theorem dX7_mix_30 : decode cX7_mix 30 = .ok (.istore_n 3, 1) := by decide +kernel
theorem dX7_mix_31 : decode cX7_mix 31 = .ok (.iload_n 3, 1) := by decide +kernel
theorem dX7_mix_32 : decode cX7_mix 32 = .ok (.aload_n 0, 1) := by decide +kernel
theorem dX7_mix_33 : decode cX7_mix 33 = .ok (.getfield 28, 3) := by decide +kernel
theorem dX7_mix_36 : decode cX7_mix 36 = .ok (.if_icmp .ge 32, 3) := by decide +kernel
theorem dX7_mix_39 : decode cX7_mix 39 = .ok (.aload_n 0, 1) := by decide +kernel
theorem dX7_mix_40 : decode cX7_mix 40 = .ok (.getfield 11, 3) := by decide +kernel
theorem dX7_mix_43 : decode cX7_mix 43 = .ok (.iload_n 3, 1) := by decide +kernel
theorem dX7_mix_44 : decode cX7_mix 44 = .ok (.aaload, 1) := by decide +kernel
theorem dX7_mix_45 : decode cX7_mix 45 = .ok (.getfield 90, 3) := by decide +kernel
theorem dX7_mix_48 : decode cX7_mix 48 = .ok (.iload_n 2, 1) := by decide +kernel
theorem dX7_mix_49 : decode cX7_mix 49 = .ok (.if_icmp .ne 13, 3) := by decide +kernel
theorem dX7_mix_52 : decode cX7_mix 52 = .ok (.aload_n 0, 1) := by decide +kernel
theorem dX7_mix_53 : decode cX7_mix 53 = .ok (.getfield 11, 3) := by decide +kernel
theorem dX7_mix_56 : decode cX7_mix 56 = .ok (.iload_n 3, 1) := by decide +kernel
theorem dX7_mix_57 : decode cX7_mix 57 = .ok (.aaload, 1) := by decide +kernel
theorem dX7_mix_58 : decode cX7_mix 58 = .ok (.iload_n 1, 1) := by decide +kernel
theorem dX7_mix_59 : decode cX7_mix 59 = .ok (.putfield 90, 3) := by decide +kernel
theorem dX7_mix_62 : decode cX7_mix 62 = .ok (.iinc 3 1, 3) := by decide +kernel
theorem dX7_mix_65 : decode cX7_mix 65 = .ok (.goto (-34), 3) := by decide +kernel
theorem dX7_mix_68 : decode cX7_mix 68 = .ok (.aload_n 0, 1) := by decide +kernel
theorem dX7_mix_69 : decode cX7_mix 69 = .ok (.getfield 17, 3) := by decide +kernel
theorem dX7_mix_72 : decode cX7_mix 72 = .ok (.iload_n 1, 1) := by decide +kernel
theorem dX7_mix_73 : decode cX7_mix 73 = .ok (.aaload, 1) := by decide +kernel
theorem dX7_mix_74 : decode cX7_mix 74 = .ok (.invokevirtual 99, 3) := by decide +kernel
theorem dX7_mix_77 : decode cX7_mix 77 = .ok (.aload_n 0, 1) := by decide +kernel
theorem dX7_mix_78 : decode cX7_mix 78 = .ok (.getfield 17, 3) := by decide +kernel
theorem dX7_mix_81 : decode cX7_mix 81 = .ok (.iload_n 1, 1) := by decide +kernel
theorem dX7_mix_82 : decode cX7_mix 82 = .ok (.aaload, 1) := by decide +kernel
theorem dX7_mix_83 : decode cX7_mix 83 = .ok (.getfield 102, 3) := by decide +kernel
theorem dX7_mix_86 : decode cX7_mix 86 = .ok (.aload_n 0, 1) := by decide +kernel
theorem dX7_mix_87 : decode cX7_mix 87 = .ok (.getfield 17, 3) := by decide +kernel
theorem dX7_mix_90 : decode cX7_mix 90 = .ok (.iload_n 2, 1) := by decide +kernel
theorem dX7_mix_91 : decode cX7_mix 91 = .ok (.aaload, 1) := by decide +kernel
theorem dX7_mix_92 : decode cX7_mix 92 = .ok (.getfield 102, 3) := by decide +kernel
theorem dX7_mix_95 : decode cX7_mix 95 = .ok (.invokevirtual 106, 3) := by decide +kernel
theorem dX7_mix_98 : decode cX7_mix 98 = .ok (.ireturn, 1) := by decide +kernel
theorem dX7_sendLetter_0 : decode cX7_sendLetter 0 = .ok (.aload_n 0, 1) := by decide +kernel
theorem dX7_sendLetter_1 : decode cX7_sendLetter 1 = .ok (.iload_n 1, 1) := by decide +kernel
theorem dX7_sendLetter_2 : decode cX7_sendLetter 2 = .ok (.invokevirtual 41, 3) := by decide +kernel
theorem dX7_sendLetter_5 : decode cX7_sendLetter 5 = .ok (.ifCond .eq 11, 3) := by decide +kernel
theorem dX7_sendLetter_8 : decode cX7_sendLetter 8 = .ok (.aload_n 0, 1) := by decide +kernel
theorem dX7_sendLetter_9 : decode cX7_sendLetter 9 = .ok (.iload_n 2, 1) := by decide +kernel
theorem dX7_sendLetter_10 : decode cX7_sendLetter 10 = .ok (.invokevirtual 41, 3) := by decide +kernel
theorem dX7_sendLetter_13 : decode cX7_sendLetter 13 = .ok (.ifCond .ne 7, 3) := by decide +kernel
theorem dX7_sendLetter_16 : decode cX7_sendLetter 16 = .ok (.sipush (-10001), 3) := by decide +kernel
theorem dX7_sendLetter_19 : decode cX7_sendLetter 19 = .ok (.ireturn, 1) := by decide +kernel
theorem dX7_sendLetter_20 : decode cX7_sendLetter 20 = .ok (.iload_n 1, 1) := by decide +kernel
theorem dX7_sendLetter_21 : decode cX7_sendLetter 21 = .ok (.iload_n 2, 1) := by decide +kernel
theorem dX7_sendLetter_22 : decode cX7_sendLetter 22 = .ok (.if_icmp .ne 7, 3) := by decide +kernel
theorem dX7_sendLetter_25 : decode cX7_sendLetter 25 = .ok (.sipush (-10002), 3) := by decide +kernel
theorem dX7_sendLetter_28 : decode cX7_sendLetter 28 = .ok (.ireturn, 1) := by decide +kernel
theorem dX7_sendLetter_29 : decode cX7_sendLetter 29 = .ok (.aload_n 0, 1) := by decide +kernel
theorem dX7_sendLetter_30 : decode cX7_sendLetter 30 = .ok (.getfield 11, 3) := by decide +kernel
theorem dX7_sendLetter_33 : decode cX7_sendLetter 33 = .ok (.iload_n 2, 1) := by decide +kernel
theorem dX7_sendLetter_34 : decode cX7_sendLetter 34 = .ok (.aaload, 1) := by decide +kernel
theorem dX7_sendLetter_35 : decode cX7_sendLetter 35 = .ok (.getfield 110, 3) := by decide +kernel
theorem dX7_sendLetter_38 : decode cX7_sendLetter 38 = .ok (.astore_n 3, 1) := by decide +kernel
theorem dX7_sendLetter_39 : decode cX7_sendLetter 39 = .ok (.aload_n 3, 1) := by decide +kernel
theorem dX7_sendLetter_40 : decode cX7_sendLetter 40 = .ok (.getfield 114, 3) := by decide +kernel
theorem dX7_sendLetter_43 : decode cX7_sendLetter 43 = .ok (.iconst 4, 1) := by decide +kernel
theorem dX7_sendLetter_44 : decode cX7_sendLetter 44 = .ok (.if_icmp .lt 7, 3) := by decide +kernel
theorem dX7_sendLetter_47 : decode cX7_sendLetter 47 = .ok (.sipush (-10004), 3) := by decide +kernel
theorem dX7_sendLetter_50 : decode cX7_sendLetter 50 = .ok (.ireturn, 1) := by decide +kernel
theorem dX7_sendLetter_51 : decode cX7_sendLetter 51 = .ok (.aload_n 3, 1) := by decide +kernel
theorem dX7_sendLetter_52 : decode cX7_sendLetter 52 = .ok (.aload_n 0, 1) := by decide +kernel
theorem dX7_sendLetter_53 : decode cX7_sendLetter 53 = .ok (.getfield 11, 3) := by decide +kernel
theorem dX7_sendLetter_56 : decode cX7_sendLetter 56 = .ok (.iload_n 1, 1) := by decide +kernel
theorem dX7_sendLetter_57 : decode cX7_sendLetter 57 = .ok (.aaload, 1) := by decide +kernel
theorem dX7_sendLetter_58 : decode cX7_sendLetter 58 = .ok (.getfield 119, 3) := by decide +kernel
theorem dX7_sendLetter_61 : decode cX7_sendLetter 61 = .ok (.invokevirtual 123, 3) := by decide +kernel
theorem dX7_sendLetter_64 : decode cX7_sendLetter 64 = .ok (.aload_n 0, 1) := by decide +kernel
theorem dX7_sendLetter_65 : decode cX7_sendLetter 65 = .ok (.getfield 11, 3) := by decide +kernel
theorem dX7_sendLetter_68 : decode cX7_sendLetter 68 = .ok (.iload_n 1, 1) := by decide +kernel
theorem dX7_sendLetter_69 : decode cX7_sendLetter 69 = .ok (.aaload, 1) := by decide +kernel
theorem dX7_sendLetter_70 : decode cX7_sendLetter 70 = .ok (.dup, 1) := by decide +kernel
theorem dX7_sendLetter_71 : decode cX7_sendLetter 71 = .ok (.getfield 127, 3) := by decide +kernel
theorem dX7_sendLetter_74 : decode cX7_sendLetter 74 = .ok (.aload_n 0, 1) := by decide +kernel
theorem dX7_sendLetter_75 : decode cX7_sendLetter 75 = .ok (.getfield 28, 3) := by decide +kernel
theorem dX7_sendLetter_78 : decode cX7_sendLetter 78 = .ok (.iadd, 1) := by decide +kernel
theorem dX7_sendLetter_79 : decode cX7_sendLetter 79 = .ok (.putfield 127, 3) := by decide +kernel
theorem dX7_sendLetter_82 : decode cX7_sendLetter 82 = .ok (.aload_n 3, 1) := by decide +kernel
theorem dX7_sendLetter_83 : decode cX7_sendLetter 83 = .ok (.getfield 114, 3) := by decide +kernel
theorem dX7_sendLetter_86 : decode cX7_sendLetter 86 = .ok (.ireturn, 1) := by decide +kernel
theorem dX7_readLetter_0 : decode cX7_readLetter 0 = .ok (.aload_n 0, 1) := by decide +kernel
theorem dX7_readLetter_1 : decode cX7_readLetter 1 = .ok (.iload_n 1, 1) := by decide +kernel
theorem dX7_readLetter_2 : decode cX7_readLetter 2 = .ok (.invokevirtual 41, 3) := by decide +kernel
theorem dX7_readLetter_5 : decode cX7_readLetter 5 = .ok (.ifCond .ne 7, 3) := by decide +kernel
theorem dX7_readLetter_8 : decode cX7_readLetter 8 = .ok (.sipush (-10001), 3) := by decide +kernel
theorem dX7_readLetter_11 : decode cX7_readLetter 11 = .ok (.ireturn, 1) := by decide +kernel
theorem dX7_readLetter_12 : decode cX7_readLetter 12 = .ok (.aload_n 0, 1) := by decide +kernel
theorem dX7_readLetter_13 : decode cX7_readLetter 13 = .ok (.getfield 11, 3) := by decide +kernel
theorem dX7_readLetter_16 : decode cX7_readLetter 16 = .ok (.iload_n 1, 1) := by decide +kernel
theorem dX7_readLetter_17 : decode cX7_readLetter 17 = .ok (.aaload, 1) := by decide +kernel
theorem dX7_readLetter_18 : decode cX7_readLetter 18 = .ok (.getfield 110, 3) := by decide +kernel
theorem dX7_readLetter_21 : decode cX7_readLetter 21 = .ok (.astore_n 2, 1) := by decide +kernel
theorem dX7_readLetter_22 : decode cX7_readLetter 22 = .ok (.aload_n 2, 1) := by decide +kernel
theorem dX7_readLetter_23 : decode cX7_readLetter 23 = .ok (.getfield 114, 3) := by decide +kernel
theorem dX7_readLetter_26 : decode cX7_readLetter 26 = .ok (.ifCond .ne 7, 3) := by decide +kernel
theorem dX7_readLetter_29 : decode cX7_readLetter 29 = .ok (.sipush (-10005), 3) := by decide +kernel
theorem dX7_readLetter_32 : decode cX7_readLetter 32 = .ok (.ireturn, 1) := by decide +kernel
theorem dX7_readLetter_33 : decode cX7_readLetter 33 = .ok (.aload_n 0, 1) := by decide +kernel
theorem dX7_readLetter_34 : decode cX7_readLetter 34 = .ok (.getfield 11, 3) := by decide +kernel
theorem dX7_readLetter_37 : decode cX7_readLetter 37 = .ok (.iload_n 1, 1) := by decide +kernel
theorem dX7_readLetter_38 : decode cX7_readLetter 38 = .ok (.aaload, 1) := by decide +kernel
theorem dX7_readLetter_39 : decode cX7_readLetter 39 = .ok (.aload_n 2, 1) := by decide +kernel
theorem dX7_readLetter_40 : decode cX7_readLetter 40 = .ok (.getfield 130, 3) := by decide +kernel
theorem dX7_readLetter_43 : decode cX7_readLetter 43 = .ok (.iconst 0, 1) := by decide +kernel
theorem dX7_readLetter_44 : decode cX7_readLetter 44 = .ok (.aaload, 1) := by decide +kernel
theorem dX7_readLetter_45 : decode cX7_readLetter 45 = .ok (.invokevirtual 134, 3) := by decide +kernel
theorem dX7_readLetter_48 : decode cX7_readLetter 48 = .ok (.istore_n 3, 1) := by decide +kernel
theorem dX7_readLetter_49 : decode cX7_readLetter 49 = .ok (.aload_n 2, 1) := by decide +kernel
theorem dX7_readLetter_50 : decode cX7_readLetter 50 = .ok (.invokevirtual 138, 3) := by decide +kernel
theorem dX7_readLetter_53 : decode cX7_readLetter 53 = .ok (.iload_n 3, 1) := by decide +kernel
theorem dX7_readLetter_54 : decode cX7_readLetter 54 = .ok (.ireturn, 1) := by decide +kernel
theorem dX7_loseLetter_0 : decode cX7_loseLetter 0 = .ok (.aload_n 0, 1) := by decide +kernel
theorem dX7_loseLetter_1 : decode cX7_loseLetter 1 = .ok (.iload_n 1, 1) := by decide +kernel
theorem dX7_loseLetter_2 : decode cX7_loseLetter 2 = .ok (.invokevirtual 41, 3) := by decide +kernel
theorem dX7_loseLetter_5 : decode cX7_loseLetter 5 = .ok (.ifCond .ne 7, 3) := by decide +kernel
theorem dX7_loseLetter_8 : decode cX7_loseLetter 8 = .ok (.sipush (-10001), 3) := by decide +kernel
theorem dX7_loseLetter_11 : decode cX7_loseLetter 11 = .ok (.ireturn, 1) := by decide +kernel
theorem dX7_loseLetter_12 : decode cX7_loseLetter 12 = .ok (.aload_n 0, 1) := by decide +kernel
theorem dX7_loseLetter_13 : decode cX7_loseLetter 13 = .ok (.getfield 11, 3) := by decide +kernel
theorem dX7_loseLetter_16 : decode cX7_loseLetter 16 = .ok (.iload_n 1, 1) := by decide +kernel
theorem dX7_loseLetter_17 : decode cX7_loseLetter 17 = .ok (.aaload, 1) := by decide +kernel
theorem dX7_loseLetter_18 : decode cX7_loseLetter 18 = .ok (.getfield 110, 3) := by decide +kernel
theorem dX7_loseLetter_21 : decode cX7_loseLetter 21 = .ok (.astore_n 2, 1) := by decide +kernel
theorem dX7_loseLetter_22 : decode cX7_loseLetter 22 = .ok (.aload_n 2, 1) := by decide +kernel
theorem dX7_loseLetter_23 : decode cX7_loseLetter 23 = .ok (.getfield 114, 3) := by decide +kernel
theorem dX7_loseLetter_26 : decode cX7_loseLetter 26 = .ok (.ifCond .ne 7, 3) := by decide +kernel
theorem dX7_loseLetter_29 : decode cX7_loseLetter 29 = .ok (.sipush (-10005), 3) := by decide +kernel
theorem dX7_loseLetter_32 : decode cX7_loseLetter 32 = .ok (.ireturn, 1) := by decide +kernel
theorem dX7_loseLetter_33 : decode cX7_loseLetter 33 = .ok (.aload_n 2, 1) := by decide +kernel
theorem dX7_loseLetter_34 : decode cX7_loseLetter 34 = .ok (.invokevirtual 138, 3) := by decide +kernel
theorem dX7_loseLetter_37 : decode cX7_loseLetter 37 = .ok (.aload_n 2, 1) := by decide +kernel
theorem dX7_loseLetter_38 : decode cX7_loseLetter 38 = .ok (.getfield 114, 3) := by decide +kernel
theorem dX7_loseLetter_41 : decode cX7_loseLetter 41 = .ok (.ireturn, 1) := by decide +kernel
theorem dX7_passProof_0 : decode cX7_passProof 0 = .ok (.aload_n 0, 1) := by decide +kernel
theorem dX7_passProof_1 : decode cX7_passProof 1 = .ok (.iload_n 1, 1) := by decide +kernel
theorem dX7_passProof_2 : decode cX7_passProof 2 = .ok (.invokevirtual 41, 3) := by decide +kernel
theorem dX7_passProof_5 : decode cX7_passProof 5 = .ok (.ifCond .eq 11, 3) := by decide +kernel
theorem dX7_passProof_8 : decode cX7_passProof 8 = .ok (.aload_n 0, 1) := by decide +kernel
theorem dX7_passProof_9 : decode cX7_passProof 9 = .ok (.iload_n 2, 1) := by decide +kernel
theorem dX7_passProof_10 : decode cX7_passProof 10 = .ok (.invokevirtual 41, 3) := by decide +kernel
theorem dX7_passProof_13 : decode cX7_passProof 13 = .ok (.ifCond .ne 7, 3) := by decide +kernel
theorem dX7_passProof_16 : decode cX7_passProof 16 = .ok (.sipush (-10001), 3) := by decide +kernel
theorem dX7_passProof_19 : decode cX7_passProof 19 = .ok (.ireturn, 1) := by decide +kernel
theorem dX7_passProof_20 : decode cX7_passProof 20 = .ok (.iload_n 1, 1) := by decide +kernel
theorem dX7_passProof_21 : decode cX7_passProof 21 = .ok (.iload_n 2, 1) := by decide +kernel
theorem dX7_passProof_22 : decode cX7_passProof 22 = .ok (.if_icmp .ne 7, 3) := by decide +kernel
theorem dX7_passProof_25 : decode cX7_passProof 25 = .ok (.sipush (-10002), 3) := by decide +kernel
theorem dX7_passProof_28 : decode cX7_passProof 28 = .ok (.ireturn, 1) := by decide +kernel
theorem dX7_passProof_29 : decode cX7_passProof 29 = .ok (.aload_n 0, 1) := by decide +kernel
theorem dX7_passProof_30 : decode cX7_passProof 30 = .ok (.getfield 11, 3) := by decide +kernel
theorem dX7_passProof_33 : decode cX7_passProof 33 = .ok (.iload_n 1, 1) := by decide +kernel
theorem dX7_passProof_34 : decode cX7_passProof 34 = .ok (.aaload, 1) := by decide +kernel
theorem dX7_passProof_35 : decode cX7_passProof 35 = .ok (.getfield 141, 3) := by decide +kernel
theorem dX7_passProof_38 : decode cX7_passProof 38 = .ok (.astore_n 3, 1) := by decide +kernel
theorem dX7_passProof_39 : decode cX7_passProof 39 = .ok (.aload_n 3, 1) := by decide +kernel
theorem dX7_passProof_40 : decode cX7_passProof 40 = .ok (.getfield 145, 3) := by decide +kernel
theorem dX7_passProof_43 : decode cX7_passProof 43 = .ok (.ifCond .ne 7, 3) := by decide +kernel
theorem dX7_passProof_46 : decode cX7_passProof 46 = .ok (.sipush (-10003), 3) := by decide +kernel
theorem dX7_passProof_49 : decode cX7_passProof 49 = .ok (.ireturn, 1) := by decide +kernel
theorem dX7_passProof_50 : decode cX7_passProof 50 = .ok (.aload_n 0, 1) := by decide +kernel
theorem dX7_passProof_51 : decode cX7_passProof 51 = .ok (.getfield 11, 3) := by decide +kernel
theorem dX7_passProof_54 : decode cX7_passProof 54 = .ok (.iload_n 2, 1) := by decide +kernel
theorem dX7_passProof_55 : decode cX7_passProof 55 = .ok (.aaload, 1) := by decide +kernel
theorem dX7_passProof_56 : decode cX7_passProof 56 = .ok (.astore 4, 2) := by decide +kernel
theorem dX7_passProof_58 : decode cX7_passProof 58 = .ok (.aload 4, 2) := by decide +kernel
theorem dX7_passProof_60 : decode cX7_passProof 60 = .ok (.getfield 45, 3) := by decide +kernel
theorem dX7_passProof_63 : decode cX7_passProof 63 = .ok (.ifCond .ne 7, 3) := by decide +kernel
theorem dX7_passProof_66 : decode cX7_passProof 66 = .ok (.iconst 1, 1) := by decide +kernel
theorem dX7_passProof_67 : decode cX7_passProof 67 = .ok (.goto 4, 3) := by decide +kernel
theorem dX7_passProof_70 : decode cX7_passProof 70 = .ok (.iconst 0, 1) := by decide +kernel
theorem dX7_passProof_71 : decode cX7_passProof 71 = .ok (.istore 5, 2) := by decide +kernel
theorem dX7_passProof_73 : decode cX7_passProof 73 = .ok (.aload 4, 2) := by decide +kernel
theorem dX7_passProof_75 : decode cX7_passProof 75 = .ok (.getfield 141, 3) := by decide +kernel
theorem dX7_passProof_78 : decode cX7_passProof 78 = .ok (.aload_n 3, 1) := by decide +kernel
theorem dX7_passProof_79 : decode cX7_passProof 79 = .ok (.getfield 150, 3) := by decide +kernel
theorem dX7_passProof_82 : decode cX7_passProof 82 = .ok (.aload_n 3, 1) := by decide +kernel
theorem dX7_passProof_83 : decode cX7_passProof 83 = .ok (.getfield 153, 3) := by decide +kernel
theorem dX7_passProof_86 : decode cX7_passProof 86 = .ok (.aload_n 3, 1) := by decide +kernel
theorem dX7_passProof_87 : decode cX7_passProof 87 = .ok (.getfield 156, 3) := by decide +kernel
theorem dX7_passProof_90 : decode cX7_passProof 90 = .ok (.iconst 1, 1) := by decide +kernel
theorem dX7_passProof_91 : decode cX7_passProof 91 = .ok (.iadd, 1) := by decide +kernel
theorem dX7_passProof_92 : decode cX7_passProof 92 = .ok (.invokevirtual 159, 3) := by decide +kernel
theorem dX7_passProof_95 : decode cX7_passProof 95 = .ok (.aload 4, 2) := by decide +kernel
theorem dX7_passProof_97 : decode cX7_passProof 97 = .ok (.iconst 5, 1) := by decide +kernel
theorem dX7_passProof_98 : decode cX7_passProof 98 = .ok (.invokevirtual 163, 3) := by decide +kernel
theorem dX7_passProof_101 : decode cX7_passProof 101 = .ok (.aload_n 0, 1) := by decide +kernel
theorem dX7_passProof_102 : decode cX7_passProof 102 = .ok (.getfield 11, 3) := by decide +kernel
theorem dX7_passProof_105 : decode cX7_passProof 105 = .ok (.iload_n 1, 1) := by decide +kernel
theorem dX7_passProof_106 : decode cX7_passProof 106 = .ok (.aaload, 1) := by decide +kernel
theorem dX7_passProof_107 : decode cX7_passProof 107 = .ok (.dup, 1) := by decide +kernel
theorem dX7_passProof_108 : decode cX7_passProof 108 = .ok (.getfield 127, 3) := by decide +kernel
theorem dX7_passProof_111 : decode cX7_passProof 111 = .ok (.iconst 2, 1) := by decide +kernel
theorem dX7_passProof_112 : decode cX7_passProof 112 = .ok (.aload_n 0, 1) := by decide +kernel
theorem dX7_passProof_113 : decode cX7_passProof 113 = .ok (.getfield 28, 3) := by decide +kernel
theorem dX7_passProof_116 : decode cX7_passProof 116 = .ok (.imul, 1) := by decide +kernel
theorem dX7_passProof_117 : decode cX7_passProof 117 = .ok (.iadd, 1) := by decide +kernel
theorem dX7_passProof_118 : decode cX7_passProof 118 = .ok (.putfield 127, 3) := by decide +kernel
theorem dX7_passProof_121 : decode cX7_passProof 121 = .ok (.iload 5, 2) := by decide +kernel
theorem dX7_passProof_123 : decode cX7_passProof 123 = .ok (.invokestatic 166, 3) := by decide +kernel
theorem dX7_passProof_126 : decode cX7_passProof 126 = .ok (.ireturn, 1) := by decide +kernel
theorem dX7_count_0 : decode cX7_count 0 = .ok (.iload_n 1, 1) := by decide +kernel
theorem dX7_count_1 : decode cX7_count 1 = .ok (.tableswitch 69 0 5 #[39, 44, 49, 54, 59, 64], 39) := by decide +kernel
theorem dX7_count_40 : decode cX7_count 40 = .ok (.aload_n 0, 1) := by decide +kernel
theorem dX7_count_41 : decode cX7_count 41 = .ok (.getfield 28, 3) := by decide +kernel
theorem dX7_count_44 : decode cX7_count 44 = .ok (.ireturn, 1) := by decide +kernel
theorem dX7_count_45 : decode cX7_count 45 = .ok (.aload_n 0, 1) := by decide +kernel
theorem dX7_count_46 : decode cX7_count 46 = .ok (.getfield 32, 3) := by decide +kernel
theorem dX7_count_49 : decode cX7_count 49 = .ok (.ireturn, 1) := by decide +kernel
theorem dX7_count_50 : decode cX7_count 50 = .ok (.aload_n 0, 1) := by decide +kernel
theorem dX7_count_51 : decode cX7_count 51 = .ok (.invokevirtual 170, 3) := by decide +kernel
theorem dX7_count_54 : decode cX7_count 54 = .ok (.ireturn, 1) := by decide +kernel
theorem dX7_count_55 : decode cX7_count 55 = .ok (.aload_n 0, 1) := by decide +kernel
theorem dX7_count_56 : decode cX7_count 56 = .ok (.invokevirtual 174, 3) := by decide +kernel
theorem dX7_count_59 : decode cX7_count 59 = .ok (.ireturn, 1) := by decide +kernel
theorem dX7_count_60 : decode cX7_count 60 = .ok (.aload_n 0, 1) := by decide +kernel
theorem dX7_count_61 : decode cX7_count 61 = .ok (.invokevirtual 177, 3) := by decide +kernel
theorem dX7_count_64 : decode cX7_count 64 = .ok (.ireturn, 1) := by decide +kernel
theorem dX7_count_65 : decode cX7_count 65 = .ok (.aload_n 0, 1) := by decide +kernel
theorem dX7_count_66 : decode cX7_count 66 = .ok (.invokevirtual 180, 3) := by decide +kernel
theorem dX7_count_69 : decode cX7_count 69 = .ok (.ireturn, 1) := by decide +kernel
theorem dX7_count_70 : decode cX7_count 70 = .ok (.sipush (-10002), 3) := by decide +kernel
theorem dX7_count_73 : decode cX7_count 73 = .ok (.ireturn, 1) := by decide +kernel
theorem dX7_user_0 : decode cX7_user 0 = .ok (.aload_n 0, 1) := by decide +kernel
theorem dX7_user_1 : decode cX7_user 1 = .ok (.iload_n 1, 1) := by decide +kernel
theorem dX7_user_2 : decode cX7_user 2 = .ok (.invokevirtual 41, 3) := by decide +kernel
theorem dX7_user_5 : decode cX7_user 5 = .ok (.ifCond .ne 7, 3) := by decide +kernel
theorem dX7_user_8 : decode cX7_user 8 = .ok (.sipush (-10001), 3) := by decide +kernel
theorem dX7_user_11 : decode cX7_user 11 = .ok (.ireturn, 1) := by decide +kernel
theorem dX7_user_12 : decode cX7_user 12 = .ok (.aload_n 0, 1) := by decide +kernel
theorem dX7_user_13 : decode cX7_user 13 = .ok (.getfield 11, 3) := by decide +kernel
theorem dX7_user_16 : decode cX7_user 16 = .ok (.iload_n 1, 1) := by decide +kernel
theorem dX7_user_17 : decode cX7_user 17 = .ok (.aaload, 1) := by decide +kernel
theorem dX7_user_18 : decode cX7_user 18 = .ok (.astore_n 3, 1) := by decide +kernel
theorem dX7_user_19 : decode cX7_user 19 = .ok (.iload_n 2, 1) := by decide +kernel
theorem dX7_user_20 : decode cX7_user 20 = .ok (.tableswitch 116 0 7 #[48, 53, 58, 69, 77, 82, 87, 92], 48) := by decide +kernel
theorem dX7_user_68 : decode cX7_user 68 = .ok (.aload_n 3, 1) := by decide +kernel
theorem dX7_user_69 : decode cX7_user 69 = .ok (.getfield 90, 3) := by decide +kernel
theorem dX7_user_72 : decode cX7_user 72 = .ok (.ireturn, 1) := by decide +kernel
theorem dX7_user_73 : decode cX7_user 73 = .ok (.aload_n 3, 1) := by decide +kernel
theorem dX7_user_74 : decode cX7_user 74 = .ok (.getfield 45, 3) := by decide +kernel
theorem dX7_user_77 : decode cX7_user 77 = .ok (.ireturn, 1) := by decide +kernel
theorem dX7_user_78 : decode cX7_user 78 = .ok (.aload_n 3, 1) := by decide +kernel
theorem dX7_user_79 : decode cX7_user 79 = .ok (.getfield 141, 3) := by decide +kernel
theorem dX7_user_82 : decode cX7_user 82 = .ok (.getfield 145, 3) := by decide +kernel
theorem dX7_user_85 : decode cX7_user 85 = .ok (.invokestatic 166, 3) := by decide +kernel
theorem dX7_user_88 : decode cX7_user 88 = .ok (.ireturn, 1) := by decide +kernel
theorem dX7_user_89 : decode cX7_user 89 = .ok (.aload_n 3, 1) := by decide +kernel
theorem dX7_user_90 : decode cX7_user 90 = .ok (.getfield 110, 3) := by decide +kernel
theorem dX7_user_93 : decode cX7_user 93 = .ok (.getfield 114, 3) := by decide +kernel
theorem dX7_user_96 : decode cX7_user 96 = .ok (.ireturn, 1) := by decide +kernel
theorem dX7_user_97 : decode cX7_user 97 = .ok (.aload_n 3, 1) := by decide +kernel
theorem dX7_user_98 : decode cX7_user 98 = .ok (.getfield 183, 3) := by decide +kernel
theorem dX7_user_101 : decode cX7_user 101 = .ok (.ireturn, 1) := by decide +kernel
theorem dX7_user_102 : decode cX7_user 102 = .ok (.aload_n 3, 1) := by decide +kernel
theorem dX7_user_103 : decode cX7_user 103 = .ok (.getfield 186, 3) := by decide +kernel
theorem dX7_user_106 : decode cX7_user 106 = .ok (.ireturn, 1) := by decide +kernel
theorem dX7_user_107 : decode cX7_user 107 = .ok (.aload_n 3, 1) := by decide +kernel
theorem dX7_user_108 : decode cX7_user 108 = .ok (.getfield 127, 3) := by decide +kernel
theorem dX7_user_111 : decode cX7_user 111 = .ok (.ireturn, 1) := by decide +kernel
theorem dX7_user_112 : decode cX7_user 112 = .ok (.aload_n 3, 1) := by decide +kernel
theorem dX7_user_113 : decode cX7_user 113 = .ok (.getfield 141, 3) := by decide +kernel
theorem dX7_user_116 : decode cX7_user 116 = .ok (.getfield 145, 3) := by decide +kernel
theorem dX7_user_119 : decode cX7_user 119 = .ok (.ifCond .eq 13, 3) := by decide +kernel
theorem dX7_user_122 : decode cX7_user 122 = .ok (.aload_n 3, 1) := by decide +kernel
theorem dX7_user_123 : decode cX7_user 123 = .ok (.getfield 141, 3) := by decide +kernel
theorem dX7_user_126 : decode cX7_user 126 = .ok (.getfield 156, 3) := by decide +kernel
theorem dX7_user_129 : decode cX7_user 129 = .ok (.goto 6, 3) := by decide +kernel
theorem dX7_user_132 : decode cX7_user 132 = .ok (.sipush (-10005), 3) := by decide +kernel
theorem dX7_user_135 : decode cX7_user 135 = .ok (.ireturn, 1) := by decide +kernel
theorem dX7_user_136 : decode cX7_user 136 = .ok (.sipush (-10002), 3) := by decide +kernel
theorem dX7_user_139 : decode cX7_user 139 = .ok (.ireturn, 1) := by decide +kernel
theorem dX7_vector_0 : decode cX7_vector 0 = .ok (.aload_n 0, 1) := by decide +kernel
theorem dX7_vector_1 : decode cX7_vector 1 = .ok (.iload_n 1, 1) := by decide +kernel
theorem dX7_vector_2 : decode cX7_vector 2 = .ok (.invokevirtual 41, 3) := by decide +kernel
theorem dX7_vector_5 : decode cX7_vector 5 = .ok (.ifCond .eq 11, 3) := by decide +kernel
theorem dX7_vector_8 : decode cX7_vector 8 = .ok (.aload_n 0, 1) := by decide +kernel
theorem dX7_vector_9 : decode cX7_vector 9 = .ok (.iload_n 3, 1) := by decide +kernel
theorem dX7_vector_10 : decode cX7_vector 10 = .ok (.invokevirtual 41, 3) := by decide +kernel
theorem dX7_vector_13 : decode cX7_vector 13 = .ok (.ifCond .ne 7, 3) := by decide +kernel
theorem dX7_vector_16 : decode cX7_vector 16 = .ok (.sipush (-10001), 3) := by decide +kernel
theorem dX7_vector_19 : decode cX7_vector 19 = .ok (.ireturn, 1) := by decide +kernel
theorem dX7_vector_20 : decode cX7_vector 20 = .ok (.iload_n 2, 1) := by decide +kernel
theorem dX7_vector_21 : decode cX7_vector 21 = .ok (.ifCond .lt 8, 3) := by decide +kernel
theorem dX7_vector_24 : decode cX7_vector 24 = .ok (.iload_n 2, 1) := by decide +kernel
theorem dX7_vector_25 : decode cX7_vector 25 = .ok (.iconst 3, 1) := by decide +kernel
theorem dX7_vector_26 : decode cX7_vector 26 = .ok (.if_icmp .le 7, 3) := by decide +kernel
theorem dX7_vector_29 : decode cX7_vector 29 = .ok (.sipush (-10002), 3) := by decide +kernel
theorem dX7_vector_32 : decode cX7_vector 32 = .ok (.ireturn, 1) := by decide +kernel
theorem dX7_vector_33 : decode cX7_vector 33 = .ok (.aload_n 0, 1) := by decide +kernel
theorem dX7_vector_34 : decode cX7_vector 34 = .ok (.getfield 11, 3) := by decide +kernel
theorem dX7_vector_37 : decode cX7_vector 37 = .ok (.iload_n 1, 1) := by decide +kernel
theorem dX7_vector_38 : decode cX7_vector 38 = .ok (.aaload, 1) := by decide +kernel
theorem dX7_vector_39 : decode cX7_vector 39 = .ok (.astore 4, 2) := by decide +kernel
theorem dX7_vector_41 : decode cX7_vector 41 = .ok (.iload_n 2, 1) := by decide +kernel
theorem dX7_vector_42 : decode cX7_vector 42 = .ok (.ifCond .ne 14, 3) := by decide +kernel
theorem dX7_vector_45 : decode cX7_vector 45 = .ok (.aload 4, 2) := by decide +kernel
theorem dX7_vector_47 : decode cX7_vector 47 = .ok (.getfield 189, 3) := by decide +kernel
theorem dX7_vector_50 : decode cX7_vector 50 = .ok (.getfield 192, 3) := by decide +kernel
theorem dX7_vector_53 : decode cX7_vector 53 = .ok (.iload_n 3, 1) := by decide +kernel
theorem dX7_vector_54 : decode cX7_vector 54 = .ok (.iaload, 1) := by decide +kernel
theorem dX7_vector_55 : decode cX7_vector 55 = .ok (.ireturn, 1) := by decide +kernel
theorem dX7_vector_56 : decode cX7_vector 56 = .ok (.iload_n 2, 1) := by decide +kernel
theorem dX7_vector_57 : decode cX7_vector 57 = .ok (.iconst 1, 1) := by decide +kernel
theorem dX7_vector_58 : decode cX7_vector 58 = .ok (.if_icmp .ne 14, 3) := by decide +kernel
theorem dX7_vector_61 : decode cX7_vector 61 = .ok (.aload 4, 2) := by decide +kernel
theorem dX7_vector_63 : decode cX7_vector 63 = .ok (.getfield 119, 3) := by decide +kernel
theorem dX7_vector_66 : decode cX7_vector 66 = .ok (.getfield 192, 3) := by decide +kernel
theorem dX7_vector_69 : decode cX7_vector 69 = .ok (.iload_n 3, 1) := by decide +kernel
theorem dX7_vector_70 : decode cX7_vector 70 = .ok (.iaload, 1) := by decide +kernel
theorem dX7_vector_71 : decode cX7_vector 71 = .ok (.ireturn, 1) := by decide +kernel
theorem dX7_vector_72 : decode cX7_vector 72 = .ok (.aload 4, 2) := by decide +kernel
theorem dX7_vector_74 : decode cX7_vector 74 = .ok (.getfield 141, 3) := by decide +kernel
theorem dX7_vector_77 : decode cX7_vector 77 = .ok (.getfield 145, 3) := by decide +kernel
theorem dX7_vector_80 : decode cX7_vector 80 = .ok (.ifCond .ne 7, 3) := by decide +kernel
theorem dX7_vector_83 : decode cX7_vector 83 = .ok (.sipush (-10005), 3) := by decide +kernel
theorem dX7_vector_86 : decode cX7_vector 86 = .ok (.ireturn, 1) := by decide +kernel
theorem dX7_vector_87 : decode cX7_vector 87 = .ok (.iload_n 2, 1) := by decide +kernel
theorem dX7_vector_88 : decode cX7_vector 88 = .ok (.iconst 2, 1) := by decide +kernel
theorem dX7_vector_89 : decode cX7_vector 89 = .ok (.if_icmp .ne 19, 3) := by decide +kernel
theorem dX7_vector_92 : decode cX7_vector 92 = .ok (.aload 4, 2) := by decide +kernel
theorem dX7_vector_94 : decode cX7_vector 94 = .ok (.getfield 141, 3) := by decide +kernel
theorem dX7_vector_97 : decode cX7_vector 97 = .ok (.getfield 150, 3) := by decide +kernel
theorem dX7_vector_100 : decode cX7_vector 100 = .ok (.getfield 192, 3) := by decide +kernel
theorem dX7_vector_103 : decode cX7_vector 103 = .ok (.iload_n 3, 1) := by decide +kernel
theorem dX7_vector_104 : decode cX7_vector 104 = .ok (.iaload, 1) := by decide +kernel
theorem dX7_vector_105 : decode cX7_vector 105 = .ok (.goto 16, 3) := by decide +kernel
theorem dX7_vector_108 : decode cX7_vector 108 = .ok (.aload 4, 2) := by decide +kernel
theorem dX7_vector_110 : decode cX7_vector 110 = .ok (.getfield 141, 3) := by decide +kernel
theorem dX7_vector_113 : decode cX7_vector 113 = .ok (.getfield 153, 3) := by decide +kernel
theorem dX7_vector_116 : decode cX7_vector 116 = .ok (.getfield 192, 3) := by decide +kernel
theorem dX7_vector_119 : decode cX7_vector 119 = .ok (.iload_n 3, 1) := by decide +kernel
theorem dX7_vector_120 : decode cX7_vector 120 = .ok (.iaload, 1) := by decide +kernel
theorem dX7_vector_121 : decode cX7_vector 121 = .ok (.ireturn, 1) := by decide +kernel
theorem dX7_entry_0 : decode cX7_entry 0 = .ok (.aload_n 0, 1) := by decide +kernel
theorem dX7_entry_1 : decode cX7_entry 1 = .ok (.iload_n 1, 1) := by decide +kernel
theorem dX7_entry_2 : decode cX7_entry 2 = .ok (.invokevirtual 76, 3) := by decide +kernel
theorem dX7_entry_5 : decode cX7_entry 5 = .ok (.ifCond .eq 19, 3) := by decide +kernel
theorem dX7_entry_8 : decode cX7_entry 8 = .ok (.aload_n 0, 1) := by decide +kernel
theorem dX7_entry_9 : decode cX7_entry 9 = .ok (.iload_n 2, 1) := by decide +kernel
theorem dX7_entry_10 : decode cX7_entry 10 = .ok (.invokevirtual 41, 3) := by decide +kernel
theorem dX7_entry_13 : decode cX7_entry 13 = .ok (.ifCond .eq 11, 3) := by decide +kernel
theorem dX7_entry_16 : decode cX7_entry 16 = .ok (.aload_n 0, 1) := by decide +kernel
theorem dX7_entry_17 : decode cX7_entry 17 = .ok (.iload_n 3, 1) := by decide +kernel
theorem dX7_entry_18 : decode cX7_entry 18 = .ok (.invokevirtual 41, 3) := by decide +kernel
theorem dX7_entry_21 : decode cX7_entry 21 = .ok (.ifCond .ne 7, 3) := by decide +kernel
theorem dX7_entry_24 : decode cX7_entry 24 = .ok (.sipush (-10001), 3) := by decide +kernel
theorem dX7_entry_27 : decode cX7_entry 27 = .ok (.ireturn, 1) := by decide +kernel
theorem dX7_entry_28 : decode cX7_entry 28 = .ok (.aload_n 0, 1) := by decide +kernel
theorem dX7_entry_29 : decode cX7_entry 29 = .ok (.getfield 17, 3) := by decide +kernel
theorem dX7_entry_32 : decode cX7_entry 32 = .ok (.iload_n 1, 1) := by decide +kernel
theorem dX7_entry_33 : decode cX7_entry 33 = .ok (.aaload, 1) := by decide +kernel
theorem dX7_entry_34 : decode cX7_entry 34 = .ok (.getfield 102, 3) := by decide +kernel
theorem dX7_entry_37 : decode cX7_entry 37 = .ok (.getfield 197, 3) := by decide +kernel
theorem dX7_entry_40 : decode cX7_entry 40 = .ok (.iload_n 2, 1) := by decide +kernel
theorem dX7_entry_41 : decode cX7_entry 41 = .ok (.aaload, 1) := by decide +kernel
theorem dX7_entry_42 : decode cX7_entry 42 = .ok (.getfield 192, 3) := by decide +kernel
theorem dX7_entry_45 : decode cX7_entry 45 = .ok (.iload_n 3, 1) := by decide +kernel
theorem dX7_entry_46 : decode cX7_entry 46 = .ok (.iaload, 1) := by decide +kernel
theorem dX7_entry_47 : decode cX7_entry 47 = .ok (.ireturn, 1) := by decide +kernel
theorem dX7_content_0 : decode cX7_content 0 = .ok (.aload_n 0, 1) := by decide +kernel
theorem dX7_content_1 : decode cX7_content 1 = .ok (.iload_n 1, 1) := by decide +kernel
theorem dX7_content_2 : decode cX7_content 2 = .ok (.invokevirtual 76, 3) := by decide +kernel
theorem dX7_content_5 : decode cX7_content 5 = .ok (.ifCond .eq 11, 3) := by decide +kernel
theorem dX7_content_8 : decode cX7_content 8 = .ok (.aload_n 0, 1) := by decide +kernel
theorem dX7_content_9 : decode cX7_content 9 = .ok (.iload_n 2, 1) := by decide +kernel
theorem dX7_content_10 : decode cX7_content 10 = .ok (.invokevirtual 41, 3) := by decide +kernel
theorem dX7_content_13 : decode cX7_content 13 = .ok (.ifCond .ne 7, 3) := by decide +kernel
theorem dX7_content_16 : decode cX7_content 16 = .ok (.sipush (-10001), 3) := by decide +kernel
theorem dX7_content_19 : decode cX7_content 19 = .ok (.ireturn, 1) := by decide +kernel
theorem dX7_content_20 : decode cX7_content 20 = .ok (.aload_n 0, 1) := by decide +kernel
theorem dX7_content_21 : decode cX7_content 21 = .ok (.getfield 17, 3) := by decide +kernel
theorem dX7_content_24 : decode cX7_content 24 = .ok (.iload_n 1, 1) := by decide +kernel
theorem dX7_content_25 : decode cX7_content 25 = .ok (.aaload, 1) := by decide +kernel
theorem dX7_content_26 : decode cX7_content 26 = .ok (.getfield 102, 3) := by decide +kernel
theorem dX7_content_29 : decode cX7_content 29 = .ok (.getfield 56, 3) := by decide +kernel
theorem dX7_content_32 : decode cX7_content 32 = .ok (.iload_n 2, 1) := by decide +kernel
theorem dX7_content_33 : decode cX7_content 33 = .ok (.iaload, 1) := by decide +kernel
theorem dX7_content_34 : decode cX7_content 34 = .ok (.ireturn, 1) := by decide +kernel
theorem dX7_view_0 : decode cX7_view 0 = .ok (.aload_n 0, 1) := by decide +kernel
theorem dX7_view_1 : decode cX7_view 1 = .ok (.iload_n 1, 1) := by decide +kernel
theorem dX7_view_2 : decode cX7_view 2 = .ok (.invokevirtual 76, 3) := by decide +kernel
theorem dX7_view_5 : decode cX7_view 5 = .ok (.ifCond .ne 7, 3) := by decide +kernel
theorem dX7_view_8 : decode cX7_view 8 = .ok (.sipush (-10001), 3) := by decide +kernel
theorem dX7_view_11 : decode cX7_view 11 = .ok (.ireturn, 1) := by decide +kernel
theorem dX7_view_12 : decode cX7_view 12 = .ok (.aload_n 0, 1) := by decide +kernel
theorem dX7_view_13 : decode cX7_view 13 = .ok (.getfield 17, 3) := by decide +kernel
theorem dX7_view_16 : decode cX7_view 16 = .ok (.iload_n 1, 1) := by decide +kernel
theorem dX7_view_17 : decode cX7_view 17 = .ok (.aaload, 1) := by decide +kernel
theorem dX7_view_18 : decode cX7_view 18 = .ok (.getfield 102, 3) := by decide +kernel
theorem dX7_view_21 : decode cX7_view 21 = .ok (.astore_n 3, 1) := by decide +kernel
theorem dX7_view_22 : decode cX7_view 22 = .ok (.iload_n 2, 1) := by decide +kernel
theorem dX7_view_23 : decode cX7_view 23 = .ok (.tableswitch 82 0 3 #[29, 35, 45, 61], 29) := by decide +kernel
theorem dX7_view_52 : decode cX7_view 52 = .ok (.aload_n 0, 1) := by decide +kernel
theorem dX7_view_53 : decode cX7_view 53 = .ok (.iload_n 1, 1) := by decide +kernel
theorem dX7_view_54 : decode cX7_view 54 = .ok (.invokevirtual 79, 3) := by decide +kernel
theorem dX7_view_57 : decode cX7_view 57 = .ok (.ireturn, 1) := by decide +kernel
theorem dX7_view_58 : decode cX7_view 58 = .ok (.aload_n 0, 1) := by decide +kernel
theorem dX7_view_59 : decode cX7_view 59 = .ok (.getfield 17, 3) := by decide +kernel
theorem dX7_view_62 : decode cX7_view 62 = .ok (.iload_n 1, 1) := by decide +kernel
theorem dX7_view_63 : decode cX7_view 63 = .ok (.aaload, 1) := by decide +kernel
theorem dX7_view_64 : decode cX7_view 64 = .ok (.getfield 93, 3) := by decide +kernel
theorem dX7_view_67 : decode cX7_view 67 = .ok (.ireturn, 1) := by decide +kernel
theorem dX7_view_68 : decode cX7_view 68 = .ok (.aload_n 3, 1) := by decide +kernel
theorem dX7_view_69 : decode cX7_view 69 = .ok (.invokevirtual 200, 3) := by decide +kernel
theorem dX7_view_72 : decode cX7_view 72 = .ok (.ifCond .ne 7, 3) := by decide +kernel
theorem dX7_view_75 : decode cX7_view 75 = .ok (.iconst 1, 1) := by decide +kernel
theorem dX7_view_76 : decode cX7_view 76 = .ok (.goto 4, 3) := by decide +kernel
theorem dX7_view_79 : decode cX7_view 79 = .ok (.iconst 0, 1) := by decide +kernel
theorem dX7_view_80 : decode cX7_view 80 = .ok (.invokestatic 166, 3) := by decide +kernel
theorem dX7_view_83 : decode cX7_view 83 = .ok (.ireturn, 1) := by decide +kernel
theorem dX7_view_84 : decode cX7_view 84 = .ok (.aload_n 3, 1) := by decide +kernel
theorem dX7_view_85 : decode cX7_view 85 = .ok (.invokevirtual 200, 3) := by decide +kernel
theorem dX7_view_88 : decode cX7_view 88 = .ok (.ifCond .eq 9, 3) := by decide +kernel
theorem dX7_view_91 : decode cX7_view 91 = .ok (.sipush (-10005), 3) := by decide +kernel
theorem dX7_view_94 : decode cX7_view 94 = .ok (.goto 10, 3) := by decide +kernel
theorem dX7_view_97 : decode cX7_view 97 = .ok (.aload_n 3, 1) := by decide +kernel
theorem dX7_view_98 : decode cX7_view 98 = .ok (.invokevirtual 204, 3) := by decide +kernel
theorem dX7_view_101 : decode cX7_view 101 = .ok (.invokevirtual 208, 3) := by decide +kernel
theorem dX7_view_104 : decode cX7_view 104 = .ok (.ireturn, 1) := by decide +kernel
theorem dX7_view_105 : decode cX7_view 105 = .ok (.sipush (-10002), 3) := by decide +kernel
theorem dX7_view_108 : decode cX7_view 108 = .ok (.ireturn, 1) := by decide +kernel
theorem dX7_compare_0 : decode cX7_compare 0 = .ok (.aload_n 0, 1) := by decide +kernel
theorem dX7_compare_1 : decode cX7_compare 1 = .ok (.iload_n 1, 1) := by decide +kernel
theorem dX7_compare_2 : decode cX7_compare 2 = .ok (.invokevirtual 41, 3) := by decide +kernel
theorem dX7_compare_5 : decode cX7_compare 5 = .ok (.ifCond .eq 11, 3) := by decide +kernel
theorem dX7_compare_8 : decode cX7_compare 8 = .ok (.aload_n 0, 1) := by decide +kernel
theorem dX7_compare_9 : decode cX7_compare 9 = .ok (.iload_n 2, 1) := by decide +kernel
theorem dX7_compare_10 : decode cX7_compare 10 = .ok (.invokevirtual 41, 3) := by decide +kernel
theorem dX7_compare_13 : decode cX7_compare 13 = .ok (.ifCond .ne 7, 3) := by decide +kernel
theorem dX7_compare_16 : decode cX7_compare 16 = .ok (.sipush (-10001), 3) := by decide +kernel
theorem dX7_compare_19 : decode cX7_compare 19 = .ok (.ireturn, 1) := by decide +kernel
theorem dX7_compare_20 : decode cX7_compare 20 = .ok (.iload_n 3, 1) := by decide +kernel
theorem dX7_compare_21 : decode cX7_compare 21 = .ok (.ifCond .eq 25, 3) := by decide +kernel
theorem dX7_compare_24 : decode cX7_compare 24 = .ok (.aload_n 0, 1) := by decide +kernel
theorem dX7_compare_25 : decode cX7_compare 25 = .ok (.getfield 11, 3) := by decide +kernel
theorem dX7_compare_28 : decode cX7_compare 28 = .ok (.iload_n 1, 1) := by decide +kernel
theorem dX7_compare_29 : decode cX7_compare 29 = .ok (.aaload, 1) := by decide +kernel
theorem dX7_compare_30 : decode cX7_compare 30 = .ok (.getfield 119, 3) := by decide +kernel
theorem dX7_compare_33 : decode cX7_compare 33 = .ok (.aload_n 0, 1) := by decide +kernel
theorem dX7_compare_34 : decode cX7_compare 34 = .ok (.getfield 11, 3) := by decide +kernel
theorem dX7_compare_37 : decode cX7_compare 37 = .ok (.iload_n 2, 1) := by decide +kernel
theorem dX7_compare_38 : decode cX7_compare 38 = .ok (.aaload, 1) := by decide +kernel
theorem dX7_compare_39 : decode cX7_compare 39 = .ok (.getfield 119, 3) := by decide +kernel
theorem dX7_compare_42 : decode cX7_compare 42 = .ok (.invokevirtual 211, 3) := by decide +kernel
theorem dX7_compare_45 : decode cX7_compare 45 = .ok (.ireturn, 1) := by decide +kernel
theorem dX7_compare_46 : decode cX7_compare 46 = .ok (.aload_n 0, 1) := by decide +kernel
theorem dX7_compare_47 : decode cX7_compare 47 = .ok (.getfield 11, 3) := by decide +kernel
theorem dX7_compare_50 : decode cX7_compare 50 = .ok (.iload_n 1, 1) := by decide +kernel
theorem dX7_compare_51 : decode cX7_compare 51 = .ok (.aaload, 1) := by decide +kernel
theorem dX7_compare_52 : decode cX7_compare 52 = .ok (.getfield 189, 3) := by decide +kernel
theorem dX7_compare_55 : decode cX7_compare 55 = .ok (.aload_n 0, 1) := by decide +kernel
theorem dX7_compare_56 : decode cX7_compare 56 = .ok (.getfield 11, 3) := by decide +kernel
theorem dX7_compare_59 : decode cX7_compare 59 = .ok (.iload_n 2, 1) := by decide +kernel
theorem dX7_compare_60 : decode cX7_compare 60 = .ok (.aaload, 1) := by decide +kernel
theorem dX7_compare_61 : decode cX7_compare 61 = .ok (.getfield 189, 3) := by decide +kernel
theorem dX7_compare_64 : decode cX7_compare 64 = .ok (.invokevirtual 211, 3) := by decide +kernel
theorem dX7_compare_67 : decode cX7_compare 67 = .ok (.ireturn, 1) := by decide +kernel
theorem dX7_forkedPairs_0 : decode cX7_forkedPairs 0 = .ok (.iconst 0, 1) := by decide +kernel
theorem dX7_forkedPairs_1 : decode cX7_forkedPairs 1 = .ok (.istore_n 1, 1) := by decide +kernel
theorem dX7_forkedPairs_2 : decode cX7_forkedPairs 2 = .ok (.iconst 0, 1) := by decide +kernel
theorem dX7_forkedPairs_3 : decode cX7_forkedPairs 3 = .ok (.istore_n 2, 1) := by decide +kernel
theorem dX7_forkedPairs_4 : decode cX7_forkedPairs 4 = .ok (.iload_n 2, 1) := by decide +kernel
theorem dX7_forkedPairs_5 : decode cX7_forkedPairs 5 = .ok (.aload_n 0, 1) := by decide +kernel
theorem dX7_forkedPairs_6 : decode cX7_forkedPairs 6 = .ok (.getfield 28, 3) := by decide +kernel
theorem dX7_forkedPairs_9 : decode cX7_forkedPairs 9 = .ok (.if_icmp .ge 39, 3) := by decide +kernel
theorem dX7_forkedPairs_12 : decode cX7_forkedPairs 12 = .ok (.iload_n 2, 1) := by decide +kernel
theorem dX7_forkedPairs_13 : decode cX7_forkedPairs 13 = .ok (.iconst 1, 1) := by decide +kernel
theorem dX7_forkedPairs_14 : decode cX7_forkedPairs 14 = .ok (.iadd, 1) := by decide +kernel
theorem dX7_forkedPairs_15 : decode cX7_forkedPairs 15 = .ok (.istore_n 3, 1) := by decide +kernel
theorem dX7_forkedPairs_16 : decode cX7_forkedPairs 16 = .ok (.iload_n 3, 1) := by decide +kernel
theorem dX7_forkedPairs_17 : decode cX7_forkedPairs 17 = .ok (.aload_n 0, 1) := by decide +kernel
theorem dX7_forkedPairs_18 : decode cX7_forkedPairs 18 = .ok (.getfield 28, 3) := by decide +kernel
theorem dX7_forkedPairs_21 : decode cX7_forkedPairs 21 = .ok (.if_icmp .ge 21, 3) := by decide +kernel
theorem dX7_forkedPairs_24 : decode cX7_forkedPairs 24 = .ok (.aload_n 0, 1) := by decide +kernel
theorem dX7_forkedPairs_25 : decode cX7_forkedPairs 25 = .ok (.iload_n 2, 1) := by decide +kernel
theorem dX7_forkedPairs_26 : decode cX7_forkedPairs 26 = .ok (.iload_n 3, 1) := by decide +kernel
theorem dX7_forkedPairs_27 : decode cX7_forkedPairs 27 = .ok (.invokevirtual 214, 3) := by decide +kernel
theorem dX7_forkedPairs_30 : decode cX7_forkedPairs 30 = .ok (.ifCond .eq 6, 3) := by decide +kernel
theorem dX7_forkedPairs_33 : decode cX7_forkedPairs 33 = .ok (.iinc 1 1, 3) := by decide +kernel
theorem dX7_forkedPairs_36 : decode cX7_forkedPairs 36 = .ok (.iinc 3 1, 3) := by decide +kernel
theorem dX7_forkedPairs_39 : decode cX7_forkedPairs 39 = .ok (.goto (-23), 3) := by decide +kernel
theorem dX7_forkedPairs_42 : decode cX7_forkedPairs 42 = .ok (.iinc 2 1, 3) := by decide +kernel
theorem dX7_forkedPairs_45 : decode cX7_forkedPairs 45 = .ok (.goto (-41), 3) := by decide +kernel
theorem dX7_forkedPairs_48 : decode cX7_forkedPairs 48 = .ok (.iload_n 1, 1) := by decide +kernel
theorem dX7_forkedPairs_49 : decode cX7_forkedPairs 49 = .ok (.ireturn, 1) := by decide +kernel
theorem dX7_tellingLetter_0 : decode cX7_tellingLetter 0 = .ok (.iconst 0, 1) := by decide +kernel
theorem dX7_tellingLetter_1 : decode cX7_tellingLetter 1 = .ok (.istore_n 1, 1) := by decide +kernel
theorem dX7_tellingLetter_2 : decode cX7_tellingLetter 2 = .ok (.iload_n 1, 1) := by decide +kernel
theorem dX7_tellingLetter_3 : decode cX7_tellingLetter 3 = .ok (.aload_n 0, 1) := by decide +kernel
theorem dX7_tellingLetter_4 : decode cX7_tellingLetter 4 = .ok (.getfield 28, 3) := by decide +kernel
theorem dX7_tellingLetter_7 : decode cX7_tellingLetter 7 = .ok (.if_icmp .ge 53, 3) := by decide +kernel
theorem dX7_tellingLetter_10 : decode cX7_tellingLetter 10 = .ok (.iconst 0, 1) := by decide +kernel
theorem dX7_tellingLetter_11 : decode cX7_tellingLetter 11 = .ok (.istore_n 2, 1) := by decide +kernel
theorem dX7_tellingLetter_12 : decode cX7_tellingLetter 12 = .ok (.iload_n 2, 1) := by decide +kernel
theorem dX7_tellingLetter_13 : decode cX7_tellingLetter 13 = .ok (.aload_n 0, 1) := by decide +kernel
theorem dX7_tellingLetter_14 : decode cX7_tellingLetter 14 = .ok (.getfield 28, 3) := by decide +kernel
theorem dX7_tellingLetter_17 : decode cX7_tellingLetter 17 = .ok (.if_icmp .ge 37, 3) := by decide +kernel
theorem dX7_tellingLetter_20 : decode cX7_tellingLetter 20 = .ok (.aload_n 0, 1) := by decide +kernel
theorem dX7_tellingLetter_21 : decode cX7_tellingLetter 21 = .ok (.getfield 11, 3) := by decide +kernel
theorem dX7_tellingLetter_24 : decode cX7_tellingLetter 24 = .ok (.iload_n 2, 1) := by decide +kernel
theorem dX7_tellingLetter_25 : decode cX7_tellingLetter 25 = .ok (.aaload, 1) := by decide +kernel
theorem dX7_tellingLetter_26 : decode cX7_tellingLetter 26 = .ok (.getfield 45, 3) := by decide +kernel
theorem dX7_tellingLetter_29 : decode cX7_tellingLetter 29 = .ok (.ifCond .ne 19, 3) := by decide +kernel
theorem dX7_tellingLetter_32 : decode cX7_tellingLetter 32 = .ok (.aload_n 0, 1) := by decide +kernel
theorem dX7_tellingLetter_33 : decode cX7_tellingLetter 33 = .ok (.iload_n 1, 1) := by decide +kernel
theorem dX7_tellingLetter_34 : decode cX7_tellingLetter 34 = .ok (.iload_n 2, 1) := by decide +kernel
theorem dX7_tellingLetter_35 : decode cX7_tellingLetter 35 = .ok (.invokevirtual 214, 3) := by decide +kernel
theorem dX7_tellingLetter_38 : decode cX7_tellingLetter 38 = .ok (.ifCond .eq 10, 3) := by decide +kernel
theorem dX7_tellingLetter_41 : decode cX7_tellingLetter 41 = .ok (.bipush 10, 2) := by decide +kernel
theorem dX7_tellingLetter_43 : decode cX7_tellingLetter 43 = .ok (.iload_n 1, 1) := by decide +kernel
theorem dX7_tellingLetter_44 : decode cX7_tellingLetter 44 = .ok (.imul, 1) := by decide +kernel
theorem dX7_tellingLetter_45 : decode cX7_tellingLetter 45 = .ok (.iload_n 2, 1) := by decide +kernel
theorem dX7_tellingLetter_46 : decode cX7_tellingLetter 46 = .ok (.iadd, 1) := by decide +kernel
theorem dX7_tellingLetter_47 : decode cX7_tellingLetter 47 = .ok (.ireturn, 1) := by decide +kernel
theorem dX7_tellingLetter_48 : decode cX7_tellingLetter 48 = .ok (.iinc 2 1, 3) := by decide +kernel
theorem dX7_tellingLetter_51 : decode cX7_tellingLetter 51 = .ok (.goto (-39), 3) := by decide +kernel
theorem dX7_tellingLetter_54 : decode cX7_tellingLetter 54 = .ok (.iinc 1 1, 3) := by decide +kernel
theorem dX7_tellingLetter_57 : decode cX7_tellingLetter 57 = .ok (.goto (-55), 3) := by decide +kernel
theorem dX7_tellingLetter_60 : decode cX7_tellingLetter 60 = .ok (.sipush (-10005), 3) := by decide +kernel
theorem dX7_tellingLetter_63 : decode cX7_tellingLetter 63 = .ok (.ireturn, 1) := by decide +kernel
theorem dX7_unaware_0 : decode cX7_unaware 0 = .ok (.iconst 0, 1) := by decide +kernel
theorem dX7_unaware_1 : decode cX7_unaware 1 = .ok (.istore_n 1, 1) := by decide +kernel
theorem dX7_unaware_2 : decode cX7_unaware 2 = .ok (.iconst 0, 1) := by decide +kernel
theorem dX7_unaware_3 : decode cX7_unaware 3 = .ok (.istore_n 2, 1) := by decide +kernel
theorem dX7_unaware_4 : decode cX7_unaware 4 = .ok (.iload_n 2, 1) := by decide +kernel
theorem dX7_unaware_5 : decode cX7_unaware 5 = .ok (.aload_n 0, 1) := by decide +kernel
theorem dX7_unaware_6 : decode cX7_unaware 6 = .ok (.getfield 28, 3) := by decide +kernel
theorem dX7_unaware_9 : decode cX7_unaware 9 = .ok (.if_icmp .ge 23, 3) := by decide +kernel
theorem dX7_unaware_12 : decode cX7_unaware 12 = .ok (.aload_n 0, 1) := by decide +kernel
theorem dX7_unaware_13 : decode cX7_unaware 13 = .ok (.iload_n 2, 1) := by decide +kernel
theorem dX7_unaware_14 : decode cX7_unaware 14 = .ok (.invokevirtual 217, 3) := by decide +kernel
theorem dX7_unaware_17 : decode cX7_unaware 17 = .ok (.ifCond .eq 9, 3) := by decide +kernel
theorem dX7_unaware_20 : decode cX7_unaware 20 = .ok (.iload_n 1, 1) := by decide +kernel
theorem dX7_unaware_21 : decode cX7_unaware 21 = .ok (.iconst 1, 1) := by decide +kernel
theorem dX7_unaware_22 : decode cX7_unaware 22 = .ok (.iload_n 2, 1) := by decide +kernel
theorem dX7_unaware_23 : decode cX7_unaware 23 = .ok (.ishl, 1) := by decide +kernel
theorem dX7_unaware_24 : decode cX7_unaware 24 = .ok (.ior, 1) := by decide +kernel
theorem dX7_unaware_25 : decode cX7_unaware 25 = .ok (.istore_n 1, 1) := by decide +kernel
theorem dX7_unaware_26 : decode cX7_unaware 26 = .ok (.iinc 2 1, 3) := by decide +kernel
theorem dX7_unaware_29 : decode cX7_unaware 29 = .ok (.goto (-25), 3) := by decide +kernel
theorem dX7_unaware_32 : decode cX7_unaware 32 = .ok (.iload_n 1, 1) := by decide +kernel
theorem dX7_unaware_33 : decode cX7_unaware 33 = .ok (.ireturn, 1) := by decide +kernel
theorem dX7_type_0 : decode cX7_type 0 = .ok (.aload_n 0, 1) := by decide +kernel
theorem dX7_type_1 : decode cX7_type 1 = .ok (.getfield 24, 3) := by decide +kernel
theorem dX7_type_4 : decode cX7_type 4 = .ok (.getfield 220, 3) := by decide +kernel
theorem dX7_type_7 : decode cX7_type 7 = .ok (.bipush 60, 2) := by decide +kernel
theorem dX7_type_9 : decode cX7_type 9 = .ok (.if_icmp .lt 7, 3) := by decide +kernel
theorem dX7_type_12 : decode cX7_type 12 = .ok (.sipush (-10004), 3) := by decide +kernel
theorem dX7_type_15 : decode cX7_type 15 = .ok (.ireturn, 1) := by decide +kernel
theorem dX7_type_16 : decode cX7_type 16 = .ok (.aload_n 0, 1) := by decide +kernel
theorem dX7_type_17 : decode cX7_type 17 = .ok (.getfield 24, 3) := by decide +kernel
theorem dX7_type_20 : decode cX7_type 20 = .ok (.iload_n 1, 1) := by decide +kernel
theorem dX7_type_21 : decode cX7_type 21 = .ok (.invokevirtual 223, 3) := by decide +kernel
theorem dX7_type_24 : decode cX7_type 24 = .ok (.aload_n 0, 1) := by decide +kernel
theorem dX7_type_25 : decode cX7_type 25 = .ok (.getfield 24, 3) := by decide +kernel
theorem dX7_type_28 : decode cX7_type 28 = .ok (.getfield 220, 3) := by decide +kernel
theorem dX7_type_31 : decode cX7_type 31 = .ok (.ireturn, 1) := by decide +kernel
theorem dX7_clearText_0 : decode cX7_clearText 0 = .ok (.aload_n 0, 1) := by decide +kernel
theorem dX7_clearText_1 : decode cX7_clearText 1 = .ok (.getfield 24, 3) := by decide +kernel
theorem dX7_clearText_4 : decode cX7_clearText 4 = .ok (.getfield 220, 3) := by decide +kernel
theorem dX7_clearText_7 : decode cX7_clearText 7 = .ok (.istore_n 1, 1) := by decide +kernel
theorem dX7_clearText_8 : decode cX7_clearText 8 = .ok (.aload_n 0, 1) := by decide +kernel
theorem dX7_clearText_9 : decode cX7_clearText 9 = .ok (.getfield 24, 3) := by decide +kernel
theorem dX7_clearText_12 : decode cX7_clearText 12 = .ok (.iconst 0, 1) := by decide +kernel
theorem dX7_clearText_13 : decode cX7_clearText 13 = .ok (.putfield 220, 3) := by decide +kernel
theorem dX7_clearText_16 : decode cX7_clearText 16 = .ok (.iload_n 1, 1) := by decide +kernel
theorem dX7_clearText_17 : decode cX7_clearText 17 = .ok (.ireturn, 1) := by decide +kernel
theorem dX7_run_0 : decode cX7_run 0 = .ok (.aload_n 0, 1) := by decide +kernel
theorem dX7_run_1 : decode cX7_run 1 = .ok (.getfield 24, 3) := by decide +kernel
theorem dX7_run_4 : decode cX7_run 4 = .ok (.invokevirtual 227, 3) := by decide +kernel
theorem dX7_run_7 : decode cX7_run 7 = .ok (.istore_n 1, 1) := by decide +kernel
theorem dX7_run_8 : decode cX7_run 8 = .ok (.iload_n 1, 1) := by decide +kernel
theorem dX7_run_9 : decode cX7_run 9 = .ok (.iconst (-1), 1) := by decide +kernel
theorem dX7_run_10 : decode cX7_run 10 = .ok (.if_icmp .eq 8, 3) := by decide +kernel
theorem dX7_run_13 : decode cX7_run 13 = .ok (.bipush (-100), 2) := by decide +kernel
theorem dX7_run_15 : decode cX7_run 15 = .ok (.iload_n 1, 1) := by decide +kernel
theorem dX7_run_16 : decode cX7_run 16 = .ok (.isub, 1) := by decide +kernel
theorem dX7_run_17 : decode cX7_run 17 = .ok (.ireturn, 1) := by decide +kernel
theorem dX7_run_18 : decode cX7_run 18 = .ok (.iconst 0, 1) := by decide +kernel
theorem dX7_run_19 : decode cX7_run 19 = .ok (.istore_n 2, 1) := by decide +kernel
theorem dX7_run_20 : decode cX7_run 20 = .ok (.iconst 0, 1) := by decide +kernel
theorem dX7_run_21 : decode cX7_run 21 = .ok (.istore_n 3, 1) := by decide +kernel
theorem dX7_run_22 : decode cX7_run 22 = .ok (.iload_n 3, 1) := by decide +kernel
theorem dX7_run_23 : decode cX7_run 23 = .ok (.iconst 3, 1) := by decide +kernel
theorem dX7_run_24 : decode cX7_run 24 = .ok (.iadd, 1) := by decide +kernel
theorem dX7_run_25 : decode cX7_run 25 = .ok (.aload_n 0, 1) := by decide +kernel
theorem dX7_run_26 : decode cX7_run 26 = .ok (.getfield 24, 3) := by decide +kernel
theorem dX7_run_29 : decode cX7_run 29 = .ok (.getfield 220, 3) := by decide +kernel
theorem dX7_run_32 : decode cX7_run 32 = .ok (.if_icmp .gt 50, 3) := by decide +kernel
theorem dX7_run_35 : decode cX7_run 35 = .ok (.aload_n 0, 1) := by decide +kernel
theorem dX7_run_36 : decode cX7_run 36 = .ok (.aload_n 0, 1) := by decide +kernel
theorem dX7_run_37 : decode cX7_run 37 = .ok (.getfield 24, 3) := by decide +kernel
theorem dX7_run_40 : decode cX7_run 40 = .ok (.getfield 230, 3) := by decide +kernel
theorem dX7_run_43 : decode cX7_run 43 = .ok (.iload_n 3, 1) := by decide +kernel
theorem dX7_run_44 : decode cX7_run 44 = .ok (.iaload, 1) := by decide +kernel
theorem dX7_run_45 : decode cX7_run 45 = .ok (.aload_n 0, 1) := by decide +kernel
theorem dX7_run_46 : decode cX7_run 46 = .ok (.getfield 24, 3) := by decide +kernel
theorem dX7_run_49 : decode cX7_run 49 = .ok (.iload_n 3, 1) := by decide +kernel
theorem dX7_run_50 : decode cX7_run 50 = .ok (.iconst 1, 1) := by decide +kernel
theorem dX7_run_51 : decode cX7_run 51 = .ok (.iadd, 1) := by decide +kernel
theorem dX7_run_52 : decode cX7_run 52 = .ok (.invokevirtual 233, 3) := by decide +kernel
theorem dX7_run_55 : decode cX7_run 55 = .ok (.aload_n 0, 1) := by decide +kernel
theorem dX7_run_56 : decode cX7_run 56 = .ok (.getfield 24, 3) := by decide +kernel
theorem dX7_run_59 : decode cX7_run 59 = .ok (.iload_n 3, 1) := by decide +kernel
theorem dX7_run_60 : decode cX7_run 60 = .ok (.iconst 2, 1) := by decide +kernel
theorem dX7_run_61 : decode cX7_run 61 = .ok (.iadd, 1) := by decide +kernel
theorem dX7_run_62 : decode cX7_run 62 = .ok (.invokevirtual 233, 3) := by decide +kernel
theorem dX7_run_65 : decode cX7_run 65 = .ok (.invokevirtual 236, 3) := by decide +kernel
theorem dX7_run_68 : decode cX7_run 68 = .ok (.ifCond .ne 5, 3) := by decide +kernel
theorem dX7_run_71 : decode cX7_run 71 = .ok (.iload_n 2, 1) := by decide +kernel
theorem dX7_run_72 : decode cX7_run 72 = .ok (.ireturn, 1) := by decide +kernel
theorem dX7_run_73 : decode cX7_run 73 = .ok (.iinc 2 1, 3) := by decide +kernel
theorem dX7_run_76 : decode cX7_run 76 = .ok (.iinc 3 3, 3) := by decide +kernel
theorem dX7_run_79 : decode cX7_run 79 = .ok (.goto (-57), 3) := by decide +kernel
theorem dX7_run_82 : decode cX7_run 82 = .ok (.iload_n 2, 1) := by decide +kernel
theorem dX7_run_83 : decode cX7_run 83 = .ok (.ireturn, 1) := by decide +kernel
theorem dX7_isUser_0 : decode cX7_isUser 0 = .ok (.iload_n 1, 1) := by decide +kernel
theorem dX7_isUser_1 : decode cX7_isUser 1 = .ok (.ifCond .lt 15, 3) := by decide +kernel
theorem dX7_isUser_4 : decode cX7_isUser 4 = .ok (.iload_n 1, 1) := by decide +kernel
theorem dX7_isUser_5 : decode cX7_isUser 5 = .ok (.aload_n 0, 1) := by decide +kernel
theorem dX7_isUser_6 : decode cX7_isUser 6 = .ok (.getfield 28, 3) := by decide +kernel
theorem dX7_isUser_9 : decode cX7_isUser 9 = .ok (.if_icmp .ge 7, 3) := by decide +kernel
theorem dX7_isUser_12 : decode cX7_isUser 12 = .ok (.iconst 1, 1) := by decide +kernel
theorem dX7_isUser_13 : decode cX7_isUser 13 = .ok (.goto 4, 3) := by decide +kernel
theorem dX7_isUser_16 : decode cX7_isUser 16 = .ok (.iconst 0, 1) := by decide +kernel
theorem dX7_isUser_17 : decode cX7_isUser 17 = .ok (.ireturn, 1) := by decide +kernel
theorem dX7_isView_0 : decode cX7_isView 0 = .ok (.iload_n 1, 1) := by decide +kernel
theorem dX7_isView_1 : decode cX7_isView 1 = .ok (.ifCond .lt 15, 3) := by decide +kernel
theorem dX7_isView_4 : decode cX7_isView 4 = .ok (.iload_n 1, 1) := by decide +kernel
theorem dX7_isView_5 : decode cX7_isView 5 = .ok (.aload_n 0, 1) := by decide +kernel
theorem dX7_isView_6 : decode cX7_isView 6 = .ok (.getfield 32, 3) := by decide +kernel
theorem dX7_isView_9 : decode cX7_isView 9 = .ok (.if_icmp .ge 7, 3) := by decide +kernel
theorem dX7_isView_12 : decode cX7_isView 12 = .ok (.iconst 1, 1) := by decide +kernel
theorem dX7_isView_13 : decode cX7_isView 13 = .ok (.goto 4, 3) := by decide +kernel
theorem dX7_isView_16 : decode cX7_isView 16 = .ok (.iconst 0, 1) := by decide +kernel
theorem dX7_isView_17 : decode cX7_isView 17 = .ok (.ireturn, 1) := by decide +kernel
theorem dX7_contains_0 : decode cX7_contains 0 = .ok (.iload_n 0, 1) := by decide +kernel
theorem dX7_contains_1 : decode cX7_contains 1 = .ok (.iload_n 1, 1) := by decide +kernel
theorem dX7_contains_2 : decode cX7_contains 2 = .ok (.ishr, 1) := by decide +kernel
theorem dX7_contains_3 : decode cX7_contains 3 = .ok (.iconst 1, 1) := by decide +kernel
theorem dX7_contains_4 : decode cX7_contains 4 = .ok (.iand, 1) := by decide +kernel
theorem dX7_contains_5 : decode cX7_contains 5 = .ok (.iconst 1, 1) := by decide +kernel
theorem dX7_contains_6 : decode cX7_contains 6 = .ok (.if_icmp .ne 7, 3) := by decide +kernel
theorem dX7_contains_9 : decode cX7_contains 9 = .ok (.iconst 1, 1) := by decide +kernel
theorem dX7_contains_10 : decode cX7_contains 10 = .ok (.goto 4, 3) := by decide +kernel
theorem dX7_contains_13 : decode cX7_contains 13 = .ok (.iconst 0, 1) := by decide +kernel
theorem dX7_contains_14 : decode cX7_contains 14 = .ok (.ireturn, 1) := by decide +kernel
theorem dX7_oneIf_0 : decode cX7_oneIf 0 = .ok (.iload_n 0, 1) := by decide +kernel
theorem dX7_oneIf_1 : decode cX7_oneIf 1 = .ok (.ifCond .eq 7, 3) := by decide +kernel
theorem dX7_oneIf_4 : decode cX7_oneIf 4 = .ok (.iconst 1, 1) := by decide +kernel
theorem dX7_oneIf_5 : decode cX7_oneIf 5 = .ok (.goto 4, 3) := by decide +kernel
theorem dX7_oneIf_8 : decode cX7_oneIf 8 = .ok (.iconst 0, 1) := by decide +kernel
theorem dX7_oneIf_9 : decode cX7_oneIf 9 = .ok (.ireturn, 1) := by decide +kernel
theorem dX7_entriesShownTo_0 : decode cX7_entriesShownTo 0 = .ok (.aload_n 0, 1) := by decide +kernel
theorem dX7_entriesShownTo_1 : decode cX7_entriesShownTo 1 = .ok (.getfield 17, 3) := by decide +kernel
theorem dX7_entriesShownTo_4 : decode cX7_entriesShownTo 4 = .ok (.aload_n 0, 1) := by decide +kernel
theorem dX7_entriesShownTo_5 : decode cX7_entriesShownTo 5 = .ok (.getfield 11, 3) := by decide +kernel
theorem dX7_entriesShownTo_8 : decode cX7_entriesShownTo 8 = .ok (.iload_n 1, 1) := by decide +kernel
theorem dX7_entriesShownTo_9 : decode cX7_entriesShownTo 9 = .ok (.aaload, 1) := by decide +kernel
theorem dX7_entriesShownTo_10 : decode cX7_entriesShownTo 10 = .ok (.getfield 90, 3) := by decide +kernel
theorem dX7_entriesShownTo_13 : decode cX7_entriesShownTo 13 = .ok (.aaload, 1) := by decide +kernel
theorem dX7_entriesShownTo_14 : decode cX7_entriesShownTo 14 = .ok (.getfield 102, 3) := by decide +kernel
theorem dX7_entriesShownTo_17 : decode cX7_entriesShownTo 17 = .ok (.areturn, 1) := by decide +kernel
theorem dX7_usersAttachedTo_0 : decode cX7_usersAttachedTo 0 = .ok (.iconst 0, 1) := by decide +kernel
theorem dX7_usersAttachedTo_1 : decode cX7_usersAttachedTo 1 = .ok (.istore_n 2, 1) := by decide +kernel
theorem dX7_usersAttachedTo_2 : decode cX7_usersAttachedTo 2 = .ok (.iconst 0, 1) := by decide +kernel
theorem dX7_usersAttachedTo_3 : decode cX7_usersAttachedTo 3 = .ok (.istore_n 3, 1) := by decide +kernel
theorem dX7_usersAttachedTo_4 : decode cX7_usersAttachedTo 4 = .ok (.iload_n 3, 1) := by decide +kernel
theorem dX7_usersAttachedTo_5 : decode cX7_usersAttachedTo 5 = .ok (.aload_n 0, 1) := by decide +kernel
theorem dX7_usersAttachedTo_6 : decode cX7_usersAttachedTo 6 = .ok (.getfield 28, 3) := by decide +kernel
theorem dX7_usersAttachedTo_9 : decode cX7_usersAttachedTo 9 = .ok (.if_icmp .ge 28, 3) := by decide +kernel
theorem dX7_usersAttachedTo_12 : decode cX7_usersAttachedTo 12 = .ok (.aload_n 0, 1) := by decide +kernel
theorem dX7_usersAttachedTo_13 : decode cX7_usersAttachedTo 13 = .ok (.getfield 11, 3) := by decide +kernel
theorem dX7_usersAttachedTo_16 : decode cX7_usersAttachedTo 16 = .ok (.iload_n 3, 1) := by decide +kernel
theorem dX7_usersAttachedTo_17 : decode cX7_usersAttachedTo 17 = .ok (.aaload, 1) := by decide +kernel
theorem dX7_usersAttachedTo_18 : decode cX7_usersAttachedTo 18 = .ok (.getfield 90, 3) := by decide +kernel
theorem dX7_usersAttachedTo_21 : decode cX7_usersAttachedTo 21 = .ok (.iload_n 1, 1) := by decide +kernel
theorem dX7_usersAttachedTo_22 : decode cX7_usersAttachedTo 22 = .ok (.if_icmp .ne 9, 3) := by decide +kernel
theorem dX7_usersAttachedTo_25 : decode cX7_usersAttachedTo 25 = .ok (.iload_n 2, 1) := by decide +kernel
theorem dX7_usersAttachedTo_26 : decode cX7_usersAttachedTo 26 = .ok (.iconst 1, 1) := by decide +kernel
theorem dX7_usersAttachedTo_27 : decode cX7_usersAttachedTo 27 = .ok (.iload_n 3, 1) := by decide +kernel
theorem dX7_usersAttachedTo_28 : decode cX7_usersAttachedTo 28 = .ok (.ishl, 1) := by decide +kernel
theorem dX7_usersAttachedTo_29 : decode cX7_usersAttachedTo 29 = .ok (.ior, 1) := by decide +kernel
theorem dX7_usersAttachedTo_30 : decode cX7_usersAttachedTo 30 = .ok (.istore_n 2, 1) := by decide +kernel
theorem dX7_usersAttachedTo_31 : decode cX7_usersAttachedTo 31 = .ok (.iinc 3 1, 3) := by decide +kernel
theorem dX7_usersAttachedTo_34 : decode cX7_usersAttachedTo 34 = .ok (.goto (-30), 3) := by decide +kernel
theorem dX7_usersAttachedTo_37 : decode cX7_usersAttachedTo 37 = .ok (.iload_n 2, 1) := by decide +kernel
theorem dX7_usersAttachedTo_38 : decode cX7_usersAttachedTo 38 = .ok (.ireturn, 1) := by decide +kernel
theorem dX7_alarmAhead_0 : decode cX7_alarmAhead 0 = .ok (.aload_n 0, 1) := by decide +kernel
theorem dX7_alarmAhead_1 : decode cX7_alarmAhead 1 = .ok (.getfield 11, 3) := by decide +kernel
theorem dX7_alarmAhead_4 : decode cX7_alarmAhead 4 = .ok (.iload_n 1, 1) := by decide +kernel
theorem dX7_alarmAhead_5 : decode cX7_alarmAhead 5 = .ok (.aaload, 1) := by decide +kernel
theorem dX7_alarmAhead_6 : decode cX7_alarmAhead 6 = .ok (.astore_n 2, 1) := by decide +kernel
theorem dX7_alarmAhead_7 : decode cX7_alarmAhead 7 = .ok (.aload_n 0, 1) := by decide +kernel
theorem dX7_alarmAhead_8 : decode cX7_alarmAhead 8 = .ok (.iload_n 1, 1) := by decide +kernel
theorem dX7_alarmAhead_9 : decode cX7_alarmAhead 9 = .ok (.invokevirtual 52, 3) := by decide +kernel
theorem dX7_alarmAhead_12 : decode cX7_alarmAhead 12 = .ok (.astore_n 3, 1) := by decide +kernel
theorem dX7_alarmAhead_13 : decode cX7_alarmAhead 13 = .ok (.aload_n 3, 1) := by decide +kernel
theorem dX7_alarmAhead_14 : decode cX7_alarmAhead 14 = .ok (.getfield 197, 3) := by decide +kernel
theorem dX7_alarmAhead_17 : decode cX7_alarmAhead 17 = .ok (.iload_n 1, 1) := by decide +kernel
theorem dX7_alarmAhead_18 : decode cX7_alarmAhead 18 = .ok (.aaload, 1) := by decide +kernel
theorem dX7_alarmAhead_19 : decode cX7_alarmAhead 19 = .ok (.aload_n 2, 1) := by decide +kernel
theorem dX7_alarmAhead_20 : decode cX7_alarmAhead 20 = .ok (.getfield 189, 3) := by decide +kernel
theorem dX7_alarmAhead_23 : decode cX7_alarmAhead 23 = .ok (.invokevirtual 211, 3) := by decide +kernel
theorem dX7_alarmAhead_26 : decode cX7_alarmAhead 26 = .ok (.ifCond .eq 5, 3) := by decide +kernel
theorem dX7_alarmAhead_29 : decode cX7_alarmAhead 29 = .ok (.iconst 1, 1) := by decide +kernel
theorem dX7_alarmAhead_30 : decode cX7_alarmAhead 30 = .ok (.ireturn, 1) := by decide +kernel
theorem dX7_alarmAhead_31 : decode cX7_alarmAhead 31 = .ok (.aload_n 3, 1) := by decide +kernel
theorem dX7_alarmAhead_32 : decode cX7_alarmAhead 32 = .ok (.invokevirtual 200, 3) := by decide +kernel
theorem dX7_alarmAhead_35 : decode cX7_alarmAhead 35 = .ok (.ifCond .eq 5, 3) := by decide +kernel
theorem dX7_alarmAhead_38 : decode cX7_alarmAhead 38 = .ok (.iconst 2, 1) := by decide +kernel
theorem dX7_alarmAhead_39 : decode cX7_alarmAhead 39 = .ok (.ireturn, 1) := by decide +kernel
theorem dX7_alarmAhead_40 : decode cX7_alarmAhead 40 = .ok (.aload_n 2, 1) := by decide +kernel
theorem dX7_alarmAhead_41 : decode cX7_alarmAhead 41 = .ok (.getfield 119, 3) := by decide +kernel
theorem dX7_alarmAhead_44 : decode cX7_alarmAhead 44 = .ok (.aload_n 3, 1) := by decide +kernel
theorem dX7_alarmAhead_45 : decode cX7_alarmAhead 45 = .ok (.invokevirtual 204, 3) := by decide +kernel
theorem dX7_alarmAhead_48 : decode cX7_alarmAhead 48 = .ok (.invokevirtual 240, 3) := by decide +kernel
theorem dX7_alarmAhead_51 : decode cX7_alarmAhead 51 = .ok (.ifCond .ne 5, 3) := by decide +kernel
theorem dX7_alarmAhead_54 : decode cX7_alarmAhead 54 = .ok (.iconst 3, 1) := by decide +kernel
theorem dX7_alarmAhead_55 : decode cX7_alarmAhead 55 = .ok (.ireturn, 1) := by decide +kernel
theorem dX7_alarmAhead_56 : decode cX7_alarmAhead 56 = .ok (.iconst 0, 1) := by decide +kernel
theorem dX7_alarmAhead_57 : decode cX7_alarmAhead 57 = .ok (.ireturn, 1) := by decide +kernel
theorem dX7_operate_0 : decode cX7_operate 0 = .ok (.aload_n 0, 1) := by decide +kernel
theorem dX7_operate_1 : decode cX7_operate 1 = .ok (.getfield 11, 3) := by decide +kernel
theorem dX7_operate_4 : decode cX7_operate 4 = .ok (.iload_n 1, 1) := by decide +kernel
theorem dX7_operate_5 : decode cX7_operate 5 = .ok (.aaload, 1) := by decide +kernel
theorem dX7_operate_6 : decode cX7_operate 6 = .ok (.astore_n 2, 1) := by decide +kernel
theorem dX7_operate_7 : decode cX7_operate 7 = .ok (.aload_n 0, 1) := by decide +kernel
theorem dX7_operate_8 : decode cX7_operate 8 = .ok (.getfield 17, 3) := by decide +kernel
theorem dX7_operate_11 : decode cX7_operate 11 = .ok (.aload_n 2, 1) := by decide +kernel
theorem dX7_operate_12 : decode cX7_operate 12 = .ok (.getfield 90, 3) := by decide +kernel
theorem dX7_operate_15 : decode cX7_operate 15 = .ok (.aaload, 1) := by decide +kernel
theorem dX7_operate_16 : decode cX7_operate 16 = .ok (.astore_n 3, 1) := by decide +kernel
theorem dX7_operate_17 : decode cX7_operate 17 = .ok (.aload_n 2, 1) := by decide +kernel
theorem dX7_operate_18 : decode cX7_operate 18 = .ok (.dup, 1) := by decide +kernel
theorem dX7_operate_19 : decode cX7_operate 19 = .ok (.getfield 186, 3) := by decide +kernel
theorem dX7_operate_22 : decode cX7_operate 22 = .ok (.aload_n 0, 1) := by decide +kernel
theorem dX7_operate_23 : decode cX7_operate 23 = .ok (.getfield 28, 3) := by decide +kernel
theorem dX7_operate_26 : decode cX7_operate 26 = .ok (.aload_n 0, 1) := by decide +kernel
theorem dX7_operate_27 : decode cX7_operate 27 = .ok (.getfield 28, 3) := by decide +kernel
theorem dX7_operate_30 : decode cX7_operate 30 = .ok (.imul, 1) := by decide +kernel
theorem dX7_operate_31 : decode cX7_operate 31 = .ok (.iadd, 1) := by decide +kernel
theorem dX7_operate_32 : decode cX7_operate 32 = .ok (.putfield 186, 3) := by decide +kernel
theorem dX7_operate_35 : decode cX7_operate 35 = .ok (.aload_n 0, 1) := by decide +kernel
theorem dX7_operate_36 : decode cX7_operate 36 = .ok (.iload_n 1, 1) := by decide +kernel
theorem dX7_operate_37 : decode cX7_operate 37 = .ok (.invokevirtual 73, 3) := by decide +kernel
theorem dX7_operate_40 : decode cX7_operate 40 = .ok (.istore 4, 2) := by decide +kernel
theorem dX7_operate_42 : decode cX7_operate 42 = .ok (.iload 4, 2) := by decide +kernel
theorem dX7_operate_44 : decode cX7_operate 44 = .ok (.ifCond .ne 31, 3) := by decide +kernel
theorem dX7_operate_47 : decode cX7_operate 47 = .ok (.aload_n 3, 1) := by decide +kernel
theorem dX7_operate_48 : decode cX7_operate 48 = .ok (.invokevirtual 244, 3) := by decide +kernel
theorem dX7_operate_51 : decode cX7_operate 51 = .ok (.aload_n 2, 1) := by decide +kernel
theorem dX7_operate_52 : decode cX7_operate 52 = .ok (.iload_n 1, 1) := by decide +kernel
theorem dX7_operate_53 : decode cX7_operate 53 = .ok (.aload_n 3, 1) := by decide +kernel
theorem dX7_operate_54 : decode cX7_operate 54 = .ok (.getfield 102, 3) := by decide +kernel
theorem dX7_operate_57 : decode cX7_operate 57 = .ok (.invokevirtual 247, 3) := by decide +kernel
theorem dX7_operate_60 : decode cX7_operate 60 = .ok (.aload_n 2, 1) := by decide +kernel
theorem dX7_operate_61 : decode cX7_operate 61 = .ok (.dup, 1) := by decide +kernel
theorem dX7_operate_62 : decode cX7_operate 62 = .ok (.getfield 127, 3) := by decide +kernel
theorem dX7_operate_65 : decode cX7_operate 65 = .ok (.aload_n 0, 1) := by decide +kernel
theorem dX7_operate_66 : decode cX7_operate 66 = .ok (.getfield 28, 3) := by decide +kernel
theorem dX7_operate_69 : decode cX7_operate 69 = .ok (.iadd, 1) := by decide +kernel
theorem dX7_operate_70 : decode cX7_operate 70 = .ok (.putfield 127, 3) := by decide +kernel
theorem dX7_operate_73 : decode cX7_operate 73 = .ok (.iconst 0, 1) := by decide +kernel
theorem dX7_operate_74 : decode cX7_operate 74 = .ok (.ireturn, 1) := by decide +kernel
theorem dX7_operate_75 : decode cX7_operate 75 = .ok (.aload_n 2, 1) := by decide +kernel
theorem dX7_operate_76 : decode cX7_operate 76 = .ok (.iload 4, 2) := by decide +kernel
theorem dX7_operate_78 : decode cX7_operate 78 = .ok (.invokevirtual 163, 3) := by decide +kernel
theorem dX7_operate_81 : decode cX7_operate 81 = .ok (.iload 4, 2) := by decide +kernel
theorem dX7_operate_83 : decode cX7_operate 83 = .ok (.iconst 2, 1) := by decide +kernel
theorem dX7_operate_84 : decode cX7_operate 84 = .ok (.if_icmp .ne 14, 3) := by decide +kernel
theorem dX7_operate_87 : decode cX7_operate 87 = .ok (.aload_n 3, 1) := by decide +kernel
theorem dX7_operate_88 : decode cX7_operate 88 = .ok (.getfield 102, 3) := by decide +kernel
theorem dX7_operate_91 : decode cX7_operate 91 = .ok (.aload_n 2, 1) := by decide +kernel
theorem dX7_operate_92 : decode cX7_operate 92 = .ok (.getfield 141, 3) := by decide +kernel
theorem dX7_operate_95 : decode cX7_operate 95 = .ok (.invokevirtual 251, 3) := by decide +kernel
theorem dX7_operate_98 : decode cX7_operate 98 = .ok (.iload 4, 2) := by decide +kernel
theorem dX7_operate_100 : decode cX7_operate 100 = .ok (.iconst 3, 1) := by decide +kernel
theorem dX7_operate_101 : decode cX7_operate 101 = .ok (.if_icmp .ne 14, 3) := by decide +kernel
theorem dX7_operate_104 : decode cX7_operate 104 = .ok (.aload_n 2, 1) := by decide +kernel
theorem dX7_operate_105 : decode cX7_operate 105 = .ok (.aload_n 3, 1) := by decide +kernel
theorem dX7_operate_106 : decode cX7_operate 106 = .ok (.getfield 102, 3) := by decide +kernel
theorem dX7_operate_109 : decode cX7_operate 109 = .ok (.invokevirtual 204, 3) := by decide +kernel
theorem dX7_operate_112 : decode cX7_operate 112 = .ok (.invokevirtual 255, 3) := by decide +kernel
theorem dX7_operate_115 : decode cX7_operate 115 = .ok (.iload 4, 2) := by decide +kernel
theorem dX7_operate_117 : decode cX7_operate 117 = .ok (.ireturn, 1) := by decide +kernel
theorem dX7_usersWithAlarm_0 : decode cX7_usersWithAlarm 0 = .ok (.iconst 0, 1) := by decide +kernel
theorem dX7_usersWithAlarm_1 : decode cX7_usersWithAlarm 1 = .ok (.istore_n 1, 1) := by decide +kernel
theorem dX7_usersWithAlarm_2 : decode cX7_usersWithAlarm 2 = .ok (.iconst 0, 1) := by decide +kernel
theorem dX7_usersWithAlarm_3 : decode cX7_usersWithAlarm 3 = .ok (.istore_n 2, 1) := by decide +kernel
theorem dX7_usersWithAlarm_4 : decode cX7_usersWithAlarm 4 = .ok (.iload_n 2, 1) := by decide +kernel
theorem dX7_usersWithAlarm_5 : decode cX7_usersWithAlarm 5 = .ok (.aload_n 0, 1) := by decide +kernel
theorem dX7_usersWithAlarm_6 : decode cX7_usersWithAlarm 6 = .ok (.getfield 28, 3) := by decide +kernel
theorem dX7_usersWithAlarm_9 : decode cX7_usersWithAlarm 9 = .ok (.if_icmp .ge 32, 3) := by decide +kernel
theorem dX7_usersWithAlarm_12 : decode cX7_usersWithAlarm 12 = .ok (.iload_n 1, 1) := by decide +kernel
theorem dX7_usersWithAlarm_13 : decode cX7_usersWithAlarm 13 = .ok (.aload_n 0, 1) := by decide +kernel
theorem dX7_usersWithAlarm_14 : decode cX7_usersWithAlarm 14 = .ok (.getfield 11, 3) := by decide +kernel
theorem dX7_usersWithAlarm_17 : decode cX7_usersWithAlarm 17 = .ok (.iload_n 2, 1) := by decide +kernel
theorem dX7_usersWithAlarm_18 : decode cX7_usersWithAlarm 18 = .ok (.aaload, 1) := by decide +kernel
theorem dX7_usersWithAlarm_19 : decode cX7_usersWithAlarm 19 = .ok (.getfield 45, 3) := by decide +kernel
theorem dX7_usersWithAlarm_22 : decode cX7_usersWithAlarm 22 = .ok (.ifCond .eq 7, 3) := by decide +kernel
theorem dX7_usersWithAlarm_25 : decode cX7_usersWithAlarm 25 = .ok (.iconst 1, 1) := by decide +kernel
theorem dX7_usersWithAlarm_26 : decode cX7_usersWithAlarm 26 = .ok (.goto 4, 3) := by decide +kernel
theorem dX7_usersWithAlarm_29 : decode cX7_usersWithAlarm 29 = .ok (.iconst 0, 1) := by decide +kernel
theorem dX7_usersWithAlarm_30 : decode cX7_usersWithAlarm 30 = .ok (.invokestatic 166, 3) := by decide +kernel
theorem dX7_usersWithAlarm_33 : decode cX7_usersWithAlarm 33 = .ok (.iadd, 1) := by decide +kernel
theorem dX7_usersWithAlarm_34 : decode cX7_usersWithAlarm 34 = .ok (.istore_n 1, 1) := by decide +kernel
theorem dX7_usersWithAlarm_35 : decode cX7_usersWithAlarm 35 = .ok (.iinc 2 1, 3) := by decide +kernel
theorem dX7_usersWithAlarm_38 : decode cX7_usersWithAlarm 38 = .ok (.goto (-34), 3) := by decide +kernel
theorem dX7_usersWithAlarm_41 : decode cX7_usersWithAlarm 41 = .ok (.iload_n 1, 1) := by decide +kernel
theorem dX7_usersWithAlarm_42 : decode cX7_usersWithAlarm 42 = .ok (.ireturn, 1) := by decide +kernel
theorem dX7_usersWithProof_0 : decode cX7_usersWithProof 0 = .ok (.iconst 0, 1) := by decide +kernel
theorem dX7_usersWithProof_1 : decode cX7_usersWithProof 1 = .ok (.istore_n 1, 1) := by decide +kernel
theorem dX7_usersWithProof_2 : decode cX7_usersWithProof 2 = .ok (.iconst 0, 1) := by decide +kernel
theorem dX7_usersWithProof_3 : decode cX7_usersWithProof 3 = .ok (.istore_n 2, 1) := by decide +kernel
theorem dX7_usersWithProof_4 : decode cX7_usersWithProof 4 = .ok (.iload_n 2, 1) := by decide +kernel
theorem dX7_usersWithProof_5 : decode cX7_usersWithProof 5 = .ok (.aload_n 0, 1) := by decide +kernel
theorem dX7_usersWithProof_6 : decode cX7_usersWithProof 6 = .ok (.getfield 28, 3) := by decide +kernel
theorem dX7_usersWithProof_9 : decode cX7_usersWithProof 9 = .ok (.if_icmp .ge 27, 3) := by decide +kernel
theorem dX7_usersWithProof_12 : decode cX7_usersWithProof 12 = .ok (.iload_n 1, 1) := by decide +kernel
theorem dX7_usersWithProof_13 : decode cX7_usersWithProof 13 = .ok (.aload_n 0, 1) := by decide +kernel
theorem dX7_usersWithProof_14 : decode cX7_usersWithProof 14 = .ok (.getfield 11, 3) := by decide +kernel
theorem dX7_usersWithProof_17 : decode cX7_usersWithProof 17 = .ok (.iload_n 2, 1) := by decide +kernel
theorem dX7_usersWithProof_18 : decode cX7_usersWithProof 18 = .ok (.aaload, 1) := by decide +kernel
theorem dX7_usersWithProof_19 : decode cX7_usersWithProof 19 = .ok (.getfield 141, 3) := by decide +kernel
theorem dX7_usersWithProof_22 : decode cX7_usersWithProof 22 = .ok (.getfield 145, 3) := by decide +kernel
theorem dX7_usersWithProof_25 : decode cX7_usersWithProof 25 = .ok (.invokestatic 166, 3) := by decide +kernel
theorem dX7_usersWithProof_28 : decode cX7_usersWithProof 28 = .ok (.iadd, 1) := by decide +kernel
theorem dX7_usersWithProof_29 : decode cX7_usersWithProof 29 = .ok (.istore_n 1, 1) := by decide +kernel
theorem dX7_usersWithProof_30 : decode cX7_usersWithProof 30 = .ok (.iinc 2 1, 3) := by decide +kernel
theorem dX7_usersWithProof_33 : decode cX7_usersWithProof 33 = .ok (.goto (-29), 3) := by decide +kernel
theorem dX7_usersWithProof_36 : decode cX7_usersWithProof 36 = .ok (.iload_n 1, 1) := by decide +kernel
theorem dX7_usersWithProof_37 : decode cX7_usersWithProof 37 = .ok (.ireturn, 1) := by decide +kernel
theorem dX7_operationsOfAll_0 : decode cX7_operationsOfAll 0 = .ok (.iconst 0, 1) := by decide +kernel
theorem dX7_operationsOfAll_1 : decode cX7_operationsOfAll 1 = .ok (.istore_n 1, 1) := by decide +kernel
theorem dX7_operationsOfAll_2 : decode cX7_operationsOfAll 2 = .ok (.iconst 0, 1) := by decide +kernel
theorem dX7_operationsOfAll_3 : decode cX7_operationsOfAll 3 = .ok (.istore_n 2, 1) := by decide +kernel
theorem dX7_operationsOfAll_4 : decode cX7_operationsOfAll 4 = .ok (.iload_n 2, 1) := by decide +kernel
theorem dX7_operationsOfAll_5 : decode cX7_operationsOfAll 5 = .ok (.aload_n 0, 1) := by decide +kernel
theorem dX7_operationsOfAll_6 : decode cX7_operationsOfAll 6 = .ok (.getfield 28, 3) := by decide +kernel
theorem dX7_operationsOfAll_9 : decode cX7_operationsOfAll 9 = .ok (.if_icmp .ge 21, 3) := by decide +kernel
theorem dX7_operationsOfAll_12 : decode cX7_operationsOfAll 12 = .ok (.iload_n 1, 1) := by decide +kernel
theorem dX7_operationsOfAll_13 : decode cX7_operationsOfAll 13 = .ok (.aload_n 0, 1) := by decide +kernel
theorem dX7_operationsOfAll_14 : decode cX7_operationsOfAll 14 = .ok (.getfield 11, 3) := by decide +kernel
theorem dX7_operationsOfAll_17 : decode cX7_operationsOfAll 17 = .ok (.iload_n 2, 1) := by decide +kernel
theorem dX7_operationsOfAll_18 : decode cX7_operationsOfAll 18 = .ok (.aaload, 1) := by decide +kernel
theorem dX7_operationsOfAll_19 : decode cX7_operationsOfAll 19 = .ok (.getfield 183, 3) := by decide +kernel
theorem dX7_operationsOfAll_22 : decode cX7_operationsOfAll 22 = .ok (.iadd, 1) := by decide +kernel
theorem dX7_operationsOfAll_23 : decode cX7_operationsOfAll 23 = .ok (.istore_n 1, 1) := by decide +kernel
theorem dX7_operationsOfAll_24 : decode cX7_operationsOfAll 24 = .ok (.iinc 2 1, 3) := by decide +kernel
theorem dX7_operationsOfAll_27 : decode cX7_operationsOfAll 27 = .ok (.goto (-23), 3) := by decide +kernel
theorem dX7_operationsOfAll_30 : decode cX7_operationsOfAll 30 = .ok (.iload_n 1, 1) := by decide +kernel
theorem dX7_operationsOfAll_31 : decode cX7_operationsOfAll 31 = .ok (.ireturn, 1) := by decide +kernel
theorem dX7_lettersInBoxes_0 : decode cX7_lettersInBoxes 0 = .ok (.iconst 0, 1) := by decide +kernel
theorem dX7_lettersInBoxes_1 : decode cX7_lettersInBoxes 1 = .ok (.istore_n 1, 1) := by decide +kernel
theorem dX7_lettersInBoxes_2 : decode cX7_lettersInBoxes 2 = .ok (.iconst 0, 1) := by decide +kernel
theorem dX7_lettersInBoxes_3 : decode cX7_lettersInBoxes 3 = .ok (.istore_n 2, 1) := by decide +kernel
theorem dX7_lettersInBoxes_4 : decode cX7_lettersInBoxes 4 = .ok (.iload_n 2, 1) := by decide +kernel
theorem dX7_lettersInBoxes_5 : decode cX7_lettersInBoxes 5 = .ok (.aload_n 0, 1) := by decide +kernel
theorem dX7_lettersInBoxes_6 : decode cX7_lettersInBoxes 6 = .ok (.getfield 28, 3) := by decide +kernel
theorem dX7_lettersInBoxes_9 : decode cX7_lettersInBoxes 9 = .ok (.if_icmp .ge 24, 3) := by decide +kernel
theorem dX7_lettersInBoxes_12 : decode cX7_lettersInBoxes 12 = .ok (.iload_n 1, 1) := by decide +kernel
theorem dX7_lettersInBoxes_13 : decode cX7_lettersInBoxes 13 = .ok (.aload_n 0, 1) := by decide +kernel
theorem dX7_lettersInBoxes_14 : decode cX7_lettersInBoxes 14 = .ok (.getfield 11, 3) := by decide +kernel
theorem dX7_lettersInBoxes_17 : decode cX7_lettersInBoxes 17 = .ok (.iload_n 2, 1) := by decide +kernel
theorem dX7_lettersInBoxes_18 : decode cX7_lettersInBoxes 18 = .ok (.aaload, 1) := by decide +kernel
theorem dX7_lettersInBoxes_19 : decode cX7_lettersInBoxes 19 = .ok (.getfield 110, 3) := by decide +kernel
theorem dX7_lettersInBoxes_22 : decode cX7_lettersInBoxes 22 = .ok (.getfield 114, 3) := by decide +kernel
theorem dX7_lettersInBoxes_25 : decode cX7_lettersInBoxes 25 = .ok (.iadd, 1) := by decide +kernel
theorem dX7_lettersInBoxes_26 : decode cX7_lettersInBoxes 26 = .ok (.istore_n 1, 1) := by decide +kernel
theorem dX7_lettersInBoxes_27 : decode cX7_lettersInBoxes 27 = .ok (.iinc 2 1, 3) := by decide +kernel
theorem dX7_lettersInBoxes_30 : decode cX7_lettersInBoxes 30 = .ok (.goto (-26), 3) := by decide +kernel
theorem dX7_lettersInBoxes_33 : decode cX7_lettersInBoxes 33 = .ok (.iload_n 1, 1) := by decide +kernel
theorem dX7_lettersInBoxes_34 : decode cX7_lettersInBoxes 34 = .ok (.ireturn, 1) := by decide +kernel
theorem dX7_knowForkedVectors_0 : decode cX7_knowForkedVectors 0 = .ok (.aload_n 0, 1) := by decide +kernel
theorem dX7_knowForkedVectors_1 : decode cX7_knowForkedVectors 1 = .ok (.getfield 11, 3) := by decide +kernel
theorem dX7_knowForkedVectors_4 : decode cX7_knowForkedVectors 4 = .ok (.iload_n 1, 1) := by decide +kernel
theorem dX7_knowForkedVectors_5 : decode cX7_knowForkedVectors 5 = .ok (.aaload, 1) := by decide +kernel
theorem dX7_knowForkedVectors_6 : decode cX7_knowForkedVectors 6 = .ok (.getfield 119, 3) := by decide +kernel
theorem dX7_knowForkedVectors_9 : decode cX7_knowForkedVectors 9 = .ok (.aload_n 0, 1) := by decide +kernel
theorem dX7_knowForkedVectors_10 : decode cX7_knowForkedVectors 10 = .ok (.getfield 11, 3) := by decide +kernel
theorem dX7_knowForkedVectors_13 : decode cX7_knowForkedVectors 13 = .ok (.iload_n 2, 1) := by decide +kernel
theorem dX7_knowForkedVectors_14 : decode cX7_knowForkedVectors 14 = .ok (.aaload, 1) := by decide +kernel
theorem dX7_knowForkedVectors_15 : decode cX7_knowForkedVectors 15 = .ok (.getfield 119, 3) := by decide +kernel
theorem dX7_knowForkedVectors_18 : decode cX7_knowForkedVectors 18 = .ok (.invokevirtual 211, 3) := by decide +kernel
theorem dX7_knowForkedVectors_21 : decode cX7_knowForkedVectors 21 = .ok (.iconst 2, 1) := by decide +kernel
theorem dX7_knowForkedVectors_22 : decode cX7_knowForkedVectors 22 = .ok (.if_icmp .ne 7, 3) := by decide +kernel
theorem dX7_knowForkedVectors_25 : decode cX7_knowForkedVectors 25 = .ok (.iconst 1, 1) := by decide +kernel
theorem dX7_knowForkedVectors_26 : decode cX7_knowForkedVectors 26 = .ok (.goto 4, 3) := by decide +kernel
theorem dX7_knowForkedVectors_29 : decode cX7_knowForkedVectors 29 = .ok (.iconst 0, 1) := by decide +kernel
theorem dX7_knowForkedVectors_30 : decode cX7_knowForkedVectors 30 = .ok (.ireturn, 1) := by decide +kernel
theorem dX7_isUnaware_0 : decode cX7_isUnaware 0 = .ok (.aload_n 0, 1) := by decide +kernel
theorem dX7_isUnaware_1 : decode cX7_isUnaware 1 = .ok (.getfield 11, 3) := by decide +kernel
theorem dX7_isUnaware_4 : decode cX7_isUnaware 4 = .ok (.iload_n 1, 1) := by decide +kernel
theorem dX7_isUnaware_5 : decode cX7_isUnaware 5 = .ok (.aaload, 1) := by decide +kernel
theorem dX7_isUnaware_6 : decode cX7_isUnaware 6 = .ok (.getfield 45, 3) := by decide +kernel
theorem dX7_isUnaware_9 : decode cX7_isUnaware 9 = .ok (.ifCond .ne 11, 3) := by decide +kernel
theorem dX7_isUnaware_12 : decode cX7_isUnaware 12 = .ok (.aload_n 0, 1) := by decide +kernel
theorem dX7_isUnaware_13 : decode cX7_isUnaware 13 = .ok (.iload_n 1, 1) := by decide +kernel
theorem dX7_isUnaware_14 : decode cX7_isUnaware 14 = .ok (.invokevirtual 73, 3) := by decide +kernel
theorem dX7_isUnaware_17 : decode cX7_isUnaware 17 = .ok (.ifCond .eq 5, 3) := by decide +kernel
theorem dX7_isUnaware_20 : decode cX7_isUnaware 20 = .ok (.iconst 0, 1) := by decide +kernel
theorem dX7_isUnaware_21 : decode cX7_isUnaware 21 = .ok (.ireturn, 1) := by decide +kernel
theorem dX7_isUnaware_22 : decode cX7_isUnaware 22 = .ok (.iconst 0, 1) := by decide +kernel
theorem dX7_isUnaware_23 : decode cX7_isUnaware 23 = .ok (.istore_n 2, 1) := by decide +kernel
theorem dX7_isUnaware_24 : decode cX7_isUnaware 24 = .ok (.iload_n 2, 1) := by decide +kernel
theorem dX7_isUnaware_25 : decode cX7_isUnaware 25 = .ok (.aload_n 0, 1) := by decide +kernel
theorem dX7_isUnaware_26 : decode cX7_isUnaware 26 = .ok (.getfield 28, 3) := by decide +kernel
theorem dX7_isUnaware_29 : decode cX7_isUnaware 29 = .ok (.if_icmp .ge 20, 3) := by decide +kernel
theorem dX7_isUnaware_32 : decode cX7_isUnaware 32 = .ok (.aload_n 0, 1) := by decide +kernel
theorem dX7_isUnaware_33 : decode cX7_isUnaware 33 = .ok (.iload_n 1, 1) := by decide +kernel
theorem dX7_isUnaware_34 : decode cX7_isUnaware 34 = .ok (.iload_n 2, 1) := by decide +kernel
theorem dX7_isUnaware_35 : decode cX7_isUnaware 35 = .ok (.invokevirtual 214, 3) := by decide +kernel
theorem dX7_isUnaware_38 : decode cX7_isUnaware 38 = .ok (.ifCond .eq 5, 3) := by decide +kernel
theorem dX7_isUnaware_41 : decode cX7_isUnaware 41 = .ok (.iconst 0, 1) := by decide +kernel
theorem dX7_isUnaware_42 : decode cX7_isUnaware 42 = .ok (.ireturn, 1) := by decide +kernel
theorem dX7_isUnaware_43 : decode cX7_isUnaware 43 = .ok (.iinc 2 1, 3) := by decide +kernel
theorem dX7_isUnaware_46 : decode cX7_isUnaware 46 = .ok (.goto (-22), 3) := by decide +kernel
theorem dX7_isUnaware_49 : decode cX7_isUnaware 49 = .ok (.iconst 1, 1) := by decide +kernel
theorem dX7_isUnaware_50 : decode cX7_isUnaware 50 = .ok (.ireturn, 1) := by decide +kernel
theorem dX7_carryOut_0 : decode cX7_carryOut 0 = .ok (.iload_n 1, 1) := by decide +kernel
theorem dX7_carryOut_1 : decode cX7_carryOut 1 = .ok (.lookupswitch 118 #[(103, 96), (109, 103), (114, 66), (115, 81), (119, 51)], 51) := by decide +kernel
theorem dX7_carryOut_52 : decode cX7_carryOut 52 = .ok (.aload_n 0, 1) := by decide +kernel
theorem dX7_carryOut_53 : decode cX7_carryOut 53 = .ok (.iload_n 2, 1) := by decide +kernel
theorem dX7_carryOut_54 : decode cX7_carryOut 54 = .ok (.iload_n 3, 1) := by decide +kernel
theorem dX7_carryOut_55 : decode cX7_carryOut 55 = .ok (.invokevirtual 258, 3) := by decide +kernel
theorem dX7_carryOut_58 : decode cX7_carryOut 58 = .ok (.ifCond .lt 7, 3) := by decide +kernel
theorem dX7_carryOut_61 : decode cX7_carryOut 61 = .ok (.iconst 1, 1) := by decide +kernel
theorem dX7_carryOut_62 : decode cX7_carryOut 62 = .ok (.goto 4, 3) := by decide +kernel
theorem dX7_carryOut_65 : decode cX7_carryOut 65 = .ok (.iconst 0, 1) := by decide +kernel
theorem dX7_carryOut_66 : decode cX7_carryOut 66 = .ok (.ireturn, 1) := by decide +kernel
theorem dX7_carryOut_67 : decode cX7_carryOut 67 = .ok (.aload_n 0, 1) := by decide +kernel
theorem dX7_carryOut_68 : decode cX7_carryOut 68 = .ok (.iload_n 2, 1) := by decide +kernel
theorem dX7_carryOut_69 : decode cX7_carryOut 69 = .ok (.iload_n 3, 1) := by decide +kernel
theorem dX7_carryOut_70 : decode cX7_carryOut 70 = .ok (.invokevirtual 262, 3) := by decide +kernel
theorem dX7_carryOut_73 : decode cX7_carryOut 73 = .ok (.ifCond .lt 7, 3) := by decide +kernel
theorem dX7_carryOut_76 : decode cX7_carryOut 76 = .ok (.iconst 1, 1) := by decide +kernel
theorem dX7_carryOut_77 : decode cX7_carryOut 77 = .ok (.goto 4, 3) := by decide +kernel
theorem dX7_carryOut_80 : decode cX7_carryOut 80 = .ok (.iconst 0, 1) := by decide +kernel
theorem dX7_carryOut_81 : decode cX7_carryOut 81 = .ok (.ireturn, 1) := by decide +kernel
theorem dX7_carryOut_82 : decode cX7_carryOut 82 = .ok (.aload_n 0, 1) := by decide +kernel
theorem dX7_carryOut_83 : decode cX7_carryOut 83 = .ok (.iload_n 2, 1) := by decide +kernel
theorem dX7_carryOut_84 : decode cX7_carryOut 84 = .ok (.iload_n 3, 1) := by decide +kernel
theorem dX7_carryOut_85 : decode cX7_carryOut 85 = .ok (.invokevirtual 265, 3) := by decide +kernel
theorem dX7_carryOut_88 : decode cX7_carryOut 88 = .ok (.ifCond .lt 7, 3) := by decide +kernel
theorem dX7_carryOut_91 : decode cX7_carryOut 91 = .ok (.iconst 1, 1) := by decide +kernel
theorem dX7_carryOut_92 : decode cX7_carryOut 92 = .ok (.goto 4, 3) := by decide +kernel
theorem dX7_carryOut_95 : decode cX7_carryOut 95 = .ok (.iconst 0, 1) := by decide +kernel
theorem dX7_carryOut_96 : decode cX7_carryOut 96 = .ok (.ireturn, 1) := by decide +kernel
theorem dX7_carryOut_97 : decode cX7_carryOut 97 = .ok (.aload_n 0, 1) := by decide +kernel
theorem dX7_carryOut_98 : decode cX7_carryOut 98 = .ok (.iload_n 2, 1) := by decide +kernel
theorem dX7_carryOut_99 : decode cX7_carryOut 99 = .ok (.iload_n 3, 1) := by decide +kernel
theorem dX7_carryOut_100 : decode cX7_carryOut 100 = .ok (.invokevirtual 268, 3) := by decide +kernel
theorem dX7_carryOut_103 : decode cX7_carryOut 103 = .ok (.ireturn, 1) := by decide +kernel
theorem dX7_carryOut_104 : decode cX7_carryOut 104 = .ok (.aload_n 0, 1) := by decide +kernel
theorem dX7_carryOut_105 : decode cX7_carryOut 105 = .ok (.iload_n 2, 1) := by decide +kernel
theorem dX7_carryOut_106 : decode cX7_carryOut 106 = .ok (.iload_n 3, 1) := by decide +kernel
theorem dX7_carryOut_107 : decode cX7_carryOut 107 = .ok (.invokevirtual 271, 3) := by decide +kernel
theorem dX7_carryOut_110 : decode cX7_carryOut 110 = .ok (.ifCond .lt 7, 3) := by decide +kernel
theorem dX7_carryOut_113 : decode cX7_carryOut 113 = .ok (.iconst 1, 1) := by decide +kernel
theorem dX7_carryOut_114 : decode cX7_carryOut 114 = .ok (.goto 4, 3) := by decide +kernel
theorem dX7_carryOut_117 : decode cX7_carryOut 117 = .ok (.iconst 0, 1) := by decide +kernel
theorem dX7_carryOut_118 : decode cX7_carryOut 118 = .ok (.ireturn, 1) := by decide +kernel
theorem dX7_carryOut_119 : decode cX7_carryOut 119 = .ok (.iconst 0, 1) := by decide +kernel
theorem dX7_carryOut_120 : decode cX7_carryOut 120 = .ok (.ireturn, 1) := by decide +kernel
theorem dX7_readLetters_0 : decode cX7_readLetters 0 = .ok (.iconst 0, 1) := by decide +kernel
theorem dX7_readLetters_1 : decode cX7_readLetters 1 = .ok (.istore_n 3, 1) := by decide +kernel
theorem dX7_readLetters_2 : decode cX7_readLetters 2 = .ok (.iload_n 3, 1) := by decide +kernel
theorem dX7_readLetters_3 : decode cX7_readLetters 3 = .ok (.iload_n 2, 1) := by decide +kernel
theorem dX7_readLetters_4 : decode cX7_readLetters 4 = .ok (.if_icmp .ge 19, 3) := by decide +kernel
theorem dX7_readLetters_7 : decode cX7_readLetters 7 = .ok (.aload_n 0, 1) := by decide +kernel
theorem dX7_readLetters_8 : decode cX7_readLetters 8 = .ok (.iload_n 1, 1) := by decide +kernel
theorem dX7_readLetters_9 : decode cX7_readLetters 9 = .ok (.invokevirtual 274, 3) := by decide +kernel
theorem dX7_readLetters_12 : decode cX7_readLetters 12 = .ok (.ifCond .ge 5, 3) := by decide +kernel
theorem dX7_readLetters_15 : decode cX7_readLetters 15 = .ok (.iconst 0, 1) := by decide +kernel
theorem dX7_readLetters_16 : decode cX7_readLetters 16 = .ok (.ireturn, 1) := by decide +kernel
theorem dX7_readLetters_17 : decode cX7_readLetters 17 = .ok (.iinc 3 1, 3) := by decide +kernel
theorem dX7_readLetters_20 : decode cX7_readLetters 20 = .ok (.goto (-18), 3) := by decide +kernel
theorem dX7_readLetters_23 : decode cX7_readLetters 23 = .ok (.aload_n 0, 1) := by decide +kernel
theorem dX7_readLetters_24 : decode cX7_readLetters 24 = .ok (.iload_n 1, 1) := by decide +kernel
theorem dX7_readLetters_25 : decode cX7_readLetters 25 = .ok (.invokevirtual 41, 3) := by decide +kernel
theorem dX7_readLetters_28 : decode cX7_readLetters 28 = .ok (.ireturn, 1) := by decide +kernel
end
section
theorem dX8_init_0 : decode cX8_init 0 = .ok (.aload_n 0, 1) := by decide +kernel
theorem dX8_init_1 : decode cX8_init 1 = .ok (.invokespecial 1, 3) := by decide +kernel
theorem dX8_init_4 : decode cX8_init 4 = .ok (.aload_n 0, 1) := by decide +kernel
theorem dX8_init_5 : decode cX8_init 5 = .ok (.sipush 180, 3) := by decide +kernel
theorem dX8_init_8 : decode cX8_init 8 = .ok (.newarray .int, 2) := by decide +kernel
theorem dX8_init_10 : decode cX8_init 10 = .ok (.putfield 7, 3) := by decide +kernel
theorem dX8_init_13 : decode cX8_init 13 = .ok (.aload_n 0, 1) := by decide +kernel
theorem dX8_init_14 : decode cX8_init 14 = .ok (.bipush 6, 2) := by decide +kernel
theorem dX8_init_16 : decode cX8_init 16 = .ok (.newarray .int, 2) := by decide +kernel
theorem dX8_init_18 : decode cX8_init 18 = .ok (.putfield 13, 3) := by decide +kernel
theorem dX8_init_21 : decode cX8_init 21 = .ok (.aload_n 0, 1) := by decide +kernel
theorem dX8_init_22 : decode cX8_init 22 = .ok (.sipush 900, 3) := by decide +kernel
theorem dX8_init_25 : decode cX8_init 25 = .ok (.newarray .int, 2) := by decide +kernel
theorem dX8_init_27 : decode cX8_init 27 = .ok (.putfield 16, 3) := by decide +kernel
theorem dX8_init_30 : decode cX8_init 30 = .ok (.aload_n 0, 1) := by decide +kernel
theorem dX8_init_31 : decode cX8_init 31 = .ok (.iconst 5, 1) := by decide +kernel
theorem dX8_init_32 : decode cX8_init 32 = .ok (.newarray .int, 2) := by decide +kernel
theorem dX8_init_34 : decode cX8_init 34 = .ok (.putfield 19, 3) := by decide +kernel
theorem dX8_init_37 : decode cX8_init 37 = .ok (.aload_n 0, 1) := by decide +kernel
theorem dX8_init_38 : decode cX8_init 38 = .ok (.iconst 5, 1) := by decide +kernel
theorem dX8_init_39 : decode cX8_init 39 = .ok (.newarray .int, 2) := by decide +kernel
theorem dX8_init_41 : decode cX8_init 41 = .ok (.putfield 22, 3) := by decide +kernel
theorem dX8_init_44 : decode cX8_init 44 = .ok (.aload_n 0, 1) := by decide +kernel
theorem dX8_init_45 : decode cX8_init 45 = .ok (.iconst 5, 1) := by decide +kernel
theorem dX8_init_46 : decode cX8_init 46 = .ok (.newarray .boolean, 2) := by decide +kernel
theorem dX8_init_48 : decode cX8_init 48 = .ok (.putfield 25, 3) := by decide +kernel
theorem dX8_init_51 : decode cX8_init 51 = .ok (.aload_n 0, 1) := by decide +kernel
theorem dX8_init_52 : decode cX8_init 52 = .ok (.iconst 5, 1) := by decide +kernel
theorem dX8_init_53 : decode cX8_init 53 = .ok (.newarray .int, 2) := by decide +kernel
theorem dX8_init_55 : decode cX8_init 55 = .ok (.putfield 29, 3) := by decide +kernel
theorem dX8_init_58 : decode cX8_init 58 = .ok (.aload_n 0, 1) := by decide +kernel
theorem dX8_init_59 : decode cX8_init 59 = .ok (.bipush 50, 2) := by decide +kernel
theorem dX8_init_61 : decode cX8_init 61 = .ok (.newarray .int, 2) := by decide +kernel
theorem dX8_init_63 : decode cX8_init 63 = .ok (.putfield 32, 3) := by decide +kernel
theorem dX8_init_66 : decode cX8_init 66 = .ok (.aload_n 0, 1) := by decide +kernel
theorem dX8_init_67 : decode cX8_init 67 = .ok (.bipush 25, 2) := by decide +kernel
theorem dX8_init_69 : decode cX8_init 69 = .ok (.newarray .int, 2) := by decide +kernel
theorem dX8_init_71 : decode cX8_init 71 = .ok (.putfield 35, 3) := by decide +kernel
theorem dX8_init_74 : decode cX8_init 74 = .ok (.aload_n 0, 1) := by decide +kernel
theorem dX8_init_75 : decode cX8_init 75 = .ok (.bipush 25, 2) := by decide +kernel
theorem dX8_init_77 : decode cX8_init 77 = .ok (.newarray .int, 2) := by decide +kernel
theorem dX8_init_79 : decode cX8_init 79 = .ok (.putfield 38, 3) := by decide +kernel
theorem dX8_init_82 : decode cX8_init 82 = .ok (.aload_n 0, 1) := by decide +kernel
theorem dX8_init_83 : decode cX8_init 83 = .ok (.iconst 5, 1) := by decide +kernel
theorem dX8_init_84 : decode cX8_init 84 = .ok (.newarray .int, 2) := by decide +kernel
theorem dX8_init_86 : decode cX8_init 86 = .ok (.putfield 41, 3) := by decide +kernel
theorem dX8_init_89 : decode cX8_init 89 = .ok (.aload_n 0, 1) := by decide +kernel
theorem dX8_init_90 : decode cX8_init 90 = .ok (.iconst 5, 1) := by decide +kernel
theorem dX8_init_91 : decode cX8_init 91 = .ok (.newarray .int, 2) := by decide +kernel
theorem dX8_init_93 : decode cX8_init 93 = .ok (.putfield 44, 3) := by decide +kernel
theorem dX8_init_96 : decode cX8_init 96 = .ok (.aload_n 0, 1) := by decide +kernel
theorem dX8_init_97 : decode cX8_init 97 = .ok (.iconst 5, 1) := by decide +kernel
theorem dX8_init_98 : decode cX8_init 98 = .ok (.newarray .int, 2) := by decide +kernel
theorem dX8_init_100 : decode cX8_init 100 = .ok (.putfield 47, 3) := by decide +kernel
theorem dX8_init_103 : decode cX8_init 103 = .ok (.aload_n 0, 1) := by decide +kernel
theorem dX8_init_104 : decode cX8_init 104 = .ok (.iconst 5, 1) := by decide +kernel
theorem dX8_init_105 : decode cX8_init 105 = .ok (.newarray .boolean, 2) := by decide +kernel
theorem dX8_init_107 : decode cX8_init 107 = .ok (.putfield 50, 3) := by decide +kernel
theorem dX8_init_110 : decode cX8_init 110 = .ok (.aload_n 0, 1) := by decide +kernel
theorem dX8_init_111 : decode cX8_init 111 = .ok (.iconst 5, 1) := by decide +kernel
theorem dX8_init_112 : decode cX8_init 112 = .ok (.newarray .int, 2) := by decide +kernel
theorem dX8_init_114 : decode cX8_init 114 = .ok (.putfield 53, 3) := by decide +kernel
theorem dX8_init_117 : decode cX8_init 117 = .ok (.aload_n 0, 1) := by decide +kernel
theorem dX8_init_118 : decode cX8_init 118 = .ok (.iconst 5, 1) := by decide +kernel
theorem dX8_init_119 : decode cX8_init 119 = .ok (.newarray .int, 2) := by decide +kernel
theorem dX8_init_121 : decode cX8_init 121 = .ok (.putfield 56, 3) := by decide +kernel
theorem dX8_init_124 : decode cX8_init 124 = .ok (.aload_n 0, 1) := by decide +kernel
theorem dX8_init_125 : decode cX8_init 125 = .ok (.bipush 100, 2) := by decide +kernel
theorem dX8_init_127 : decode cX8_init 127 = .ok (.newarray .int, 2) := by decide +kernel
theorem dX8_init_129 : decode cX8_init 129 = .ok (.putfield 59, 3) := by decide +kernel
theorem dX8_init_132 : decode cX8_init 132 = .ok (.aload_n 0, 1) := by decide +kernel
theorem dX8_init_133 : decode cX8_init 133 = .ok (.iconst 5, 1) := by decide +kernel
theorem dX8_init_134 : decode cX8_init 134 = .ok (.newarray .int, 2) := by decide +kernel
theorem dX8_init_136 : decode cX8_init 136 = .ok (.putfield 62, 3) := by decide +kernel
theorem dX8_init_139 : decode cX8_init 139 = .ok (.aload_n 0, 1) := by decide +kernel
theorem dX8_init_140 : decode cX8_init 140 = .ok (.bipush 60, 2) := by decide +kernel
theorem dX8_init_142 : decode cX8_init 142 = .ok (.newarray .char, 2) := by decide +kernel
theorem dX8_init_144 : decode cX8_init 144 = .ok (.putfield 65, 3) := by decide +kernel
theorem dX8_init_147 : decode cX8_init 147 = .ok (.aload_n 0, 1) := by decide +kernel
theorem dX8_init_148 : decode cX8_init 148 = .ok (.iconst 3, 1) := by decide +kernel
theorem dX8_init_149 : decode cX8_init 149 = .ok (.invokevirtual 69, 3) := by decide +kernel
theorem dX8_init_152 : decode cX8_init 152 = .ok (.return_, 1) := by decide +kernel
theorem dX8_in_0 : decode cX8_in 0 = .ok (.iload_n 0, 1) := by decide +kernel
theorem dX8_in_1 : decode cX8_in 1 = .ok (.iload_n 1, 1) := by decide +kernel
theorem dX8_in_2 : decode cX8_in 2 = .ok (.if_icmp .lt 12, 3) := by decide +kernel
theorem dX8_in_5 : decode cX8_in 5 = .ok (.iload_n 0, 1) := by decide +kernel
theorem dX8_in_6 : decode cX8_in 6 = .ok (.iload_n 2, 1) := by decide +kernel
theorem dX8_in_7 : decode cX8_in 7 = .ok (.if_icmp .gt 7, 3) := by decide +kernel
theorem dX8_in_10 : decode cX8_in 10 = .ok (.iconst 1, 1) := by decide +kernel
theorem dX8_in_11 : decode cX8_in 11 = .ok (.goto 4, 3) := by decide +kernel
theorem dX8_in_14 : decode cX8_in 14 = .ok (.iconst 0, 1) := by decide +kernel
theorem dX8_in_15 : decode cX8_in 15 = .ok (.ireturn, 1) := by decide +kernel
theorem dX8_begin_0 : decode cX8_begin 0 = .ok (.aload_n 0, 1) := by decide +kernel
theorem dX8_begin_1 : decode cX8_begin 1 = .ok (.iload_n 1, 1) := by decide +kernel
theorem dX8_begin_2 : decode cX8_begin 2 = .ok (.putfield 73, 3) := by decide +kernel
theorem dX8_begin_5 : decode cX8_begin 5 = .ok (.aload_n 0, 1) := by decide +kernel
theorem dX8_begin_6 : decode cX8_begin 6 = .ok (.iconst 1, 1) := by decide +kernel
theorem dX8_begin_7 : decode cX8_begin 7 = .ok (.putfield 77, 3) := by decide +kernel
theorem dX8_begin_10 : decode cX8_begin 10 = .ok (.aload_n 0, 1) := by decide +kernel
theorem dX8_begin_11 : decode cX8_begin 11 = .ok (.iconst 0, 1) := by decide +kernel
theorem dX8_begin_12 : decode cX8_begin 12 = .ok (.putfield 80, 3) := by decide +kernel
theorem dX8_begin_15 : decode cX8_begin 15 = .ok (.iconst 0, 1) := by decide +kernel
theorem dX8_begin_16 : decode cX8_begin 16 = .ok (.istore_n 2, 1) := by decide +kernel
theorem dX8_begin_17 : decode cX8_begin 17 = .ok (.iload_n 2, 1) := by decide +kernel
theorem dX8_begin_18 : decode cX8_begin 18 = .ok (.sipush 180, 3) := by decide +kernel
theorem dX8_begin_21 : decode cX8_begin 21 = .ok (.if_icmp .ge 16, 3) := by decide +kernel
theorem dX8_begin_24 : decode cX8_begin 24 = .ok (.aload_n 0, 1) := by decide +kernel
theorem dX8_begin_25 : decode cX8_begin 25 = .ok (.getfield 7, 3) := by decide +kernel
theorem dX8_begin_28 : decode cX8_begin 28 = .ok (.iload_n 2, 1) := by decide +kernel
theorem dX8_begin_29 : decode cX8_begin 29 = .ok (.iconst 0, 1) := by decide +kernel
theorem dX8_begin_30 : decode cX8_begin 30 = .ok (.iastore, 1) := by decide +kernel
theorem dX8_begin_31 : decode cX8_begin 31 = .ok (.iinc 2 1, 3) := by decide +kernel
theorem dX8_begin_34 : decode cX8_begin 34 = .ok (.goto (-17), 3) := by decide +kernel
theorem dX8_begin_37 : decode cX8_begin 37 = .ok (.iconst 0, 1) := by decide +kernel
theorem dX8_begin_38 : decode cX8_begin 38 = .ok (.istore_n 2, 1) := by decide +kernel
theorem dX8_begin_39 : decode cX8_begin 39 = .ok (.iload_n 2, 1) := by decide +kernel
theorem dX8_begin_40 : decode cX8_begin 40 = .ok (.bipush 6, 2) := by decide +kernel
theorem dX8_begin_42 : decode cX8_begin 42 = .ok (.if_icmp .ge 16, 3) := by decide +kernel
theorem dX8_begin_45 : decode cX8_begin 45 = .ok (.aload_n 0, 1) := by decide +kernel
theorem dX8_begin_46 : decode cX8_begin 46 = .ok (.getfield 13, 3) := by decide +kernel
theorem dX8_begin_49 : decode cX8_begin 49 = .ok (.iload_n 2, 1) := by decide +kernel
theorem dX8_begin_50 : decode cX8_begin 50 = .ok (.iconst 0, 1) := by decide +kernel
theorem dX8_begin_51 : decode cX8_begin 51 = .ok (.iastore, 1) := by decide +kernel
theorem dX8_begin_52 : decode cX8_begin 52 = .ok (.iinc 2 1, 3) := by decide +kernel
theorem dX8_begin_55 : decode cX8_begin 55 = .ok (.goto (-16), 3) := by decide +kernel
theorem dX8_begin_58 : decode cX8_begin 58 = .ok (.iconst 0, 1) := by decide +kernel
theorem dX8_begin_59 : decode cX8_begin 59 = .ok (.istore_n 2, 1) := by decide +kernel
theorem dX8_begin_60 : decode cX8_begin 60 = .ok (.iload_n 2, 1) := by decide +kernel
theorem dX8_begin_61 : decode cX8_begin 61 = .ok (.bipush 25, 2) := by decide +kernel
theorem dX8_begin_63 : decode cX8_begin 63 = .ok (.if_icmp .ge 23, 3) := by decide +kernel
theorem dX8_begin_66 : decode cX8_begin 66 = .ok (.aload_n 0, 1) := by decide +kernel
theorem dX8_begin_67 : decode cX8_begin 67 = .ok (.getfield 35, 3) := by decide +kernel
theorem dX8_begin_70 : decode cX8_begin 70 = .ok (.iload_n 2, 1) := by decide +kernel
theorem dX8_begin_71 : decode cX8_begin 71 = .ok (.iconst 0, 1) := by decide +kernel
theorem dX8_begin_72 : decode cX8_begin 72 = .ok (.iastore, 1) := by decide +kernel
theorem dX8_begin_73 : decode cX8_begin 73 = .ok (.aload_n 0, 1) := by decide +kernel
theorem dX8_begin_74 : decode cX8_begin 74 = .ok (.getfield 38, 3) := by decide +kernel
theorem dX8_begin_77 : decode cX8_begin 77 = .ok (.iload_n 2, 1) := by decide +kernel
theorem dX8_begin_78 : decode cX8_begin 78 = .ok (.iconst 0, 1) := by decide +kernel
theorem dX8_begin_79 : decode cX8_begin 79 = .ok (.iastore, 1) := by decide +kernel
theorem dX8_begin_80 : decode cX8_begin 80 = .ok (.iinc 2 1, 3) := by decide +kernel
theorem dX8_begin_83 : decode cX8_begin 83 = .ok (.goto (-23), 3) := by decide +kernel
theorem dX8_begin_86 : decode cX8_begin 86 = .ok (.iconst 0, 1) := by decide +kernel
theorem dX8_begin_87 : decode cX8_begin 87 = .ok (.istore_n 2, 1) := by decide +kernel
theorem dX8_begin_88 : decode cX8_begin 88 = .ok (.iload_n 2, 1) := by decide +kernel
theorem dX8_begin_89 : decode cX8_begin 89 = .ok (.iconst 5, 1) := by decide +kernel
theorem dX8_begin_90 : decode cX8_begin 90 = .ok (.if_icmp .ge 79, 3) := by decide +kernel
theorem dX8_begin_93 : decode cX8_begin 93 = .ok (.aload_n 0, 1) := by decide +kernel
theorem dX8_begin_94 : decode cX8_begin 94 = .ok (.getfield 19, 3) := by decide +kernel
theorem dX8_begin_97 : decode cX8_begin 97 = .ok (.iload_n 2, 1) := by decide +kernel
theorem dX8_begin_98 : decode cX8_begin 98 = .ok (.iconst 0, 1) := by decide +kernel
theorem dX8_begin_99 : decode cX8_begin 99 = .ok (.iastore, 1) := by decide +kernel
theorem dX8_begin_100 : decode cX8_begin 100 = .ok (.aload_n 0, 1) := by decide +kernel
theorem dX8_begin_101 : decode cX8_begin 101 = .ok (.getfield 22, 3) := by decide +kernel
theorem dX8_begin_104 : decode cX8_begin 104 = .ok (.iload_n 2, 1) := by decide +kernel
theorem dX8_begin_105 : decode cX8_begin 105 = .ok (.iconst 0, 1) := by decide +kernel
theorem dX8_begin_106 : decode cX8_begin 106 = .ok (.iastore, 1) := by decide +kernel
theorem dX8_begin_107 : decode cX8_begin 107 = .ok (.aload_n 0, 1) := by decide +kernel
theorem dX8_begin_108 : decode cX8_begin 108 = .ok (.getfield 25, 3) := by decide +kernel
theorem dX8_begin_111 : decode cX8_begin 111 = .ok (.iload_n 2, 1) := by decide +kernel
theorem dX8_begin_112 : decode cX8_begin 112 = .ok (.iconst 0, 1) := by decide +kernel
theorem dX8_begin_113 : decode cX8_begin 113 = .ok (.bastore, 1) := by decide +kernel
theorem dX8_begin_114 : decode cX8_begin 114 = .ok (.aload_n 0, 1) := by decide +kernel
theorem dX8_begin_115 : decode cX8_begin 115 = .ok (.getfield 29, 3) := by decide +kernel
theorem dX8_begin_118 : decode cX8_begin 118 = .ok (.iload_n 2, 1) := by decide +kernel
theorem dX8_begin_119 : decode cX8_begin 119 = .ok (.iconst 0, 1) := by decide +kernel
theorem dX8_begin_120 : decode cX8_begin 120 = .ok (.iastore, 1) := by decide +kernel
theorem dX8_begin_121 : decode cX8_begin 121 = .ok (.aload_n 0, 1) := by decide +kernel
theorem dX8_begin_122 : decode cX8_begin 122 = .ok (.getfield 41, 3) := by decide +kernel
theorem dX8_begin_125 : decode cX8_begin 125 = .ok (.iload_n 2, 1) := by decide +kernel
theorem dX8_begin_126 : decode cX8_begin 126 = .ok (.iconst 0, 1) := by decide +kernel
theorem dX8_begin_127 : decode cX8_begin 127 = .ok (.iastore, 1) := by decide +kernel
theorem dX8_begin_128 : decode cX8_begin 128 = .ok (.aload_n 0, 1) := by decide +kernel
theorem dX8_begin_129 : decode cX8_begin 129 = .ok (.getfield 44, 3) := by decide +kernel
theorem dX8_begin_132 : decode cX8_begin 132 = .ok (.iload_n 2, 1) := by decide +kernel
theorem dX8_begin_133 : decode cX8_begin 133 = .ok (.iconst 0, 1) := by decide +kernel
theorem dX8_begin_134 : decode cX8_begin 134 = .ok (.iastore, 1) := by decide +kernel
theorem dX8_begin_135 : decode cX8_begin 135 = .ok (.aload_n 0, 1) := by decide +kernel
theorem dX8_begin_136 : decode cX8_begin 136 = .ok (.getfield 47, 3) := by decide +kernel
theorem dX8_begin_139 : decode cX8_begin 139 = .ok (.iload_n 2, 1) := by decide +kernel
theorem dX8_begin_140 : decode cX8_begin 140 = .ok (.iconst 0, 1) := by decide +kernel
theorem dX8_begin_141 : decode cX8_begin 141 = .ok (.iastore, 1) := by decide +kernel
theorem dX8_begin_142 : decode cX8_begin 142 = .ok (.aload_n 0, 1) := by decide +kernel
theorem dX8_begin_143 : decode cX8_begin 143 = .ok (.getfield 50, 3) := by decide +kernel
theorem dX8_begin_146 : decode cX8_begin 146 = .ok (.iload_n 2, 1) := by decide +kernel
theorem dX8_begin_147 : decode cX8_begin 147 = .ok (.iconst 0, 1) := by decide +kernel
theorem dX8_begin_148 : decode cX8_begin 148 = .ok (.bastore, 1) := by decide +kernel
theorem dX8_begin_149 : decode cX8_begin 149 = .ok (.aload_n 0, 1) := by decide +kernel
theorem dX8_begin_150 : decode cX8_begin 150 = .ok (.getfield 53, 3) := by decide +kernel
theorem dX8_begin_153 : decode cX8_begin 153 = .ok (.iload_n 2, 1) := by decide +kernel
theorem dX8_begin_154 : decode cX8_begin 154 = .ok (.iconst 0, 1) := by decide +kernel
theorem dX8_begin_155 : decode cX8_begin 155 = .ok (.iastore, 1) := by decide +kernel
theorem dX8_begin_156 : decode cX8_begin 156 = .ok (.aload_n 0, 1) := by decide +kernel
theorem dX8_begin_157 : decode cX8_begin 157 = .ok (.getfield 56, 3) := by decide +kernel
theorem dX8_begin_160 : decode cX8_begin 160 = .ok (.iload_n 2, 1) := by decide +kernel
theorem dX8_begin_161 : decode cX8_begin 161 = .ok (.iconst 0, 1) := by decide +kernel
theorem dX8_begin_162 : decode cX8_begin 162 = .ok (.iastore, 1) := by decide +kernel
theorem dX8_begin_163 : decode cX8_begin 163 = .ok (.iinc 2 1, 3) := by decide +kernel
theorem dX8_begin_166 : decode cX8_begin 166 = .ok (.goto (-78), 3) := by decide +kernel
theorem dX8_begin_169 : decode cX8_begin 169 = .ok (.return_, 1) := by decide +kernel
theorem dX8_reset_0 : decode cX8_reset 0 = .ok (.iload_n 1, 1) := by decide +kernel
theorem dX8_reset_1 : decode cX8_reset 1 = .ok (.iconst 2, 1) := by decide +kernel
theorem dX8_reset_2 : decode cX8_reset 2 = .ok (.iconst 5, 1) := by decide +kernel
theorem dX8_reset_3 : decode cX8_reset 3 = .ok (.invokestatic 83, 3) := by decide +kernel
theorem dX8_reset_6 : decode cX8_reset 6 = .ok (.ifCond .ne 7, 3) := by decide +kernel
theorem dX8_reset_9 : decode cX8_reset 9 = .ok (.sipush (-10002), 3) := by decide +kernel
theorem dX8_reset_12 : decode cX8_reset 12 = .ok (.ireturn, 1) := by decide +kernel
theorem dX8_reset_13 : decode cX8_reset 13 = .ok (.aload_n 0, 1) := by decide +kernel
theorem dX8_reset_14 : decode cX8_reset 14 = .ok (.getfield 73, 3) := by decide +kernel
theorem dX8_reset_17 : decode cX8_reset 17 = .ok (.istore_n 2, 1) := by decide +kernel
theorem dX8_reset_18 : decode cX8_reset 18 = .ok (.aload_n 0, 1) := by decide +kernel
theorem dX8_reset_19 : decode cX8_reset 19 = .ok (.iload_n 1, 1) := by decide +kernel
theorem dX8_reset_20 : decode cX8_reset 20 = .ok (.invokevirtual 69, 3) := by decide +kernel
theorem dX8_reset_23 : decode cX8_reset 23 = .ok (.iload_n 2, 1) := by decide +kernel
theorem dX8_reset_24 : decode cX8_reset 24 = .ok (.ireturn, 1) := by decide +kernel
theorem dX8_noUser_0 : decode cX8_noUser 0 = .ok (.iload_n 1, 1) := by decide +kernel
theorem dX8_noUser_1 : decode cX8_noUser 1 = .ok (.iconst 0, 1) := by decide +kernel
theorem dX8_noUser_2 : decode cX8_noUser 2 = .ok (.aload_n 0, 1) := by decide +kernel
theorem dX8_noUser_3 : decode cX8_noUser 3 = .ok (.getfield 73, 3) := by decide +kernel
theorem dX8_noUser_6 : decode cX8_noUser 6 = .ok (.iconst 1, 1) := by decide +kernel
theorem dX8_noUser_7 : decode cX8_noUser 7 = .ok (.isub, 1) := by decide +kernel
theorem dX8_noUser_8 : decode cX8_noUser 8 = .ok (.invokestatic 83, 3) := by decide +kernel
theorem dX8_noUser_11 : decode cX8_noUser 11 = .ok (.ifCond .ne 7, 3) := by decide +kernel
theorem dX8_noUser_14 : decode cX8_noUser 14 = .ok (.iconst 1, 1) := by decide +kernel
theorem dX8_noUser_15 : decode cX8_noUser 15 = .ok (.goto 4, 3) := by decide +kernel
theorem dX8_noUser_18 : decode cX8_noUser 18 = .ok (.iconst 0, 1) := by decide +kernel
theorem dX8_noUser_19 : decode cX8_noUser 19 = .ok (.ireturn, 1) := by decide +kernel
theorem dX8_noView_0 : decode cX8_noView 0 = .ok (.iload_n 1, 1) := by decide +kernel
theorem dX8_noView_1 : decode cX8_noView 1 = .ok (.iconst 0, 1) := by decide +kernel
theorem dX8_noView_2 : decode cX8_noView 2 = .ok (.aload_n 0, 1) := by decide +kernel
theorem dX8_noView_3 : decode cX8_noView 3 = .ok (.getfield 77, 3) := by decide +kernel
theorem dX8_noView_6 : decode cX8_noView 6 = .ok (.iconst 1, 1) := by decide +kernel
theorem dX8_noView_7 : decode cX8_noView 7 = .ok (.isub, 1) := by decide +kernel
theorem dX8_noView_8 : decode cX8_noView 8 = .ok (.invokestatic 83, 3) := by decide +kernel
theorem dX8_noView_11 : decode cX8_noView 11 = .ok (.ifCond .ne 7, 3) := by decide +kernel
theorem dX8_noView_14 : decode cX8_noView 14 = .ok (.iconst 1, 1) := by decide +kernel
theorem dX8_noView_15 : decode cX8_noView 15 = .ok (.goto 4, 3) := by decide +kernel
theorem dX8_noView_18 : decode cX8_noView 18 = .ok (.iconst 0, 1) := by decide +kernel
theorem dX8_noView_19 : decode cX8_noView 19 = .ok (.ireturn, 1) := by decide +kernel
theorem dX8_atMost_0 : decode cX8_atMost 0 = .ok (.iconst 1, 1) := by decide +kernel
theorem dX8_atMost_1 : decode cX8_atMost 1 = .ok (.istore 5, 2) := by decide +kernel
theorem dX8_atMost_3 : decode cX8_atMost 3 = .ok (.iconst 0, 1) := by decide +kernel
theorem dX8_atMost_4 : decode cX8_atMost 4 = .ok (.istore 6, 2) := by decide +kernel
theorem dX8_atMost_6 : decode cX8_atMost 6 = .ok (.iload 6, 2) := by decide +kernel
theorem dX8_atMost_8 : decode cX8_atMost 8 = .ok (.aload_n 0, 1) := by decide +kernel
theorem dX8_atMost_9 : decode cX8_atMost 9 = .ok (.getfield 73, 3) := by decide +kernel
theorem dX8_atMost_12 : decode cX8_atMost 12 = .ok (.if_icmp .ge 37, 3) := by decide +kernel
theorem dX8_atMost_15 : decode cX8_atMost 15 = .ok (.iload 5, 2) := by decide +kernel
theorem dX8_atMost_17 : decode cX8_atMost 17 = .ok (.ifCond .eq 23, 3) := by decide +kernel
theorem dX8_atMost_20 : decode cX8_atMost 20 = .ok (.aload_n 1, 1) := by decide +kernel
theorem dX8_atMost_21 : decode cX8_atMost 21 = .ok (.iload_n 2, 1) := by decide +kernel
theorem dX8_atMost_22 : decode cX8_atMost 22 = .ok (.iload 6, 2) := by decide +kernel
theorem dX8_atMost_24 : decode cX8_atMost 24 = .ok (.iadd, 1) := by decide +kernel
theorem dX8_atMost_25 : decode cX8_atMost 25 = .ok (.iaload, 1) := by decide +kernel
theorem dX8_atMost_26 : decode cX8_atMost 26 = .ok (.aload_n 3, 1) := by decide +kernel
theorem dX8_atMost_27 : decode cX8_atMost 27 = .ok (.iload 4, 2) := by decide +kernel
theorem dX8_atMost_29 : decode cX8_atMost 29 = .ok (.iload 6, 2) := by decide +kernel
theorem dX8_atMost_31 : decode cX8_atMost 31 = .ok (.iadd, 1) := by decide +kernel
theorem dX8_atMost_32 : decode cX8_atMost 32 = .ok (.iaload, 1) := by decide +kernel
theorem dX8_atMost_33 : decode cX8_atMost 33 = .ok (.if_icmp .gt 7, 3) := by decide +kernel
theorem dX8_atMost_36 : decode cX8_atMost 36 = .ok (.iconst 1, 1) := by decide +kernel
theorem dX8_atMost_37 : decode cX8_atMost 37 = .ok (.goto 4, 3) := by decide +kernel
theorem dX8_atMost_40 : decode cX8_atMost 40 = .ok (.iconst 0, 1) := by decide +kernel
theorem dX8_atMost_41 : decode cX8_atMost 41 = .ok (.istore 5, 2) := by decide +kernel
theorem dX8_atMost_43 : decode cX8_atMost 43 = .ok (.iinc 6 1, 3) := by decide +kernel
theorem dX8_atMost_46 : decode cX8_atMost 46 = .ok (.goto (-40), 3) := by decide +kernel
theorem dX8_atMost_49 : decode cX8_atMost 49 = .ok (.iload 5, 2) := by decide +kernel
theorem dX8_atMost_51 : decode cX8_atMost 51 = .ok (.ireturn, 1) := by decide +kernel
theorem dX8_areApart_0 : decode cX8_areApart 0 = .ok (.aload_n 0, 1) := by decide +kernel
theorem dX8_areApart_1 : decode cX8_areApart 1 = .ok (.aload_n 1, 1) := by decide +kernel
theorem dX8_areApart_2 : decode cX8_areApart 2 = .ok (.iload_n 2, 1) := by decide +kernel
theorem dX8_areApart_3 : decode cX8_areApart 3 = .ok (.aload_n 3, 1) := by decide +kernel
theorem dX8_areApart_4 : decode cX8_areApart 4 = .ok (.iload 4, 2) := by decide +kernel
theorem dX8_areApart_6 : decode cX8_areApart 6 = .ok (.invokevirtual 87, 3) := by decide +kernel
theorem dX8_areApart_9 : decode cX8_areApart 9 = .ok (.ifCond .ne 19, 3) := by decide +kernel
theorem dX8_areApart_12 : decode cX8_areApart 12 = .ok (.aload_n 0, 1) := by decide +kernel
theorem dX8_areApart_13 : decode cX8_areApart 13 = .ok (.aload_n 3, 1) := by decide +kernel
theorem dX8_areApart_14 : decode cX8_areApart 14 = .ok (.iload 4, 2) := by decide +kernel
theorem dX8_areApart_16 : decode cX8_areApart 16 = .ok (.aload_n 1, 1) := by decide +kernel
theorem dX8_areApart_17 : decode cX8_areApart 17 = .ok (.iload_n 2, 1) := by decide +kernel
theorem dX8_areApart_18 : decode cX8_areApart 18 = .ok (.invokevirtual 87, 3) := by decide +kernel
theorem dX8_areApart_21 : decode cX8_areApart 21 = .ok (.ifCond .ne 7, 3) := by decide +kernel
theorem dX8_areApart_24 : decode cX8_areApart 24 = .ok (.iconst 1, 1) := by decide +kernel
theorem dX8_areApart_25 : decode cX8_areApart 25 = .ok (.goto 4, 3) := by decide +kernel
theorem dX8_areApart_28 : decode cX8_areApart 28 = .ok (.iconst 0, 1) := by decide +kernel
theorem dX8_areApart_29 : decode cX8_areApart 29 = .ok (.ireturn, 1) := by decide +kernel
theorem dX8_copy_0 : decode cX8_copy 0 = .ok (.iconst 0, 1) := by decide +kernel
theorem dX8_copy_1 : decode cX8_copy 1 = .ok (.istore 5, 2) := by decide +kernel
theorem dX8_copy_3 : decode cX8_copy 3 = .ok (.iload 5, 2) := by decide +kernel
theorem dX8_copy_5 : decode cX8_copy 5 = .ok (.iconst 5, 1) := by decide +kernel
theorem dX8_copy_6 : decode cX8_copy 6 = .ok (.if_icmp .ge 22, 3) := by decide +kernel
theorem dX8_copy_9 : decode cX8_copy 9 = .ok (.aload_n 3, 1) := by decide +kernel
theorem dX8_copy_10 : decode cX8_copy 10 = .ok (.iload 4, 2) := by decide +kernel
theorem dX8_copy_12 : decode cX8_copy 12 = .ok (.iload 5, 2) := by decide +kernel
theorem dX8_copy_14 : decode cX8_copy 14 = .ok (.iadd, 1) := by decide +kernel
theorem dX8_copy_15 : decode cX8_copy 15 = .ok (.aload_n 1, 1) := by decide +kernel
theorem dX8_copy_16 : decode cX8_copy 16 = .ok (.iload_n 2, 1) := by decide +kernel
theorem dX8_copy_17 : decode cX8_copy 17 = .ok (.iload 5, 2) := by decide +kernel
theorem dX8_copy_19 : decode cX8_copy 19 = .ok (.iadd, 1) := by decide +kernel
theorem dX8_copy_20 : decode cX8_copy 20 = .ok (.iaload, 1) := by decide +kernel
theorem dX8_copy_21 : decode cX8_copy 21 = .ok (.iastore, 1) := by decide +kernel
theorem dX8_copy_22 : decode cX8_copy 22 = .ok (.iinc 5 1, 3) := by decide +kernel
theorem dX8_copy_25 : decode cX8_copy 25 = .ok (.goto (-22), 3) := by decide +kernel
theorem dX8_copy_28 : decode cX8_copy 28 = .ok (.return_, 1) := by decide +kernel
theorem dX8_entryAt_0 : decode cX8_entryAt 0 = .ok (.bipush 30, 2) := by decide +kernel
theorem dX8_entryAt_2 : decode cX8_entryAt 2 = .ok (.iload_n 0, 1) := by decide +kernel
theorem dX8_entryAt_3 : decode cX8_entryAt 3 = .ok (.imul, 1) := by decide +kernel
theorem dX8_entryAt_4 : decode cX8_entryAt 4 = .ok (.iconst 5, 1) := by decide +kernel
theorem dX8_entryAt_5 : decode cX8_entryAt 5 = .ok (.iload_n 1, 1) := by decide +kernel
theorem dX8_entryAt_6 : decode cX8_entryAt 6 = .ok (.imul, 1) := by decide +kernel
theorem dX8_entryAt_7 : decode cX8_entryAt 7 = .ok (.iadd, 1) := by decide +kernel
theorem dX8_entryAt_8 : decode cX8_entryAt 8 = .ok (.ireturn, 1) := by decide +kernel
theorem dX8_greatest_0 : decode cX8_greatest 0 = .ok (.aload_n 0, 1) := by decide +kernel
theorem dX8_greatest_1 : decode cX8_greatest 1 = .ok (.sipush (-10005), 3) := by decide +kernel
theorem dX8_greatest_4 : decode cX8_greatest 4 = .ok (.putfield 91, 3) := by decide +kernel
theorem dX8_greatest_7 : decode cX8_greatest 7 = .ok (.iconst 0, 1) := by decide +kernel
theorem dX8_greatest_8 : decode cX8_greatest 8 = .ok (.istore_n 2, 1) := by decide +kernel
theorem dX8_greatest_9 : decode cX8_greatest 9 = .ok (.iload_n 2, 1) := by decide +kernel
theorem dX8_greatest_10 : decode cX8_greatest 10 = .ok (.aload_n 0, 1) := by decide +kernel
theorem dX8_greatest_11 : decode cX8_greatest 11 = .ok (.getfield 73, 3) := by decide +kernel
theorem dX8_greatest_14 : decode cX8_greatest 14 = .ok (.if_icmp .ge 69, 3) := by decide +kernel
theorem dX8_greatest_17 : decode cX8_greatest 17 = .ok (.iload_n 2, 1) := by decide +kernel
theorem dX8_greatest_18 : decode cX8_greatest 18 = .ok (.iconst 1, 1) := by decide +kernel
theorem dX8_greatest_19 : decode cX8_greatest 19 = .ok (.iadd, 1) := by decide +kernel
theorem dX8_greatest_20 : decode cX8_greatest 20 = .ok (.istore_n 3, 1) := by decide +kernel
theorem dX8_greatest_21 : decode cX8_greatest 21 = .ok (.iload_n 3, 1) := by decide +kernel
theorem dX8_greatest_22 : decode cX8_greatest 22 = .ok (.aload_n 0, 1) := by decide +kernel
theorem dX8_greatest_23 : decode cX8_greatest 23 = .ok (.getfield 73, 3) := by decide +kernel
theorem dX8_greatest_26 : decode cX8_greatest 26 = .ok (.if_icmp .ge 51, 3) := by decide +kernel
theorem dX8_greatest_29 : decode cX8_greatest 29 = .ok (.aload_n 0, 1) := by decide +kernel
theorem dX8_greatest_30 : decode cX8_greatest 30 = .ok (.getfield 91, 3) := by decide +kernel
theorem dX8_greatest_33 : decode cX8_greatest 33 = .ok (.ifCond .ge 44, 3) := by decide +kernel
theorem dX8_greatest_36 : decode cX8_greatest 36 = .ok (.aload_n 0, 1) := by decide +kernel
theorem dX8_greatest_37 : decode cX8_greatest 37 = .ok (.aload_n 0, 1) := by decide +kernel
theorem dX8_greatest_38 : decode cX8_greatest 38 = .ok (.getfield 7, 3) := by decide +kernel
theorem dX8_greatest_41 : decode cX8_greatest 41 = .ok (.iload_n 1, 1) := by decide +kernel
theorem dX8_greatest_42 : decode cX8_greatest 42 = .ok (.iload_n 2, 1) := by decide +kernel
theorem dX8_greatest_43 : decode cX8_greatest 43 = .ok (.invokestatic 94, 3) := by decide +kernel
theorem dX8_greatest_46 : decode cX8_greatest 46 = .ok (.aload_n 0, 1) := by decide +kernel
theorem dX8_greatest_47 : decode cX8_greatest 47 = .ok (.getfield 7, 3) := by decide +kernel
theorem dX8_greatest_50 : decode cX8_greatest 50 = .ok (.iload_n 1, 1) := by decide +kernel
theorem dX8_greatest_51 : decode cX8_greatest 51 = .ok (.iload_n 3, 1) := by decide +kernel
theorem dX8_greatest_52 : decode cX8_greatest 52 = .ok (.invokestatic 94, 3) := by decide +kernel
theorem dX8_greatest_55 : decode cX8_greatest 55 = .ok (.invokevirtual 98, 3) := by decide +kernel
theorem dX8_greatest_58 : decode cX8_greatest 58 = .ok (.ifCond .eq 13, 3) := by decide +kernel
theorem dX8_greatest_61 : decode cX8_greatest 61 = .ok (.aload_n 0, 1) := by decide +kernel
theorem dX8_greatest_62 : decode cX8_greatest 62 = .ok (.iload_n 2, 1) := by decide +kernel
theorem dX8_greatest_63 : decode cX8_greatest 63 = .ok (.putfield 91, 3) := by decide +kernel
theorem dX8_greatest_66 : decode cX8_greatest 66 = .ok (.aload_n 0, 1) := by decide +kernel
theorem dX8_greatest_67 : decode cX8_greatest 67 = .ok (.iload_n 3, 1) := by decide +kernel
theorem dX8_greatest_68 : decode cX8_greatest 68 = .ok (.putfield 101, 3) := by decide +kernel
theorem dX8_greatest_71 : decode cX8_greatest 71 = .ok (.iinc 3 1, 3) := by decide +kernel
theorem dX8_greatest_74 : decode cX8_greatest 74 = .ok (.goto (-53), 3) := by decide +kernel
theorem dX8_greatest_77 : decode cX8_greatest 77 = .ok (.iinc 2 1, 3) := by decide +kernel
theorem dX8_greatest_80 : decode cX8_greatest 80 = .ok (.goto (-71), 3) := by decide +kernel
theorem dX8_greatest_83 : decode cX8_greatest 83 = .ok (.iconst 0, 1) := by decide +kernel
theorem dX8_greatest_84 : decode cX8_greatest 84 = .ok (.istore_n 2, 1) := by decide +kernel
theorem dX8_greatest_85 : decode cX8_greatest 85 = .ok (.iconst 1, 1) := by decide +kernel
theorem dX8_greatest_86 : decode cX8_greatest 86 = .ok (.istore_n 3, 1) := by decide +kernel
theorem dX8_greatest_87 : decode cX8_greatest 87 = .ok (.iload_n 3, 1) := by decide +kernel
theorem dX8_greatest_88 : decode cX8_greatest 88 = .ok (.aload_n 0, 1) := by decide +kernel
theorem dX8_greatest_89 : decode cX8_greatest 89 = .ok (.getfield 73, 3) := by decide +kernel
theorem dX8_greatest_92 : decode cX8_greatest 92 = .ok (.if_icmp .ge 40, 3) := by decide +kernel
theorem dX8_greatest_95 : decode cX8_greatest 95 = .ok (.aload_n 0, 1) := by decide +kernel
theorem dX8_greatest_96 : decode cX8_greatest 96 = .ok (.aload_n 0, 1) := by decide +kernel
theorem dX8_greatest_97 : decode cX8_greatest 97 = .ok (.getfield 7, 3) := by decide +kernel
theorem dX8_greatest_100 : decode cX8_greatest 100 = .ok (.iload_n 1, 1) := by decide +kernel
theorem dX8_greatest_101 : decode cX8_greatest 101 = .ok (.iload_n 2, 1) := by decide +kernel
theorem dX8_greatest_102 : decode cX8_greatest 102 = .ok (.invokestatic 94, 3) := by decide +kernel
theorem dX8_greatest_105 : decode cX8_greatest 105 = .ok (.aload_n 0, 1) := by decide +kernel
theorem dX8_greatest_106 : decode cX8_greatest 106 = .ok (.getfield 7, 3) := by decide +kernel
theorem dX8_greatest_109 : decode cX8_greatest 109 = .ok (.iload_n 1, 1) := by decide +kernel
theorem dX8_greatest_110 : decode cX8_greatest 110 = .ok (.iload_n 3, 1) := by decide +kernel
theorem dX8_greatest_111 : decode cX8_greatest 111 = .ok (.invokestatic 94, 3) := by decide +kernel
theorem dX8_greatest_114 : decode cX8_greatest 114 = .ok (.invokevirtual 87, 3) := by decide +kernel
theorem dX8_greatest_117 : decode cX8_greatest 117 = .ok (.ifCond .eq 7, 3) := by decide +kernel
theorem dX8_greatest_120 : decode cX8_greatest 120 = .ok (.iload_n 3, 1) := by decide +kernel
theorem dX8_greatest_121 : decode cX8_greatest 121 = .ok (.goto 4, 3) := by decide +kernel
theorem dX8_greatest_124 : decode cX8_greatest 124 = .ok (.iload_n 2, 1) := by decide +kernel
theorem dX8_greatest_125 : decode cX8_greatest 125 = .ok (.istore_n 2, 1) := by decide +kernel
theorem dX8_greatest_126 : decode cX8_greatest 126 = .ok (.iinc 3 1, 3) := by decide +kernel
theorem dX8_greatest_129 : decode cX8_greatest 129 = .ok (.goto (-42), 3) := by decide +kernel
theorem dX8_greatest_132 : decode cX8_greatest 132 = .ok (.aload_n 0, 1) := by decide +kernel
theorem dX8_greatest_133 : decode cX8_greatest 133 = .ok (.getfield 91, 3) := by decide +kernel
theorem dX8_greatest_136 : decode cX8_greatest 136 = .ok (.ifCond .ge 7, 3) := by decide +kernel
theorem dX8_greatest_139 : decode cX8_greatest 139 = .ok (.iload_n 2, 1) := by decide +kernel
theorem dX8_greatest_140 : decode cX8_greatest 140 = .ok (.goto 6, 3) := by decide +kernel
theorem dX8_greatest_143 : decode cX8_greatest 143 = .ok (.sipush (-10005), 3) := by decide +kernel
theorem dX8_greatest_146 : decode cX8_greatest 146 = .ok (.ireturn, 1) := by decide +kernel
theorem dX8_alarmFor_0 : decode cX8_alarmFor 0 = .ok (.aload_n 0, 1) := by decide +kernel
theorem dX8_alarmFor_1 : decode cX8_alarmFor 1 = .ok (.getfield 19, 3) := by decide +kernel
theorem dX8_alarmFor_4 : decode cX8_alarmFor 4 = .ok (.iload_n 1, 1) := by decide +kernel
theorem dX8_alarmFor_5 : decode cX8_alarmFor 5 = .ok (.iaload, 1) := by decide +kernel
theorem dX8_alarmFor_6 : decode cX8_alarmFor 6 = .ok (.istore_n 2, 1) := by decide +kernel
theorem dX8_alarmFor_7 : decode cX8_alarmFor 7 = .ok (.aload_n 0, 1) := by decide +kernel
theorem dX8_alarmFor_8 : decode cX8_alarmFor 8 = .ok (.aload_n 0, 1) := by decide +kernel
theorem dX8_alarmFor_9 : decode cX8_alarmFor 9 = .ok (.getfield 7, 3) := by decide +kernel
theorem dX8_alarmFor_12 : decode cX8_alarmFor 12 = .ok (.iload_n 2, 1) := by decide +kernel
theorem dX8_alarmFor_13 : decode cX8_alarmFor 13 = .ok (.iload_n 1, 1) := by decide +kernel
theorem dX8_alarmFor_14 : decode cX8_alarmFor 14 = .ok (.invokestatic 94, 3) := by decide +kernel
theorem dX8_alarmFor_17 : decode cX8_alarmFor 17 = .ok (.aload_n 0, 1) := by decide +kernel
theorem dX8_alarmFor_18 : decode cX8_alarmFor 18 = .ok (.getfield 35, 3) := by decide +kernel
theorem dX8_alarmFor_21 : decode cX8_alarmFor 21 = .ok (.iconst 5, 1) := by decide +kernel
theorem dX8_alarmFor_22 : decode cX8_alarmFor 22 = .ok (.iload_n 1, 1) := by decide +kernel
theorem dX8_alarmFor_23 : decode cX8_alarmFor 23 = .ok (.imul, 1) := by decide +kernel
theorem dX8_alarmFor_24 : decode cX8_alarmFor 24 = .ok (.invokevirtual 87, 3) := by decide +kernel
theorem dX8_alarmFor_27 : decode cX8_alarmFor 27 = .ok (.ifCond .eq 30, 3) := by decide +kernel
theorem dX8_alarmFor_30 : decode cX8_alarmFor 30 = .ok (.aload_n 0, 1) := by decide +kernel
theorem dX8_alarmFor_31 : decode cX8_alarmFor 31 = .ok (.aload_n 0, 1) := by decide +kernel
theorem dX8_alarmFor_32 : decode cX8_alarmFor 32 = .ok (.getfield 35, 3) := by decide +kernel
theorem dX8_alarmFor_35 : decode cX8_alarmFor 35 = .ok (.iconst 5, 1) := by decide +kernel
theorem dX8_alarmFor_36 : decode cX8_alarmFor 36 = .ok (.iload_n 1, 1) := by decide +kernel
theorem dX8_alarmFor_37 : decode cX8_alarmFor 37 = .ok (.imul, 1) := by decide +kernel
theorem dX8_alarmFor_38 : decode cX8_alarmFor 38 = .ok (.aload_n 0, 1) := by decide +kernel
theorem dX8_alarmFor_39 : decode cX8_alarmFor 39 = .ok (.getfield 7, 3) := by decide +kernel
theorem dX8_alarmFor_42 : decode cX8_alarmFor 42 = .ok (.iload_n 2, 1) := by decide +kernel
theorem dX8_alarmFor_43 : decode cX8_alarmFor 43 = .ok (.iload_n 1, 1) := by decide +kernel
theorem dX8_alarmFor_44 : decode cX8_alarmFor 44 = .ok (.invokestatic 94, 3) := by decide +kernel
theorem dX8_alarmFor_47 : decode cX8_alarmFor 47 = .ok (.invokevirtual 87, 3) := by decide +kernel
theorem dX8_alarmFor_50 : decode cX8_alarmFor 50 = .ok (.ifCond .eq 7, 3) := by decide +kernel
theorem dX8_alarmFor_53 : decode cX8_alarmFor 53 = .ok (.iconst 1, 1) := by decide +kernel
theorem dX8_alarmFor_54 : decode cX8_alarmFor 54 = .ok (.goto 4, 3) := by decide +kernel
theorem dX8_alarmFor_57 : decode cX8_alarmFor 57 = .ok (.iconst 0, 1) := by decide +kernel
theorem dX8_alarmFor_58 : decode cX8_alarmFor 58 = .ok (.istore_n 3, 1) := by decide +kernel
theorem dX8_alarmFor_59 : decode cX8_alarmFor 59 = .ok (.iload_n 3, 1) := by decide +kernel
theorem dX8_alarmFor_60 : decode cX8_alarmFor 60 = .ok (.ifCond .ne 5, 3) := by decide +kernel
theorem dX8_alarmFor_63 : decode cX8_alarmFor 63 = .ok (.iconst 1, 1) := by decide +kernel
theorem dX8_alarmFor_64 : decode cX8_alarmFor 64 = .ok (.ireturn, 1) := by decide +kernel
theorem dX8_alarmFor_65 : decode cX8_alarmFor 65 = .ok (.aload_n 0, 1) := by decide +kernel
theorem dX8_alarmFor_66 : decode cX8_alarmFor 66 = .ok (.iload_n 2, 1) := by decide +kernel
theorem dX8_alarmFor_67 : decode cX8_alarmFor 67 = .ok (.invokevirtual 104, 3) := by decide +kernel
theorem dX8_alarmFor_70 : decode cX8_alarmFor 70 = .ok (.istore 4, 2) := by decide +kernel
theorem dX8_alarmFor_72 : decode cX8_alarmFor 72 = .ok (.iload 4, 2) := by decide +kernel
theorem dX8_alarmFor_74 : decode cX8_alarmFor 74 = .ok (.ifCond .ge 5, 3) := by decide +kernel
theorem dX8_alarmFor_77 : decode cX8_alarmFor 77 = .ok (.iconst 2, 1) := by decide +kernel
theorem dX8_alarmFor_78 : decode cX8_alarmFor 78 = .ok (.ireturn, 1) := by decide +kernel
theorem dX8_alarmFor_79 : decode cX8_alarmFor 79 = .ok (.aload_n 0, 1) := by decide +kernel
theorem dX8_alarmFor_80 : decode cX8_alarmFor 80 = .ok (.aload_n 0, 1) := by decide +kernel
theorem dX8_alarmFor_81 : decode cX8_alarmFor 81 = .ok (.getfield 38, 3) := by decide +kernel
theorem dX8_alarmFor_84 : decode cX8_alarmFor 84 = .ok (.iconst 5, 1) := by decide +kernel
theorem dX8_alarmFor_85 : decode cX8_alarmFor 85 = .ok (.iload_n 1, 1) := by decide +kernel
theorem dX8_alarmFor_86 : decode cX8_alarmFor 86 = .ok (.imul, 1) := by decide +kernel
theorem dX8_alarmFor_87 : decode cX8_alarmFor 87 = .ok (.aload_n 0, 1) := by decide +kernel
theorem dX8_alarmFor_88 : decode cX8_alarmFor 88 = .ok (.getfield 7, 3) := by decide +kernel
theorem dX8_alarmFor_91 : decode cX8_alarmFor 91 = .ok (.iload_n 2, 1) := by decide +kernel
theorem dX8_alarmFor_92 : decode cX8_alarmFor 92 = .ok (.iload 4, 2) := by decide +kernel
theorem dX8_alarmFor_94 : decode cX8_alarmFor 94 = .ok (.invokestatic 94, 3) := by decide +kernel
theorem dX8_alarmFor_97 : decode cX8_alarmFor 97 = .ok (.invokevirtual 87, 3) := by decide +kernel
theorem dX8_alarmFor_100 : decode cX8_alarmFor 100 = .ok (.ifCond .eq 7, 3) := by decide +kernel
theorem dX8_alarmFor_103 : decode cX8_alarmFor 103 = .ok (.iconst 0, 1) := by decide +kernel
theorem dX8_alarmFor_104 : decode cX8_alarmFor 104 = .ok (.goto 4, 3) := by decide +kernel
theorem dX8_alarmFor_107 : decode cX8_alarmFor 107 = .ok (.iconst 3, 1) := by decide +kernel
theorem dX8_alarmFor_108 : decode cX8_alarmFor 108 = .ok (.ireturn, 1) := by decide +kernel
theorem dX8_proves_0 : decode cX8_proves 0 = .ok (.aload_n 0, 1) := by decide +kernel
theorem dX8_proves_1 : decode cX8_proves 1 = .ok (.getfield 25, 3) := by decide +kernel
theorem dX8_proves_4 : decode cX8_proves 4 = .ok (.iload_n 1, 1) := by decide +kernel
theorem dX8_proves_5 : decode cX8_proves 5 = .ok (.baload, 1) := by decide +kernel
theorem dX8_proves_6 : decode cX8_proves 6 = .ok (.ifCond .ne 50, 3) := by decide +kernel
theorem dX8_proves_9 : decode cX8_proves 9 = .ok (.aload_n 0, 1) := by decide +kernel
theorem dX8_proves_10 : decode cX8_proves 10 = .ok (.getfield 25, 3) := by decide +kernel
theorem dX8_proves_13 : decode cX8_proves 13 = .ok (.iload_n 1, 1) := by decide +kernel
theorem dX8_proves_14 : decode cX8_proves 14 = .ok (.iconst 1, 1) := by decide +kernel
theorem dX8_proves_15 : decode cX8_proves 15 = .ok (.bastore, 1) := by decide +kernel
theorem dX8_proves_16 : decode cX8_proves 16 = .ok (.aload_n 0, 1) := by decide +kernel
theorem dX8_proves_17 : decode cX8_proves 17 = .ok (.getfield 29, 3) := by decide +kernel
theorem dX8_proves_20 : decode cX8_proves 20 = .ok (.iload_n 1, 1) := by decide +kernel
theorem dX8_proves_21 : decode cX8_proves 21 = .ok (.iload 6, 2) := by decide +kernel
theorem dX8_proves_23 : decode cX8_proves 23 = .ok (.iastore, 1) := by decide +kernel
theorem dX8_proves_24 : decode cX8_proves 24 = .ok (.aload_n 0, 1) := by decide +kernel
theorem dX8_proves_25 : decode cX8_proves 25 = .ok (.aload_n 2, 1) := by decide +kernel
theorem dX8_proves_26 : decode cX8_proves 26 = .ok (.iload_n 3, 1) := by decide +kernel
theorem dX8_proves_27 : decode cX8_proves 27 = .ok (.aload_n 0, 1) := by decide +kernel
theorem dX8_proves_28 : decode cX8_proves 28 = .ok (.getfield 32, 3) := by decide +kernel
theorem dX8_proves_31 : decode cX8_proves 31 = .ok (.bipush 10, 2) := by decide +kernel
theorem dX8_proves_33 : decode cX8_proves 33 = .ok (.iload_n 1, 1) := by decide +kernel
theorem dX8_proves_34 : decode cX8_proves 34 = .ok (.imul, 1) := by decide +kernel
theorem dX8_proves_35 : decode cX8_proves 35 = .ok (.invokevirtual 108, 3) := by decide +kernel
theorem dX8_proves_38 : decode cX8_proves 38 = .ok (.aload_n 0, 1) := by decide +kernel
theorem dX8_proves_39 : decode cX8_proves 39 = .ok (.aload 4, 2) := by decide +kernel
theorem dX8_proves_41 : decode cX8_proves 41 = .ok (.iload 5, 2) := by decide +kernel
theorem dX8_proves_43 : decode cX8_proves 43 = .ok (.aload_n 0, 1) := by decide +kernel
theorem dX8_proves_44 : decode cX8_proves 44 = .ok (.getfield 32, 3) := by decide +kernel
theorem dX8_proves_47 : decode cX8_proves 47 = .ok (.bipush 10, 2) := by decide +kernel
theorem dX8_proves_49 : decode cX8_proves 49 = .ok (.iload_n 1, 1) := by decide +kernel
theorem dX8_proves_50 : decode cX8_proves 50 = .ok (.imul, 1) := by decide +kernel
theorem dX8_proves_51 : decode cX8_proves 51 = .ok (.iconst 5, 1) := by decide +kernel
theorem dX8_proves_52 : decode cX8_proves 52 = .ok (.iadd, 1) := by decide +kernel
theorem dX8_proves_53 : decode cX8_proves 53 = .ok (.invokevirtual 108, 3) := by decide +kernel
theorem dX8_proves_56 : decode cX8_proves 56 = .ok (.return_, 1) := by decide +kernel
theorem dX8_raises_0 : decode cX8_raises 0 = .ok (.aload_n 0, 1) := by decide +kernel
theorem dX8_raises_1 : decode cX8_raises 1 = .ok (.getfield 19, 3) := by decide +kernel
theorem dX8_raises_4 : decode cX8_raises 4 = .ok (.iload_n 1, 1) := by decide +kernel
theorem dX8_raises_5 : decode cX8_raises 5 = .ok (.iaload, 1) := by decide +kernel
theorem dX8_raises_6 : decode cX8_raises 6 = .ok (.istore_n 3, 1) := by decide +kernel
theorem dX8_raises_7 : decode cX8_raises 7 = .ok (.aload_n 0, 1) := by decide +kernel
theorem dX8_raises_8 : decode cX8_raises 8 = .ok (.getfield 22, 3) := by decide +kernel
theorem dX8_raises_11 : decode cX8_raises 11 = .ok (.iload_n 1, 1) := by decide +kernel
theorem dX8_raises_12 : decode cX8_raises 12 = .ok (.iload_n 2, 1) := by decide +kernel
theorem dX8_raises_13 : decode cX8_raises 13 = .ok (.iastore, 1) := by decide +kernel
theorem dX8_raises_14 : decode cX8_raises 14 = .ok (.iload_n 2, 1) := by decide +kernel
theorem dX8_raises_15 : decode cX8_raises 15 = .ok (.iconst 2, 1) := by decide +kernel
theorem dX8_raises_16 : decode cX8_raises 16 = .ok (.if_icmp .ne 33, 3) := by decide +kernel
theorem dX8_raises_19 : decode cX8_raises 19 = .ok (.aload_n 0, 1) := by decide +kernel
theorem dX8_raises_20 : decode cX8_raises 20 = .ok (.iload_n 1, 1) := by decide +kernel
theorem dX8_raises_21 : decode cX8_raises 21 = .ok (.aload_n 0, 1) := by decide +kernel
theorem dX8_raises_22 : decode cX8_raises 22 = .ok (.getfield 7, 3) := by decide +kernel
theorem dX8_raises_25 : decode cX8_raises 25 = .ok (.iload_n 3, 1) := by decide +kernel
theorem dX8_raises_26 : decode cX8_raises 26 = .ok (.aload_n 0, 1) := by decide +kernel
theorem dX8_raises_27 : decode cX8_raises 27 = .ok (.getfield 91, 3) := by decide +kernel
theorem dX8_raises_30 : decode cX8_raises 30 = .ok (.invokestatic 94, 3) := by decide +kernel
theorem dX8_raises_33 : decode cX8_raises 33 = .ok (.aload_n 0, 1) := by decide +kernel
theorem dX8_raises_34 : decode cX8_raises 34 = .ok (.getfield 7, 3) := by decide +kernel
theorem dX8_raises_37 : decode cX8_raises 37 = .ok (.iload_n 3, 1) := by decide +kernel
theorem dX8_raises_38 : decode cX8_raises 38 = .ok (.aload_n 0, 1) := by decide +kernel
theorem dX8_raises_39 : decode cX8_raises 39 = .ok (.getfield 101, 3) := by decide +kernel
theorem dX8_raises_42 : decode cX8_raises 42 = .ok (.invokestatic 94, 3) := by decide +kernel
theorem dX8_raises_45 : decode cX8_raises 45 = .ok (.iconst 0, 1) := by decide +kernel
theorem dX8_raises_46 : decode cX8_raises 46 = .ok (.invokevirtual 112, 3) := by decide +kernel
theorem dX8_raises_49 : decode cX8_raises 49 = .ok (.iload_n 2, 1) := by decide +kernel
theorem dX8_raises_50 : decode cX8_raises 50 = .ok (.iconst 3, 1) := by decide +kernel
theorem dX8_raises_51 : decode cX8_raises 51 = .ok (.if_icmp .ne 57, 3) := by decide +kernel
theorem dX8_raises_54 : decode cX8_raises 54 = .ok (.aload_n 0, 1) := by decide +kernel
theorem dX8_raises_55 : decode cX8_raises 55 = .ok (.iload_n 3, 1) := by decide +kernel
theorem dX8_raises_56 : decode cX8_raises 56 = .ok (.invokevirtual 104, 3) := by decide +kernel
theorem dX8_raises_59 : decode cX8_raises 59 = .ok (.istore 4, 2) := by decide +kernel
theorem dX8_raises_61 : decode cX8_raises 61 = .ok (.aload_n 0, 1) := by decide +kernel
theorem dX8_raises_62 : decode cX8_raises 62 = .ok (.aload_n 0, 1) := by decide +kernel
theorem dX8_raises_63 : decode cX8_raises 63 = .ok (.getfield 38, 3) := by decide +kernel
theorem dX8_raises_66 : decode cX8_raises 66 = .ok (.iconst 5, 1) := by decide +kernel
theorem dX8_raises_67 : decode cX8_raises 67 = .ok (.iload_n 1, 1) := by decide +kernel
theorem dX8_raises_68 : decode cX8_raises 68 = .ok (.imul, 1) := by decide +kernel
theorem dX8_raises_69 : decode cX8_raises 69 = .ok (.aload_n 0, 1) := by decide +kernel
theorem dX8_raises_70 : decode cX8_raises 70 = .ok (.getfield 7, 3) := by decide +kernel
theorem dX8_raises_73 : decode cX8_raises 73 = .ok (.iload_n 3, 1) := by decide +kernel
theorem dX8_raises_74 : decode cX8_raises 74 = .ok (.iload 4, 2) := by decide +kernel
theorem dX8_raises_76 : decode cX8_raises 76 = .ok (.invokestatic 94, 3) := by decide +kernel
theorem dX8_raises_79 : decode cX8_raises 79 = .ok (.invokevirtual 98, 3) := by decide +kernel
theorem dX8_raises_82 : decode cX8_raises 82 = .ok (.ifCond .eq 26, 3) := by decide +kernel
theorem dX8_raises_85 : decode cX8_raises 85 = .ok (.aload_n 0, 1) := by decide +kernel
theorem dX8_raises_86 : decode cX8_raises 86 = .ok (.iload_n 1, 1) := by decide +kernel
theorem dX8_raises_87 : decode cX8_raises 87 = .ok (.aload_n 0, 1) := by decide +kernel
theorem dX8_raises_88 : decode cX8_raises 88 = .ok (.getfield 38, 3) := by decide +kernel
theorem dX8_raises_91 : decode cX8_raises 91 = .ok (.iconst 5, 1) := by decide +kernel
theorem dX8_raises_92 : decode cX8_raises 92 = .ok (.iload_n 1, 1) := by decide +kernel
theorem dX8_raises_93 : decode cX8_raises 93 = .ok (.imul, 1) := by decide +kernel
theorem dX8_raises_94 : decode cX8_raises 94 = .ok (.aload_n 0, 1) := by decide +kernel
theorem dX8_raises_95 : decode cX8_raises 95 = .ok (.getfield 7, 3) := by decide +kernel
theorem dX8_raises_98 : decode cX8_raises 98 = .ok (.iload_n 3, 1) := by decide +kernel
theorem dX8_raises_99 : decode cX8_raises 99 = .ok (.iload 4, 2) := by decide +kernel
theorem dX8_raises_101 : decode cX8_raises 101 = .ok (.invokestatic 94, 3) := by decide +kernel
theorem dX8_raises_104 : decode cX8_raises 104 = .ok (.iconst 0, 1) := by decide +kernel
theorem dX8_raises_105 : decode cX8_raises 105 = .ok (.invokevirtual 112, 3) := by decide +kernel
theorem dX8_raises_108 : decode cX8_raises 108 = .ok (.return_, 1) := by decide +kernel
theorem dX8_remember_0 : decode cX8_remember 0 = .ok (.aload_n 0, 1) := by decide +kernel
theorem dX8_remember_1 : decode cX8_remember 1 = .ok (.getfield 13, 3) := by decide +kernel
theorem dX8_remember_4 : decode cX8_remember 4 = .ok (.iload_n 1, 1) := by decide +kernel
theorem dX8_remember_5 : decode cX8_remember 5 = .ok (.iaload, 1) := by decide +kernel
theorem dX8_remember_6 : decode cX8_remember 6 = .ok (.iconst 5, 1) := by decide +kernel
theorem dX8_remember_7 : decode cX8_remember 7 = .ok (.if_icmp .ne 61, 3) := by decide +kernel
theorem dX8_remember_10 : decode cX8_remember 10 = .ok (.aload_n 0, 1) := by decide +kernel
theorem dX8_remember_11 : decode cX8_remember 11 = .ok (.getfield 13, 3) := by decide +kernel
theorem dX8_remember_14 : decode cX8_remember 14 = .ok (.iload_n 1, 1) := by decide +kernel
theorem dX8_remember_15 : decode cX8_remember 15 = .ok (.dup2, 1) := by decide +kernel
theorem dX8_remember_16 : decode cX8_remember 16 = .ok (.iaload, 1) := by decide +kernel
theorem dX8_remember_17 : decode cX8_remember 17 = .ok (.iconst 1, 1) := by decide +kernel
theorem dX8_remember_18 : decode cX8_remember 18 = .ok (.isub, 1) := by decide +kernel
theorem dX8_remember_19 : decode cX8_remember 19 = .ok (.iastore, 1) := by decide +kernel
theorem dX8_remember_20 : decode cX8_remember 20 = .ok (.iconst 0, 1) := by decide +kernel
theorem dX8_remember_21 : decode cX8_remember 21 = .ok (.istore_n 2, 1) := by decide +kernel
theorem dX8_remember_22 : decode cX8_remember 22 = .ok (.iload_n 2, 1) := by decide +kernel
theorem dX8_remember_23 : decode cX8_remember 23 = .ok (.bipush 30, 2) := by decide +kernel
theorem dX8_remember_25 : decode cX8_remember 25 = .ok (.aload_n 0, 1) := by decide +kernel
theorem dX8_remember_26 : decode cX8_remember 26 = .ok (.getfield 13, 3) := by decide +kernel
theorem dX8_remember_29 : decode cX8_remember 29 = .ok (.iload_n 1, 1) := by decide +kernel
theorem dX8_remember_30 : decode cX8_remember 30 = .ok (.iaload, 1) := by decide +kernel
theorem dX8_remember_31 : decode cX8_remember 31 = .ok (.imul, 1) := by decide +kernel
theorem dX8_remember_32 : decode cX8_remember 32 = .ok (.if_icmp .ge 36, 3) := by decide +kernel
theorem dX8_remember_35 : decode cX8_remember 35 = .ok (.aload_n 0, 1) := by decide +kernel
theorem dX8_remember_36 : decode cX8_remember 36 = .ok (.getfield 16, 3) := by decide +kernel
theorem dX8_remember_39 : decode cX8_remember 39 = .ok (.sipush 150, 3) := by decide +kernel
theorem dX8_remember_42 : decode cX8_remember 42 = .ok (.iload_n 1, 1) := by decide +kernel
theorem dX8_remember_43 : decode cX8_remember 43 = .ok (.imul, 1) := by decide +kernel
theorem dX8_remember_44 : decode cX8_remember 44 = .ok (.iload_n 2, 1) := by decide +kernel
theorem dX8_remember_45 : decode cX8_remember 45 = .ok (.iadd, 1) := by decide +kernel
theorem dX8_remember_46 : decode cX8_remember 46 = .ok (.aload_n 0, 1) := by decide +kernel
theorem dX8_remember_47 : decode cX8_remember 47 = .ok (.getfield 16, 3) := by decide +kernel
theorem dX8_remember_50 : decode cX8_remember 50 = .ok (.sipush 150, 3) := by decide +kernel
theorem dX8_remember_53 : decode cX8_remember 53 = .ok (.iload_n 1, 1) := by decide +kernel
theorem dX8_remember_54 : decode cX8_remember 54 = .ok (.imul, 1) := by decide +kernel
theorem dX8_remember_55 : decode cX8_remember 55 = .ok (.iload_n 2, 1) := by decide +kernel
theorem dX8_remember_56 : decode cX8_remember 56 = .ok (.iadd, 1) := by decide +kernel
theorem dX8_remember_57 : decode cX8_remember 57 = .ok (.bipush 30, 2) := by decide +kernel
theorem dX8_remember_59 : decode cX8_remember 59 = .ok (.iadd, 1) := by decide +kernel
theorem dX8_remember_60 : decode cX8_remember 60 = .ok (.iaload, 1) := by decide +kernel
theorem dX8_remember_61 : decode cX8_remember 61 = .ok (.iastore, 1) := by decide +kernel
theorem dX8_remember_62 : decode cX8_remember 62 = .ok (.iinc 2 1, 3) := by decide +kernel
theorem dX8_remember_65 : decode cX8_remember 65 = .ok (.goto (-43), 3) := by decide +kernel
theorem dX8_remember_68 : decode cX8_remember 68 = .ok (.iconst 0, 1) := by decide +kernel
theorem dX8_remember_69 : decode cX8_remember 69 = .ok (.istore_n 2, 1) := by decide +kernel
theorem dX8_remember_70 : decode cX8_remember 70 = .ok (.iload_n 2, 1) := by decide +kernel
theorem dX8_remember_71 : decode cX8_remember 71 = .ok (.bipush 30, 2) := by decide +kernel
theorem dX8_remember_73 : decode cX8_remember 73 = .ok (.if_icmp .ge 42, 3) := by decide +kernel
theorem dX8_remember_76 : decode cX8_remember 76 = .ok (.aload_n 0, 1) := by decide +kernel
theorem dX8_remember_77 : decode cX8_remember 77 = .ok (.getfield 16, 3) := by decide +kernel
theorem dX8_remember_80 : decode cX8_remember 80 = .ok (.sipush 150, 3) := by decide +kernel
theorem dX8_remember_83 : decode cX8_remember 83 = .ok (.iload_n 1, 1) := by decide +kernel
theorem dX8_remember_84 : decode cX8_remember 84 = .ok (.imul, 1) := by decide +kernel
theorem dX8_remember_85 : decode cX8_remember 85 = .ok (.bipush 30, 2) := by decide +kernel
theorem dX8_remember_87 : decode cX8_remember 87 = .ok (.aload_n 0, 1) := by decide +kernel
theorem dX8_remember_88 : decode cX8_remember 88 = .ok (.getfield 13, 3) := by decide +kernel
theorem dX8_remember_91 : decode cX8_remember 91 = .ok (.iload_n 1, 1) := by decide +kernel
theorem dX8_remember_92 : decode cX8_remember 92 = .ok (.iaload, 1) := by decide +kernel
theorem dX8_remember_93 : decode cX8_remember 93 = .ok (.imul, 1) := by decide +kernel
theorem dX8_remember_94 : decode cX8_remember 94 = .ok (.iadd, 1) := by decide +kernel
theorem dX8_remember_95 : decode cX8_remember 95 = .ok (.iload_n 2, 1) := by decide +kernel
theorem dX8_remember_96 : decode cX8_remember 96 = .ok (.iadd, 1) := by decide +kernel
theorem dX8_remember_97 : decode cX8_remember 97 = .ok (.aload_n 0, 1) := by decide +kernel
theorem dX8_remember_98 : decode cX8_remember 98 = .ok (.getfield 7, 3) := by decide +kernel
theorem dX8_remember_101 : decode cX8_remember 101 = .ok (.bipush 30, 2) := by decide +kernel
theorem dX8_remember_103 : decode cX8_remember 103 = .ok (.iload_n 1, 1) := by decide +kernel
theorem dX8_remember_104 : decode cX8_remember 104 = .ok (.imul, 1) := by decide +kernel
theorem dX8_remember_105 : decode cX8_remember 105 = .ok (.iload_n 2, 1) := by decide +kernel
theorem dX8_remember_106 : decode cX8_remember 106 = .ok (.iadd, 1) := by decide +kernel
theorem dX8_remember_107 : decode cX8_remember 107 = .ok (.iaload, 1) := by decide +kernel
theorem dX8_remember_108 : decode cX8_remember 108 = .ok (.iastore, 1) := by decide +kernel
theorem dX8_remember_109 : decode cX8_remember 109 = .ok (.iinc 2 1, 3) := by decide +kernel
theorem dX8_remember_112 : decode cX8_remember 112 = .ok (.goto (-42), 3) := by decide +kernel
theorem dX8_remember_115 : decode cX8_remember 115 = .ok (.aload_n 0, 1) := by decide +kernel
theorem dX8_remember_116 : decode cX8_remember 116 = .ok (.getfield 13, 3) := by decide +kernel
theorem dX8_remember_119 : decode cX8_remember 119 = .ok (.iload_n 1, 1) := by decide +kernel
theorem dX8_remember_120 : decode cX8_remember 120 = .ok (.dup2, 1) := by decide +kernel
theorem dX8_remember_121 : decode cX8_remember 121 = .ok (.iaload, 1) := by decide +kernel
theorem dX8_remember_122 : decode cX8_remember 122 = .ok (.iconst 1, 1) := by decide +kernel
theorem dX8_remember_123 : decode cX8_remember 123 = .ok (.iadd, 1) := by decide +kernel
theorem dX8_remember_124 : decode cX8_remember 124 = .ok (.iastore, 1) := by decide +kernel
theorem dX8_remember_125 : decode cX8_remember 125 = .ok (.return_, 1) := by decide +kernel
theorem dX8_operate_0 : decode cX8_operate 0 = .ok (.aload_n 0, 1) := by decide +kernel
theorem dX8_operate_1 : decode cX8_operate 1 = .ok (.getfield 44, 3) := by decide +kernel
theorem dX8_operate_4 : decode cX8_operate 4 = .ok (.iload_n 1, 1) := by decide +kernel
theorem dX8_operate_5 : decode cX8_operate 5 = .ok (.dup2, 1) := by decide +kernel
theorem dX8_operate_6 : decode cX8_operate 6 = .ok (.iaload, 1) := by decide +kernel
theorem dX8_operate_7 : decode cX8_operate 7 = .ok (.aload_n 0, 1) := by decide +kernel
theorem dX8_operate_8 : decode cX8_operate 8 = .ok (.getfield 73, 3) := by decide +kernel
theorem dX8_operate_11 : decode cX8_operate 11 = .ok (.aload_n 0, 1) := by decide +kernel
theorem dX8_operate_12 : decode cX8_operate 12 = .ok (.getfield 73, 3) := by decide +kernel
theorem dX8_operate_15 : decode cX8_operate 15 = .ok (.imul, 1) := by decide +kernel
theorem dX8_operate_16 : decode cX8_operate 16 = .ok (.iadd, 1) := by decide +kernel
theorem dX8_operate_17 : decode cX8_operate 17 = .ok (.iastore, 1) := by decide +kernel
theorem dX8_operate_18 : decode cX8_operate 18 = .ok (.aload_n 0, 1) := by decide +kernel
theorem dX8_operate_19 : decode cX8_operate 19 = .ok (.iload_n 1, 1) := by decide +kernel
theorem dX8_operate_20 : decode cX8_operate 20 = .ok (.invokevirtual 116, 3) := by decide +kernel
theorem dX8_operate_23 : decode cX8_operate 23 = .ok (.istore_n 2, 1) := by decide +kernel
theorem dX8_operate_24 : decode cX8_operate 24 = .ok (.iload_n 2, 1) := by decide +kernel
theorem dX8_operate_25 : decode cX8_operate 25 = .ok (.ifCond .le 11, 3) := by decide +kernel
theorem dX8_operate_28 : decode cX8_operate 28 = .ok (.aload_n 0, 1) := by decide +kernel
theorem dX8_operate_29 : decode cX8_operate 29 = .ok (.iload_n 1, 1) := by decide +kernel
theorem dX8_operate_30 : decode cX8_operate 30 = .ok (.iload_n 2, 1) := by decide +kernel
theorem dX8_operate_31 : decode cX8_operate 31 = .ok (.invokevirtual 119, 3) := by decide +kernel
theorem dX8_operate_34 : decode cX8_operate 34 = .ok (.iload_n 2, 1) := by decide +kernel
theorem dX8_operate_35 : decode cX8_operate 35 = .ok (.ireturn, 1) := by decide +kernel
theorem dX8_operate_36 : decode cX8_operate 36 = .ok (.aload_n 0, 1) := by decide +kernel
theorem dX8_operate_37 : decode cX8_operate 37 = .ok (.getfield 19, 3) := by decide +kernel
theorem dX8_operate_40 : decode cX8_operate 40 = .ok (.iload_n 1, 1) := by decide +kernel
theorem dX8_operate_41 : decode cX8_operate 41 = .ok (.iaload, 1) := by decide +kernel
theorem dX8_operate_42 : decode cX8_operate 42 = .ok (.istore_n 3, 1) := by decide +kernel
theorem dX8_operate_43 : decode cX8_operate 43 = .ok (.aload_n 0, 1) := by decide +kernel
theorem dX8_operate_44 : decode cX8_operate 44 = .ok (.iload_n 3, 1) := by decide +kernel
theorem dX8_operate_45 : decode cX8_operate 45 = .ok (.invokevirtual 104, 3) := by decide +kernel
theorem dX8_operate_48 : decode cX8_operate 48 = .ok (.istore 4, 2) := by decide +kernel
theorem dX8_operate_50 : decode cX8_operate 50 = .ok (.aload_n 0, 1) := by decide +kernel
theorem dX8_operate_51 : decode cX8_operate 51 = .ok (.iload_n 3, 1) := by decide +kernel
theorem dX8_operate_52 : decode cX8_operate 52 = .ok (.invokevirtual 123, 3) := by decide +kernel
theorem dX8_operate_55 : decode cX8_operate 55 = .ok (.aload_n 0, 1) := by decide +kernel
theorem dX8_operate_56 : decode cX8_operate 56 = .ok (.aload_n 0, 1) := by decide +kernel
theorem dX8_operate_57 : decode cX8_operate 57 = .ok (.getfield 7, 3) := by decide +kernel
theorem dX8_operate_60 : decode cX8_operate 60 = .ok (.iload_n 3, 1) := by decide +kernel
theorem dX8_operate_61 : decode cX8_operate 61 = .ok (.iload 4, 2) := by decide +kernel
theorem dX8_operate_63 : decode cX8_operate 63 = .ok (.invokestatic 94, 3) := by decide +kernel
theorem dX8_operate_66 : decode cX8_operate 66 = .ok (.aload_n 0, 1) := by decide +kernel
theorem dX8_operate_67 : decode cX8_operate 67 = .ok (.getfield 35, 3) := by decide +kernel
theorem dX8_operate_70 : decode cX8_operate 70 = .ok (.iconst 5, 1) := by decide +kernel
theorem dX8_operate_71 : decode cX8_operate 71 = .ok (.iload_n 1, 1) := by decide +kernel
theorem dX8_operate_72 : decode cX8_operate 72 = .ok (.imul, 1) := by decide +kernel
theorem dX8_operate_73 : decode cX8_operate 73 = .ok (.invokevirtual 108, 3) := by decide +kernel
theorem dX8_operate_76 : decode cX8_operate 76 = .ok (.aload_n 0, 1) := by decide +kernel
theorem dX8_operate_77 : decode cX8_operate 77 = .ok (.getfield 35, 3) := by decide +kernel
theorem dX8_operate_80 : decode cX8_operate 80 = .ok (.bipush 6, 2) := by decide +kernel
theorem dX8_operate_82 : decode cX8_operate 82 = .ok (.iload_n 1, 1) := by decide +kernel
theorem dX8_operate_83 : decode cX8_operate 83 = .ok (.imul, 1) := by decide +kernel
theorem dX8_operate_84 : decode cX8_operate 84 = .ok (.dup2, 1) := by decide +kernel
theorem dX8_operate_85 : decode cX8_operate 85 = .ok (.iaload, 1) := by decide +kernel
theorem dX8_operate_86 : decode cX8_operate 86 = .ok (.iconst 1, 1) := by decide +kernel
theorem dX8_operate_87 : decode cX8_operate 87 = .ok (.iadd, 1) := by decide +kernel
theorem dX8_operate_88 : decode cX8_operate 88 = .ok (.iastore, 1) := by decide +kernel
theorem dX8_operate_89 : decode cX8_operate 89 = .ok (.aload_n 0, 1) := by decide +kernel
theorem dX8_operate_90 : decode cX8_operate 90 = .ok (.aload_n 0, 1) := by decide +kernel
theorem dX8_operate_91 : decode cX8_operate 91 = .ok (.getfield 35, 3) := by decide +kernel
theorem dX8_operate_94 : decode cX8_operate 94 = .ok (.iconst 5, 1) := by decide +kernel
theorem dX8_operate_95 : decode cX8_operate 95 = .ok (.iload_n 1, 1) := by decide +kernel
theorem dX8_operate_96 : decode cX8_operate 96 = .ok (.imul, 1) := by decide +kernel
theorem dX8_operate_97 : decode cX8_operate 97 = .ok (.aload_n 0, 1) := by decide +kernel
theorem dX8_operate_98 : decode cX8_operate 98 = .ok (.getfield 38, 3) := by decide +kernel
theorem dX8_operate_101 : decode cX8_operate 101 = .ok (.iconst 5, 1) := by decide +kernel
theorem dX8_operate_102 : decode cX8_operate 102 = .ok (.iload_n 1, 1) := by decide +kernel
theorem dX8_operate_103 : decode cX8_operate 103 = .ok (.imul, 1) := by decide +kernel
theorem dX8_operate_104 : decode cX8_operate 104 = .ok (.invokevirtual 108, 3) := by decide +kernel
theorem dX8_operate_107 : decode cX8_operate 107 = .ok (.aload_n 0, 1) := by decide +kernel
theorem dX8_operate_108 : decode cX8_operate 108 = .ok (.aload_n 0, 1) := by decide +kernel
theorem dX8_operate_109 : decode cX8_operate 109 = .ok (.getfield 35, 3) := by decide +kernel
theorem dX8_operate_112 : decode cX8_operate 112 = .ok (.iconst 5, 1) := by decide +kernel
theorem dX8_operate_113 : decode cX8_operate 113 = .ok (.iload_n 1, 1) := by decide +kernel
theorem dX8_operate_114 : decode cX8_operate 114 = .ok (.imul, 1) := by decide +kernel
theorem dX8_operate_115 : decode cX8_operate 115 = .ok (.aload_n 0, 1) := by decide +kernel
theorem dX8_operate_116 : decode cX8_operate 116 = .ok (.getfield 7, 3) := by decide +kernel
theorem dX8_operate_119 : decode cX8_operate 119 = .ok (.iload_n 3, 1) := by decide +kernel
theorem dX8_operate_120 : decode cX8_operate 120 = .ok (.iload_n 1, 1) := by decide +kernel
theorem dX8_operate_121 : decode cX8_operate 121 = .ok (.invokestatic 94, 3) := by decide +kernel
theorem dX8_operate_124 : decode cX8_operate 124 = .ok (.invokevirtual 108, 3) := by decide +kernel
theorem dX8_operate_127 : decode cX8_operate 127 = .ok (.aload_n 0, 1) := by decide +kernel
theorem dX8_operate_128 : decode cX8_operate 128 = .ok (.getfield 47, 3) := by decide +kernel
theorem dX8_operate_131 : decode cX8_operate 131 = .ok (.iload_n 1, 1) := by decide +kernel
theorem dX8_operate_132 : decode cX8_operate 132 = .ok (.dup2, 1) := by decide +kernel
theorem dX8_operate_133 : decode cX8_operate 133 = .ok (.iaload, 1) := by decide +kernel
theorem dX8_operate_134 : decode cX8_operate 134 = .ok (.aload_n 0, 1) := by decide +kernel
theorem dX8_operate_135 : decode cX8_operate 135 = .ok (.getfield 73, 3) := by decide +kernel
theorem dX8_operate_138 : decode cX8_operate 138 = .ok (.iadd, 1) := by decide +kernel
theorem dX8_operate_139 : decode cX8_operate 139 = .ok (.iastore, 1) := by decide +kernel
theorem dX8_operate_140 : decode cX8_operate 140 = .ok (.aload_n 0, 1) := by decide +kernel
theorem dX8_operate_141 : decode cX8_operate 141 = .ok (.getfield 41, 3) := by decide +kernel
theorem dX8_operate_144 : decode cX8_operate 144 = .ok (.iload_n 1, 1) := by decide +kernel
theorem dX8_operate_145 : decode cX8_operate 145 = .ok (.dup2, 1) := by decide +kernel
theorem dX8_operate_146 : decode cX8_operate 146 = .ok (.iaload, 1) := by decide +kernel
theorem dX8_operate_147 : decode cX8_operate 147 = .ok (.iconst 1, 1) := by decide +kernel
theorem dX8_operate_148 : decode cX8_operate 148 = .ok (.iadd, 1) := by decide +kernel
theorem dX8_operate_149 : decode cX8_operate 149 = .ok (.iastore, 1) := by decide +kernel
theorem dX8_operate_150 : decode cX8_operate 150 = .ok (.aload_n 0, 1) := by decide +kernel
theorem dX8_operate_151 : decode cX8_operate 151 = .ok (.dup, 1) := by decide +kernel
theorem dX8_operate_152 : decode cX8_operate 152 = .ok (.getfield 80, 3) := by decide +kernel
theorem dX8_operate_155 : decode cX8_operate 155 = .ok (.iconst 1, 1) := by decide +kernel
theorem dX8_operate_156 : decode cX8_operate 156 = .ok (.iadd, 1) := by decide +kernel
theorem dX8_operate_157 : decode cX8_operate 157 = .ok (.putfield 80, 3) := by decide +kernel
theorem dX8_operate_160 : decode cX8_operate 160 = .ok (.iconst 0, 1) := by decide +kernel
theorem dX8_operate_161 : decode cX8_operate 161 = .ok (.ireturn, 1) := by decide +kernel
theorem dX8_write_0 : decode cX8_write 0 = .ok (.aload_n 0, 1) := by decide +kernel
theorem dX8_write_1 : decode cX8_write 1 = .ok (.iload_n 1, 1) := by decide +kernel
theorem dX8_write_2 : decode cX8_write 2 = .ok (.invokevirtual 126, 3) := by decide +kernel
theorem dX8_write_5 : decode cX8_write 5 = .ok (.ifCond .eq 7, 3) := by decide +kernel
theorem dX8_write_8 : decode cX8_write 8 = .ok (.sipush (-10001), 3) := by decide +kernel
theorem dX8_write_11 : decode cX8_write 11 = .ok (.ireturn, 1) := by decide +kernel
theorem dX8_write_12 : decode cX8_write 12 = .ok (.iload_n 2, 1) := by decide +kernel
theorem dX8_write_13 : decode cX8_write 13 = .ok (.sipush (-1000), 3) := by decide +kernel
theorem dX8_write_16 : decode cX8_write 16 = .ok (.sipush 1000, 3) := by decide +kernel
theorem dX8_write_19 : decode cX8_write 19 = .ok (.invokestatic 83, 3) := by decide +kernel
theorem dX8_write_22 : decode cX8_write 22 = .ok (.ifCond .ne 7, 3) := by decide +kernel
theorem dX8_write_25 : decode cX8_write 25 = .ok (.sipush (-10002), 3) := by decide +kernel
theorem dX8_write_28 : decode cX8_write 28 = .ok (.ireturn, 1) := by decide +kernel
theorem dX8_write_29 : decode cX8_write 29 = .ok (.aload_n 0, 1) := by decide +kernel
theorem dX8_write_30 : decode cX8_write 30 = .ok (.getfield 22, 3) := by decide +kernel
theorem dX8_write_33 : decode cX8_write 33 = .ok (.iload_n 1, 1) := by decide +kernel
theorem dX8_write_34 : decode cX8_write 34 = .ok (.iaload, 1) := by decide +kernel
theorem dX8_write_35 : decode cX8_write 35 = .ok (.ifCond .le 7, 3) := by decide +kernel
theorem dX8_write_38 : decode cX8_write 38 = .ok (.sipush (-10003), 3) := by decide +kernel
theorem dX8_write_41 : decode cX8_write 41 = .ok (.ireturn, 1) := by decide +kernel
theorem dX8_write_42 : decode cX8_write 42 = .ok (.aload_n 0, 1) := by decide +kernel
theorem dX8_write_43 : decode cX8_write 43 = .ok (.iload_n 1, 1) := by decide +kernel
theorem dX8_write_44 : decode cX8_write 44 = .ok (.invokevirtual 130, 3) := by decide +kernel
theorem dX8_write_47 : decode cX8_write 47 = .ok (.istore_n 3, 1) := by decide +kernel
theorem dX8_write_48 : decode cX8_write 48 = .ok (.iload_n 3, 1) := by decide +kernel
theorem dX8_write_49 : decode cX8_write 49 = .ok (.ifCond .ne 23, 3) := by decide +kernel
theorem dX8_write_52 : decode cX8_write 52 = .ok (.aload_n 0, 1) := by decide +kernel
theorem dX8_write_53 : decode cX8_write 53 = .ok (.getfield 7, 3) := by decide +kernel
theorem dX8_write_56 : decode cX8_write 56 = .ok (.bipush 30, 2) := by decide +kernel
theorem dX8_write_58 : decode cX8_write 58 = .ok (.aload_n 0, 1) := by decide +kernel
theorem dX8_write_59 : decode cX8_write 59 = .ok (.getfield 19, 3) := by decide +kernel
theorem dX8_write_62 : decode cX8_write 62 = .ok (.iload_n 1, 1) := by decide +kernel
theorem dX8_write_63 : decode cX8_write 63 = .ok (.iaload, 1) := by decide +kernel
theorem dX8_write_64 : decode cX8_write 64 = .ok (.imul, 1) := by decide +kernel
theorem dX8_write_65 : decode cX8_write 65 = .ok (.bipush 25, 2) := by decide +kernel
theorem dX8_write_67 : decode cX8_write 67 = .ok (.iadd, 1) := by decide +kernel
theorem dX8_write_68 : decode cX8_write 68 = .ok (.iload_n 1, 1) := by decide +kernel
theorem dX8_write_69 : decode cX8_write 69 = .ok (.iadd, 1) := by decide +kernel
theorem dX8_write_70 : decode cX8_write 70 = .ok (.iload_n 2, 1) := by decide +kernel
theorem dX8_write_71 : decode cX8_write 71 = .ok (.iastore, 1) := by decide +kernel
theorem dX8_write_72 : decode cX8_write 72 = .ok (.iload_n 3, 1) := by decide +kernel
theorem dX8_write_73 : decode cX8_write 73 = .ok (.ireturn, 1) := by decide +kernel
theorem dX8_read_0 : decode cX8_read 0 = .ok (.aload_n 0, 1) := by decide +kernel
theorem dX8_read_1 : decode cX8_read 1 = .ok (.iload_n 1, 1) := by decide +kernel
theorem dX8_read_2 : decode cX8_read 2 = .ok (.invokevirtual 126, 3) := by decide +kernel
theorem dX8_read_5 : decode cX8_read 5 = .ok (.ifCond .ne 11, 3) := by decide +kernel
theorem dX8_read_8 : decode cX8_read 8 = .ok (.aload_n 0, 1) := by decide +kernel
theorem dX8_read_9 : decode cX8_read 9 = .ok (.iload_n 2, 1) := by decide +kernel
theorem dX8_read_10 : decode cX8_read 10 = .ok (.invokevirtual 126, 3) := by decide +kernel
theorem dX8_read_13 : decode cX8_read 13 = .ok (.ifCond .eq 7, 3) := by decide +kernel
theorem dX8_read_16 : decode cX8_read 16 = .ok (.sipush (-10001), 3) := by decide +kernel
theorem dX8_read_19 : decode cX8_read 19 = .ok (.ireturn, 1) := by decide +kernel
theorem dX8_read_20 : decode cX8_read 20 = .ok (.aload_n 0, 1) := by decide +kernel
theorem dX8_read_21 : decode cX8_read 21 = .ok (.getfield 22, 3) := by decide +kernel
theorem dX8_read_24 : decode cX8_read 24 = .ok (.iload_n 1, 1) := by decide +kernel
theorem dX8_read_25 : decode cX8_read 25 = .ok (.iaload, 1) := by decide +kernel
theorem dX8_read_26 : decode cX8_read 26 = .ok (.ifCond .le 7, 3) := by decide +kernel
theorem dX8_read_29 : decode cX8_read 29 = .ok (.sipush (-10003), 3) := by decide +kernel
theorem dX8_read_32 : decode cX8_read 32 = .ok (.ireturn, 1) := by decide +kernel
theorem dX8_read_33 : decode cX8_read 33 = .ok (.aload_n 0, 1) := by decide +kernel
theorem dX8_read_34 : decode cX8_read 34 = .ok (.iload_n 1, 1) := by decide +kernel
theorem dX8_read_35 : decode cX8_read 35 = .ok (.invokevirtual 130, 3) := by decide +kernel
theorem dX8_read_38 : decode cX8_read 38 = .ok (.istore_n 3, 1) := by decide +kernel
theorem dX8_read_39 : decode cX8_read 39 = .ok (.iload_n 3, 1) := by decide +kernel
theorem dX8_read_40 : decode cX8_read 40 = .ok (.ifCond .ne 35, 3) := by decide +kernel
theorem dX8_read_43 : decode cX8_read 43 = .ok (.aload_n 0, 1) := by decide +kernel
theorem dX8_read_44 : decode cX8_read 44 = .ok (.getfield 50, 3) := by decide +kernel
theorem dX8_read_47 : decode cX8_read 47 = .ok (.iload_n 1, 1) := by decide +kernel
theorem dX8_read_48 : decode cX8_read 48 = .ok (.iconst 1, 1) := by decide +kernel
theorem dX8_read_49 : decode cX8_read 49 = .ok (.bastore, 1) := by decide +kernel
theorem dX8_read_50 : decode cX8_read 50 = .ok (.aload_n 0, 1) := by decide +kernel
theorem dX8_read_51 : decode cX8_read 51 = .ok (.getfield 53, 3) := by decide +kernel
theorem dX8_read_54 : decode cX8_read 54 = .ok (.iload_n 1, 1) := by decide +kernel
theorem dX8_read_55 : decode cX8_read 55 = .ok (.aload_n 0, 1) := by decide +kernel
theorem dX8_read_56 : decode cX8_read 56 = .ok (.getfield 7, 3) := by decide +kernel
theorem dX8_read_59 : decode cX8_read 59 = .ok (.bipush 30, 2) := by decide +kernel
theorem dX8_read_61 : decode cX8_read 61 = .ok (.aload_n 0, 1) := by decide +kernel
theorem dX8_read_62 : decode cX8_read 62 = .ok (.getfield 19, 3) := by decide +kernel
theorem dX8_read_65 : decode cX8_read 65 = .ok (.iload_n 1, 1) := by decide +kernel
theorem dX8_read_66 : decode cX8_read 66 = .ok (.iaload, 1) := by decide +kernel
theorem dX8_read_67 : decode cX8_read 67 = .ok (.imul, 1) := by decide +kernel
theorem dX8_read_68 : decode cX8_read 68 = .ok (.bipush 25, 2) := by decide +kernel
theorem dX8_read_70 : decode cX8_read 70 = .ok (.iadd, 1) := by decide +kernel
theorem dX8_read_71 : decode cX8_read 71 = .ok (.iload_n 2, 1) := by decide +kernel
theorem dX8_read_72 : decode cX8_read 72 = .ok (.iadd, 1) := by decide +kernel
theorem dX8_read_73 : decode cX8_read 73 = .ok (.iaload, 1) := by decide +kernel
theorem dX8_read_74 : decode cX8_read 74 = .ok (.iastore, 1) := by decide +kernel
theorem dX8_read_75 : decode cX8_read 75 = .ok (.iload_n 3, 1) := by decide +kernel
theorem dX8_read_76 : decode cX8_read 76 = .ok (.ireturn, 1) := by decide +kernel
theorem dX8_lastRead_0 : decode cX8_lastRead 0 = .ok (.aload_n 0, 1) := by decide +kernel
theorem dX8_lastRead_1 : decode cX8_lastRead 1 = .ok (.iload_n 1, 1) := by decide +kernel
theorem dX8_lastRead_2 : decode cX8_lastRead 2 = .ok (.invokevirtual 126, 3) := by decide +kernel
theorem dX8_lastRead_5 : decode cX8_lastRead 5 = .ok (.ifCond .eq 7, 3) := by decide +kernel
theorem dX8_lastRead_8 : decode cX8_lastRead 8 = .ok (.sipush (-10001), 3) := by decide +kernel
theorem dX8_lastRead_11 : decode cX8_lastRead 11 = .ok (.ireturn, 1) := by decide +kernel
theorem dX8_lastRead_12 : decode cX8_lastRead 12 = .ok (.aload_n 0, 1) := by decide +kernel
theorem dX8_lastRead_13 : decode cX8_lastRead 13 = .ok (.getfield 50, 3) := by decide +kernel
theorem dX8_lastRead_16 : decode cX8_lastRead 16 = .ok (.iload_n 1, 1) := by decide +kernel
theorem dX8_lastRead_17 : decode cX8_lastRead 17 = .ok (.baload, 1) := by decide +kernel
theorem dX8_lastRead_18 : decode cX8_lastRead 18 = .ok (.ifCond .eq 12, 3) := by decide +kernel
theorem dX8_lastRead_21 : decode cX8_lastRead 21 = .ok (.aload_n 0, 1) := by decide +kernel
theorem dX8_lastRead_22 : decode cX8_lastRead 22 = .ok (.getfield 53, 3) := by decide +kernel
theorem dX8_lastRead_25 : decode cX8_lastRead 25 = .ok (.iload_n 1, 1) := by decide +kernel
theorem dX8_lastRead_26 : decode cX8_lastRead 26 = .ok (.iaload, 1) := by decide +kernel
theorem dX8_lastRead_27 : decode cX8_lastRead 27 = .ok (.goto 6, 3) := by decide +kernel
theorem dX8_lastRead_30 : decode cX8_lastRead 30 = .ok (.sipush (-10005), 3) := by decide +kernel
theorem dX8_lastRead_33 : decode cX8_lastRead 33 = .ok (.ireturn, 1) := by decide +kernel
theorem dX8_check_0 : decode cX8_check 0 = .ok (.aload_n 0, 1) := by decide +kernel
theorem dX8_check_1 : decode cX8_check 1 = .ok (.iload_n 1, 1) := by decide +kernel
theorem dX8_check_2 : decode cX8_check 2 = .ok (.invokevirtual 126, 3) := by decide +kernel
theorem dX8_check_5 : decode cX8_check 5 = .ok (.ifCond .eq 7, 3) := by decide +kernel
theorem dX8_check_8 : decode cX8_check 8 = .ok (.sipush (-10001), 3) := by decide +kernel
theorem dX8_check_11 : decode cX8_check 11 = .ok (.ireturn, 1) := by decide +kernel
theorem dX8_check_12 : decode cX8_check 12 = .ok (.aload_n 0, 1) := by decide +kernel
theorem dX8_check_13 : decode cX8_check 13 = .ok (.getfield 22, 3) := by decide +kernel
theorem dX8_check_16 : decode cX8_check 16 = .ok (.iload_n 1, 1) := by decide +kernel
theorem dX8_check_17 : decode cX8_check 17 = .ok (.iaload, 1) := by decide +kernel
theorem dX8_check_18 : decode cX8_check 18 = .ok (.ifCond .le 9, 3) := by decide +kernel
theorem dX8_check_21 : decode cX8_check 21 = .ok (.sipush (-10003), 3) := by decide +kernel
theorem dX8_check_24 : decode cX8_check 24 = .ok (.goto 8, 3) := by decide +kernel
theorem dX8_check_27 : decode cX8_check 27 = .ok (.aload_n 0, 1) := by decide +kernel
theorem dX8_check_28 : decode cX8_check 28 = .ok (.iload_n 1, 1) := by decide +kernel
theorem dX8_check_29 : decode cX8_check 29 = .ok (.invokevirtual 116, 3) := by decide +kernel
theorem dX8_check_32 : decode cX8_check 32 = .ok (.ireturn, 1) := by decide +kernel
theorem dX8_fork_0 : decode cX8_fork 0 = .ok (.aload_n 0, 1) := by decide +kernel
theorem dX8_fork_1 : decode cX8_fork 1 = .ok (.iload_n 1, 1) := by decide +kernel
theorem dX8_fork_2 : decode cX8_fork 2 = .ok (.invokevirtual 133, 3) := by decide +kernel
theorem dX8_fork_5 : decode cX8_fork 5 = .ok (.ifCond .eq 7, 3) := by decide +kernel
theorem dX8_fork_8 : decode cX8_fork 8 = .ok (.sipush (-10001), 3) := by decide +kernel
theorem dX8_fork_11 : decode cX8_fork 11 = .ok (.ireturn, 1) := by decide +kernel
theorem dX8_fork_12 : decode cX8_fork 12 = .ok (.iload_n 2, 1) := by decide +kernel
theorem dX8_fork_13 : decode cX8_fork 13 = .ok (.iconst 1, 1) := by decide +kernel
theorem dX8_fork_14 : decode cX8_fork 14 = .ok (.iconst 1, 1) := by decide +kernel
theorem dX8_fork_15 : decode cX8_fork 15 = .ok (.aload_n 0, 1) := by decide +kernel
theorem dX8_fork_16 : decode cX8_fork 16 = .ok (.getfield 73, 3) := by decide +kernel
theorem dX8_fork_19 : decode cX8_fork 19 = .ok (.ishl, 1) := by decide +kernel
theorem dX8_fork_20 : decode cX8_fork 20 = .ok (.iconst 1, 1) := by decide +kernel
theorem dX8_fork_21 : decode cX8_fork 21 = .ok (.isub, 1) := by decide +kernel
theorem dX8_fork_22 : decode cX8_fork 22 = .ok (.invokestatic 83, 3) := by decide +kernel
theorem dX8_fork_25 : decode cX8_fork 25 = .ok (.ifCond .eq 15, 3) := by decide +kernel
theorem dX8_fork_28 : decode cX8_fork 28 = .ok (.iload_n 2, 1) := by decide +kernel
theorem dX8_fork_29 : decode cX8_fork 29 = .ok (.aload_n 0, 1) := by decide +kernel
theorem dX8_fork_30 : decode cX8_fork 30 = .ok (.iload_n 1, 1) := by decide +kernel
theorem dX8_fork_31 : decode cX8_fork 31 = .ok (.invokevirtual 136, 3) := by decide +kernel
theorem dX8_fork_34 : decode cX8_fork 34 = .ok (.iconst (-1), 1) := by decide +kernel
theorem dX8_fork_35 : decode cX8_fork 35 = .ok (.ixor, 1) := by decide +kernel
theorem dX8_fork_36 : decode cX8_fork 36 = .ok (.iand, 1) := by decide +kernel
theorem dX8_fork_37 : decode cX8_fork 37 = .ok (.ifCond .eq 7, 3) := by decide +kernel
theorem dX8_fork_40 : decode cX8_fork 40 = .ok (.sipush (-10002), 3) := by decide +kernel
theorem dX8_fork_43 : decode cX8_fork 43 = .ok (.ireturn, 1) := by decide +kernel
theorem dX8_fork_44 : decode cX8_fork 44 = .ok (.aload_n 0, 1) := by decide +kernel
theorem dX8_fork_45 : decode cX8_fork 45 = .ok (.getfield 77, 3) := by decide +kernel
theorem dX8_fork_48 : decode cX8_fork 48 = .ok (.bipush 6, 2) := by decide +kernel
theorem dX8_fork_50 : decode cX8_fork 50 = .ok (.if_icmp .ne 7, 3) := by decide +kernel
theorem dX8_fork_53 : decode cX8_fork 53 = .ok (.sipush (-10004), 3) := by decide +kernel
theorem dX8_fork_56 : decode cX8_fork 56 = .ok (.ireturn, 1) := by decide +kernel
theorem dX8_fork_57 : decode cX8_fork 57 = .ok (.iconst 0, 1) := by decide +kernel
theorem dX8_fork_58 : decode cX8_fork 58 = .ok (.istore_n 3, 1) := by decide +kernel
theorem dX8_fork_59 : decode cX8_fork 59 = .ok (.iload_n 3, 1) := by decide +kernel
theorem dX8_fork_60 : decode cX8_fork 60 = .ok (.bipush 30, 2) := by decide +kernel
theorem dX8_fork_62 : decode cX8_fork 62 = .ok (.if_icmp .ge 34, 3) := by decide +kernel
theorem dX8_fork_65 : decode cX8_fork 65 = .ok (.aload_n 0, 1) := by decide +kernel
theorem dX8_fork_66 : decode cX8_fork 66 = .ok (.getfield 7, 3) := by decide +kernel
theorem dX8_fork_69 : decode cX8_fork 69 = .ok (.bipush 30, 2) := by decide +kernel
theorem dX8_fork_71 : decode cX8_fork 71 = .ok (.aload_n 0, 1) := by decide +kernel
theorem dX8_fork_72 : decode cX8_fork 72 = .ok (.getfield 77, 3) := by decide +kernel
theorem dX8_fork_75 : decode cX8_fork 75 = .ok (.imul, 1) := by decide +kernel
theorem dX8_fork_76 : decode cX8_fork 76 = .ok (.iload_n 3, 1) := by decide +kernel
theorem dX8_fork_77 : decode cX8_fork 77 = .ok (.iadd, 1) := by decide +kernel
theorem dX8_fork_78 : decode cX8_fork 78 = .ok (.aload_n 0, 1) := by decide +kernel
theorem dX8_fork_79 : decode cX8_fork 79 = .ok (.getfield 7, 3) := by decide +kernel
theorem dX8_fork_82 : decode cX8_fork 82 = .ok (.bipush 30, 2) := by decide +kernel
theorem dX8_fork_84 : decode cX8_fork 84 = .ok (.iload_n 1, 1) := by decide +kernel
theorem dX8_fork_85 : decode cX8_fork 85 = .ok (.imul, 1) := by decide +kernel
theorem dX8_fork_86 : decode cX8_fork 86 = .ok (.iload_n 3, 1) := by decide +kernel
theorem dX8_fork_87 : decode cX8_fork 87 = .ok (.iadd, 1) := by decide +kernel
theorem dX8_fork_88 : decode cX8_fork 88 = .ok (.iaload, 1) := by decide +kernel
theorem dX8_fork_89 : decode cX8_fork 89 = .ok (.iastore, 1) := by decide +kernel
theorem dX8_fork_90 : decode cX8_fork 90 = .ok (.iinc 3 1, 3) := by decide +kernel
theorem dX8_fork_93 : decode cX8_fork 93 = .ok (.goto (-34), 3) := by decide +kernel
theorem dX8_fork_96 : decode cX8_fork 96 = .ok (.iconst 0, 1) := by decide +kernel
theorem dX8_fork_97 : decode cX8_fork 97 = .ok (.istore_n 3, 1) := by decide +kernel
theorem dX8_fork_98 : decode cX8_fork 98 = .ok (.iload_n 3, 1) := by decide +kernel
theorem dX8_fork_99 : decode cX8_fork 99 = .ok (.sipush 150, 3) := by decide +kernel
theorem dX8_fork_102 : decode cX8_fork 102 = .ok (.if_icmp .ge 36, 3) := by decide +kernel
theorem dX8_fork_105 : decode cX8_fork 105 = .ok (.aload_n 0, 1) := by decide +kernel
theorem dX8_fork_106 : decode cX8_fork 106 = .ok (.getfield 16, 3) := by decide +kernel
theorem dX8_fork_109 : decode cX8_fork 109 = .ok (.sipush 150, 3) := by decide +kernel
theorem dX8_fork_112 : decode cX8_fork 112 = .ok (.aload_n 0, 1) := by decide +kernel
theorem dX8_fork_113 : decode cX8_fork 113 = .ok (.getfield 77, 3) := by decide +kernel
theorem dX8_fork_116 : decode cX8_fork 116 = .ok (.imul, 1) := by decide +kernel
theorem dX8_fork_117 : decode cX8_fork 117 = .ok (.iload_n 3, 1) := by decide +kernel
theorem dX8_fork_118 : decode cX8_fork 118 = .ok (.iadd, 1) := by decide +kernel
theorem dX8_fork_119 : decode cX8_fork 119 = .ok (.aload_n 0, 1) := by decide +kernel
theorem dX8_fork_120 : decode cX8_fork 120 = .ok (.getfield 16, 3) := by decide +kernel
theorem dX8_fork_123 : decode cX8_fork 123 = .ok (.sipush 150, 3) := by decide +kernel
theorem dX8_fork_126 : decode cX8_fork 126 = .ok (.iload_n 1, 1) := by decide +kernel
theorem dX8_fork_127 : decode cX8_fork 127 = .ok (.imul, 1) := by decide +kernel
theorem dX8_fork_128 : decode cX8_fork 128 = .ok (.iload_n 3, 1) := by decide +kernel
theorem dX8_fork_129 : decode cX8_fork 129 = .ok (.iadd, 1) := by decide +kernel
theorem dX8_fork_130 : decode cX8_fork 130 = .ok (.iaload, 1) := by decide +kernel
theorem dX8_fork_131 : decode cX8_fork 131 = .ok (.iastore, 1) := by decide +kernel
theorem dX8_fork_132 : decode cX8_fork 132 = .ok (.iinc 3 1, 3) := by decide +kernel
theorem dX8_fork_135 : decode cX8_fork 135 = .ok (.goto (-37), 3) := by decide +kernel
theorem dX8_fork_138 : decode cX8_fork 138 = .ok (.aload_n 0, 1) := by decide +kernel
theorem dX8_fork_139 : decode cX8_fork 139 = .ok (.getfield 13, 3) := by decide +kernel
theorem dX8_fork_142 : decode cX8_fork 142 = .ok (.aload_n 0, 1) := by decide +kernel
theorem dX8_fork_143 : decode cX8_fork 143 = .ok (.getfield 77, 3) := by decide +kernel
theorem dX8_fork_146 : decode cX8_fork 146 = .ok (.aload_n 0, 1) := by decide +kernel
theorem dX8_fork_147 : decode cX8_fork 147 = .ok (.getfield 13, 3) := by decide +kernel
theorem dX8_fork_150 : decode cX8_fork 150 = .ok (.iload_n 1, 1) := by decide +kernel
theorem dX8_fork_151 : decode cX8_fork 151 = .ok (.iaload, 1) := by decide +kernel
theorem dX8_fork_152 : decode cX8_fork 152 = .ok (.iastore, 1) := by decide +kernel
theorem dX8_fork_153 : decode cX8_fork 153 = .ok (.iconst 0, 1) := by decide +kernel
theorem dX8_fork_154 : decode cX8_fork 154 = .ok (.istore_n 3, 1) := by decide +kernel
theorem dX8_fork_155 : decode cX8_fork 155 = .ok (.iload_n 3, 1) := by decide +kernel
theorem dX8_fork_156 : decode cX8_fork 156 = .ok (.aload_n 0, 1) := by decide +kernel
theorem dX8_fork_157 : decode cX8_fork 157 = .ok (.getfield 73, 3) := by decide +kernel
theorem dX8_fork_160 : decode cX8_fork 160 = .ok (.if_icmp .ge 37, 3) := by decide +kernel
theorem dX8_fork_163 : decode cX8_fork 163 = .ok (.aload_n 0, 1) := by decide +kernel
theorem dX8_fork_164 : decode cX8_fork 164 = .ok (.getfield 19, 3) := by decide +kernel
theorem dX8_fork_167 : decode cX8_fork 167 = .ok (.iload_n 3, 1) := by decide +kernel
theorem dX8_fork_168 : decode cX8_fork 168 = .ok (.iload_n 2, 1) := by decide +kernel
theorem dX8_fork_169 : decode cX8_fork 169 = .ok (.iload_n 3, 1) := by decide +kernel
theorem dX8_fork_170 : decode cX8_fork 170 = .ok (.ishr, 1) := by decide +kernel
theorem dX8_fork_171 : decode cX8_fork 171 = .ok (.iconst 1, 1) := by decide +kernel
theorem dX8_fork_172 : decode cX8_fork 172 = .ok (.iand, 1) := by decide +kernel
theorem dX8_fork_173 : decode cX8_fork 173 = .ok (.iconst 1, 1) := by decide +kernel
theorem dX8_fork_174 : decode cX8_fork 174 = .ok (.if_icmp .ne 10, 3) := by decide +kernel
theorem dX8_fork_177 : decode cX8_fork 177 = .ok (.aload_n 0, 1) := by decide +kernel
theorem dX8_fork_178 : decode cX8_fork 178 = .ok (.getfield 77, 3) := by decide +kernel
theorem dX8_fork_181 : decode cX8_fork 181 = .ok (.goto 9, 3) := by decide +kernel
theorem dX8_fork_184 : decode cX8_fork 184 = .ok (.aload_n 0, 1) := by decide +kernel
theorem dX8_fork_185 : decode cX8_fork 185 = .ok (.getfield 19, 3) := by decide +kernel
theorem dX8_fork_188 : decode cX8_fork 188 = .ok (.iload_n 3, 1) := by decide +kernel
theorem dX8_fork_189 : decode cX8_fork 189 = .ok (.iaload, 1) := by decide +kernel
theorem dX8_fork_190 : decode cX8_fork 190 = .ok (.iastore, 1) := by decide +kernel
theorem dX8_fork_191 : decode cX8_fork 191 = .ok (.iinc 3 1, 3) := by decide +kernel
theorem dX8_fork_194 : decode cX8_fork 194 = .ok (.goto (-39), 3) := by decide +kernel
theorem dX8_fork_197 : decode cX8_fork 197 = .ok (.aload_n 0, 1) := by decide +kernel
theorem dX8_fork_198 : decode cX8_fork 198 = .ok (.dup, 1) := by decide +kernel
theorem dX8_fork_199 : decode cX8_fork 199 = .ok (.getfield 77, 3) := by decide +kernel
theorem dX8_fork_202 : decode cX8_fork 202 = .ok (.iconst 1, 1) := by decide +kernel
theorem dX8_fork_203 : decode cX8_fork 203 = .ok (.iadd, 1) := by decide +kernel
theorem dX8_fork_204 : decode cX8_fork 204 = .ok (.putfield 77, 3) := by decide +kernel
theorem dX8_fork_207 : decode cX8_fork 207 = .ok (.aload_n 0, 1) := by decide +kernel
theorem dX8_fork_208 : decode cX8_fork 208 = .ok (.getfield 77, 3) := by decide +kernel
theorem dX8_fork_211 : decode cX8_fork 211 = .ok (.iconst 1, 1) := by decide +kernel
theorem dX8_fork_212 : decode cX8_fork 212 = .ok (.isub, 1) := by decide +kernel
theorem dX8_fork_213 : decode cX8_fork 213 = .ok (.ireturn, 1) := by decide +kernel
theorem dX8_attached_0 : decode cX8_attached 0 = .ok (.iconst 0, 1) := by decide +kernel
theorem dX8_attached_1 : decode cX8_attached 1 = .ok (.istore_n 2, 1) := by decide +kernel
theorem dX8_attached_2 : decode cX8_attached 2 = .ok (.iconst 0, 1) := by decide +kernel
theorem dX8_attached_3 : decode cX8_attached 3 = .ok (.istore_n 3, 1) := by decide +kernel
theorem dX8_attached_4 : decode cX8_attached 4 = .ok (.iload_n 3, 1) := by decide +kernel
theorem dX8_attached_5 : decode cX8_attached 5 = .ok (.aload_n 0, 1) := by decide +kernel
theorem dX8_attached_6 : decode cX8_attached 6 = .ok (.getfield 73, 3) := by decide +kernel
theorem dX8_attached_9 : decode cX8_attached 9 = .ok (.if_icmp .ge 29, 3) := by decide +kernel
theorem dX8_attached_12 : decode cX8_attached 12 = .ok (.iload_n 2, 1) := by decide +kernel
theorem dX8_attached_13 : decode cX8_attached 13 = .ok (.aload_n 0, 1) := by decide +kernel
theorem dX8_attached_14 : decode cX8_attached 14 = .ok (.getfield 19, 3) := by decide +kernel
theorem dX8_attached_17 : decode cX8_attached 17 = .ok (.iload_n 3, 1) := by decide +kernel
theorem dX8_attached_18 : decode cX8_attached 18 = .ok (.iaload, 1) := by decide +kernel
theorem dX8_attached_19 : decode cX8_attached 19 = .ok (.iload_n 1, 1) := by decide +kernel
theorem dX8_attached_20 : decode cX8_attached 20 = .ok (.if_icmp .ne 9, 3) := by decide +kernel
theorem dX8_attached_23 : decode cX8_attached 23 = .ok (.iconst 1, 1) := by decide +kernel
theorem dX8_attached_24 : decode cX8_attached 24 = .ok (.iload_n 3, 1) := by decide +kernel
theorem dX8_attached_25 : decode cX8_attached 25 = .ok (.ishl, 1) := by decide +kernel
theorem dX8_attached_26 : decode cX8_attached 26 = .ok (.goto 4, 3) := by decide +kernel
theorem dX8_attached_29 : decode cX8_attached 29 = .ok (.iconst 0, 1) := by decide +kernel
theorem dX8_attached_30 : decode cX8_attached 30 = .ok (.ior, 1) := by decide +kernel
theorem dX8_attached_31 : decode cX8_attached 31 = .ok (.istore_n 2, 1) := by decide +kernel
theorem dX8_attached_32 : decode cX8_attached 32 = .ok (.iinc 3 1, 3) := by decide +kernel
theorem dX8_attached_35 : decode cX8_attached 35 = .ok (.goto (-31), 3) := by decide +kernel
theorem dX8_attached_38 : decode cX8_attached 38 = .ok (.iload_n 2, 1) := by decide +kernel
theorem dX8_attached_39 : decode cX8_attached 39 = .ok (.ireturn, 1) := by decide +kernel
theorem dX8_attach_0 : decode cX8_attach 0 = .ok (.aload_n 0, 1) := by decide +kernel
theorem dX8_attach_1 : decode cX8_attach 1 = .ok (.iload_n 1, 1) := by decide +kernel
theorem dX8_attach_2 : decode cX8_attach 2 = .ok (.invokevirtual 126, 3) := by decide +kernel
theorem dX8_attach_5 : decode cX8_attach 5 = .ok (.ifCond .ne 11, 3) := by decide +kernel
theorem dX8_attach_8 : decode cX8_attach 8 = .ok (.aload_n 0, 1) := by decide +kernel
theorem dX8_attach_9 : decode cX8_attach 9 = .ok (.iload_n 2, 1) := by decide +kernel
theorem dX8_attach_10 : decode cX8_attach 10 = .ok (.invokevirtual 133, 3) := by decide +kernel
theorem dX8_attach_13 : decode cX8_attach 13 = .ok (.ifCond .eq 7, 3) := by decide +kernel
theorem dX8_attach_16 : decode cX8_attach 16 = .ok (.sipush (-10001), 3) := by decide +kernel
theorem dX8_attach_19 : decode cX8_attach 19 = .ok (.ireturn, 1) := by decide +kernel
theorem dX8_attach_20 : decode cX8_attach 20 = .ok (.aload_n 0, 1) := by decide +kernel
theorem dX8_attach_21 : decode cX8_attach 21 = .ok (.getfield 19, 3) := by decide +kernel
theorem dX8_attach_24 : decode cX8_attach 24 = .ok (.iload_n 1, 1) := by decide +kernel
theorem dX8_attach_25 : decode cX8_attach 25 = .ok (.iaload, 1) := by decide +kernel
theorem dX8_attach_26 : decode cX8_attach 26 = .ok (.istore_n 3, 1) := by decide +kernel
theorem dX8_attach_27 : decode cX8_attach 27 = .ok (.aload_n 0, 1) := by decide +kernel
theorem dX8_attach_28 : decode cX8_attach 28 = .ok (.getfield 19, 3) := by decide +kernel
theorem dX8_attach_31 : decode cX8_attach 31 = .ok (.iload_n 1, 1) := by decide +kernel
theorem dX8_attach_32 : decode cX8_attach 32 = .ok (.iload_n 2, 1) := by decide +kernel
theorem dX8_attach_33 : decode cX8_attach 33 = .ok (.iastore, 1) := by decide +kernel
theorem dX8_attach_34 : decode cX8_attach 34 = .ok (.iload_n 3, 1) := by decide +kernel
theorem dX8_attach_35 : decode cX8_attach 35 = .ok (.ireturn, 1) := by decide +kernel
theorem dX8_rollBack_0 : decode cX8_rollBack 0 = .ok (.aload_n 0, 1) := by decide +kernel
theorem dX8_rollBack_1 : decode cX8_rollBack 1 = .ok (.iload_n 1, 1) := by decide +kernel
theorem dX8_rollBack_2 : decode cX8_rollBack 2 = .ok (.invokevirtual 133, 3) := by decide +kernel
theorem dX8_rollBack_5 : decode cX8_rollBack 5 = .ok (.ifCond .eq 7, 3) := by decide +kernel
theorem dX8_rollBack_8 : decode cX8_rollBack 8 = .ok (.sipush (-10001), 3) := by decide +kernel
theorem dX8_rollBack_11 : decode cX8_rollBack 11 = .ok (.ireturn, 1) := by decide +kernel
theorem dX8_rollBack_12 : decode cX8_rollBack 12 = .ok (.iload_n 2, 1) := by decide +kernel
theorem dX8_rollBack_13 : decode cX8_rollBack 13 = .ok (.iconst 1, 1) := by decide +kernel
theorem dX8_rollBack_14 : decode cX8_rollBack 14 = .ok (.iconst 5, 1) := by decide +kernel
theorem dX8_rollBack_15 : decode cX8_rollBack 15 = .ok (.invokestatic 83, 3) := by decide +kernel
theorem dX8_rollBack_18 : decode cX8_rollBack 18 = .ok (.ifCond .ne 7, 3) := by decide +kernel
theorem dX8_rollBack_21 : decode cX8_rollBack 21 = .ok (.sipush (-10002), 3) := by decide +kernel
theorem dX8_rollBack_24 : decode cX8_rollBack 24 = .ok (.ireturn, 1) := by decide +kernel
theorem dX8_rollBack_25 : decode cX8_rollBack 25 = .ok (.aload_n 0, 1) := by decide +kernel
theorem dX8_rollBack_26 : decode cX8_rollBack 26 = .ok (.getfield 13, 3) := by decide +kernel
theorem dX8_rollBack_29 : decode cX8_rollBack 29 = .ok (.iload_n 1, 1) := by decide +kernel
theorem dX8_rollBack_30 : decode cX8_rollBack 30 = .ok (.iaload, 1) := by decide +kernel
theorem dX8_rollBack_31 : decode cX8_rollBack 31 = .ok (.iload_n 2, 1) := by decide +kernel
theorem dX8_rollBack_32 : decode cX8_rollBack 32 = .ok (.if_icmp .ge 7, 3) := by decide +kernel
theorem dX8_rollBack_35 : decode cX8_rollBack 35 = .ok (.sipush (-10005), 3) := by decide +kernel
theorem dX8_rollBack_38 : decode cX8_rollBack 38 = .ok (.ireturn, 1) := by decide +kernel
theorem dX8_rollBack_39 : decode cX8_rollBack 39 = .ok (.aload_n 0, 1) := by decide +kernel
theorem dX8_rollBack_40 : decode cX8_rollBack 40 = .ok (.getfield 13, 3) := by decide +kernel
theorem dX8_rollBack_43 : decode cX8_rollBack 43 = .ok (.iload_n 1, 1) := by decide +kernel
theorem dX8_rollBack_44 : decode cX8_rollBack 44 = .ok (.dup2, 1) := by decide +kernel
theorem dX8_rollBack_45 : decode cX8_rollBack 45 = .ok (.iaload, 1) := by decide +kernel
theorem dX8_rollBack_46 : decode cX8_rollBack 46 = .ok (.iload_n 2, 1) := by decide +kernel
theorem dX8_rollBack_47 : decode cX8_rollBack 47 = .ok (.isub, 1) := by decide +kernel
theorem dX8_rollBack_48 : decode cX8_rollBack 48 = .ok (.iastore, 1) := by decide +kernel
theorem dX8_rollBack_49 : decode cX8_rollBack 49 = .ok (.iconst 0, 1) := by decide +kernel
theorem dX8_rollBack_50 : decode cX8_rollBack 50 = .ok (.istore_n 3, 1) := by decide +kernel
theorem dX8_rollBack_51 : decode cX8_rollBack 51 = .ok (.iload_n 3, 1) := by decide +kernel
theorem dX8_rollBack_52 : decode cX8_rollBack 52 = .ok (.bipush 30, 2) := by decide +kernel
theorem dX8_rollBack_54 : decode cX8_rollBack 54 = .ok (.if_icmp .ge 42, 3) := by decide +kernel
theorem dX8_rollBack_57 : decode cX8_rollBack 57 = .ok (.aload_n 0, 1) := by decide +kernel
theorem dX8_rollBack_58 : decode cX8_rollBack 58 = .ok (.getfield 7, 3) := by decide +kernel
theorem dX8_rollBack_61 : decode cX8_rollBack 61 = .ok (.bipush 30, 2) := by decide +kernel
theorem dX8_rollBack_63 : decode cX8_rollBack 63 = .ok (.iload_n 1, 1) := by decide +kernel
theorem dX8_rollBack_64 : decode cX8_rollBack 64 = .ok (.imul, 1) := by decide +kernel
theorem dX8_rollBack_65 : decode cX8_rollBack 65 = .ok (.iload_n 3, 1) := by decide +kernel
theorem dX8_rollBack_66 : decode cX8_rollBack 66 = .ok (.iadd, 1) := by decide +kernel
theorem dX8_rollBack_67 : decode cX8_rollBack 67 = .ok (.aload_n 0, 1) := by decide +kernel
theorem dX8_rollBack_68 : decode cX8_rollBack 68 = .ok (.getfield 16, 3) := by decide +kernel
theorem dX8_rollBack_71 : decode cX8_rollBack 71 = .ok (.sipush 150, 3) := by decide +kernel
theorem dX8_rollBack_74 : decode cX8_rollBack 74 = .ok (.iload_n 1, 1) := by decide +kernel
theorem dX8_rollBack_75 : decode cX8_rollBack 75 = .ok (.imul, 1) := by decide +kernel
theorem dX8_rollBack_76 : decode cX8_rollBack 76 = .ok (.bipush 30, 2) := by decide +kernel
theorem dX8_rollBack_78 : decode cX8_rollBack 78 = .ok (.aload_n 0, 1) := by decide +kernel
theorem dX8_rollBack_79 : decode cX8_rollBack 79 = .ok (.getfield 13, 3) := by decide +kernel
theorem dX8_rollBack_82 : decode cX8_rollBack 82 = .ok (.iload_n 1, 1) := by decide +kernel
theorem dX8_rollBack_83 : decode cX8_rollBack 83 = .ok (.iaload, 1) := by decide +kernel
theorem dX8_rollBack_84 : decode cX8_rollBack 84 = .ok (.imul, 1) := by decide +kernel
theorem dX8_rollBack_85 : decode cX8_rollBack 85 = .ok (.iadd, 1) := by decide +kernel
theorem dX8_rollBack_86 : decode cX8_rollBack 86 = .ok (.iload_n 3, 1) := by decide +kernel
theorem dX8_rollBack_87 : decode cX8_rollBack 87 = .ok (.iadd, 1) := by decide +kernel
theorem dX8_rollBack_88 : decode cX8_rollBack 88 = .ok (.iaload, 1) := by decide +kernel
theorem dX8_rollBack_89 : decode cX8_rollBack 89 = .ok (.iastore, 1) := by decide +kernel
theorem dX8_rollBack_90 : decode cX8_rollBack 90 = .ok (.iinc 3 1, 3) := by decide +kernel
theorem dX8_rollBack_93 : decode cX8_rollBack 93 = .ok (.goto (-42), 3) := by decide +kernel
theorem dX8_rollBack_96 : decode cX8_rollBack 96 = .ok (.aload_n 0, 1) := by decide +kernel
theorem dX8_rollBack_97 : decode cX8_rollBack 97 = .ok (.getfield 13, 3) := by decide +kernel
theorem dX8_rollBack_100 : decode cX8_rollBack 100 = .ok (.iload_n 1, 1) := by decide +kernel
theorem dX8_rollBack_101 : decode cX8_rollBack 101 = .ok (.iaload, 1) := by decide +kernel
theorem dX8_rollBack_102 : decode cX8_rollBack 102 = .ok (.ireturn, 1) := by decide +kernel
theorem dX8_mix_0 : decode cX8_mix 0 = .ok (.aload_n 0, 1) := by decide +kernel
theorem dX8_mix_1 : decode cX8_mix 1 = .ok (.iload_n 1, 1) := by decide +kernel
theorem dX8_mix_2 : decode cX8_mix 2 = .ok (.invokevirtual 133, 3) := by decide +kernel
theorem dX8_mix_5 : decode cX8_mix 5 = .ok (.ifCond .ne 11, 3) := by decide +kernel
theorem dX8_mix_8 : decode cX8_mix 8 = .ok (.aload_n 0, 1) := by decide +kernel
theorem dX8_mix_9 : decode cX8_mix 9 = .ok (.iload_n 2, 1) := by decide +kernel
theorem dX8_mix_10 : decode cX8_mix 10 = .ok (.invokevirtual 133, 3) := by decide +kernel
theorem dX8_mix_13 : decode cX8_mix 13 = .ok (.ifCond .eq 7, 3) := by decide +kernel
theorem dX8_mix_16 : decode cX8_mix 16 = .ok (.sipush (-10001), 3) := by decide +kernel
theorem dX8_mix_19 : decode cX8_mix 19 = .ok (.ireturn, 1) := by decide +kernel
theorem dX8_mix_20 : decode cX8_mix 20 = .ok (.iload_n 1, 1) := by decide +kernel
theorem dX8_mix_21 : decode cX8_mix 21 = .ok (.iload_n 2, 1) := by decide +kernel
theorem dX8_mix_22 : decode cX8_mix 22 = .ok (.if_icmp .ne 7, 3) := by decide +kernel
theorem dX8_mix_25 : decode cX8_mix 25 = .ok (.sipush (-10002), 3) := by decide +kernel
theorem dX8_mix_28 : decode cX8_mix 28 = .ok (.ireturn, 1) := by decide +kernel
theorem dX8_mix_29 : decode cX8_mix 29 = .ok (.iconst 0, 1) := by decide +kernel
theorem dX8_mix_30 : decode cX8_mix 30 = .ok (.istore_n 3, 1) := by decide +kernel
theorem dX8_mix_31 : decode cX8_mix 31 = .ok (.iconst 0, 1) := by decide +kernel
theorem dX8_mix_32 : decode cX8_mix 32 = .ok (.istore 4, 2) := by decide +kernel
theorem dX8_mix_34 : decode cX8_mix 34 = .ok (.iload 4, 2) := by decide +kernel
theorem dX8_mix_36 : decode cX8_mix 36 = .ok (.aload_n 0, 1) := by decide +kernel
theorem dX8_mix_37 : decode cX8_mix 37 = .ok (.getfield 73, 3) := by decide +kernel
theorem dX8_mix_40 : decode cX8_mix 40 = .ok (.if_icmp .ge 126, 3) := by decide +kernel
theorem dX8_mix_43 : decode cX8_mix 43 = .ok (.aload_n 0, 1) := by decide +kernel
theorem dX8_mix_44 : decode cX8_mix 44 = .ok (.getfield 7, 3) := by decide +kernel
theorem dX8_mix_47 : decode cX8_mix 47 = .ok (.iload_n 2, 1) := by decide +kernel
theorem dX8_mix_48 : decode cX8_mix 48 = .ok (.iload 4, 2) := by decide +kernel
theorem dX8_mix_50 : decode cX8_mix 50 = .ok (.invokestatic 94, 3) := by decide +kernel
theorem dX8_mix_53 : decode cX8_mix 53 = .ok (.iload 4, 2) := by decide +kernel
theorem dX8_mix_55 : decode cX8_mix 55 = .ok (.iadd, 1) := by decide +kernel
theorem dX8_mix_56 : decode cX8_mix 56 = .ok (.iaload, 1) := by decide +kernel
theorem dX8_mix_57 : decode cX8_mix 57 = .ok (.aload_n 0, 1) := by decide +kernel
theorem dX8_mix_58 : decode cX8_mix 58 = .ok (.getfield 7, 3) := by decide +kernel
theorem dX8_mix_61 : decode cX8_mix 61 = .ok (.iload_n 1, 1) := by decide +kernel
theorem dX8_mix_62 : decode cX8_mix 62 = .ok (.iload 4, 2) := by decide +kernel
theorem dX8_mix_64 : decode cX8_mix 64 = .ok (.invokestatic 94, 3) := by decide +kernel
theorem dX8_mix_67 : decode cX8_mix 67 = .ok (.iload 4, 2) := by decide +kernel
theorem dX8_mix_69 : decode cX8_mix 69 = .ok (.iadd, 1) := by decide +kernel
theorem dX8_mix_70 : decode cX8_mix 70 = .ok (.iaload, 1) := by decide +kernel
theorem dX8_mix_71 : decode cX8_mix 71 = .ok (.if_icmp .le 60, 3) := by decide +kernel
theorem dX8_mix_74 : decode cX8_mix 74 = .ok (.aload_n 0, 1) := by decide +kernel
theorem dX8_mix_75 : decode cX8_mix 75 = .ok (.aload_n 0, 1) := by decide +kernel
theorem dX8_mix_76 : decode cX8_mix 76 = .ok (.getfield 7, 3) := by decide +kernel
theorem dX8_mix_79 : decode cX8_mix 79 = .ok (.iload_n 2, 1) := by decide +kernel
theorem dX8_mix_80 : decode cX8_mix 80 = .ok (.iload 4, 2) := by decide +kernel
theorem dX8_mix_82 : decode cX8_mix 82 = .ok (.invokestatic 94, 3) := by decide +kernel
theorem dX8_mix_85 : decode cX8_mix 85 = .ok (.aload_n 0, 1) := by decide +kernel
theorem dX8_mix_86 : decode cX8_mix 86 = .ok (.getfield 7, 3) := by decide +kernel
theorem dX8_mix_89 : decode cX8_mix 89 = .ok (.iload_n 1, 1) := by decide +kernel
theorem dX8_mix_90 : decode cX8_mix 90 = .ok (.iload 4, 2) := by decide +kernel
theorem dX8_mix_92 : decode cX8_mix 92 = .ok (.invokestatic 94, 3) := by decide +kernel
theorem dX8_mix_95 : decode cX8_mix 95 = .ok (.invokevirtual 108, 3) := by decide +kernel
theorem dX8_mix_98 : decode cX8_mix 98 = .ok (.aload_n 0, 1) := by decide +kernel
theorem dX8_mix_99 : decode cX8_mix 99 = .ok (.getfield 7, 3) := by decide +kernel
theorem dX8_mix_102 : decode cX8_mix 102 = .ok (.bipush 30, 2) := by decide +kernel
theorem dX8_mix_104 : decode cX8_mix 104 = .ok (.iload_n 1, 1) := by decide +kernel
theorem dX8_mix_105 : decode cX8_mix 105 = .ok (.imul, 1) := by decide +kernel
theorem dX8_mix_106 : decode cX8_mix 106 = .ok (.bipush 25, 2) := by decide +kernel
theorem dX8_mix_108 : decode cX8_mix 108 = .ok (.iadd, 1) := by decide +kernel
theorem dX8_mix_109 : decode cX8_mix 109 = .ok (.iload 4, 2) := by decide +kernel
theorem dX8_mix_111 : decode cX8_mix 111 = .ok (.iadd, 1) := by decide +kernel
theorem dX8_mix_112 : decode cX8_mix 112 = .ok (.aload_n 0, 1) := by decide +kernel
theorem dX8_mix_113 : decode cX8_mix 113 = .ok (.getfield 7, 3) := by decide +kernel
theorem dX8_mix_116 : decode cX8_mix 116 = .ok (.bipush 30, 2) := by decide +kernel
theorem dX8_mix_118 : decode cX8_mix 118 = .ok (.iload_n 2, 1) := by decide +kernel
theorem dX8_mix_119 : decode cX8_mix 119 = .ok (.imul, 1) := by decide +kernel
theorem dX8_mix_120 : decode cX8_mix 120 = .ok (.bipush 25, 2) := by decide +kernel
theorem dX8_mix_122 : decode cX8_mix 122 = .ok (.iadd, 1) := by decide +kernel
theorem dX8_mix_123 : decode cX8_mix 123 = .ok (.iload 4, 2) := by decide +kernel
theorem dX8_mix_125 : decode cX8_mix 125 = .ok (.iadd, 1) := by decide +kernel
theorem dX8_mix_126 : decode cX8_mix 126 = .ok (.iaload, 1) := by decide +kernel
theorem dX8_mix_127 : decode cX8_mix 127 = .ok (.iastore, 1) := by decide +kernel
theorem dX8_mix_128 : decode cX8_mix 128 = .ok (.iinc 3 1, 3) := by decide +kernel
theorem dX8_mix_131 : decode cX8_mix 131 = .ok (.aload_n 0, 1) := by decide +kernel
theorem dX8_mix_132 : decode cX8_mix 132 = .ok (.getfield 19, 3) := by decide +kernel
theorem dX8_mix_135 : decode cX8_mix 135 = .ok (.iload 4, 2) := by decide +kernel
theorem dX8_mix_137 : decode cX8_mix 137 = .ok (.aload_n 0, 1) := by decide +kernel
theorem dX8_mix_138 : decode cX8_mix 138 = .ok (.getfield 19, 3) := by decide +kernel
theorem dX8_mix_141 : decode cX8_mix 141 = .ok (.iload 4, 2) := by decide +kernel
theorem dX8_mix_143 : decode cX8_mix 143 = .ok (.iaload, 1) := by decide +kernel
theorem dX8_mix_144 : decode cX8_mix 144 = .ok (.iload_n 2, 1) := by decide +kernel
theorem dX8_mix_145 : decode cX8_mix 145 = .ok (.if_icmp .ne 7, 3) := by decide +kernel
theorem dX8_mix_148 : decode cX8_mix 148 = .ok (.iload_n 1, 1) := by decide +kernel
theorem dX8_mix_149 : decode cX8_mix 149 = .ok (.goto 10, 3) := by decide +kernel
theorem dX8_mix_152 : decode cX8_mix 152 = .ok (.aload_n 0, 1) := by decide +kernel
theorem dX8_mix_153 : decode cX8_mix 153 = .ok (.getfield 19, 3) := by decide +kernel
theorem dX8_mix_156 : decode cX8_mix 156 = .ok (.iload 4, 2) := by decide +kernel
theorem dX8_mix_158 : decode cX8_mix 158 = .ok (.iaload, 1) := by decide +kernel
theorem dX8_mix_159 : decode cX8_mix 159 = .ok (.iastore, 1) := by decide +kernel
theorem dX8_mix_160 : decode cX8_mix 160 = .ok (.iinc 4 1, 3) := by decide +kernel
theorem dX8_mix_163 : decode cX8_mix 163 = .ok (.goto (-129), 3) := by decide +kernel
theorem dX8_mix_166 : decode cX8_mix 166 = .ok (.aload_n 0, 1) := by decide +kernel
theorem dX8_mix_167 : decode cX8_mix 167 = .ok (.getfield 13, 3) := by decide +kernel
theorem dX8_mix_170 : decode cX8_mix 170 = .ok (.iload_n 1, 1) := by decide +kernel
theorem dX8_mix_171 : decode cX8_mix 171 = .ok (.iconst 0, 1) := by decide +kernel
theorem dX8_mix_172 : decode cX8_mix 172 = .ok (.iastore, 1) := by decide +kernel
theorem dX8_mix_173 : decode cX8_mix 173 = .ok (.iload_n 3, 1) := by decide +kernel
theorem dX8_mix_174 : decode cX8_mix 174 = .ok (.ireturn, 1) := by decide +kernel
theorem dX8_sendLetter_0 : decode cX8_sendLetter 0 = .ok (.aload_n 0, 1) := by decide +kernel
theorem dX8_sendLetter_1 : decode cX8_sendLetter 1 = .ok (.iload_n 1, 1) := by decide +kernel
theorem dX8_sendLetter_2 : decode cX8_sendLetter 2 = .ok (.invokevirtual 126, 3) := by decide +kernel
theorem dX8_sendLetter_5 : decode cX8_sendLetter 5 = .ok (.ifCond .ne 11, 3) := by decide +kernel
theorem dX8_sendLetter_8 : decode cX8_sendLetter 8 = .ok (.aload_n 0, 1) := by decide +kernel
theorem dX8_sendLetter_9 : decode cX8_sendLetter 9 = .ok (.iload_n 2, 1) := by decide +kernel
theorem dX8_sendLetter_10 : decode cX8_sendLetter 10 = .ok (.invokevirtual 126, 3) := by decide +kernel
theorem dX8_sendLetter_13 : decode cX8_sendLetter 13 = .ok (.ifCond .eq 7, 3) := by decide +kernel
theorem dX8_sendLetter_16 : decode cX8_sendLetter 16 = .ok (.sipush (-10001), 3) := by decide +kernel
theorem dX8_sendLetter_19 : decode cX8_sendLetter 19 = .ok (.ireturn, 1) := by decide +kernel
theorem dX8_sendLetter_20 : decode cX8_sendLetter 20 = .ok (.iload_n 1, 1) := by decide +kernel
theorem dX8_sendLetter_21 : decode cX8_sendLetter 21 = .ok (.iload_n 2, 1) := by decide +kernel
theorem dX8_sendLetter_22 : decode cX8_sendLetter 22 = .ok (.if_icmp .ne 7, 3) := by decide +kernel
theorem dX8_sendLetter_25 : decode cX8_sendLetter 25 = .ok (.sipush (-10002), 3) := by decide +kernel
theorem dX8_sendLetter_28 : decode cX8_sendLetter 28 = .ok (.ireturn, 1) := by decide +kernel
theorem dX8_sendLetter_29 : decode cX8_sendLetter 29 = .ok (.aload_n 0, 1) := by decide +kernel
theorem dX8_sendLetter_30 : decode cX8_sendLetter 30 = .ok (.getfield 56, 3) := by decide +kernel
theorem dX8_sendLetter_33 : decode cX8_sendLetter 33 = .ok (.iload_n 2, 1) := by decide +kernel
theorem dX8_sendLetter_34 : decode cX8_sendLetter 34 = .ok (.iaload, 1) := by decide +kernel
theorem dX8_sendLetter_35 : decode cX8_sendLetter 35 = .ok (.iconst 4, 1) := by decide +kernel
theorem dX8_sendLetter_36 : decode cX8_sendLetter 36 = .ok (.if_icmp .ne 7, 3) := by decide +kernel
theorem dX8_sendLetter_39 : decode cX8_sendLetter 39 = .ok (.sipush (-10004), 3) := by decide +kernel
theorem dX8_sendLetter_42 : decode cX8_sendLetter 42 = .ok (.ireturn, 1) := by decide +kernel
theorem dX8_sendLetter_43 : decode cX8_sendLetter 43 = .ok (.aload_n 0, 1) := by decide +kernel
theorem dX8_sendLetter_44 : decode cX8_sendLetter 44 = .ok (.aload_n 0, 1) := by decide +kernel
theorem dX8_sendLetter_45 : decode cX8_sendLetter 45 = .ok (.getfield 38, 3) := by decide +kernel
theorem dX8_sendLetter_48 : decode cX8_sendLetter 48 = .ok (.iconst 5, 1) := by decide +kernel
theorem dX8_sendLetter_49 : decode cX8_sendLetter 49 = .ok (.iload_n 1, 1) := by decide +kernel
theorem dX8_sendLetter_50 : decode cX8_sendLetter 50 = .ok (.imul, 1) := by decide +kernel
theorem dX8_sendLetter_51 : decode cX8_sendLetter 51 = .ok (.aload_n 0, 1) := by decide +kernel
theorem dX8_sendLetter_52 : decode cX8_sendLetter 52 = .ok (.getfield 59, 3) := by decide +kernel
theorem dX8_sendLetter_55 : decode cX8_sendLetter 55 = .ok (.bipush 20, 2) := by decide +kernel
theorem dX8_sendLetter_57 : decode cX8_sendLetter 57 = .ok (.iload_n 2, 1) := by decide +kernel
theorem dX8_sendLetter_58 : decode cX8_sendLetter 58 = .ok (.imul, 1) := by decide +kernel
theorem dX8_sendLetter_59 : decode cX8_sendLetter 59 = .ok (.iconst 5, 1) := by decide +kernel
theorem dX8_sendLetter_60 : decode cX8_sendLetter 60 = .ok (.aload_n 0, 1) := by decide +kernel
theorem dX8_sendLetter_61 : decode cX8_sendLetter 61 = .ok (.getfield 56, 3) := by decide +kernel
theorem dX8_sendLetter_64 : decode cX8_sendLetter 64 = .ok (.iload_n 2, 1) := by decide +kernel
theorem dX8_sendLetter_65 : decode cX8_sendLetter 65 = .ok (.iaload, 1) := by decide +kernel
theorem dX8_sendLetter_66 : decode cX8_sendLetter 66 = .ok (.imul, 1) := by decide +kernel
theorem dX8_sendLetter_67 : decode cX8_sendLetter 67 = .ok (.iadd, 1) := by decide +kernel
theorem dX8_sendLetter_68 : decode cX8_sendLetter 68 = .ok (.invokevirtual 108, 3) := by decide +kernel
theorem dX8_sendLetter_71 : decode cX8_sendLetter 71 = .ok (.aload_n 0, 1) := by decide +kernel
theorem dX8_sendLetter_72 : decode cX8_sendLetter 72 = .ok (.getfield 56, 3) := by decide +kernel
theorem dX8_sendLetter_75 : decode cX8_sendLetter 75 = .ok (.iload_n 2, 1) := by decide +kernel
theorem dX8_sendLetter_76 : decode cX8_sendLetter 76 = .ok (.dup2, 1) := by decide +kernel
theorem dX8_sendLetter_77 : decode cX8_sendLetter 77 = .ok (.iaload, 1) := by decide +kernel
theorem dX8_sendLetter_78 : decode cX8_sendLetter 78 = .ok (.iconst 1, 1) := by decide +kernel
theorem dX8_sendLetter_79 : decode cX8_sendLetter 79 = .ok (.iadd, 1) := by decide +kernel
theorem dX8_sendLetter_80 : decode cX8_sendLetter 80 = .ok (.iastore, 1) := by decide +kernel
theorem dX8_sendLetter_81 : decode cX8_sendLetter 81 = .ok (.aload_n 0, 1) := by decide +kernel
theorem dX8_sendLetter_82 : decode cX8_sendLetter 82 = .ok (.getfield 47, 3) := by decide +kernel
theorem dX8_sendLetter_85 : decode cX8_sendLetter 85 = .ok (.iload_n 1, 1) := by decide +kernel
theorem dX8_sendLetter_86 : decode cX8_sendLetter 86 = .ok (.dup2, 1) := by decide +kernel
theorem dX8_sendLetter_87 : decode cX8_sendLetter 87 = .ok (.iaload, 1) := by decide +kernel
theorem dX8_sendLetter_88 : decode cX8_sendLetter 88 = .ok (.aload_n 0, 1) := by decide +kernel
theorem dX8_sendLetter_89 : decode cX8_sendLetter 89 = .ok (.getfield 73, 3) := by decide +kernel
theorem dX8_sendLetter_92 : decode cX8_sendLetter 92 = .ok (.iadd, 1) := by decide +kernel
theorem dX8_sendLetter_93 : decode cX8_sendLetter 93 = .ok (.iastore, 1) := by decide +kernel
theorem dX8_sendLetter_94 : decode cX8_sendLetter 94 = .ok (.aload_n 0, 1) := by decide +kernel
theorem dX8_sendLetter_95 : decode cX8_sendLetter 95 = .ok (.getfield 56, 3) := by decide +kernel
theorem dX8_sendLetter_98 : decode cX8_sendLetter 98 = .ok (.iload_n 2, 1) := by decide +kernel
theorem dX8_sendLetter_99 : decode cX8_sendLetter 99 = .ok (.iaload, 1) := by decide +kernel
theorem dX8_sendLetter_100 : decode cX8_sendLetter 100 = .ok (.ireturn, 1) := by decide +kernel
theorem dX8_takesLetter_0 : decode cX8_takesLetter 0 = .ok (.aload_n 0, 1) := by decide +kernel
theorem dX8_takesLetter_1 : decode cX8_takesLetter 1 = .ok (.aload_n 0, 1) := by decide +kernel
theorem dX8_takesLetter_2 : decode cX8_takesLetter 2 = .ok (.getfield 59, 3) := by decide +kernel
theorem dX8_takesLetter_5 : decode cX8_takesLetter 5 = .ok (.bipush 20, 2) := by decide +kernel
theorem dX8_takesLetter_7 : decode cX8_takesLetter 7 = .ok (.iload_n 1, 1) := by decide +kernel
theorem dX8_takesLetter_8 : decode cX8_takesLetter 8 = .ok (.imul, 1) := by decide +kernel
theorem dX8_takesLetter_9 : decode cX8_takesLetter 9 = .ok (.aload_n 0, 1) := by decide +kernel
theorem dX8_takesLetter_10 : decode cX8_takesLetter 10 = .ok (.getfield 62, 3) := by decide +kernel
theorem dX8_takesLetter_13 : decode cX8_takesLetter 13 = .ok (.iconst 0, 1) := by decide +kernel
theorem dX8_takesLetter_14 : decode cX8_takesLetter 14 = .ok (.invokevirtual 108, 3) := by decide +kernel
theorem dX8_takesLetter_17 : decode cX8_takesLetter 17 = .ok (.aload_n 0, 1) := by decide +kernel
theorem dX8_takesLetter_18 : decode cX8_takesLetter 18 = .ok (.getfield 56, 3) := by decide +kernel
theorem dX8_takesLetter_21 : decode cX8_takesLetter 21 = .ok (.iload_n 1, 1) := by decide +kernel
theorem dX8_takesLetter_22 : decode cX8_takesLetter 22 = .ok (.dup2, 1) := by decide +kernel
theorem dX8_takesLetter_23 : decode cX8_takesLetter 23 = .ok (.iaload, 1) := by decide +kernel
theorem dX8_takesLetter_24 : decode cX8_takesLetter 24 = .ok (.iconst 1, 1) := by decide +kernel
theorem dX8_takesLetter_25 : decode cX8_takesLetter 25 = .ok (.isub, 1) := by decide +kernel
theorem dX8_takesLetter_26 : decode cX8_takesLetter 26 = .ok (.iastore, 1) := by decide +kernel
theorem dX8_takesLetter_27 : decode cX8_takesLetter 27 = .ok (.bipush 20, 2) := by decide +kernel
theorem dX8_takesLetter_29 : decode cX8_takesLetter 29 = .ok (.iload_n 1, 1) := by decide +kernel
theorem dX8_takesLetter_30 : decode cX8_takesLetter 30 = .ok (.imul, 1) := by decide +kernel
theorem dX8_takesLetter_31 : decode cX8_takesLetter 31 = .ok (.istore_n 2, 1) := by decide +kernel
theorem dX8_takesLetter_32 : decode cX8_takesLetter 32 = .ok (.iload_n 2, 1) := by decide +kernel
theorem dX8_takesLetter_33 : decode cX8_takesLetter 33 = .ok (.bipush 20, 2) := by decide +kernel
theorem dX8_takesLetter_35 : decode cX8_takesLetter 35 = .ok (.iload_n 1, 1) := by decide +kernel
theorem dX8_takesLetter_36 : decode cX8_takesLetter 36 = .ok (.imul, 1) := by decide +kernel
theorem dX8_takesLetter_37 : decode cX8_takesLetter 37 = .ok (.iconst 5, 1) := by decide +kernel
theorem dX8_takesLetter_38 : decode cX8_takesLetter 38 = .ok (.aload_n 0, 1) := by decide +kernel
theorem dX8_takesLetter_39 : decode cX8_takesLetter 39 = .ok (.getfield 56, 3) := by decide +kernel
theorem dX8_takesLetter_42 : decode cX8_takesLetter 42 = .ok (.iload_n 1, 1) := by decide +kernel
theorem dX8_takesLetter_43 : decode cX8_takesLetter 43 = .ok (.iaload, 1) := by decide +kernel
theorem dX8_takesLetter_44 : decode cX8_takesLetter 44 = .ok (.imul, 1) := by decide +kernel
theorem dX8_takesLetter_45 : decode cX8_takesLetter 45 = .ok (.iadd, 1) := by decide +kernel
theorem dX8_takesLetter_46 : decode cX8_takesLetter 46 = .ok (.if_icmp .ge 23, 3) := by decide +kernel
theorem dX8_takesLetter_49 : decode cX8_takesLetter 49 = .ok (.aload_n 0, 1) := by decide +kernel
theorem dX8_takesLetter_50 : decode cX8_takesLetter 50 = .ok (.getfield 59, 3) := by decide +kernel
theorem dX8_takesLetter_53 : decode cX8_takesLetter 53 = .ok (.iload_n 2, 1) := by decide +kernel
theorem dX8_takesLetter_54 : decode cX8_takesLetter 54 = .ok (.aload_n 0, 1) := by decide +kernel
theorem dX8_takesLetter_55 : decode cX8_takesLetter 55 = .ok (.getfield 59, 3) := by decide +kernel
theorem dX8_takesLetter_58 : decode cX8_takesLetter 58 = .ok (.iload_n 2, 1) := by decide +kernel
theorem dX8_takesLetter_59 : decode cX8_takesLetter 59 = .ok (.iconst 5, 1) := by decide +kernel
theorem dX8_takesLetter_60 : decode cX8_takesLetter 60 = .ok (.iadd, 1) := by decide +kernel
theorem dX8_takesLetter_61 : decode cX8_takesLetter 61 = .ok (.iaload, 1) := by decide +kernel
theorem dX8_takesLetter_62 : decode cX8_takesLetter 62 = .ok (.iastore, 1) := by decide +kernel
theorem dX8_takesLetter_63 : decode cX8_takesLetter 63 = .ok (.iinc 2 1, 3) := by decide +kernel
theorem dX8_takesLetter_66 : decode cX8_takesLetter 66 = .ok (.goto (-34), 3) := by decide +kernel
theorem dX8_takesLetter_69 : decode cX8_takesLetter 69 = .ok (.return_, 1) := by decide +kernel
theorem dX8_readLetter_0 : decode cX8_readLetter 0 = .ok (.aload_n 0, 1) := by decide +kernel
theorem dX8_readLetter_1 : decode cX8_readLetter 1 = .ok (.iload_n 1, 1) := by decide +kernel
theorem dX8_readLetter_2 : decode cX8_readLetter 2 = .ok (.invokevirtual 126, 3) := by decide +kernel
theorem dX8_readLetter_5 : decode cX8_readLetter 5 = .ok (.ifCond .eq 7, 3) := by decide +kernel
theorem dX8_readLetter_8 : decode cX8_readLetter 8 = .ok (.sipush (-10001), 3) := by decide +kernel
theorem dX8_readLetter_11 : decode cX8_readLetter 11 = .ok (.ireturn, 1) := by decide +kernel
theorem dX8_readLetter_12 : decode cX8_readLetter 12 = .ok (.aload_n 0, 1) := by decide +kernel
theorem dX8_readLetter_13 : decode cX8_readLetter 13 = .ok (.getfield 56, 3) := by decide +kernel
theorem dX8_readLetter_16 : decode cX8_readLetter 16 = .ok (.iload_n 1, 1) := by decide +kernel
theorem dX8_readLetter_17 : decode cX8_readLetter 17 = .ok (.iaload, 1) := by decide +kernel
theorem dX8_readLetter_18 : decode cX8_readLetter 18 = .ok (.ifCond .ne 7, 3) := by decide +kernel
theorem dX8_readLetter_21 : decode cX8_readLetter 21 = .ok (.sipush (-10005), 3) := by decide +kernel
theorem dX8_readLetter_24 : decode cX8_readLetter 24 = .ok (.ireturn, 1) := by decide +kernel
theorem dX8_readLetter_25 : decode cX8_readLetter 25 = .ok (.aload_n 0, 1) := by decide +kernel
theorem dX8_readLetter_26 : decode cX8_readLetter 26 = .ok (.iload_n 1, 1) := by decide +kernel
theorem dX8_readLetter_27 : decode cX8_readLetter 27 = .ok (.invokevirtual 139, 3) := by decide +kernel
theorem dX8_readLetter_30 : decode cX8_readLetter 30 = .ok (.aload_n 0, 1) := by decide +kernel
theorem dX8_readLetter_31 : decode cX8_readLetter 31 = .ok (.aload_n 0, 1) := by decide +kernel
theorem dX8_readLetter_32 : decode cX8_readLetter 32 = .ok (.getfield 62, 3) := by decide +kernel
theorem dX8_readLetter_35 : decode cX8_readLetter 35 = .ok (.iconst 0, 1) := by decide +kernel
theorem dX8_readLetter_36 : decode cX8_readLetter 36 = .ok (.aload_n 0, 1) := by decide +kernel
theorem dX8_readLetter_37 : decode cX8_readLetter 37 = .ok (.getfield 38, 3) := by decide +kernel
theorem dX8_readLetter_40 : decode cX8_readLetter 40 = .ok (.iconst 5, 1) := by decide +kernel
theorem dX8_readLetter_41 : decode cX8_readLetter 41 = .ok (.iload_n 1, 1) := by decide +kernel
theorem dX8_readLetter_42 : decode cX8_readLetter 42 = .ok (.imul, 1) := by decide +kernel
theorem dX8_readLetter_43 : decode cX8_readLetter 43 = .ok (.invokevirtual 87, 3) := by decide +kernel
theorem dX8_readLetter_46 : decode cX8_readLetter 46 = .ok (.ifCond .eq 5, 3) := by decide +kernel
theorem dX8_readLetter_49 : decode cX8_readLetter 49 = .ok (.iconst 0, 1) := by decide +kernel
theorem dX8_readLetter_50 : decode cX8_readLetter 50 = .ok (.ireturn, 1) := by decide +kernel
theorem dX8_readLetter_51 : decode cX8_readLetter 51 = .ok (.aload_n 0, 1) := by decide +kernel
theorem dX8_readLetter_52 : decode cX8_readLetter 52 = .ok (.aload_n 0, 1) := by decide +kernel
theorem dX8_readLetter_53 : decode cX8_readLetter 53 = .ok (.getfield 38, 3) := by decide +kernel
theorem dX8_readLetter_56 : decode cX8_readLetter 56 = .ok (.iconst 5, 1) := by decide +kernel
theorem dX8_readLetter_57 : decode cX8_readLetter 57 = .ok (.iload_n 1, 1) := by decide +kernel
theorem dX8_readLetter_58 : decode cX8_readLetter 58 = .ok (.imul, 1) := by decide +kernel
theorem dX8_readLetter_59 : decode cX8_readLetter 59 = .ok (.aload_n 0, 1) := by decide +kernel
theorem dX8_readLetter_60 : decode cX8_readLetter 60 = .ok (.getfield 62, 3) := by decide +kernel
theorem dX8_readLetter_63 : decode cX8_readLetter 63 = .ok (.iconst 0, 1) := by decide +kernel
theorem dX8_readLetter_64 : decode cX8_readLetter 64 = .ok (.invokevirtual 87, 3) := by decide +kernel
theorem dX8_readLetter_67 : decode cX8_readLetter 67 = .ok (.ifCond .eq 21, 3) := by decide +kernel
theorem dX8_readLetter_70 : decode cX8_readLetter 70 = .ok (.aload_n 0, 1) := by decide +kernel
theorem dX8_readLetter_71 : decode cX8_readLetter 71 = .ok (.aload_n 0, 1) := by decide +kernel
theorem dX8_readLetter_72 : decode cX8_readLetter 72 = .ok (.getfield 62, 3) := by decide +kernel
theorem dX8_readLetter_75 : decode cX8_readLetter 75 = .ok (.iconst 0, 1) := by decide +kernel
theorem dX8_readLetter_76 : decode cX8_readLetter 76 = .ok (.aload_n 0, 1) := by decide +kernel
theorem dX8_readLetter_77 : decode cX8_readLetter 77 = .ok (.getfield 38, 3) := by decide +kernel
theorem dX8_readLetter_80 : decode cX8_readLetter 80 = .ok (.iconst 5, 1) := by decide +kernel
theorem dX8_readLetter_81 : decode cX8_readLetter 81 = .ok (.iload_n 1, 1) := by decide +kernel
theorem dX8_readLetter_82 : decode cX8_readLetter 82 = .ok (.imul, 1) := by decide +kernel
theorem dX8_readLetter_83 : decode cX8_readLetter 83 = .ok (.invokevirtual 108, 3) := by decide +kernel
theorem dX8_readLetter_86 : decode cX8_readLetter 86 = .ok (.iconst 1, 1) := by decide +kernel
theorem dX8_readLetter_87 : decode cX8_readLetter 87 = .ok (.ireturn, 1) := by decide +kernel
theorem dX8_readLetter_88 : decode cX8_readLetter 88 = .ok (.aload_n 0, 1) := by decide +kernel
theorem dX8_readLetter_89 : decode cX8_readLetter 89 = .ok (.getfield 22, 3) := by decide +kernel
theorem dX8_readLetter_92 : decode cX8_readLetter 92 = .ok (.iload_n 1, 1) := by decide +kernel
theorem dX8_readLetter_93 : decode cX8_readLetter 93 = .ok (.aload_n 0, 1) := by decide +kernel
theorem dX8_readLetter_94 : decode cX8_readLetter 94 = .ok (.getfield 22, 3) := by decide +kernel
theorem dX8_readLetter_97 : decode cX8_readLetter 97 = .ok (.iload_n 1, 1) := by decide +kernel
theorem dX8_readLetter_98 : decode cX8_readLetter 98 = .ok (.iaload, 1) := by decide +kernel
theorem dX8_readLetter_99 : decode cX8_readLetter 99 = .ok (.ifCond .le 12, 3) := by decide +kernel
theorem dX8_readLetter_102 : decode cX8_readLetter 102 = .ok (.aload_n 0, 1) := by decide +kernel
theorem dX8_readLetter_103 : decode cX8_readLetter 103 = .ok (.getfield 22, 3) := by decide +kernel
theorem dX8_readLetter_106 : decode cX8_readLetter 106 = .ok (.iload_n 1, 1) := by decide +kernel
theorem dX8_readLetter_107 : decode cX8_readLetter 107 = .ok (.iaload, 1) := by decide +kernel
theorem dX8_readLetter_108 : decode cX8_readLetter 108 = .ok (.goto 4, 3) := by decide +kernel
theorem dX8_readLetter_111 : decode cX8_readLetter 111 = .ok (.iconst 4, 1) := by decide +kernel
theorem dX8_readLetter_112 : decode cX8_readLetter 112 = .ok (.iastore, 1) := by decide +kernel
theorem dX8_readLetter_113 : decode cX8_readLetter 113 = .ok (.aload_n 0, 1) := by decide +kernel
theorem dX8_readLetter_114 : decode cX8_readLetter 114 = .ok (.iload_n 1, 1) := by decide +kernel
theorem dX8_readLetter_115 : decode cX8_readLetter 115 = .ok (.aload_n 0, 1) := by decide +kernel
theorem dX8_readLetter_116 : decode cX8_readLetter 116 = .ok (.getfield 38, 3) := by decide +kernel
theorem dX8_readLetter_119 : decode cX8_readLetter 119 = .ok (.iconst 5, 1) := by decide +kernel
theorem dX8_readLetter_120 : decode cX8_readLetter 120 = .ok (.iload_n 1, 1) := by decide +kernel
theorem dX8_readLetter_121 : decode cX8_readLetter 121 = .ok (.imul, 1) := by decide +kernel
theorem dX8_readLetter_122 : decode cX8_readLetter 122 = .ok (.aload_n 0, 1) := by decide +kernel
theorem dX8_readLetter_123 : decode cX8_readLetter 123 = .ok (.getfield 62, 3) := by decide +kernel
theorem dX8_readLetter_126 : decode cX8_readLetter 126 = .ok (.iconst 0, 1) := by decide +kernel
theorem dX8_readLetter_127 : decode cX8_readLetter 127 = .ok (.iconst 0, 1) := by decide +kernel
theorem dX8_readLetter_128 : decode cX8_readLetter 128 = .ok (.invokevirtual 112, 3) := by decide +kernel
theorem dX8_readLetter_131 : decode cX8_readLetter 131 = .ok (.iconst 2, 1) := by decide +kernel
theorem dX8_readLetter_132 : decode cX8_readLetter 132 = .ok (.ireturn, 1) := by decide +kernel
theorem dX8_loseLetter_0 : decode cX8_loseLetter 0 = .ok (.aload_n 0, 1) := by decide +kernel
theorem dX8_loseLetter_1 : decode cX8_loseLetter 1 = .ok (.iload_n 1, 1) := by decide +kernel
theorem dX8_loseLetter_2 : decode cX8_loseLetter 2 = .ok (.invokevirtual 126, 3) := by decide +kernel
theorem dX8_loseLetter_5 : decode cX8_loseLetter 5 = .ok (.ifCond .eq 7, 3) := by decide +kernel
theorem dX8_loseLetter_8 : decode cX8_loseLetter 8 = .ok (.sipush (-10001), 3) := by decide +kernel
theorem dX8_loseLetter_11 : decode cX8_loseLetter 11 = .ok (.ireturn, 1) := by decide +kernel
theorem dX8_loseLetter_12 : decode cX8_loseLetter 12 = .ok (.aload_n 0, 1) := by decide +kernel
theorem dX8_loseLetter_13 : decode cX8_loseLetter 13 = .ok (.getfield 56, 3) := by decide +kernel
theorem dX8_loseLetter_16 : decode cX8_loseLetter 16 = .ok (.iload_n 1, 1) := by decide +kernel
theorem dX8_loseLetter_17 : decode cX8_loseLetter 17 = .ok (.iaload, 1) := by decide +kernel
theorem dX8_loseLetter_18 : decode cX8_loseLetter 18 = .ok (.ifCond .ne 7, 3) := by decide +kernel
theorem dX8_loseLetter_21 : decode cX8_loseLetter 21 = .ok (.sipush (-10005), 3) := by decide +kernel
theorem dX8_loseLetter_24 : decode cX8_loseLetter 24 = .ok (.ireturn, 1) := by decide +kernel
theorem dX8_loseLetter_25 : decode cX8_loseLetter 25 = .ok (.aload_n 0, 1) := by decide +kernel
theorem dX8_loseLetter_26 : decode cX8_loseLetter 26 = .ok (.iload_n 1, 1) := by decide +kernel
theorem dX8_loseLetter_27 : decode cX8_loseLetter 27 = .ok (.invokevirtual 139, 3) := by decide +kernel
theorem dX8_loseLetter_30 : decode cX8_loseLetter 30 = .ok (.aload_n 0, 1) := by decide +kernel
theorem dX8_loseLetter_31 : decode cX8_loseLetter 31 = .ok (.getfield 56, 3) := by decide +kernel
theorem dX8_loseLetter_34 : decode cX8_loseLetter 34 = .ok (.iload_n 1, 1) := by decide +kernel
theorem dX8_loseLetter_35 : decode cX8_loseLetter 35 = .ok (.iaload, 1) := by decide +kernel
theorem dX8_loseLetter_36 : decode cX8_loseLetter 36 = .ok (.ireturn, 1) := by decide +kernel
theorem dX8_passProof_0 : decode cX8_passProof 0 = .ok (.aload_n 0, 1) := by decide +kernel
theorem dX8_passProof_1 : decode cX8_passProof 1 = .ok (.iload_n 1, 1) := by decide +kernel
theorem dX8_passProof_2 : decode cX8_passProof 2 = .ok (.invokevirtual 126, 3) := by decide +kernel
theorem dX8_passProof_5 : decode cX8_passProof 5 = .ok (.ifCond .ne 11, 3) := by decide +kernel
theorem dX8_passProof_8 : decode cX8_passProof 8 = .ok (.aload_n 0, 1) := by decide +kernel
theorem dX8_passProof_9 : decode cX8_passProof 9 = .ok (.iload_n 2, 1) := by decide +kernel
theorem dX8_passProof_10 : decode cX8_passProof 10 = .ok (.invokevirtual 126, 3) := by decide +kernel
theorem dX8_passProof_13 : decode cX8_passProof 13 = .ok (.ifCond .eq 7, 3) := by decide +kernel
theorem dX8_passProof_16 : decode cX8_passProof 16 = .ok (.sipush (-10001), 3) := by decide +kernel
theorem dX8_passProof_19 : decode cX8_passProof 19 = .ok (.ireturn, 1) := by decide +kernel
theorem dX8_passProof_20 : decode cX8_passProof 20 = .ok (.iload_n 1, 1) := by decide +kernel
theorem dX8_passProof_21 : decode cX8_passProof 21 = .ok (.iload_n 2, 1) := by decide +kernel
theorem dX8_passProof_22 : decode cX8_passProof 22 = .ok (.if_icmp .ne 7, 3) := by decide +kernel
theorem dX8_passProof_25 : decode cX8_passProof 25 = .ok (.sipush (-10002), 3) := by decide +kernel
theorem dX8_passProof_28 : decode cX8_passProof 28 = .ok (.ireturn, 1) := by decide +kernel
theorem dX8_passProof_29 : decode cX8_passProof 29 = .ok (.aload_n 0, 1) := by decide +kernel
theorem dX8_passProof_30 : decode cX8_passProof 30 = .ok (.getfield 25, 3) := by decide +kernel
theorem dX8_passProof_33 : decode cX8_passProof 33 = .ok (.iload_n 1, 1) := by decide +kernel
theorem dX8_passProof_34 : decode cX8_passProof 34 = .ok (.baload, 1) := by decide +kernel
theorem dX8_passProof_35 : decode cX8_passProof 35 = .ok (.ifCond .ne 7, 3) := by decide +kernel
theorem dX8_passProof_38 : decode cX8_passProof 38 = .ok (.sipush (-10003), 3) := by decide +kernel
theorem dX8_passProof_41 : decode cX8_passProof 41 = .ok (.ireturn, 1) := by decide +kernel
theorem dX8_passProof_42 : decode cX8_passProof 42 = .ok (.aload_n 0, 1) := by decide +kernel
theorem dX8_passProof_43 : decode cX8_passProof 43 = .ok (.getfield 47, 3) := by decide +kernel
theorem dX8_passProof_46 : decode cX8_passProof 46 = .ok (.iload_n 1, 1) := by decide +kernel
theorem dX8_passProof_47 : decode cX8_passProof 47 = .ok (.dup2, 1) := by decide +kernel
theorem dX8_passProof_48 : decode cX8_passProof 48 = .ok (.iaload, 1) := by decide +kernel
theorem dX8_passProof_49 : decode cX8_passProof 49 = .ok (.iconst 2, 1) := by decide +kernel
theorem dX8_passProof_50 : decode cX8_passProof 50 = .ok (.aload_n 0, 1) := by decide +kernel
theorem dX8_passProof_51 : decode cX8_passProof 51 = .ok (.getfield 73, 3) := by decide +kernel
theorem dX8_passProof_54 : decode cX8_passProof 54 = .ok (.imul, 1) := by decide +kernel
theorem dX8_passProof_55 : decode cX8_passProof 55 = .ok (.iadd, 1) := by decide +kernel
theorem dX8_passProof_56 : decode cX8_passProof 56 = .ok (.iastore, 1) := by decide +kernel
theorem dX8_passProof_57 : decode cX8_passProof 57 = .ok (.aload_n 0, 1) := by decide +kernel
theorem dX8_passProof_58 : decode cX8_passProof 58 = .ok (.iload_n 2, 1) := by decide +kernel
theorem dX8_passProof_59 : decode cX8_passProof 59 = .ok (.aload_n 0, 1) := by decide +kernel
theorem dX8_passProof_60 : decode cX8_passProof 60 = .ok (.getfield 32, 3) := by decide +kernel
theorem dX8_passProof_63 : decode cX8_passProof 63 = .ok (.bipush 10, 2) := by decide +kernel
theorem dX8_passProof_65 : decode cX8_passProof 65 = .ok (.iload_n 1, 1) := by decide +kernel
theorem dX8_passProof_66 : decode cX8_passProof 66 = .ok (.imul, 1) := by decide +kernel
theorem dX8_passProof_67 : decode cX8_passProof 67 = .ok (.aload_n 0, 1) := by decide +kernel
theorem dX8_passProof_68 : decode cX8_passProof 68 = .ok (.getfield 32, 3) := by decide +kernel
theorem dX8_passProof_71 : decode cX8_passProof 71 = .ok (.bipush 10, 2) := by decide +kernel
theorem dX8_passProof_73 : decode cX8_passProof 73 = .ok (.iload_n 1, 1) := by decide +kernel
theorem dX8_passProof_74 : decode cX8_passProof 74 = .ok (.imul, 1) := by decide +kernel
theorem dX8_passProof_75 : decode cX8_passProof 75 = .ok (.iconst 5, 1) := by decide +kernel
theorem dX8_passProof_76 : decode cX8_passProof 76 = .ok (.iadd, 1) := by decide +kernel
theorem dX8_passProof_77 : decode cX8_passProof 77 = .ok (.aload_n 0, 1) := by decide +kernel
theorem dX8_passProof_78 : decode cX8_passProof 78 = .ok (.getfield 29, 3) := by decide +kernel
theorem dX8_passProof_81 : decode cX8_passProof 81 = .ok (.iload_n 1, 1) := by decide +kernel
theorem dX8_passProof_82 : decode cX8_passProof 82 = .ok (.iaload, 1) := by decide +kernel
theorem dX8_passProof_83 : decode cX8_passProof 83 = .ok (.iconst 1, 1) := by decide +kernel
theorem dX8_passProof_84 : decode cX8_passProof 84 = .ok (.iadd, 1) := by decide +kernel
theorem dX8_passProof_85 : decode cX8_passProof 85 = .ok (.invokevirtual 112, 3) := by decide +kernel
theorem dX8_passProof_88 : decode cX8_passProof 88 = .ok (.aload_n 0, 1) := by decide +kernel
theorem dX8_passProof_89 : decode cX8_passProof 89 = .ok (.getfield 22, 3) := by decide +kernel
theorem dX8_passProof_92 : decode cX8_passProof 92 = .ok (.iload_n 2, 1) := by decide +kernel
theorem dX8_passProof_93 : decode cX8_passProof 93 = .ok (.iaload, 1) := by decide +kernel
theorem dX8_passProof_94 : decode cX8_passProof 94 = .ok (.ifCond .le 5, 3) := by decide +kernel
theorem dX8_passProof_97 : decode cX8_passProof 97 = .ok (.iconst 0, 1) := by decide +kernel
theorem dX8_passProof_98 : decode cX8_passProof 98 = .ok (.ireturn, 1) := by decide +kernel
theorem dX8_passProof_99 : decode cX8_passProof 99 = .ok (.aload_n 0, 1) := by decide +kernel
theorem dX8_passProof_100 : decode cX8_passProof 100 = .ok (.getfield 22, 3) := by decide +kernel
theorem dX8_passProof_103 : decode cX8_passProof 103 = .ok (.iload_n 2, 1) := by decide +kernel
theorem dX8_passProof_104 : decode cX8_passProof 104 = .ok (.iconst 5, 1) := by decide +kernel
theorem dX8_passProof_105 : decode cX8_passProof 105 = .ok (.iastore, 1) := by decide +kernel
theorem dX8_passProof_106 : decode cX8_passProof 106 = .ok (.iconst 1, 1) := by decide +kernel
theorem dX8_passProof_107 : decode cX8_passProof 107 = .ok (.ireturn, 1) := by decide +kernel
theorem dX8_count_0 : decode cX8_count 0 = .ok (.iconst 0, 1) := by decide +kernel
theorem dX8_count_1 : decode cX8_count 1 = .ok (.istore_n 2, 1) := by decide +kernel
theorem dX8_count_2 : decode cX8_count 2 = .ok (.iconst 0, 1) := by decide +kernel
theorem dX8_count_3 : decode cX8_count 3 = .ok (.istore_n 3, 1) := by decide +kernel
theorem dX8_count_4 : decode cX8_count 4 = .ok (.iconst 0, 1) := by decide +kernel
theorem dX8_count_5 : decode cX8_count 5 = .ok (.istore 4, 2) := by decide +kernel
theorem dX8_count_7 : decode cX8_count 7 = .ok (.iconst 0, 1) := by decide +kernel
theorem dX8_count_8 : decode cX8_count 8 = .ok (.istore 5, 2) := by decide +kernel
theorem dX8_count_10 : decode cX8_count 10 = .ok (.iload 5, 2) := by decide +kernel
theorem dX8_count_12 : decode cX8_count 12 = .ok (.aload_n 0, 1) := by decide +kernel
theorem dX8_count_13 : decode cX8_count 13 = .ok (.getfield 73, 3) := by decide +kernel
theorem dX8_count_16 : decode cX8_count 16 = .ok (.if_icmp .ge 57, 3) := by decide +kernel
theorem dX8_count_19 : decode cX8_count 19 = .ok (.iload_n 2, 1) := by decide +kernel
theorem dX8_count_20 : decode cX8_count 20 = .ok (.aload_n 0, 1) := by decide +kernel
theorem dX8_count_21 : decode cX8_count 21 = .ok (.getfield 22, 3) := by decide +kernel
theorem dX8_count_24 : decode cX8_count 24 = .ok (.iload 5, 2) := by decide +kernel
theorem dX8_count_26 : decode cX8_count 26 = .ok (.iaload, 1) := by decide +kernel
theorem dX8_count_27 : decode cX8_count 27 = .ok (.ifCond .le 7, 3) := by decide +kernel
theorem dX8_count_30 : decode cX8_count 30 = .ok (.iconst 1, 1) := by decide +kernel
theorem dX8_count_31 : decode cX8_count 31 = .ok (.goto 4, 3) := by decide +kernel
theorem dX8_count_34 : decode cX8_count 34 = .ok (.iconst 0, 1) := by decide +kernel
theorem dX8_count_35 : decode cX8_count 35 = .ok (.iadd, 1) := by decide +kernel
theorem dX8_count_36 : decode cX8_count 36 = .ok (.istore_n 2, 1) := by decide +kernel
theorem dX8_count_37 : decode cX8_count 37 = .ok (.iload_n 3, 1) := by decide +kernel
theorem dX8_count_38 : decode cX8_count 38 = .ok (.aload_n 0, 1) := by decide +kernel
theorem dX8_count_39 : decode cX8_count 39 = .ok (.getfield 25, 3) := by decide +kernel
theorem dX8_count_42 : decode cX8_count 42 = .ok (.iload 5, 2) := by decide +kernel
theorem dX8_count_44 : decode cX8_count 44 = .ok (.baload, 1) := by decide +kernel
theorem dX8_count_45 : decode cX8_count 45 = .ok (.ifCond .eq 7, 3) := by decide +kernel
theorem dX8_count_48 : decode cX8_count 48 = .ok (.iconst 1, 1) := by decide +kernel
theorem dX8_count_49 : decode cX8_count 49 = .ok (.goto 4, 3) := by decide +kernel
theorem dX8_count_52 : decode cX8_count 52 = .ok (.iconst 0, 1) := by decide +kernel
theorem dX8_count_53 : decode cX8_count 53 = .ok (.iadd, 1) := by decide +kernel
theorem dX8_count_54 : decode cX8_count 54 = .ok (.istore_n 3, 1) := by decide +kernel
theorem dX8_count_55 : decode cX8_count 55 = .ok (.iload 4, 2) := by decide +kernel
theorem dX8_count_57 : decode cX8_count 57 = .ok (.aload_n 0, 1) := by decide +kernel
theorem dX8_count_58 : decode cX8_count 58 = .ok (.getfield 56, 3) := by decide +kernel
theorem dX8_count_61 : decode cX8_count 61 = .ok (.iload 5, 2) := by decide +kernel
theorem dX8_count_63 : decode cX8_count 63 = .ok (.iaload, 1) := by decide +kernel
theorem dX8_count_64 : decode cX8_count 64 = .ok (.iadd, 1) := by decide +kernel
theorem dX8_count_65 : decode cX8_count 65 = .ok (.istore 4, 2) := by decide +kernel
theorem dX8_count_67 : decode cX8_count 67 = .ok (.iinc 5 1, 3) := by decide +kernel
theorem dX8_count_70 : decode cX8_count 70 = .ok (.goto (-60), 3) := by decide +kernel
theorem dX8_count_73 : decode cX8_count 73 = .ok (.iload_n 1, 1) := by decide +kernel
theorem dX8_count_74 : decode cX8_count 74 = .ok (.tableswitch 60 0 5 #[38, 43, 48, 50, 52, 57], 38) := by decide +kernel
theorem dX8_count_112 : decode cX8_count 112 = .ok (.aload_n 0, 1) := by decide +kernel
theorem dX8_count_113 : decode cX8_count 113 = .ok (.getfield 73, 3) := by decide +kernel
theorem dX8_count_116 : decode cX8_count 116 = .ok (.ireturn, 1) := by decide +kernel
theorem dX8_count_117 : decode cX8_count 117 = .ok (.aload_n 0, 1) := by decide +kernel
theorem dX8_count_118 : decode cX8_count 118 = .ok (.getfield 77, 3) := by decide +kernel
theorem dX8_count_121 : decode cX8_count 121 = .ok (.ireturn, 1) := by decide +kernel
theorem dX8_count_122 : decode cX8_count 122 = .ok (.iload_n 2, 1) := by decide +kernel
theorem dX8_count_123 : decode cX8_count 123 = .ok (.ireturn, 1) := by decide +kernel
theorem dX8_count_124 : decode cX8_count 124 = .ok (.iload_n 3, 1) := by decide +kernel
theorem dX8_count_125 : decode cX8_count 125 = .ok (.ireturn, 1) := by decide +kernel
theorem dX8_count_126 : decode cX8_count 126 = .ok (.aload_n 0, 1) := by decide +kernel
theorem dX8_count_127 : decode cX8_count 127 = .ok (.getfield 80, 3) := by decide +kernel
theorem dX8_count_130 : decode cX8_count 130 = .ok (.ireturn, 1) := by decide +kernel
theorem dX8_count_131 : decode cX8_count 131 = .ok (.iload 4, 2) := by decide +kernel
theorem dX8_count_133 : decode cX8_count 133 = .ok (.ireturn, 1) := by decide +kernel
theorem dX8_count_134 : decode cX8_count 134 = .ok (.sipush (-10002), 3) := by decide +kernel
theorem dX8_count_137 : decode cX8_count 137 = .ok (.ireturn, 1) := by decide +kernel
theorem dX8_user_0 : decode cX8_user 0 = .ok (.aload_n 0, 1) := by decide +kernel
theorem dX8_user_1 : decode cX8_user 1 = .ok (.iload_n 1, 1) := by decide +kernel
theorem dX8_user_2 : decode cX8_user 2 = .ok (.invokevirtual 126, 3) := by decide +kernel
theorem dX8_user_5 : decode cX8_user 5 = .ok (.ifCond .eq 7, 3) := by decide +kernel
theorem dX8_user_8 : decode cX8_user 8 = .ok (.sipush (-10001), 3) := by decide +kernel
theorem dX8_user_11 : decode cX8_user 11 = .ok (.ireturn, 1) := by decide +kernel
theorem dX8_user_12 : decode cX8_user 12 = .ok (.iload_n 2, 1) := by decide +kernel
theorem dX8_user_13 : decode cX8_user 13 = .ok (.tableswitch 126 0 7 #[47, 54, 61, 76, 83, 90, 97, 104], 47) := by decide +kernel
theorem dX8_user_60 : decode cX8_user 60 = .ok (.aload_n 0, 1) := by decide +kernel
theorem dX8_user_61 : decode cX8_user 61 = .ok (.getfield 19, 3) := by decide +kernel
theorem dX8_user_64 : decode cX8_user 64 = .ok (.iload_n 1, 1) := by decide +kernel
theorem dX8_user_65 : decode cX8_user 65 = .ok (.iaload, 1) := by decide +kernel
theorem dX8_user_66 : decode cX8_user 66 = .ok (.ireturn, 1) := by decide +kernel
theorem dX8_user_67 : decode cX8_user 67 = .ok (.aload_n 0, 1) := by decide +kernel
theorem dX8_user_68 : decode cX8_user 68 = .ok (.getfield 22, 3) := by decide +kernel
theorem dX8_user_71 : decode cX8_user 71 = .ok (.iload_n 1, 1) := by decide +kernel
theorem dX8_user_72 : decode cX8_user 72 = .ok (.iaload, 1) := by decide +kernel
theorem dX8_user_73 : decode cX8_user 73 = .ok (.ireturn, 1) := by decide +kernel
theorem dX8_user_74 : decode cX8_user 74 = .ok (.aload_n 0, 1) := by decide +kernel
theorem dX8_user_75 : decode cX8_user 75 = .ok (.getfield 25, 3) := by decide +kernel
theorem dX8_user_78 : decode cX8_user 78 = .ok (.iload_n 1, 1) := by decide +kernel
theorem dX8_user_79 : decode cX8_user 79 = .ok (.baload, 1) := by decide +kernel
theorem dX8_user_80 : decode cX8_user 80 = .ok (.ifCond .eq 7, 3) := by decide +kernel
theorem dX8_user_83 : decode cX8_user 83 = .ok (.iconst 1, 1) := by decide +kernel
theorem dX8_user_84 : decode cX8_user 84 = .ok (.goto 4, 3) := by decide +kernel
theorem dX8_user_87 : decode cX8_user 87 = .ok (.iconst 0, 1) := by decide +kernel
theorem dX8_user_88 : decode cX8_user 88 = .ok (.ireturn, 1) := by decide +kernel
theorem dX8_user_89 : decode cX8_user 89 = .ok (.aload_n 0, 1) := by decide +kernel
theorem dX8_user_90 : decode cX8_user 90 = .ok (.getfield 56, 3) := by decide +kernel
theorem dX8_user_93 : decode cX8_user 93 = .ok (.iload_n 1, 1) := by decide +kernel
theorem dX8_user_94 : decode cX8_user 94 = .ok (.iaload, 1) := by decide +kernel
theorem dX8_user_95 : decode cX8_user 95 = .ok (.ireturn, 1) := by decide +kernel
theorem dX8_user_96 : decode cX8_user 96 = .ok (.aload_n 0, 1) := by decide +kernel
theorem dX8_user_97 : decode cX8_user 97 = .ok (.getfield 41, 3) := by decide +kernel
theorem dX8_user_100 : decode cX8_user 100 = .ok (.iload_n 1, 1) := by decide +kernel
theorem dX8_user_101 : decode cX8_user 101 = .ok (.iaload, 1) := by decide +kernel
theorem dX8_user_102 : decode cX8_user 102 = .ok (.ireturn, 1) := by decide +kernel
theorem dX8_user_103 : decode cX8_user 103 = .ok (.aload_n 0, 1) := by decide +kernel
theorem dX8_user_104 : decode cX8_user 104 = .ok (.getfield 44, 3) := by decide +kernel
theorem dX8_user_107 : decode cX8_user 107 = .ok (.iload_n 1, 1) := by decide +kernel
theorem dX8_user_108 : decode cX8_user 108 = .ok (.iaload, 1) := by decide +kernel
theorem dX8_user_109 : decode cX8_user 109 = .ok (.ireturn, 1) := by decide +kernel
theorem dX8_user_110 : decode cX8_user 110 = .ok (.aload_n 0, 1) := by decide +kernel
theorem dX8_user_111 : decode cX8_user 111 = .ok (.getfield 47, 3) := by decide +kernel
theorem dX8_user_114 : decode cX8_user 114 = .ok (.iload_n 1, 1) := by decide +kernel
theorem dX8_user_115 : decode cX8_user 115 = .ok (.iaload, 1) := by decide +kernel
theorem dX8_user_116 : decode cX8_user 116 = .ok (.ireturn, 1) := by decide +kernel
theorem dX8_user_117 : decode cX8_user 117 = .ok (.aload_n 0, 1) := by decide +kernel
theorem dX8_user_118 : decode cX8_user 118 = .ok (.getfield 25, 3) := by decide +kernel
theorem dX8_user_121 : decode cX8_user 121 = .ok (.iload_n 1, 1) := by decide +kernel
theorem dX8_user_122 : decode cX8_user 122 = .ok (.baload, 1) := by decide +kernel
theorem dX8_user_123 : decode cX8_user 123 = .ok (.ifCond .eq 12, 3) := by decide +kernel
theorem dX8_user_126 : decode cX8_user 126 = .ok (.aload_n 0, 1) := by decide +kernel
theorem dX8_user_127 : decode cX8_user 127 = .ok (.getfield 29, 3) := by decide +kernel
theorem dX8_user_130 : decode cX8_user 130 = .ok (.iload_n 1, 1) := by decide +kernel
theorem dX8_user_131 : decode cX8_user 131 = .ok (.iaload, 1) := by decide +kernel
theorem dX8_user_132 : decode cX8_user 132 = .ok (.goto 6, 3) := by decide +kernel
theorem dX8_user_135 : decode cX8_user 135 = .ok (.sipush (-10005), 3) := by decide +kernel
theorem dX8_user_138 : decode cX8_user 138 = .ok (.ireturn, 1) := by decide +kernel
theorem dX8_user_139 : decode cX8_user 139 = .ok (.sipush (-10002), 3) := by decide +kernel
theorem dX8_user_142 : decode cX8_user 142 = .ok (.ireturn, 1) := by decide +kernel
theorem dX8_vector_0 : decode cX8_vector 0 = .ok (.aload_n 0, 1) := by decide +kernel
theorem dX8_vector_1 : decode cX8_vector 1 = .ok (.iload_n 1, 1) := by decide +kernel
theorem dX8_vector_2 : decode cX8_vector 2 = .ok (.invokevirtual 126, 3) := by decide +kernel
theorem dX8_vector_5 : decode cX8_vector 5 = .ok (.ifCond .ne 11, 3) := by decide +kernel
theorem dX8_vector_8 : decode cX8_vector 8 = .ok (.aload_n 0, 1) := by decide +kernel
theorem dX8_vector_9 : decode cX8_vector 9 = .ok (.iload_n 3, 1) := by decide +kernel
theorem dX8_vector_10 : decode cX8_vector 10 = .ok (.invokevirtual 126, 3) := by decide +kernel
theorem dX8_vector_13 : decode cX8_vector 13 = .ok (.ifCond .eq 7, 3) := by decide +kernel
theorem dX8_vector_16 : decode cX8_vector 16 = .ok (.sipush (-10001), 3) := by decide +kernel
theorem dX8_vector_19 : decode cX8_vector 19 = .ok (.ireturn, 1) := by decide +kernel
theorem dX8_vector_20 : decode cX8_vector 20 = .ok (.iload_n 2, 1) := by decide +kernel
theorem dX8_vector_21 : decode cX8_vector 21 = .ok (.iconst 0, 1) := by decide +kernel
theorem dX8_vector_22 : decode cX8_vector 22 = .ok (.iconst 3, 1) := by decide +kernel
theorem dX8_vector_23 : decode cX8_vector 23 = .ok (.invokestatic 83, 3) := by decide +kernel
theorem dX8_vector_26 : decode cX8_vector 26 = .ok (.ifCond .ne 7, 3) := by decide +kernel
theorem dX8_vector_29 : decode cX8_vector 29 = .ok (.sipush (-10002), 3) := by decide +kernel
theorem dX8_vector_32 : decode cX8_vector 32 = .ok (.ireturn, 1) := by decide +kernel
theorem dX8_vector_33 : decode cX8_vector 33 = .ok (.iload_n 2, 1) := by decide +kernel
theorem dX8_vector_34 : decode cX8_vector 34 = .ok (.iconst 2, 1) := by decide +kernel
theorem dX8_vector_35 : decode cX8_vector 35 = .ok (.if_icmp .ge 31, 3) := by decide +kernel
theorem dX8_vector_38 : decode cX8_vector 38 = .ok (.iload_n 2, 1) := by decide +kernel
theorem dX8_vector_39 : decode cX8_vector 39 = .ok (.ifCond .ne 16, 3) := by decide +kernel
theorem dX8_vector_42 : decode cX8_vector 42 = .ok (.aload_n 0, 1) := by decide +kernel
theorem dX8_vector_43 : decode cX8_vector 43 = .ok (.getfield 35, 3) := by decide +kernel
theorem dX8_vector_46 : decode cX8_vector 46 = .ok (.iconst 5, 1) := by decide +kernel
theorem dX8_vector_47 : decode cX8_vector 47 = .ok (.iload_n 1, 1) := by decide +kernel
theorem dX8_vector_48 : decode cX8_vector 48 = .ok (.imul, 1) := by decide +kernel
theorem dX8_vector_49 : decode cX8_vector 49 = .ok (.iload_n 3, 1) := by decide +kernel
theorem dX8_vector_50 : decode cX8_vector 50 = .ok (.iadd, 1) := by decide +kernel
theorem dX8_vector_51 : decode cX8_vector 51 = .ok (.iaload, 1) := by decide +kernel
theorem dX8_vector_52 : decode cX8_vector 52 = .ok (.goto 13, 3) := by decide +kernel
theorem dX8_vector_55 : decode cX8_vector 55 = .ok (.aload_n 0, 1) := by decide +kernel
theorem dX8_vector_56 : decode cX8_vector 56 = .ok (.getfield 38, 3) := by decide +kernel
theorem dX8_vector_59 : decode cX8_vector 59 = .ok (.iconst 5, 1) := by decide +kernel
theorem dX8_vector_60 : decode cX8_vector 60 = .ok (.iload_n 1, 1) := by decide +kernel
theorem dX8_vector_61 : decode cX8_vector 61 = .ok (.imul, 1) := by decide +kernel
theorem dX8_vector_62 : decode cX8_vector 62 = .ok (.iload_n 3, 1) := by decide +kernel
theorem dX8_vector_63 : decode cX8_vector 63 = .ok (.iadd, 1) := by decide +kernel
theorem dX8_vector_64 : decode cX8_vector 64 = .ok (.iaload, 1) := by decide +kernel
theorem dX8_vector_65 : decode cX8_vector 65 = .ok (.ireturn, 1) := by decide +kernel
theorem dX8_vector_66 : decode cX8_vector 66 = .ok (.aload_n 0, 1) := by decide +kernel
theorem dX8_vector_67 : decode cX8_vector 67 = .ok (.getfield 25, 3) := by decide +kernel
theorem dX8_vector_70 : decode cX8_vector 70 = .ok (.iload_n 1, 1) := by decide +kernel
theorem dX8_vector_71 : decode cX8_vector 71 = .ok (.baload, 1) := by decide +kernel
theorem dX8_vector_72 : decode cX8_vector 72 = .ok (.ifCond .eq 23, 3) := by decide +kernel
theorem dX8_vector_75 : decode cX8_vector 75 = .ok (.aload_n 0, 1) := by decide +kernel
theorem dX8_vector_76 : decode cX8_vector 76 = .ok (.getfield 32, 3) := by decide +kernel
theorem dX8_vector_79 : decode cX8_vector 79 = .ok (.bipush 10, 2) := by decide +kernel
theorem dX8_vector_81 : decode cX8_vector 81 = .ok (.iload_n 1, 1) := by decide +kernel
theorem dX8_vector_82 : decode cX8_vector 82 = .ok (.imul, 1) := by decide +kernel
theorem dX8_vector_83 : decode cX8_vector 83 = .ok (.iconst 5, 1) := by decide +kernel
theorem dX8_vector_84 : decode cX8_vector 84 = .ok (.iload_n 2, 1) := by decide +kernel
theorem dX8_vector_85 : decode cX8_vector 85 = .ok (.iconst 2, 1) := by decide +kernel
theorem dX8_vector_86 : decode cX8_vector 86 = .ok (.isub, 1) := by decide +kernel
theorem dX8_vector_87 : decode cX8_vector 87 = .ok (.imul, 1) := by decide +kernel
theorem dX8_vector_88 : decode cX8_vector 88 = .ok (.iadd, 1) := by decide +kernel
theorem dX8_vector_89 : decode cX8_vector 89 = .ok (.iload_n 3, 1) := by decide +kernel
theorem dX8_vector_90 : decode cX8_vector 90 = .ok (.iadd, 1) := by decide +kernel
theorem dX8_vector_91 : decode cX8_vector 91 = .ok (.iaload, 1) := by decide +kernel
theorem dX8_vector_92 : decode cX8_vector 92 = .ok (.goto 6, 3) := by decide +kernel
theorem dX8_vector_95 : decode cX8_vector 95 = .ok (.sipush (-10005), 3) := by decide +kernel
theorem dX8_vector_98 : decode cX8_vector 98 = .ok (.ireturn, 1) := by decide +kernel
theorem dX8_entry_0 : decode cX8_entry 0 = .ok (.aload_n 0, 1) := by decide +kernel
theorem dX8_entry_1 : decode cX8_entry 1 = .ok (.iload_n 1, 1) := by decide +kernel
theorem dX8_entry_2 : decode cX8_entry 2 = .ok (.invokevirtual 133, 3) := by decide +kernel
theorem dX8_entry_5 : decode cX8_entry 5 = .ok (.ifCond .ne 19, 3) := by decide +kernel
theorem dX8_entry_8 : decode cX8_entry 8 = .ok (.aload_n 0, 1) := by decide +kernel
theorem dX8_entry_9 : decode cX8_entry 9 = .ok (.iload_n 2, 1) := by decide +kernel
theorem dX8_entry_10 : decode cX8_entry 10 = .ok (.invokevirtual 126, 3) := by decide +kernel
theorem dX8_entry_13 : decode cX8_entry 13 = .ok (.ifCond .ne 11, 3) := by decide +kernel
theorem dX8_entry_16 : decode cX8_entry 16 = .ok (.aload_n 0, 1) := by decide +kernel
theorem dX8_entry_17 : decode cX8_entry 17 = .ok (.iload_n 3, 1) := by decide +kernel
theorem dX8_entry_18 : decode cX8_entry 18 = .ok (.invokevirtual 126, 3) := by decide +kernel
theorem dX8_entry_21 : decode cX8_entry 21 = .ok (.ifCond .eq 9, 3) := by decide +kernel
theorem dX8_entry_24 : decode cX8_entry 24 = .ok (.sipush (-10001), 3) := by decide +kernel
theorem dX8_entry_27 : decode cX8_entry 27 = .ok (.goto 15, 3) := by decide +kernel
theorem dX8_entry_30 : decode cX8_entry 30 = .ok (.aload_n 0, 1) := by decide +kernel
theorem dX8_entry_31 : decode cX8_entry 31 = .ok (.getfield 7, 3) := by decide +kernel
theorem dX8_entry_34 : decode cX8_entry 34 = .ok (.iload_n 1, 1) := by decide +kernel
theorem dX8_entry_35 : decode cX8_entry 35 = .ok (.iload_n 2, 1) := by decide +kernel
theorem dX8_entry_36 : decode cX8_entry 36 = .ok (.invokestatic 94, 3) := by decide +kernel
theorem dX8_entry_39 : decode cX8_entry 39 = .ok (.iload_n 3, 1) := by decide +kernel
theorem dX8_entry_40 : decode cX8_entry 40 = .ok (.iadd, 1) := by decide +kernel
theorem dX8_entry_41 : decode cX8_entry 41 = .ok (.iaload, 1) := by decide +kernel
theorem dX8_entry_42 : decode cX8_entry 42 = .ok (.ireturn, 1) := by decide +kernel
theorem dX8_content_0 : decode cX8_content 0 = .ok (.aload_n 0, 1) := by decide +kernel
theorem dX8_content_1 : decode cX8_content 1 = .ok (.iload_n 1, 1) := by decide +kernel
theorem dX8_content_2 : decode cX8_content 2 = .ok (.invokevirtual 133, 3) := by decide +kernel
theorem dX8_content_5 : decode cX8_content 5 = .ok (.ifCond .ne 11, 3) := by decide +kernel
theorem dX8_content_8 : decode cX8_content 8 = .ok (.aload_n 0, 1) := by decide +kernel
theorem dX8_content_9 : decode cX8_content 9 = .ok (.iload_n 2, 1) := by decide +kernel
theorem dX8_content_10 : decode cX8_content 10 = .ok (.invokevirtual 126, 3) := by decide +kernel
theorem dX8_content_13 : decode cX8_content 13 = .ok (.ifCond .eq 9, 3) := by decide +kernel
theorem dX8_content_16 : decode cX8_content 16 = .ok (.sipush (-10001), 3) := by decide +kernel
theorem dX8_content_19 : decode cX8_content 19 = .ok (.goto 17, 3) := by decide +kernel
theorem dX8_content_22 : decode cX8_content 22 = .ok (.aload_n 0, 1) := by decide +kernel
theorem dX8_content_23 : decode cX8_content 23 = .ok (.getfield 7, 3) := by decide +kernel
theorem dX8_content_26 : decode cX8_content 26 = .ok (.bipush 30, 2) := by decide +kernel
theorem dX8_content_28 : decode cX8_content 28 = .ok (.iload_n 1, 1) := by decide +kernel
theorem dX8_content_29 : decode cX8_content 29 = .ok (.imul, 1) := by decide +kernel
theorem dX8_content_30 : decode cX8_content 30 = .ok (.bipush 25, 2) := by decide +kernel
theorem dX8_content_32 : decode cX8_content 32 = .ok (.iadd, 1) := by decide +kernel
theorem dX8_content_33 : decode cX8_content 33 = .ok (.iload_n 2, 1) := by decide +kernel
theorem dX8_content_34 : decode cX8_content 34 = .ok (.iadd, 1) := by decide +kernel
theorem dX8_content_35 : decode cX8_content 35 = .ok (.iaload, 1) := by decide +kernel
theorem dX8_content_36 : decode cX8_content 36 = .ok (.ireturn, 1) := by decide +kernel
theorem dX8_view_0 : decode cX8_view 0 = .ok (.aload_n 0, 1) := by decide +kernel
theorem dX8_view_1 : decode cX8_view 1 = .ok (.iload_n 1, 1) := by decide +kernel
theorem dX8_view_2 : decode cX8_view 2 = .ok (.invokevirtual 133, 3) := by decide +kernel
theorem dX8_view_5 : decode cX8_view 5 = .ok (.ifCond .eq 7, 3) := by decide +kernel
theorem dX8_view_8 : decode cX8_view 8 = .ok (.sipush (-10001), 3) := by decide +kernel
theorem dX8_view_11 : decode cX8_view 11 = .ok (.ireturn, 1) := by decide +kernel
theorem dX8_view_12 : decode cX8_view 12 = .ok (.aload_n 0, 1) := by decide +kernel
theorem dX8_view_13 : decode cX8_view 13 = .ok (.iload_n 1, 1) := by decide +kernel
theorem dX8_view_14 : decode cX8_view 14 = .ok (.invokevirtual 104, 3) := by decide +kernel
theorem dX8_view_17 : decode cX8_view 17 = .ok (.istore_n 3, 1) := by decide +kernel
theorem dX8_view_18 : decode cX8_view 18 = .ok (.iconst 0, 1) := by decide +kernel
theorem dX8_view_19 : decode cX8_view 19 = .ok (.istore 4, 2) := by decide +kernel
theorem dX8_view_21 : decode cX8_view 21 = .ok (.iconst 0, 1) := by decide +kernel
theorem dX8_view_22 : decode cX8_view 22 = .ok (.istore 5, 2) := by decide +kernel
theorem dX8_view_24 : decode cX8_view 24 = .ok (.iload 5, 2) := by decide +kernel
theorem dX8_view_26 : decode cX8_view 26 = .ok (.aload_n 0, 1) := by decide +kernel
theorem dX8_view_27 : decode cX8_view 27 = .ok (.getfield 73, 3) := by decide +kernel
theorem dX8_view_30 : decode cX8_view 30 = .ok (.if_icmp .ge 31, 3) := by decide +kernel
theorem dX8_view_33 : decode cX8_view 33 = .ok (.iload_n 3, 1) := by decide +kernel
theorem dX8_view_34 : decode cX8_view 34 = .ok (.ifCond .lt 27, 3) := by decide +kernel
theorem dX8_view_37 : decode cX8_view 37 = .ok (.iload 4, 2) := by decide +kernel
theorem dX8_view_39 : decode cX8_view 39 = .ok (.aload_n 0, 1) := by decide +kernel
theorem dX8_view_40 : decode cX8_view 40 = .ok (.getfield 7, 3) := by decide +kernel
theorem dX8_view_43 : decode cX8_view 43 = .ok (.iload_n 1, 1) := by decide +kernel
theorem dX8_view_44 : decode cX8_view 44 = .ok (.iload_n 3, 1) := by decide +kernel
theorem dX8_view_45 : decode cX8_view 45 = .ok (.invokestatic 94, 3) := by decide +kernel
theorem dX8_view_48 : decode cX8_view 48 = .ok (.iload 5, 2) := by decide +kernel
theorem dX8_view_50 : decode cX8_view 50 = .ok (.iadd, 1) := by decide +kernel
theorem dX8_view_51 : decode cX8_view 51 = .ok (.iaload, 1) := by decide +kernel
theorem dX8_view_52 : decode cX8_view 52 = .ok (.iadd, 1) := by decide +kernel
theorem dX8_view_53 : decode cX8_view 53 = .ok (.istore 4, 2) := by decide +kernel
theorem dX8_view_55 : decode cX8_view 55 = .ok (.iinc 5 1, 3) := by decide +kernel
theorem dX8_view_58 : decode cX8_view 58 = .ok (.goto (-34), 3) := by decide +kernel
theorem dX8_view_61 : decode cX8_view 61 = .ok (.iload_n 2, 1) := by decide +kernel
theorem dX8_view_62 : decode cX8_view 62 = .ok (.tableswitch 66 0 3 #[30, 36, 43, 53], 30) := by decide +kernel
theorem dX8_view_92 : decode cX8_view 92 = .ok (.aload_n 0, 1) := by decide +kernel
theorem dX8_view_93 : decode cX8_view 93 = .ok (.iload_n 1, 1) := by decide +kernel
theorem dX8_view_94 : decode cX8_view 94 = .ok (.invokevirtual 136, 3) := by decide +kernel
theorem dX8_view_97 : decode cX8_view 97 = .ok (.ireturn, 1) := by decide +kernel
theorem dX8_view_98 : decode cX8_view 98 = .ok (.aload_n 0, 1) := by decide +kernel
theorem dX8_view_99 : decode cX8_view 99 = .ok (.getfield 13, 3) := by decide +kernel
theorem dX8_view_102 : decode cX8_view 102 = .ok (.iload_n 1, 1) := by decide +kernel
theorem dX8_view_103 : decode cX8_view 103 = .ok (.iaload, 1) := by decide +kernel
theorem dX8_view_104 : decode cX8_view 104 = .ok (.ireturn, 1) := by decide +kernel
theorem dX8_view_105 : decode cX8_view 105 = .ok (.iload_n 3, 1) := by decide +kernel
theorem dX8_view_106 : decode cX8_view 106 = .ok (.ifCond .lt 7, 3) := by decide +kernel
theorem dX8_view_109 : decode cX8_view 109 = .ok (.iconst 1, 1) := by decide +kernel
theorem dX8_view_110 : decode cX8_view 110 = .ok (.goto 4, 3) := by decide +kernel
theorem dX8_view_113 : decode cX8_view 113 = .ok (.iconst 0, 1) := by decide +kernel
theorem dX8_view_114 : decode cX8_view 114 = .ok (.ireturn, 1) := by decide +kernel
theorem dX8_view_115 : decode cX8_view 115 = .ok (.iload_n 3, 1) := by decide +kernel
theorem dX8_view_116 : decode cX8_view 116 = .ok (.ifCond .lt 8, 3) := by decide +kernel
theorem dX8_view_119 : decode cX8_view 119 = .ok (.iload 4, 2) := by decide +kernel
theorem dX8_view_121 : decode cX8_view 121 = .ok (.goto 6, 3) := by decide +kernel
theorem dX8_view_124 : decode cX8_view 124 = .ok (.sipush (-10005), 3) := by decide +kernel
theorem dX8_view_127 : decode cX8_view 127 = .ok (.ireturn, 1) := by decide +kernel
theorem dX8_view_128 : decode cX8_view 128 = .ok (.sipush (-10002), 3) := by decide +kernel
theorem dX8_view_131 : decode cX8_view 131 = .ok (.ireturn, 1) := by decide +kernel
theorem dX8_compared_0 : decode cX8_compared 0 = .ok (.aload_n 0, 1) := by decide +kernel
theorem dX8_compared_1 : decode cX8_compared 1 = .ok (.aload_n 1, 1) := by decide +kernel
theorem dX8_compared_2 : decode cX8_compared 2 = .ok (.iconst 5, 1) := by decide +kernel
theorem dX8_compared_3 : decode cX8_compared 3 = .ok (.iload_n 2, 1) := by decide +kernel
theorem dX8_compared_4 : decode cX8_compared 4 = .ok (.imul, 1) := by decide +kernel
theorem dX8_compared_5 : decode cX8_compared 5 = .ok (.aload_n 1, 1) := by decide +kernel
theorem dX8_compared_6 : decode cX8_compared 6 = .ok (.iconst 5, 1) := by decide +kernel
theorem dX8_compared_7 : decode cX8_compared 7 = .ok (.iload_n 3, 1) := by decide +kernel
theorem dX8_compared_8 : decode cX8_compared 8 = .ok (.imul, 1) := by decide +kernel
theorem dX8_compared_9 : decode cX8_compared 9 = .ok (.invokevirtual 87, 3) := by decide +kernel
theorem dX8_compared_12 : decode cX8_compared 12 = .ok (.istore 4, 2) := by decide +kernel
theorem dX8_compared_14 : decode cX8_compared 14 = .ok (.aload_n 0, 1) := by decide +kernel
theorem dX8_compared_15 : decode cX8_compared 15 = .ok (.aload_n 1, 1) := by decide +kernel
theorem dX8_compared_16 : decode cX8_compared 16 = .ok (.iconst 5, 1) := by decide +kernel
theorem dX8_compared_17 : decode cX8_compared 17 = .ok (.iload_n 3, 1) := by decide +kernel
theorem dX8_compared_18 : decode cX8_compared 18 = .ok (.imul, 1) := by decide +kernel
theorem dX8_compared_19 : decode cX8_compared 19 = .ok (.aload_n 1, 1) := by decide +kernel
theorem dX8_compared_20 : decode cX8_compared 20 = .ok (.iconst 5, 1) := by decide +kernel
theorem dX8_compared_21 : decode cX8_compared 21 = .ok (.iload_n 2, 1) := by decide +kernel
theorem dX8_compared_22 : decode cX8_compared 22 = .ok (.imul, 1) := by decide +kernel
theorem dX8_compared_23 : decode cX8_compared 23 = .ok (.invokevirtual 87, 3) := by decide +kernel
theorem dX8_compared_26 : decode cX8_compared 26 = .ok (.istore 5, 2) := by decide +kernel
theorem dX8_compared_28 : decode cX8_compared 28 = .ok (.iload 4, 2) := by decide +kernel
theorem dX8_compared_30 : decode cX8_compared 30 = .ok (.ifCond .eq 12, 3) := by decide +kernel
theorem dX8_compared_33 : decode cX8_compared 33 = .ok (.iload 5, 2) := by decide +kernel
theorem dX8_compared_35 : decode cX8_compared 35 = .ok (.ifCond .eq 7, 3) := by decide +kernel
theorem dX8_compared_38 : decode cX8_compared 38 = .ok (.iconst 0, 1) := by decide +kernel
theorem dX8_compared_39 : decode cX8_compared 39 = .ok (.goto 22, 3) := by decide +kernel
theorem dX8_compared_42 : decode cX8_compared 42 = .ok (.iload 4, 2) := by decide +kernel
theorem dX8_compared_44 : decode cX8_compared 44 = .ok (.ifCond .eq 7, 3) := by decide +kernel
theorem dX8_compared_47 : decode cX8_compared 47 = .ok (.iconst (-1), 1) := by decide +kernel
theorem dX8_compared_48 : decode cX8_compared 48 = .ok (.goto 13, 3) := by decide +kernel
theorem dX8_compared_51 : decode cX8_compared 51 = .ok (.iload 5, 2) := by decide +kernel
theorem dX8_compared_53 : decode cX8_compared 53 = .ok (.ifCond .eq 7, 3) := by decide +kernel
theorem dX8_compared_56 : decode cX8_compared 56 = .ok (.iconst 1, 1) := by decide +kernel
theorem dX8_compared_57 : decode cX8_compared 57 = .ok (.goto 4, 3) := by decide +kernel
theorem dX8_compared_60 : decode cX8_compared 60 = .ok (.iconst 2, 1) := by decide +kernel
theorem dX8_compared_61 : decode cX8_compared 61 = .ok (.ireturn, 1) := by decide +kernel
theorem dX8_compare_0 : decode cX8_compare 0 = .ok (.aload_n 0, 1) := by decide +kernel
theorem dX8_compare_1 : decode cX8_compare 1 = .ok (.iload_n 1, 1) := by decide +kernel
theorem dX8_compare_2 : decode cX8_compare 2 = .ok (.invokevirtual 126, 3) := by decide +kernel
theorem dX8_compare_5 : decode cX8_compare 5 = .ok (.ifCond .ne 11, 3) := by decide +kernel
theorem dX8_compare_8 : decode cX8_compare 8 = .ok (.aload_n 0, 1) := by decide +kernel
theorem dX8_compare_9 : decode cX8_compare 9 = .ok (.iload_n 2, 1) := by decide +kernel
theorem dX8_compare_10 : decode cX8_compare 10 = .ok (.invokevirtual 126, 3) := by decide +kernel
theorem dX8_compare_13 : decode cX8_compare 13 = .ok (.ifCond .eq 7, 3) := by decide +kernel
theorem dX8_compare_16 : decode cX8_compare 16 = .ok (.sipush (-10001), 3) := by decide +kernel
theorem dX8_compare_19 : decode cX8_compare 19 = .ok (.ireturn, 1) := by decide +kernel
theorem dX8_compare_20 : decode cX8_compare 20 = .ok (.iload_n 3, 1) := by decide +kernel
theorem dX8_compare_21 : decode cX8_compare 21 = .ok (.ifCond .eq 16, 3) := by decide +kernel
theorem dX8_compare_24 : decode cX8_compare 24 = .ok (.aload_n 0, 1) := by decide +kernel
theorem dX8_compare_25 : decode cX8_compare 25 = .ok (.aload_n 0, 1) := by decide +kernel
theorem dX8_compare_26 : decode cX8_compare 26 = .ok (.getfield 38, 3) := by decide +kernel
theorem dX8_compare_29 : decode cX8_compare 29 = .ok (.iload_n 1, 1) := by decide +kernel
theorem dX8_compare_30 : decode cX8_compare 30 = .ok (.iload_n 2, 1) := by decide +kernel
theorem dX8_compare_31 : decode cX8_compare 31 = .ok (.invokevirtual 142, 3) := by decide +kernel
theorem dX8_compare_34 : decode cX8_compare 34 = .ok (.goto 13, 3) := by decide +kernel
theorem dX8_compare_37 : decode cX8_compare 37 = .ok (.aload_n 0, 1) := by decide +kernel
theorem dX8_compare_38 : decode cX8_compare 38 = .ok (.aload_n 0, 1) := by decide +kernel
theorem dX8_compare_39 : decode cX8_compare 39 = .ok (.getfield 35, 3) := by decide +kernel
theorem dX8_compare_42 : decode cX8_compare 42 = .ok (.iload_n 1, 1) := by decide +kernel
theorem dX8_compare_43 : decode cX8_compare 43 = .ok (.iload_n 2, 1) := by decide +kernel
theorem dX8_compare_44 : decode cX8_compare 44 = .ok (.invokevirtual 142, 3) := by decide +kernel
theorem dX8_compare_47 : decode cX8_compare 47 = .ok (.ireturn, 1) := by decide +kernel
theorem dX8_forkedPairs_0 : decode cX8_forkedPairs 0 = .ok (.iconst 0, 1) := by decide +kernel
theorem dX8_forkedPairs_1 : decode cX8_forkedPairs 1 = .ok (.istore_n 1, 1) := by decide +kernel
theorem dX8_forkedPairs_2 : decode cX8_forkedPairs 2 = .ok (.iconst 0, 1) := by decide +kernel
theorem dX8_forkedPairs_3 : decode cX8_forkedPairs 3 = .ok (.istore_n 2, 1) := by decide +kernel
theorem dX8_forkedPairs_4 : decode cX8_forkedPairs 4 = .ok (.iload_n 2, 1) := by decide +kernel
theorem dX8_forkedPairs_5 : decode cX8_forkedPairs 5 = .ok (.aload_n 0, 1) := by decide +kernel
theorem dX8_forkedPairs_6 : decode cX8_forkedPairs 6 = .ok (.getfield 73, 3) := by decide +kernel
theorem dX8_forkedPairs_9 : decode cX8_forkedPairs 9 = .ok (.if_icmp .ge 44, 3) := by decide +kernel
theorem dX8_forkedPairs_12 : decode cX8_forkedPairs 12 = .ok (.iconst 0, 1) := by decide +kernel
theorem dX8_forkedPairs_13 : decode cX8_forkedPairs 13 = .ok (.istore_n 3, 1) := by decide +kernel
theorem dX8_forkedPairs_14 : decode cX8_forkedPairs 14 = .ok (.iload_n 3, 1) := by decide +kernel
theorem dX8_forkedPairs_15 : decode cX8_forkedPairs 15 = .ok (.iload_n 2, 1) := by decide +kernel
theorem dX8_forkedPairs_16 : decode cX8_forkedPairs 16 = .ok (.if_icmp .ge 31, 3) := by decide +kernel
theorem dX8_forkedPairs_19 : decode cX8_forkedPairs 19 = .ok (.iload_n 1, 1) := by decide +kernel
theorem dX8_forkedPairs_20 : decode cX8_forkedPairs 20 = .ok (.aload_n 0, 1) := by decide +kernel
theorem dX8_forkedPairs_21 : decode cX8_forkedPairs 21 = .ok (.aload_n 0, 1) := by decide +kernel
theorem dX8_forkedPairs_22 : decode cX8_forkedPairs 22 = .ok (.getfield 38, 3) := by decide +kernel
theorem dX8_forkedPairs_25 : decode cX8_forkedPairs 25 = .ok (.iload_n 2, 1) := by decide +kernel
theorem dX8_forkedPairs_26 : decode cX8_forkedPairs 26 = .ok (.iload_n 3, 1) := by decide +kernel
theorem dX8_forkedPairs_27 : decode cX8_forkedPairs 27 = .ok (.invokevirtual 142, 3) := by decide +kernel
theorem dX8_forkedPairs_30 : decode cX8_forkedPairs 30 = .ok (.iconst 2, 1) := by decide +kernel
theorem dX8_forkedPairs_31 : decode cX8_forkedPairs 31 = .ok (.if_icmp .ne 7, 3) := by decide +kernel
theorem dX8_forkedPairs_34 : decode cX8_forkedPairs 34 = .ok (.iconst 1, 1) := by decide +kernel
theorem dX8_forkedPairs_35 : decode cX8_forkedPairs 35 = .ok (.goto 4, 3) := by decide +kernel
theorem dX8_forkedPairs_38 : decode cX8_forkedPairs 38 = .ok (.iconst 0, 1) := by decide +kernel
theorem dX8_forkedPairs_39 : decode cX8_forkedPairs 39 = .ok (.iadd, 1) := by decide +kernel
theorem dX8_forkedPairs_40 : decode cX8_forkedPairs 40 = .ok (.istore_n 1, 1) := by decide +kernel
theorem dX8_forkedPairs_41 : decode cX8_forkedPairs 41 = .ok (.iinc 3 1, 3) := by decide +kernel
theorem dX8_forkedPairs_44 : decode cX8_forkedPairs 44 = .ok (.goto (-30), 3) := by decide +kernel
theorem dX8_forkedPairs_47 : decode cX8_forkedPairs 47 = .ok (.iinc 2 1, 3) := by decide +kernel
theorem dX8_forkedPairs_50 : decode cX8_forkedPairs 50 = .ok (.goto (-46), 3) := by decide +kernel
theorem dX8_forkedPairs_53 : decode cX8_forkedPairs 53 = .ok (.iload_n 1, 1) := by decide +kernel
theorem dX8_forkedPairs_54 : decode cX8_forkedPairs 54 = .ok (.ireturn, 1) := by decide +kernel
theorem dX8_tellingLetter_0 : decode cX8_tellingLetter 0 = .ok (.iconst 0, 1) := by decide +kernel
theorem dX8_tellingLetter_1 : decode cX8_tellingLetter 1 = .ok (.istore_n 1, 1) := by decide +kernel
theorem dX8_tellingLetter_2 : decode cX8_tellingLetter 2 = .ok (.iload_n 1, 1) := by decide +kernel
theorem dX8_tellingLetter_3 : decode cX8_tellingLetter 3 = .ok (.aload_n 0, 1) := by decide +kernel
theorem dX8_tellingLetter_4 : decode cX8_tellingLetter 4 = .ok (.getfield 73, 3) := by decide +kernel
theorem dX8_tellingLetter_7 : decode cX8_tellingLetter 7 = .ok (.if_icmp .ge 55, 3) := by decide +kernel
theorem dX8_tellingLetter_10 : decode cX8_tellingLetter 10 = .ok (.iconst 0, 1) := by decide +kernel
theorem dX8_tellingLetter_11 : decode cX8_tellingLetter 11 = .ok (.istore_n 2, 1) := by decide +kernel
theorem dX8_tellingLetter_12 : decode cX8_tellingLetter 12 = .ok (.iload_n 2, 1) := by decide +kernel
theorem dX8_tellingLetter_13 : decode cX8_tellingLetter 13 = .ok (.aload_n 0, 1) := by decide +kernel
theorem dX8_tellingLetter_14 : decode cX8_tellingLetter 14 = .ok (.getfield 73, 3) := by decide +kernel
theorem dX8_tellingLetter_17 : decode cX8_tellingLetter 17 = .ok (.if_icmp .ge 39, 3) := by decide +kernel
theorem dX8_tellingLetter_20 : decode cX8_tellingLetter 20 = .ok (.aload_n 0, 1) := by decide +kernel
theorem dX8_tellingLetter_21 : decode cX8_tellingLetter 21 = .ok (.getfield 22, 3) := by decide +kernel
theorem dX8_tellingLetter_24 : decode cX8_tellingLetter 24 = .ok (.iload_n 2, 1) := by decide +kernel
theorem dX8_tellingLetter_25 : decode cX8_tellingLetter 25 = .ok (.iaload, 1) := by decide +kernel
theorem dX8_tellingLetter_26 : decode cX8_tellingLetter 26 = .ok (.ifCond .ne 24, 3) := by decide +kernel
theorem dX8_tellingLetter_29 : decode cX8_tellingLetter 29 = .ok (.aload_n 0, 1) := by decide +kernel
theorem dX8_tellingLetter_30 : decode cX8_tellingLetter 30 = .ok (.aload_n 0, 1) := by decide +kernel
theorem dX8_tellingLetter_31 : decode cX8_tellingLetter 31 = .ok (.getfield 38, 3) := by decide +kernel
theorem dX8_tellingLetter_34 : decode cX8_tellingLetter 34 = .ok (.iload_n 1, 1) := by decide +kernel
theorem dX8_tellingLetter_35 : decode cX8_tellingLetter 35 = .ok (.iload_n 2, 1) := by decide +kernel
theorem dX8_tellingLetter_36 : decode cX8_tellingLetter 36 = .ok (.invokevirtual 142, 3) := by decide +kernel
theorem dX8_tellingLetter_39 : decode cX8_tellingLetter 39 = .ok (.iconst 2, 1) := by decide +kernel
theorem dX8_tellingLetter_40 : decode cX8_tellingLetter 40 = .ok (.if_icmp .ne 10, 3) := by decide +kernel
theorem dX8_tellingLetter_43 : decode cX8_tellingLetter 43 = .ok (.bipush 10, 2) := by decide +kernel
theorem dX8_tellingLetter_45 : decode cX8_tellingLetter 45 = .ok (.iload_n 1, 1) := by decide +kernel
theorem dX8_tellingLetter_46 : decode cX8_tellingLetter 46 = .ok (.imul, 1) := by decide +kernel
theorem dX8_tellingLetter_47 : decode cX8_tellingLetter 47 = .ok (.iload_n 2, 1) := by decide +kernel
theorem dX8_tellingLetter_48 : decode cX8_tellingLetter 48 = .ok (.iadd, 1) := by decide +kernel
theorem dX8_tellingLetter_49 : decode cX8_tellingLetter 49 = .ok (.ireturn, 1) := by decide +kernel
theorem dX8_tellingLetter_50 : decode cX8_tellingLetter 50 = .ok (.iinc 2 1, 3) := by decide +kernel
theorem dX8_tellingLetter_53 : decode cX8_tellingLetter 53 = .ok (.goto (-41), 3) := by decide +kernel
theorem dX8_tellingLetter_56 : decode cX8_tellingLetter 56 = .ok (.iinc 1 1, 3) := by decide +kernel
theorem dX8_tellingLetter_59 : decode cX8_tellingLetter 59 = .ok (.goto (-57), 3) := by decide +kernel
theorem dX8_tellingLetter_62 : decode cX8_tellingLetter 62 = .ok (.sipush (-10005), 3) := by decide +kernel
theorem dX8_tellingLetter_65 : decode cX8_tellingLetter 65 = .ok (.ireturn, 1) := by decide +kernel
theorem dX8_unaware_0 : decode cX8_unaware 0 = .ok (.iconst 0, 1) := by decide +kernel
theorem dX8_unaware_1 : decode cX8_unaware 1 = .ok (.istore_n 1, 1) := by decide +kernel
theorem dX8_unaware_2 : decode cX8_unaware 2 = .ok (.iconst 0, 1) := by decide +kernel
theorem dX8_unaware_3 : decode cX8_unaware 3 = .ok (.istore_n 2, 1) := by decide +kernel
theorem dX8_unaware_4 : decode cX8_unaware 4 = .ok (.iload_n 2, 1) := by decide +kernel
theorem dX8_unaware_5 : decode cX8_unaware 5 = .ok (.aload_n 0, 1) := by decide +kernel
theorem dX8_unaware_6 : decode cX8_unaware 6 = .ok (.getfield 73, 3) := by decide +kernel
theorem dX8_unaware_9 : decode cX8_unaware 9 = .ok (.if_icmp .ge 89, 3) := by decide +kernel
theorem dX8_unaware_12 : decode cX8_unaware 12 = .ok (.aload_n 0, 1) := by decide +kernel
theorem dX8_unaware_13 : decode cX8_unaware 13 = .ok (.getfield 22, 3) := by decide +kernel
theorem dX8_unaware_16 : decode cX8_unaware 16 = .ok (.iload_n 2, 1) := by decide +kernel
theorem dX8_unaware_17 : decode cX8_unaware 17 = .ok (.iaload, 1) := by decide +kernel
theorem dX8_unaware_18 : decode cX8_unaware 18 = .ok (.ifCond .ne 15, 3) := by decide +kernel
theorem dX8_unaware_21 : decode cX8_unaware 21 = .ok (.aload_n 0, 1) := by decide +kernel
theorem dX8_unaware_22 : decode cX8_unaware 22 = .ok (.iload_n 2, 1) := by decide +kernel
theorem dX8_unaware_23 : decode cX8_unaware 23 = .ok (.invokevirtual 116, 3) := by decide +kernel
theorem dX8_unaware_26 : decode cX8_unaware 26 = .ok (.ifCond .ne 7, 3) := by decide +kernel
theorem dX8_unaware_29 : decode cX8_unaware 29 = .ok (.iconst 1, 1) := by decide +kernel
theorem dX8_unaware_30 : decode cX8_unaware 30 = .ok (.goto 4, 3) := by decide +kernel
theorem dX8_unaware_33 : decode cX8_unaware 33 = .ok (.iconst 0, 1) := by decide +kernel
theorem dX8_unaware_34 : decode cX8_unaware 34 = .ok (.istore_n 3, 1) := by decide +kernel
theorem dX8_unaware_35 : decode cX8_unaware 35 = .ok (.iconst 0, 1) := by decide +kernel
theorem dX8_unaware_36 : decode cX8_unaware 36 = .ok (.istore 4, 2) := by decide +kernel
theorem dX8_unaware_38 : decode cX8_unaware 38 = .ok (.iload 4, 2) := by decide +kernel
theorem dX8_unaware_40 : decode cX8_unaware 40 = .ok (.aload_n 0, 1) := by decide +kernel
theorem dX8_unaware_41 : decode cX8_unaware 41 = .ok (.getfield 73, 3) := by decide +kernel
theorem dX8_unaware_44 : decode cX8_unaware 44 = .ok (.if_icmp .ge 34, 3) := by decide +kernel
theorem dX8_unaware_47 : decode cX8_unaware 47 = .ok (.iload_n 3, 1) := by decide +kernel
theorem dX8_unaware_48 : decode cX8_unaware 48 = .ok (.ifCond .eq 22, 3) := by decide +kernel
theorem dX8_unaware_51 : decode cX8_unaware 51 = .ok (.aload_n 0, 1) := by decide +kernel
theorem dX8_unaware_52 : decode cX8_unaware 52 = .ok (.aload_n 0, 1) := by decide +kernel
theorem dX8_unaware_53 : decode cX8_unaware 53 = .ok (.getfield 38, 3) := by decide +kernel
theorem dX8_unaware_56 : decode cX8_unaware 56 = .ok (.iload_n 2, 1) := by decide +kernel
theorem dX8_unaware_57 : decode cX8_unaware 57 = .ok (.iload 4, 2) := by decide +kernel
theorem dX8_unaware_59 : decode cX8_unaware 59 = .ok (.invokevirtual 142, 3) := by decide +kernel
theorem dX8_unaware_62 : decode cX8_unaware 62 = .ok (.iconst 2, 1) := by decide +kernel
theorem dX8_unaware_63 : decode cX8_unaware 63 = .ok (.if_icmp .ge 7, 3) := by decide +kernel
theorem dX8_unaware_66 : decode cX8_unaware 66 = .ok (.iconst 1, 1) := by decide +kernel
theorem dX8_unaware_67 : decode cX8_unaware 67 = .ok (.goto 4, 3) := by decide +kernel
theorem dX8_unaware_70 : decode cX8_unaware 70 = .ok (.iconst 0, 1) := by decide +kernel
theorem dX8_unaware_71 : decode cX8_unaware 71 = .ok (.istore_n 3, 1) := by decide +kernel
theorem dX8_unaware_72 : decode cX8_unaware 72 = .ok (.iinc 4 1, 3) := by decide +kernel
theorem dX8_unaware_75 : decode cX8_unaware 75 = .ok (.goto (-37), 3) := by decide +kernel
theorem dX8_unaware_78 : decode cX8_unaware 78 = .ok (.iload_n 1, 1) := by decide +kernel
theorem dX8_unaware_79 : decode cX8_unaware 79 = .ok (.iload_n 3, 1) := by decide +kernel
theorem dX8_unaware_80 : decode cX8_unaware 80 = .ok (.ifCond .eq 9, 3) := by decide +kernel
theorem dX8_unaware_83 : decode cX8_unaware 83 = .ok (.iconst 1, 1) := by decide +kernel
theorem dX8_unaware_84 : decode cX8_unaware 84 = .ok (.iload_n 2, 1) := by decide +kernel
theorem dX8_unaware_85 : decode cX8_unaware 85 = .ok (.ishl, 1) := by decide +kernel
theorem dX8_unaware_86 : decode cX8_unaware 86 = .ok (.goto 4, 3) := by decide +kernel
theorem dX8_unaware_89 : decode cX8_unaware 89 = .ok (.iconst 0, 1) := by decide +kernel
theorem dX8_unaware_90 : decode cX8_unaware 90 = .ok (.ior, 1) := by decide +kernel
theorem dX8_unaware_91 : decode cX8_unaware 91 = .ok (.istore_n 1, 1) := by decide +kernel
theorem dX8_unaware_92 : decode cX8_unaware 92 = .ok (.iinc 2 1, 3) := by decide +kernel
theorem dX8_unaware_95 : decode cX8_unaware 95 = .ok (.goto (-91), 3) := by decide +kernel
theorem dX8_unaware_98 : decode cX8_unaware 98 = .ok (.iload_n 1, 1) := by decide +kernel
theorem dX8_unaware_99 : decode cX8_unaware 99 = .ok (.ireturn, 1) := by decide +kernel
theorem dX8_type_0 : decode cX8_type 0 = .ok (.aload_n 0, 1) := by decide +kernel
theorem dX8_type_1 : decode cX8_type 1 = .ok (.getfield 146, 3) := by decide +kernel
theorem dX8_type_4 : decode cX8_type 4 = .ok (.bipush 60, 2) := by decide +kernel
theorem dX8_type_6 : decode cX8_type 6 = .ok (.if_icmp .ne 7, 3) := by decide +kernel
theorem dX8_type_9 : decode cX8_type 9 = .ok (.sipush (-10004), 3) := by decide +kernel
theorem dX8_type_12 : decode cX8_type 12 = .ok (.ireturn, 1) := by decide +kernel
theorem dX8_type_13 : decode cX8_type 13 = .ok (.aload_n 0, 1) := by decide +kernel
theorem dX8_type_14 : decode cX8_type 14 = .ok (.getfield 65, 3) := by decide +kernel
theorem dX8_type_17 : decode cX8_type 17 = .ok (.aload_n 0, 1) := by decide +kernel
theorem dX8_type_18 : decode cX8_type 18 = .ok (.getfield 146, 3) := by decide +kernel
theorem dX8_type_21 : decode cX8_type 21 = .ok (.iload_n 1, 1) := by decide +kernel
theorem dX8_type_22 : decode cX8_type 22 = .ok (.castore, 1) := by decide +kernel
theorem dX8_type_23 : decode cX8_type 23 = .ok (.aload_n 0, 1) := by decide +kernel
theorem dX8_type_24 : decode cX8_type 24 = .ok (.dup, 1) := by decide +kernel
theorem dX8_type_25 : decode cX8_type 25 = .ok (.getfield 146, 3) := by decide +kernel
theorem dX8_type_28 : decode cX8_type 28 = .ok (.iconst 1, 1) := by decide +kernel
theorem dX8_type_29 : decode cX8_type 29 = .ok (.iadd, 1) := by decide +kernel
theorem dX8_type_30 : decode cX8_type 30 = .ok (.putfield 146, 3) := by decide +kernel
theorem dX8_type_33 : decode cX8_type 33 = .ok (.aload_n 0, 1) := by decide +kernel
theorem dX8_type_34 : decode cX8_type 34 = .ok (.getfield 146, 3) := by decide +kernel
theorem dX8_type_37 : decode cX8_type 37 = .ok (.ireturn, 1) := by decide +kernel
theorem dX8_clearText_0 : decode cX8_clearText 0 = .ok (.aload_n 0, 1) := by decide +kernel
theorem dX8_clearText_1 : decode cX8_clearText 1 = .ok (.getfield 146, 3) := by decide +kernel
theorem dX8_clearText_4 : decode cX8_clearText 4 = .ok (.istore_n 1, 1) := by decide +kernel
theorem dX8_clearText_5 : decode cX8_clearText 5 = .ok (.aload_n 0, 1) := by decide +kernel
theorem dX8_clearText_6 : decode cX8_clearText 6 = .ok (.iconst 0, 1) := by decide +kernel
theorem dX8_clearText_7 : decode cX8_clearText 7 = .ok (.putfield 146, 3) := by decide +kernel
theorem dX8_clearText_10 : decode cX8_clearText 10 = .ok (.iload_n 1, 1) := by decide +kernel
theorem dX8_clearText_11 : decode cX8_clearText 11 = .ok (.ireturn, 1) := by decide +kernel
theorem dX8_isCommand_0 : decode cX8_isCommand 0 = .ok (.iload_n 0, 1) := by decide +kernel
theorem dX8_isCommand_1 : decode cX8_isCommand 1 = .ok (.bipush 119, 2) := by decide +kernel
theorem dX8_isCommand_3 : decode cX8_isCommand 3 = .ok (.if_icmp .eq 27, 3) := by decide +kernel
theorem dX8_isCommand_6 : decode cX8_isCommand 6 = .ok (.iload_n 0, 1) := by decide +kernel
theorem dX8_isCommand_7 : decode cX8_isCommand 7 = .ok (.bipush 114, 2) := by decide +kernel
theorem dX8_isCommand_9 : decode cX8_isCommand 9 = .ok (.if_icmp .eq 21, 3) := by decide +kernel
theorem dX8_isCommand_12 : decode cX8_isCommand 12 = .ok (.iload_n 0, 1) := by decide +kernel
theorem dX8_isCommand_13 : decode cX8_isCommand 13 = .ok (.bipush 115, 2) := by decide +kernel
theorem dX8_isCommand_15 : decode cX8_isCommand 15 = .ok (.if_icmp .eq 15, 3) := by decide +kernel
theorem dX8_isCommand_18 : decode cX8_isCommand 18 = .ok (.iload_n 0, 1) := by decide +kernel
theorem dX8_isCommand_19 : decode cX8_isCommand 19 = .ok (.bipush 103, 2) := by decide +kernel
theorem dX8_isCommand_21 : decode cX8_isCommand 21 = .ok (.if_icmp .eq 9, 3) := by decide +kernel
theorem dX8_isCommand_24 : decode cX8_isCommand 24 = .ok (.iload_n 0, 1) := by decide +kernel
theorem dX8_isCommand_25 : decode cX8_isCommand 25 = .ok (.bipush 109, 2) := by decide +kernel
theorem dX8_isCommand_27 : decode cX8_isCommand 27 = .ok (.if_icmp .ne 7, 3) := by decide +kernel
theorem dX8_isCommand_30 : decode cX8_isCommand 30 = .ok (.iconst 1, 1) := by decide +kernel
theorem dX8_isCommand_31 : decode cX8_isCommand 31 = .ok (.goto 4, 3) := by decide +kernel
theorem dX8_isCommand_34 : decode cX8_isCommand 34 = .ok (.iconst 0, 1) := by decide +kernel
theorem dX8_isCommand_35 : decode cX8_isCommand 35 = .ok (.ireturn, 1) := by decide +kernel
theorem dX8_fault_0 : decode cX8_fault 0 = .ok (.iconst 0, 1) := by decide +kernel
theorem dX8_fault_1 : decode cX8_fault 1 = .ok (.istore_n 1, 1) := by decide +kernel
theorem dX8_fault_2 : decode cX8_fault 2 = .ok (.iload_n 1, 1) := by decide +kernel
theorem dX8_fault_3 : decode cX8_fault 3 = .ok (.aload_n 0, 1) := by decide +kernel
theorem dX8_fault_4 : decode cX8_fault 4 = .ok (.getfield 146, 3) := by decide +kernel
theorem dX8_fault_7 : decode cX8_fault 7 = .ok (.if_icmp .ge 61, 3) := by decide +kernel
theorem dX8_fault_10 : decode cX8_fault 10 = .ok (.iload_n 1, 1) := by decide +kernel
theorem dX8_fault_11 : decode cX8_fault 11 = .ok (.iconst 3, 1) := by decide +kernel
theorem dX8_fault_12 : decode cX8_fault 12 = .ok (.irem, 1) := by decide +kernel
theorem dX8_fault_13 : decode cX8_fault 13 = .ok (.ifCond .ne 15, 3) := by decide +kernel
theorem dX8_fault_16 : decode cX8_fault 16 = .ok (.aload_n 0, 1) := by decide +kernel
theorem dX8_fault_17 : decode cX8_fault 17 = .ok (.getfield 65, 3) := by decide +kernel
theorem dX8_fault_20 : decode cX8_fault 20 = .ok (.iload_n 1, 1) := by decide +kernel
theorem dX8_fault_21 : decode cX8_fault 21 = .ok (.caload, 1) := by decide +kernel
theorem dX8_fault_22 : decode cX8_fault 22 = .ok (.invokestatic 149, 3) := by decide +kernel
theorem dX8_fault_25 : decode cX8_fault 25 = .ok (.goto 30, 3) := by decide +kernel
theorem dX8_fault_28 : decode cX8_fault 28 = .ok (.aload_n 0, 1) := by decide +kernel
theorem dX8_fault_29 : decode cX8_fault 29 = .ok (.getfield 65, 3) := by decide +kernel
theorem dX8_fault_32 : decode cX8_fault 32 = .ok (.iload_n 1, 1) := by decide +kernel
theorem dX8_fault_33 : decode cX8_fault 33 = .ok (.caload, 1) := by decide +kernel
theorem dX8_fault_34 : decode cX8_fault 34 = .ok (.bipush 48, 2) := by decide +kernel
theorem dX8_fault_36 : decode cX8_fault 36 = .ok (.if_icmp .lt 18, 3) := by decide +kernel
theorem dX8_fault_39 : decode cX8_fault 39 = .ok (.aload_n 0, 1) := by decide +kernel
theorem dX8_fault_40 : decode cX8_fault 40 = .ok (.getfield 65, 3) := by decide +kernel
theorem dX8_fault_43 : decode cX8_fault 43 = .ok (.iload_n 1, 1) := by decide +kernel
theorem dX8_fault_44 : decode cX8_fault 44 = .ok (.caload, 1) := by decide +kernel
theorem dX8_fault_45 : decode cX8_fault 45 = .ok (.bipush 57, 2) := by decide +kernel
theorem dX8_fault_47 : decode cX8_fault 47 = .ok (.if_icmp .gt 7, 3) := by decide +kernel
theorem dX8_fault_50 : decode cX8_fault 50 = .ok (.iconst 1, 1) := by decide +kernel
theorem dX8_fault_51 : decode cX8_fault 51 = .ok (.goto 4, 3) := by decide +kernel
theorem dX8_fault_54 : decode cX8_fault 54 = .ok (.iconst 0, 1) := by decide +kernel
theorem dX8_fault_55 : decode cX8_fault 55 = .ok (.istore_n 2, 1) := by decide +kernel
theorem dX8_fault_56 : decode cX8_fault 56 = .ok (.iload_n 2, 1) := by decide +kernel
theorem dX8_fault_57 : decode cX8_fault 57 = .ok (.ifCond .ne 5, 3) := by decide +kernel
theorem dX8_fault_60 : decode cX8_fault 60 = .ok (.iload_n 1, 1) := by decide +kernel
theorem dX8_fault_61 : decode cX8_fault 61 = .ok (.ireturn, 1) := by decide +kernel
theorem dX8_fault_62 : decode cX8_fault 62 = .ok (.iinc 1 1, 3) := by decide +kernel
theorem dX8_fault_65 : decode cX8_fault 65 = .ok (.goto (-63), 3) := by decide +kernel
theorem dX8_fault_68 : decode cX8_fault 68 = .ok (.aload_n 0, 1) := by decide +kernel
theorem dX8_fault_69 : decode cX8_fault 69 = .ok (.getfield 146, 3) := by decide +kernel
theorem dX8_fault_72 : decode cX8_fault 72 = .ok (.iconst 3, 1) := by decide +kernel
theorem dX8_fault_73 : decode cX8_fault 73 = .ok (.irem, 1) := by decide +kernel
theorem dX8_fault_74 : decode cX8_fault 74 = .ok (.ifCond .ne 9, 3) := by decide +kernel
theorem dX8_fault_77 : decode cX8_fault 77 = .ok (.sipush (-10005), 3) := by decide +kernel
theorem dX8_fault_80 : decode cX8_fault 80 = .ok (.goto 7, 3) := by decide +kernel
theorem dX8_fault_83 : decode cX8_fault 83 = .ok (.aload_n 0, 1) := by decide +kernel
theorem dX8_fault_84 : decode cX8_fault 84 = .ok (.getfield 146, 3) := by decide +kernel
theorem dX8_fault_87 : decode cX8_fault 87 = .ok (.ireturn, 1) := by decide +kernel
theorem dX8_carries_0 : decode cX8_carries 0 = .ok (.iload_n 1, 1) := by decide +kernel
theorem dX8_carries_1 : decode cX8_carries 1 = .ok (.lookupswitch 103 #[(109, 88), (114, 58), (115, 73), (119, 43)], 43) := by decide +kernel
theorem dX8_carries_44 : decode cX8_carries 44 = .ok (.aload_n 0, 1) := by decide +kernel
theorem dX8_carries_45 : decode cX8_carries 45 = .ok (.iload_n 2, 1) := by decide +kernel
theorem dX8_carries_46 : decode cX8_carries 46 = .ok (.iload_n 3, 1) := by decide +kernel
theorem dX8_carries_47 : decode cX8_carries 47 = .ok (.invokevirtual 153, 3) := by decide +kernel
theorem dX8_carries_50 : decode cX8_carries 50 = .ok (.ifCond .lt 7, 3) := by decide +kernel
theorem dX8_carries_53 : decode cX8_carries 53 = .ok (.iconst 1, 1) := by decide +kernel
theorem dX8_carries_54 : decode cX8_carries 54 = .ok (.goto 4, 3) := by decide +kernel
theorem dX8_carries_57 : decode cX8_carries 57 = .ok (.iconst 0, 1) := by decide +kernel
theorem dX8_carries_58 : decode cX8_carries 58 = .ok (.ireturn, 1) := by decide +kernel
theorem dX8_carries_59 : decode cX8_carries 59 = .ok (.aload_n 0, 1) := by decide +kernel
theorem dX8_carries_60 : decode cX8_carries 60 = .ok (.iload_n 2, 1) := by decide +kernel
theorem dX8_carries_61 : decode cX8_carries 61 = .ok (.iload_n 3, 1) := by decide +kernel
theorem dX8_carries_62 : decode cX8_carries 62 = .ok (.invokevirtual 156, 3) := by decide +kernel
theorem dX8_carries_65 : decode cX8_carries 65 = .ok (.ifCond .lt 7, 3) := by decide +kernel
theorem dX8_carries_68 : decode cX8_carries 68 = .ok (.iconst 1, 1) := by decide +kernel
theorem dX8_carries_69 : decode cX8_carries 69 = .ok (.goto 4, 3) := by decide +kernel
theorem dX8_carries_72 : decode cX8_carries 72 = .ok (.iconst 0, 1) := by decide +kernel
theorem dX8_carries_73 : decode cX8_carries 73 = .ok (.ireturn, 1) := by decide +kernel
theorem dX8_carries_74 : decode cX8_carries 74 = .ok (.aload_n 0, 1) := by decide +kernel
theorem dX8_carries_75 : decode cX8_carries 75 = .ok (.iload_n 2, 1) := by decide +kernel
theorem dX8_carries_76 : decode cX8_carries 76 = .ok (.iload_n 3, 1) := by decide +kernel
theorem dX8_carries_77 : decode cX8_carries 77 = .ok (.invokevirtual 159, 3) := by decide +kernel
theorem dX8_carries_80 : decode cX8_carries 80 = .ok (.ifCond .lt 7, 3) := by decide +kernel
theorem dX8_carries_83 : decode cX8_carries 83 = .ok (.iconst 1, 1) := by decide +kernel
theorem dX8_carries_84 : decode cX8_carries 84 = .ok (.goto 4, 3) := by decide +kernel
theorem dX8_carries_87 : decode cX8_carries 87 = .ok (.iconst 0, 1) := by decide +kernel
theorem dX8_carries_88 : decode cX8_carries 88 = .ok (.ireturn, 1) := by decide +kernel
theorem dX8_carries_89 : decode cX8_carries 89 = .ok (.aload_n 0, 1) := by decide +kernel
theorem dX8_carries_90 : decode cX8_carries 90 = .ok (.iload_n 2, 1) := by decide +kernel
theorem dX8_carries_91 : decode cX8_carries 91 = .ok (.iload_n 3, 1) := by decide +kernel
theorem dX8_carries_92 : decode cX8_carries 92 = .ok (.invokevirtual 162, 3) := by decide +kernel
theorem dX8_carries_95 : decode cX8_carries 95 = .ok (.ifCond .lt 7, 3) := by decide +kernel
theorem dX8_carries_98 : decode cX8_carries 98 = .ok (.iconst 1, 1) := by decide +kernel
theorem dX8_carries_99 : decode cX8_carries 99 = .ok (.goto 4, 3) := by decide +kernel
theorem dX8_carries_102 : decode cX8_carries 102 = .ok (.iconst 0, 1) := by decide +kernel
theorem dX8_carries_103 : decode cX8_carries 103 = .ok (.ireturn, 1) := by decide +kernel
theorem dX8_carries_104 : decode cX8_carries 104 = .ok (.aload_n 0, 1) := by decide +kernel
theorem dX8_carries_105 : decode cX8_carries 105 = .ok (.iload_n 2, 1) := by decide +kernel
theorem dX8_carries_106 : decode cX8_carries 106 = .ok (.invokevirtual 126, 3) := by decide +kernel
theorem dX8_carries_109 : decode cX8_carries 109 = .ok (.ifCond .ne 7, 3) := by decide +kernel
theorem dX8_carries_112 : decode cX8_carries 112 = .ok (.iconst 1, 1) := by decide +kernel
theorem dX8_carries_113 : decode cX8_carries 113 = .ok (.goto 4, 3) := by decide +kernel
theorem dX8_carries_116 : decode cX8_carries 116 = .ok (.iconst 0, 1) := by decide +kernel
theorem dX8_carries_117 : decode cX8_carries 117 = .ok (.istore 4, 2) := by decide +kernel
theorem dX8_carries_119 : decode cX8_carries 119 = .ok (.iconst 0, 1) := by decide +kernel
theorem dX8_carries_120 : decode cX8_carries 120 = .ok (.istore 5, 2) := by decide +kernel
theorem dX8_carries_122 : decode cX8_carries 122 = .ok (.iload 5, 2) := by decide +kernel
theorem dX8_carries_124 : decode cX8_carries 124 = .ok (.iload_n 3, 1) := by decide +kernel
theorem dX8_carries_125 : decode cX8_carries 125 = .ok (.if_icmp .ge 29, 3) := by decide +kernel
theorem dX8_carries_128 : decode cX8_carries 128 = .ok (.iload 4, 2) := by decide +kernel
theorem dX8_carries_130 : decode cX8_carries 130 = .ok (.ifCond .eq 24, 3) := by decide +kernel
theorem dX8_carries_133 : decode cX8_carries 133 = .ok (.aload_n 0, 1) := by decide +kernel
theorem dX8_carries_134 : decode cX8_carries 134 = .ok (.iload_n 2, 1) := by decide +kernel
theorem dX8_carries_135 : decode cX8_carries 135 = .ok (.invokevirtual 165, 3) := by decide +kernel
theorem dX8_carries_138 : decode cX8_carries 138 = .ok (.ifCond .lt 7, 3) := by decide +kernel
theorem dX8_carries_141 : decode cX8_carries 141 = .ok (.iconst 1, 1) := by decide +kernel
theorem dX8_carries_142 : decode cX8_carries 142 = .ok (.goto 4, 3) := by decide +kernel
theorem dX8_carries_145 : decode cX8_carries 145 = .ok (.iconst 0, 1) := by decide +kernel
theorem dX8_carries_146 : decode cX8_carries 146 = .ok (.istore 4, 2) := by decide +kernel
theorem dX8_carries_148 : decode cX8_carries 148 = .ok (.iinc 5 1, 3) := by decide +kernel
theorem dX8_carries_151 : decode cX8_carries 151 = .ok (.goto (-29), 3) := by decide +kernel
theorem dX8_carries_154 : decode cX8_carries 154 = .ok (.iload 4, 2) := by decide +kernel
theorem dX8_carries_156 : decode cX8_carries 156 = .ok (.ireturn, 1) := by decide +kernel
theorem dX8_run_0 : decode cX8_run 0 = .ok (.aload_n 0, 1) := by decide +kernel
theorem dX8_run_1 : decode cX8_run 1 = .ok (.invokevirtual 168, 3) := by decide +kernel
theorem dX8_run_4 : decode cX8_run 4 = .ok (.ifCond .lt 11, 3) := by decide +kernel
theorem dX8_run_7 : decode cX8_run 7 = .ok (.bipush (-100), 2) := by decide +kernel
theorem dX8_run_9 : decode cX8_run 9 = .ok (.aload_n 0, 1) := by decide +kernel
theorem dX8_run_10 : decode cX8_run 10 = .ok (.invokevirtual 168, 3) := by decide +kernel
theorem dX8_run_13 : decode cX8_run 13 = .ok (.isub, 1) := by decide +kernel
theorem dX8_run_14 : decode cX8_run 14 = .ok (.ireturn, 1) := by decide +kernel
theorem dX8_run_15 : decode cX8_run 15 = .ok (.iconst 0, 1) := by decide +kernel
theorem dX8_run_16 : decode cX8_run 16 = .ok (.istore_n 1, 1) := by decide +kernel
theorem dX8_run_17 : decode cX8_run 17 = .ok (.iconst 3, 1) := by decide +kernel
theorem dX8_run_18 : decode cX8_run 18 = .ok (.iload_n 1, 1) := by decide +kernel
theorem dX8_run_19 : decode cX8_run 19 = .ok (.imul, 1) := by decide +kernel
theorem dX8_run_20 : decode cX8_run 20 = .ok (.aload_n 0, 1) := by decide +kernel
theorem dX8_run_21 : decode cX8_run 21 = .ok (.getfield 146, 3) := by decide +kernel
theorem dX8_run_24 : decode cX8_run 24 = .ok (.if_icmp .ge 50, 3) := by decide +kernel
theorem dX8_run_27 : decode cX8_run 27 = .ok (.aload_n 0, 1) := by decide +kernel
theorem dX8_run_28 : decode cX8_run 28 = .ok (.aload_n 0, 1) := by decide +kernel
theorem dX8_run_29 : decode cX8_run 29 = .ok (.getfield 65, 3) := by decide +kernel
theorem dX8_run_32 : decode cX8_run 32 = .ok (.iconst 3, 1) := by decide +kernel
theorem dX8_run_33 : decode cX8_run 33 = .ok (.iload_n 1, 1) := by decide +kernel
theorem dX8_run_34 : decode cX8_run 34 = .ok (.imul, 1) := by decide +kernel
theorem dX8_run_35 : decode cX8_run 35 = .ok (.caload, 1) := by decide +kernel
theorem dX8_run_36 : decode cX8_run 36 = .ok (.aload_n 0, 1) := by decide +kernel
theorem dX8_run_37 : decode cX8_run 37 = .ok (.getfield 65, 3) := by decide +kernel
theorem dX8_run_40 : decode cX8_run 40 = .ok (.iconst 3, 1) := by decide +kernel
theorem dX8_run_41 : decode cX8_run 41 = .ok (.iload_n 1, 1) := by decide +kernel
theorem dX8_run_42 : decode cX8_run 42 = .ok (.imul, 1) := by decide +kernel
theorem dX8_run_43 : decode cX8_run 43 = .ok (.iconst 1, 1) := by decide +kernel
theorem dX8_run_44 : decode cX8_run 44 = .ok (.iadd, 1) := by decide +kernel
theorem dX8_run_45 : decode cX8_run 45 = .ok (.caload, 1) := by decide +kernel
theorem dX8_run_46 : decode cX8_run 46 = .ok (.bipush 48, 2) := by decide +kernel
theorem dX8_run_48 : decode cX8_run 48 = .ok (.isub, 1) := by decide +kernel
theorem dX8_run_49 : decode cX8_run 49 = .ok (.aload_n 0, 1) := by decide +kernel
theorem dX8_run_50 : decode cX8_run 50 = .ok (.getfield 65, 3) := by decide +kernel
theorem dX8_run_53 : decode cX8_run 53 = .ok (.iconst 3, 1) := by decide +kernel
theorem dX8_run_54 : decode cX8_run 54 = .ok (.iload_n 1, 1) := by decide +kernel
theorem dX8_run_55 : decode cX8_run 55 = .ok (.imul, 1) := by decide +kernel
theorem dX8_run_56 : decode cX8_run 56 = .ok (.iconst 2, 1) := by decide +kernel
theorem dX8_run_57 : decode cX8_run 57 = .ok (.iadd, 1) := by decide +kernel
theorem dX8_run_58 : decode cX8_run 58 = .ok (.caload, 1) := by decide +kernel
theorem dX8_run_59 : decode cX8_run 59 = .ok (.bipush 48, 2) := by decide +kernel
theorem dX8_run_61 : decode cX8_run 61 = .ok (.isub, 1) := by decide +kernel
theorem dX8_run_62 : decode cX8_run 62 = .ok (.invokevirtual 172, 3) := by decide +kernel
theorem dX8_run_65 : decode cX8_run 65 = .ok (.ifCond .eq 9, 3) := by decide +kernel
theorem dX8_run_68 : decode cX8_run 68 = .ok (.iinc 1 1, 3) := by decide +kernel
theorem dX8_run_71 : decode cX8_run 71 = .ok (.goto (-54), 3) := by decide +kernel
theorem dX8_run_74 : decode cX8_run 74 = .ok (.iload_n 1, 1) := by decide +kernel
theorem dX8_run_75 : decode cX8_run 75 = .ok (.ireturn, 1) := by decide +kernel
end
section
def xtbl : List Cond := lw_tbl.filter goodWord
theorem xt_of {w : Cond} (i : Nat) (h : lw_tbl[i]? = some w) (g : goodWord w = true) : w ∈ xtbl := List.mem_filter.mpr ⟨List.mem_of_getElem? h, g⟩
theorem xt_good : GoodIn xtbl xtbl := fun w h => ⟨h, good_of_word (List.mem_filter.mp h).2⟩
theorem xw_sel_X7_isUser : Cond.selects RX7 yX7_isUser yX7_isUser ∈ xtbl := xt_of 0 (by decide +kernel) (by decide +kernel)
theorem xw_sel_X7_operate : Cond.selects RX7 yX7_operate yX7_operate ∈ xtbl := xt_of 1 (by decide +kernel) (by decide +kernel)
theorem xw_sel_X7_alarmAhead : Cond.selects RX7 yX7_alarmAhead yX7_alarmAhead ∈ xtbl := xt_of 2 (by decide +kernel) (by decide +kernel)
theorem xw_sel_X7_entriesShownTo : Cond.selects RX7 yX7_entriesShownTo yX7_entriesShownTo ∈ xtbl := xt_of 3 (by decide +kernel) (by decide +kernel)
theorem xw_sel_X7_isView : Cond.selects RX7 yX7_isView yX7_isView ∈ xtbl := xt_of 4 (by decide +kernel) (by decide +kernel)
theorem xw_sel_X7_usersAttachedTo : Cond.selects RX7 yX7_usersAttachedTo yX7_usersAttachedTo ∈ xtbl := xt_of 5 (by decide +kernel) (by decide +kernel)
theorem xw_sel_X7_usersWithAlarm : Cond.selects RX7 yX7_usersWithAlarm yX7_usersWithAlarm ∈ xtbl := xt_of 6 (by decide +kernel) (by decide +kernel)
theorem xw_sel_X7_usersWithProof : Cond.selects RX7 yX7_usersWithProof yX7_usersWithProof ∈ xtbl := xt_of 7 (by decide +kernel) (by decide +kernel)
theorem xw_sel_X7_operationsOfAll : Cond.selects RX7 yX7_operationsOfAll yX7_operationsOfAll ∈ xtbl := xt_of 8 (by decide +kernel) (by decide +kernel)
theorem xw_sel_X7_lettersInBoxes : Cond.selects RX7 yX7_lettersInBoxes yX7_lettersInBoxes ∈ xtbl := xt_of 9 (by decide +kernel) (by decide +kernel)
theorem xw_sel_X7_knowForkedVectors : Cond.selects RX7 yX7_knowForkedVectors yX7_knowForkedVectors ∈ xtbl := xt_of 10 (by decide +kernel) (by decide +kernel)
theorem xw_sel_X7_isUnaware : Cond.selects RX7 yX7_isUnaware yX7_isUnaware ∈ xtbl := xt_of 11 (by decide +kernel) (by decide +kernel)
theorem xw_sel_X7_carryOut : Cond.selects RX7 yX7_carryOut yX7_carryOut ∈ xtbl := xt_of 12 (by decide +kernel) (by decide +kernel)
theorem xw_sel_X7_readLetters : Cond.selects RX7 yX7_readLetters yX7_readLetters ∈ xtbl := xt_of 13 (by decide +kernel) (by decide +kernel)
theorem xw_sel_X8_begin : Cond.selects RX8 yX8_begin yX8_begin ∈ xtbl := xt_of 14 (by decide +kernel) (by decide +kernel)
theorem xw_sel_X8_noUser : Cond.selects RX8 yX8_noUser yX8_noUser ∈ xtbl := xt_of 15 (by decide +kernel) (by decide +kernel)
theorem xw_sel_X8_operate : Cond.selects RX8 yX8_operate yX8_operate ∈ xtbl := xt_of 16 (by decide +kernel) (by decide +kernel)
theorem xw_sel_X8_alarmFor : Cond.selects RX8 yX8_alarmFor yX8_alarmFor ∈ xtbl := xt_of 17 (by decide +kernel) (by decide +kernel)
theorem xw_sel_X8_atMost : Cond.selects RX8 yX8_atMost yX8_atMost ∈ xtbl := xt_of 18 (by decide +kernel) (by decide +kernel)
theorem xw_sel_X8_greatest : Cond.selects RX8 yX8_greatest yX8_greatest ∈ xtbl := xt_of 19 (by decide +kernel) (by decide +kernel)
theorem xw_sel_X8_areApart : Cond.selects RX8 yX8_areApart yX8_areApart ∈ xtbl := xt_of 20 (by decide +kernel) (by decide +kernel)
theorem xw_sel_X8_raises : Cond.selects RX8 yX8_raises yX8_raises ∈ xtbl := xt_of 21 (by decide +kernel) (by decide +kernel)
theorem xw_sel_X8_proves : Cond.selects RX8 yX8_proves yX8_proves ∈ xtbl := xt_of 22 (by decide +kernel) (by decide +kernel)
theorem xw_sel_X8_copy : Cond.selects RX8 yX8_copy yX8_copy ∈ xtbl := xt_of 23 (by decide +kernel) (by decide +kernel)
theorem xw_sel_X8_remember : Cond.selects RX8 yX8_remember yX8_remember ∈ xtbl := xt_of 24 (by decide +kernel) (by decide +kernel)
theorem xw_sel_X8_noView : Cond.selects RX8 yX8_noView yX8_noView ∈ xtbl := xt_of 25 (by decide +kernel) (by decide +kernel)
theorem xw_sel_X8_attached : Cond.selects RX8 yX8_attached yX8_attached ∈ xtbl := xt_of 26 (by decide +kernel) (by decide +kernel)
theorem xw_sel_X8_takesLetter : Cond.selects RX8 yX8_takesLetter yX8_takesLetter ∈ xtbl := xt_of 27 (by decide +kernel) (by decide +kernel)
theorem xw_sel_X8_compared : Cond.selects RX8 yX8_compared yX8_compared ∈ xtbl := xt_of 28 (by decide +kernel) (by decide +kernel)
theorem xw_sel_X8_fault : Cond.selects RX8 yX8_fault yX8_fault ∈ xtbl := xt_of 29 (by decide +kernel) (by decide +kernel)
theorem xw_sel_X8_carries : Cond.selects RX8 yX8_carries yX8_carries ∈ xtbl := xt_of 30 (by decide +kernel) (by decide +kernel)
theorem xw_ini_L : Cond.initialized RL ∈ xtbl := xt_of 31 (by decide +kernel) (by decide +kernel)
theorem xw_ini_X7 : Cond.initialized RX7 ∈ xtbl := xt_of 32 (by decide +kernel) (by decide +kernel)
theorem xw_ini_X4 : Cond.initialized RX4 ∈ xtbl := xt_of 33 (by decide +kernel) (by decide +kernel)
theorem xw_ini_X2 : Cond.initialized RX2 ∈ xtbl := xt_of 34 (by decide +kernel) (by decide +kernel)
theorem xw_ini_X5 : Cond.initialized RX5 ∈ xtbl := xt_of 35 (by decide +kernel) (by decide +kernel)
theorem xw_ini_X3 : Cond.initialized RX3 ∈ xtbl := xt_of 36 (by decide +kernel) (by decide +kernel)
theorem xw_ini_X0 : Cond.initialized RX0 ∈ xtbl := xt_of 37 (by decide +kernel) (by decide +kernel)
theorem xw_ini_X6 : Cond.initialized RX6 ∈ xtbl := xt_of 38 (by decide +kernel) (by decide +kernel)
theorem xw_ini_X1 : Cond.initialized RX1 ∈ xtbl := xt_of 39 (by decide +kernel) (by decide +kernel)
theorem xw_ini_X8 : Cond.initialized RX8 ∈ xtbl := xt_of 40 (by decide +kernel) (by decide +kernel)
theorem xw_k_L_7 : Cond.classLink RL 7 RX7 ∈ xtbl := xt_of 41 (by decide +kernel) (by decide +kernel)
theorem xw_new_X7 : Cond.instantiable RX7 5 ∈ xtbl := xt_of 42 (by decide +kernel) (by decide +kernel)
theorem xw_m_L_9 : Cond.methodLink RL 9 yX7_init ∈ xtbl := xt_of 43 (by decide +kernel) (by decide +kernel)
theorem xw_ins_X7_init : Cond.instanceMethod yX7_init ∈ xtbl := xt_of 44 (by decide +kernel) (by decide +kernel)
theorem xw_c_X7_init : Cond.code yX7_init cX7_init 2 none ∈ xtbl := xt_of 45 (by decide +kernel) (by decide +kernel)
theorem xw_m_X7_1 : Cond.methodLink RX7 1 objectInit ∈ xtbl := xt_of 46 (by decide +kernel) (by decide +kernel)
theorem xw_ins_obj : Cond.instanceMethod objectInit ∈ xtbl := xt_of 47 (by decide +kernel) (by decide +kernel)
theorem xw_c_obj : Cond.code objectInit ⟨#[0xb1]⟩ 1 none ∈ xtbl := xt_of 48 (by decide +kernel) (by decide +kernel)
theorem xw_k_X7_9 : Cond.classLink RX7 9 RX2 ∈ xtbl := xt_of 49 (by decide +kernel) (by decide +kernel)
theorem xw_ao_X2 : Cond.arrayOver (.object RX2) ∈ lw_tbl := List.mem_of_getElem? (i := 50) (by decide +kernel)
theorem xw_k_X7_15 : Cond.classLink RX7 15 RX6 ∈ xtbl := xt_of 51 (by decide +kernel) (by decide +kernel)
theorem xw_ao_X6 : Cond.arrayOver (.object RX6) ∈ lw_tbl := List.mem_of_getElem? (i := 52) (by decide +kernel)
theorem xw_k_X7_21 : Cond.classLink RX7 21 RX4 ∈ xtbl := xt_of 53 (by decide +kernel) (by decide +kernel)
theorem xw_new_X4 : Cond.instantiable RX4 2 ∈ xtbl := xt_of 54 (by decide +kernel) (by decide +kernel)
theorem xn_X7_23 : Cond.methodLinkNest RX7 23 yX4_init RX7 ∈ lw_tbl := List.mem_of_getElem? (i := 55) (by decide +kernel)
theorem xw_ins_X4_init : Cond.instanceMethod yX4_init ∈ xtbl := xt_of 56 (by decide +kernel) (by decide +kernel)
theorem xw_c_X4_init : Cond.code yX4_init cX4_init 1 none ∈ xtbl := xt_of 57 (by decide +kernel) (by decide +kernel)
theorem xw_m_X4_3 : Cond.methodLink RX4 3 objectInit ∈ xtbl := xt_of 58 (by decide +kernel) (by decide +kernel)
theorem xw_f_X4_9 : Cond.fieldLink RX4 9 "ForkedStore$Script" "signs" "[I" ∈ xtbl := xt_of 59 (by decide +kernel) (by decide +kernel)
theorem xw_f_X7_230 : Cond.fieldLink RX7 230 "ForkedStore$Script" "signs" "[I" ∈ xtbl := xt_of 60 (by decide +kernel) (by decide +kernel)
theorem xw_f_X4_15 : Cond.fieldLink RX4 15 "ForkedStore$Script" "length" "I" ∈ xtbl := xt_of 61 (by decide +kernel) (by decide +kernel)
theorem xw_f_X7_220 : Cond.fieldLink RX7 220 "ForkedStore$Script" "length" "I" ∈ xtbl := xt_of 62 (by decide +kernel) (by decide +kernel)
theorem xw_ac_int : Cond.arrayClass .int ∈ xtbl := xt_of 68 (by decide +kernel) (by decide +kernel)
theorem xw_new_X2 : Cond.instantiable RX2 11 ∈ xtbl := xt_of 69 (by decide +kernel) (by decide +kernel)
theorem xn_X7_35 : Cond.methodLinkNest RX7 35 yX2_init RX7 ∈ lw_tbl := List.mem_of_getElem? (i := 70) (by decide +kernel)
theorem xw_ins_X2_init : Cond.instanceMethod yX2_init ∈ xtbl := xt_of 71 (by decide +kernel) (by decide +kernel)
theorem xw_c_X2_init : Cond.code yX2_init cX2_init 1 none ∈ xtbl := xt_of 72 (by decide +kernel) (by decide +kernel)
theorem xw_m_X2_3 : Cond.methodLink RX2 3 objectInit ∈ xtbl := xt_of 73 (by decide +kernel) (by decide +kernel)
theorem xw_k_X2_9 : Cond.classLink RX2 9 RX5 ∈ xtbl := xt_of 74 (by decide +kernel) (by decide +kernel)
theorem xw_new_X5 : Cond.instantiable RX5 1 ∈ xtbl := xt_of 75 (by decide +kernel) (by decide +kernel)
theorem xn_X2_11 : Cond.methodLinkNest RX2 11 yX5_init RX7 ∈ lw_tbl := List.mem_of_getElem? (i := 76) (by decide +kernel)
theorem xw_ins_X5_init : Cond.instanceMethod yX5_init ∈ xtbl := xt_of 77 (by decide +kernel) (by decide +kernel)
theorem xw_c_X5_init : Cond.code yX5_init cX5_init 1 none ∈ xtbl := xt_of 78 (by decide +kernel) (by decide +kernel)
theorem xw_m_X5_3 : Cond.methodLink RX5 3 objectInit ∈ xtbl := xt_of 79 (by decide +kernel) (by decide +kernel)
theorem xw_f_X5_9 : Cond.fieldLink RX5 9 "ForkedStore$VersionVector" "numbers" "[I" ∈ xtbl := xt_of 80 (by decide +kernel) (by decide +kernel)
theorem xw_f_X1_29 : Cond.fieldLink RX1 29 "ForkedStore$VersionVector" "numbers" "[I" ∈ xtbl := xt_of 81 (by decide +kernel) (by decide +kernel)
theorem xw_f_X2_75 : Cond.fieldLink RX2 75 "ForkedStore$VersionVector" "numbers" "[I" ∈ xtbl := xt_of 82 (by decide +kernel) (by decide +kernel)
theorem xw_f_X7_192 : Cond.fieldLink RX7 192 "ForkedStore$VersionVector" "numbers" "[I" ∈ xtbl := xt_of 83 (by decide +kernel) (by decide +kernel)
theorem xw_k_X2_21 : Cond.classLink RX2 21 RX3 ∈ xtbl := xt_of 87 (by decide +kernel) (by decide +kernel)
theorem xw_new_X3 : Cond.instantiable RX3 4 ∈ xtbl := xt_of 88 (by decide +kernel) (by decide +kernel)
theorem xn_X2_23 : Cond.methodLinkNest RX2 23 yX3_init RX7 ∈ lw_tbl := List.mem_of_getElem? (i := 89) (by decide +kernel)
theorem xw_ins_X3_init : Cond.instanceMethod yX3_init ∈ xtbl := xt_of 90 (by decide +kernel) (by decide +kernel)
theorem xw_c_X3_init : Cond.code yX3_init cX3_init 1 none ∈ xtbl := xt_of 91 (by decide +kernel) (by decide +kernel)
theorem xw_m_X3_1 : Cond.methodLink RX3 1 objectInit ∈ xtbl := xt_of 92 (by decide +kernel) (by decide +kernel)
theorem xw_k_X3_7 : Cond.classLink RX3 7 RX5 ∈ xtbl := xt_of 93 (by decide +kernel) (by decide +kernel)
theorem xn_X3_9 : Cond.methodLinkNest RX3 9 yX5_init RX7 ∈ lw_tbl := List.mem_of_getElem? (i := 94) (by decide +kernel)
theorem xw_f_X3_10 : Cond.fieldLink RX3 10 "ForkedStore$Proof" "first" "LForkedStore$VersionVector;" ∈ xtbl := xt_of 95 (by decide +kernel) (by decide +kernel)
theorem xw_f_X7_150 : Cond.fieldLink RX7 150 "ForkedStore$Proof" "first" "LForkedStore$VersionVector;" ∈ xtbl := xt_of 96 (by decide +kernel) (by decide +kernel)
theorem xw_f_X3_16 : Cond.fieldLink RX3 16 "ForkedStore$Proof" "second" "LForkedStore$VersionVector;" ∈ xtbl := xt_of 97 (by decide +kernel) (by decide +kernel)
theorem xw_f_X7_153 : Cond.fieldLink RX7 153 "ForkedStore$Proof" "second" "LForkedStore$VersionVector;" ∈ xtbl := xt_of 98 (by decide +kernel) (by decide +kernel)
theorem xw_f_X3_19 : Cond.fieldLink RX3 19 "ForkedStore$Proof" "isHeld" "Z" ∈ xtbl := xt_of 99 (by decide +kernel) (by decide +kernel)
theorem xw_f_X7_145 : Cond.fieldLink RX7 145 "ForkedStore$Proof" "isHeld" "Z" ∈ xtbl := xt_of 100 (by decide +kernel) (by decide +kernel)
theorem xw_f_X3_27 : Cond.fieldLink RX3 27 "ForkedStore$Proof" "depth" "I" ∈ xtbl := xt_of 101 (by decide +kernel) (by decide +kernel)
theorem xw_f_X7_156 : Cond.fieldLink RX7 156 "ForkedStore$Proof" "depth" "I" ∈ xtbl := xt_of 102 (by decide +kernel) (by decide +kernel)
theorem xw_k_X2_28 : Cond.classLink RX2 28 RX0 ∈ xtbl := xt_of 112 (by decide +kernel) (by decide +kernel)
theorem xw_new_X0 : Cond.instantiable RX0 2 ∈ xtbl := xt_of 113 (by decide +kernel) (by decide +kernel)
theorem xw_m_X2_30 : Cond.methodLink RX2 30 yX0_init ∈ xtbl := xt_of 114 (by decide +kernel) (by decide +kernel)
theorem xw_ins_X0_init : Cond.instanceMethod yX0_init ∈ xtbl := xt_of 115 (by decide +kernel) (by decide +kernel)
theorem xw_c_X0_init : Cond.code yX0_init cX0_init 2 none ∈ xtbl := xt_of 116 (by decide +kernel) (by decide +kernel)
theorem xw_m_X0_3 : Cond.methodLink RX0 3 objectInit ∈ xtbl := xt_of 117 (by decide +kernel) (by decide +kernel)
theorem xw_k_X0_9 : Cond.classLink RX0 9 RX5 ∈ xtbl := xt_of 118 (by decide +kernel) (by decide +kernel)
theorem xw_ao_X5 : Cond.arrayOver (.object RX5) ∈ lw_tbl := List.mem_of_getElem? (i := 119) (by decide +kernel)
theorem xn_X0_17 : Cond.methodLinkNest RX0 17 yX5_init RX7 ∈ lw_tbl := List.mem_of_getElem? (i := 120) (by decide +kernel)
theorem xw_f_X0_11 : Cond.fieldLink RX0 11 "ForkedStore$Box" "letters" "[LForkedStore$VersionVector;" ∈ xtbl := xt_of 121 (by decide +kernel) (by decide +kernel)
theorem xw_f_X7_130 : Cond.fieldLink RX7 130 "ForkedStore$Box" "letters" "[LForkedStore$VersionVector;" ∈ xtbl := xt_of 122 (by decide +kernel) (by decide +kernel)
theorem xw_f_X0_18 : Cond.fieldLink RX0 18 "ForkedStore$Box" "size" "I" ∈ xtbl := xt_of 123 (by decide +kernel) (by decide +kernel)
theorem xw_f_X2_39 : Cond.fieldLink RX2 39 "ForkedStore$Box" "size" "I" ∈ xtbl := xt_of 124 (by decide +kernel) (by decide +kernel)
theorem xw_f_X7_114 : Cond.fieldLink RX7 114 "ForkedStore$Box" "size" "I" ∈ xtbl := xt_of 125 (by decide +kernel) (by decide +kernel)
theorem xw_f_X2_12 : Cond.fieldLink RX2 12 "ForkedStore$Member" "signed" "LForkedStore$VersionVector;" ∈ xtbl := xt_of 131 (by decide +kernel) (by decide +kernel)
theorem xw_f_X7_189 : Cond.fieldLink RX7 189 "ForkedStore$Member" "signed" "LForkedStore$VersionVector;" ∈ xtbl := xt_of 132 (by decide +kernel) (by decide +kernel)
theorem xw_f_X2_18 : Cond.fieldLink RX2 18 "ForkedStore$Member" "known" "LForkedStore$VersionVector;" ∈ xtbl := xt_of 133 (by decide +kernel) (by decide +kernel)
theorem xw_f_X7_119 : Cond.fieldLink RX7 119 "ForkedStore$Member" "known" "LForkedStore$VersionVector;" ∈ xtbl := xt_of 134 (by decide +kernel) (by decide +kernel)
theorem xw_f_X2_24 : Cond.fieldLink RX2 24 "ForkedStore$Member" "proof" "LForkedStore$Proof;" ∈ xtbl := xt_of 135 (by decide +kernel) (by decide +kernel)
theorem xw_f_X7_141 : Cond.fieldLink RX7 141 "ForkedStore$Member" "proof" "LForkedStore$Proof;" ∈ xtbl := xt_of 136 (by decide +kernel) (by decide +kernel)
theorem xw_f_X2_31 : Cond.fieldLink RX2 31 "ForkedStore$Member" "box" "LForkedStore$Box;" ∈ xtbl := xt_of 137 (by decide +kernel) (by decide +kernel)
theorem xw_f_X7_110 : Cond.fieldLink RX7 110 "ForkedStore$Member" "box" "LForkedStore$Box;" ∈ xtbl := xt_of 138 (by decide +kernel) (by decide +kernel)
theorem xw_f_X2_43 : Cond.fieldLink RX2 43 "ForkedStore$Member" "view" "I" ∈ xtbl := xt_of 139 (by decide +kernel) (by decide +kernel)
theorem xw_f_X7_90 : Cond.fieldLink RX7 90 "ForkedStore$Member" "view" "I" ∈ xtbl := xt_of 140 (by decide +kernel) (by decide +kernel)
theorem xw_f_X2_46 : Cond.fieldLink RX2 46 "ForkedStore$Member" "alarm" "I" ∈ xtbl := xt_of 141 (by decide +kernel) (by decide +kernel)
theorem xw_f_X7_45 : Cond.fieldLink RX7 45 "ForkedStore$Member" "alarm" "I" ∈ xtbl := xt_of 142 (by decide +kernel) (by decide +kernel)
theorem xw_f_X2_49 : Cond.fieldLink RX2 49 "ForkedStore$Member" "hasHeard" "Z" ∈ xtbl := xt_of 143 (by decide +kernel) (by decide +kernel)
theorem xw_f_X7_66 : Cond.fieldLink RX7 66 "ForkedStore$Member" "hasHeard" "Z" ∈ xtbl := xt_of 144 (by decide +kernel) (by decide +kernel)
theorem xw_f_X2_62 : Cond.fieldLink RX2 62 "ForkedStore$Member" "heard" "I" ∈ xtbl := xt_of 145 (by decide +kernel) (by decide +kernel)
theorem xw_f_X7_70 : Cond.fieldLink RX7 70 "ForkedStore$Member" "heard" "I" ∈ xtbl := xt_of 146 (by decide +kernel) (by decide +kernel)
theorem xw_f_X2_53 : Cond.fieldLink RX2 53 "ForkedStore$Member" "operations" "I" ∈ xtbl := xt_of 147 (by decide +kernel) (by decide +kernel)
theorem xw_f_X7_183 : Cond.fieldLink RX7 183 "ForkedStore$Member" "operations" "I" ∈ xtbl := xt_of 148 (by decide +kernel) (by decide +kernel)
theorem xw_f_X2_56 : Cond.fieldLink RX2 56 "ForkedStore$Member" "shown" "I" ∈ xtbl := xt_of 149 (by decide +kernel) (by decide +kernel)
theorem xw_f_X7_186 : Cond.fieldLink RX7 186 "ForkedStore$Member" "shown" "I" ∈ xtbl := xt_of 150 (by decide +kernel) (by decide +kernel)
theorem xw_f_X2_59 : Cond.fieldLink RX2 59 "ForkedStore$Member" "sent" "I" ∈ xtbl := xt_of 151 (by decide +kernel) (by decide +kernel)
theorem xw_f_X7_127 : Cond.fieldLink RX7 127 "ForkedStore$Member" "sent" "I" ∈ xtbl := xt_of 152 (by decide +kernel) (by decide +kernel)
theorem xw_new_X6 : Cond.instantiable RX6 4 ∈ xtbl := xt_of 176 (by decide +kernel) (by decide +kernel)
theorem xw_m_X7_36 : Cond.methodLink RX7 36 yX6_init ∈ xtbl := xt_of 177 (by decide +kernel) (by decide +kernel)
theorem xw_ins_X6_init : Cond.instanceMethod yX6_init ∈ xtbl := xt_of 178 (by decide +kernel) (by decide +kernel)
theorem xw_c_X6_init : Cond.code yX6_init cX6_init 2 none ∈ xtbl := xt_of 179 (by decide +kernel) (by decide +kernel)
theorem xw_m_X6_3 : Cond.methodLink RX6 3 objectInit ∈ xtbl := xt_of 180 (by decide +kernel) (by decide +kernel)
theorem xw_k_X6_9 : Cond.classLink RX6 9 RX1 ∈ xtbl := xt_of 181 (by decide +kernel) (by decide +kernel)
theorem xw_new_X1 : Cond.instantiable RX1 2 ∈ xtbl := xt_of 182 (by decide +kernel) (by decide +kernel)
theorem xw_m_X6_11 : Cond.methodLink RX6 11 yX1_init ∈ xtbl := xt_of 183 (by decide +kernel) (by decide +kernel)
theorem xw_ins_X1_init : Cond.instanceMethod yX1_init ∈ xtbl := xt_of 184 (by decide +kernel) (by decide +kernel)
theorem xw_c_X1_init : Cond.code yX1_init cX1_init 2 none ∈ xtbl := xt_of 185 (by decide +kernel) (by decide +kernel)
theorem xw_m_X1_3 : Cond.methodLink RX1 3 objectInit ∈ xtbl := xt_of 186 (by decide +kernel) (by decide +kernel)
theorem xw_k_X1_9 : Cond.classLink RX1 9 RX5 ∈ xtbl := xt_of 187 (by decide +kernel) (by decide +kernel)
theorem xn_X1_21 : Cond.methodLinkNest RX1 21 yX5_init RX7 ∈ lw_tbl := List.mem_of_getElem? (i := 188) (by decide +kernel)
theorem xw_f_X1_11 : Cond.fieldLink RX1 11 "ForkedStore$Entries" "vectors" "[LForkedStore$VersionVector;" ∈ xtbl := xt_of 189 (by decide +kernel) (by decide +kernel)
theorem xw_f_X2_79 : Cond.fieldLink RX2 79 "ForkedStore$Entries" "vectors" "[LForkedStore$VersionVector;" ∈ xtbl := xt_of 190 (by decide +kernel) (by decide +kernel)
theorem xw_f_X7_197 : Cond.fieldLink RX7 197 "ForkedStore$Entries" "vectors" "[LForkedStore$VersionVector;" ∈ xtbl := xt_of 191 (by decide +kernel) (by decide +kernel)
theorem xw_f_X1_17 : Cond.fieldLink RX1 17 "ForkedStore$Entries" "contents" "[I" ∈ xtbl := xt_of 192 (by decide +kernel) (by decide +kernel)
theorem xw_f_X7_56 : Cond.fieldLink RX7 56 "ForkedStore$Entries" "contents" "[I" ∈ xtbl := xt_of 193 (by decide +kernel) (by decide +kernel)
theorem xw_ao_X1 : Cond.arrayOver (.object RX1) ∈ lw_tbl := List.mem_of_getElem? (i := 199) (by decide +kernel)
theorem xw_f_X6_12 : Cond.fieldLink RX6 12 "ForkedStore$View" "entries" "LForkedStore$Entries;" ∈ xtbl := xt_of 200 (by decide +kernel) (by decide +kernel)
theorem xw_f_X7_102 : Cond.fieldLink RX7 102 "ForkedStore$View" "entries" "LForkedStore$Entries;" ∈ xtbl := xt_of 201 (by decide +kernel) (by decide +kernel)
theorem xw_f_X6_18 : Cond.fieldLink RX6 18 "ForkedStore$View" "before" "[LForkedStore$Entries;" ∈ xtbl := xt_of 202 (by decide +kernel) (by decide +kernel)
theorem xw_f_X6_28 : Cond.fieldLink RX6 28 "ForkedStore$View" "remembered" "I" ∈ xtbl := xt_of 203 (by decide +kernel) (by decide +kernel)
theorem xw_f_X7_93 : Cond.fieldLink RX7 93 "ForkedStore$View" "remembered" "I" ∈ xtbl := xt_of 204 (by decide +kernel) (by decide +kernel)
theorem xw_f_X6_32 : Cond.fieldLink RX6 32 "ForkedStore$View" "next" "I" ∈ xtbl := xt_of 205 (by decide +kernel) (by decide +kernel)
theorem xw_f_X7_11 : Cond.fieldLink RX7 11 "ForkedStore" "members" "[LForkedStore$Member;" ∈ xtbl := xt_of 215 (by decide +kernel) (by decide +kernel)
theorem xw_f_X7_17 : Cond.fieldLink RX7 17 "ForkedStore" "views" "[LForkedStore$View;" ∈ xtbl := xt_of 216 (by decide +kernel) (by decide +kernel)
theorem xw_f_X7_24 : Cond.fieldLink RX7 24 "ForkedStore" "script" "LForkedStore$Script;" ∈ xtbl := xt_of 217 (by decide +kernel) (by decide +kernel)
theorem xw_f_X7_28 : Cond.fieldLink RX7 28 "ForkedStore" "users" "I" ∈ xtbl := xt_of 218 (by decide +kernel) (by decide +kernel)
theorem xw_f_X7_32 : Cond.fieldLink RX7 32 "ForkedStore" "viewCount" "I" ∈ xtbl := xt_of 219 (by decide +kernel) (by decide +kernel)
theorem xw_m_L_13 : Cond.methodLink RL 13 yX7_reset ∈ xtbl := xt_of 231 (by decide +kernel) (by decide +kernel)
theorem xw_ins_X7_reset : Cond.instanceMethod yX7_reset ∈ xtbl := xt_of 232 (by decide +kernel) (by decide +kernel)
theorem xw_sel_X7_reset : Cond.selects RX7 yX7_reset yX7_reset ∈ xtbl := xt_of 233 (by decide +kernel) (by decide +kernel)
theorem xw_c_X7_reset : Cond.code yX7_reset cX7_reset 4 (some .int) ∈ xtbl := xt_of 234 (by decide +kernel) (by decide +kernel)
theorem xw_m_X7_37 : Cond.methodLink RX7 37 yX2_clear ∈ xtbl := xt_of 235 (by decide +kernel) (by decide +kernel)
theorem xw_ins_X2_clear : Cond.instanceMethod yX2_clear ∈ xtbl := xt_of 236 (by decide +kernel) (by decide +kernel)
theorem xw_sel_X2_clear : Cond.selects RX2 yX2_clear yX2_clear ∈ xtbl := xt_of 237 (by decide +kernel) (by decide +kernel)
theorem xw_c_X2_clear : Cond.code yX2_clear cX2_clear 1 none ∈ xtbl := xt_of 238 (by decide +kernel) (by decide +kernel)
theorem xw_m_X2_35 : Cond.methodLink RX2 35 yX5_clear ∈ xtbl := xt_of 239 (by decide +kernel) (by decide +kernel)
theorem xw_ins_X5_clear : Cond.instanceMethod yX5_clear ∈ xtbl := xt_of 240 (by decide +kernel) (by decide +kernel)
theorem xw_sel_X5_clear : Cond.selects RX5 yX5_clear yX5_clear ∈ xtbl := xt_of 241 (by decide +kernel) (by decide +kernel)
theorem xw_c_X5_clear : Cond.code yX5_clear cX5_clear 2 none ∈ xtbl := xt_of 242 (by decide +kernel) (by decide +kernel)
theorem xw_m_X2_38 : Cond.methodLink RX2 38 yX3_clear ∈ xtbl := xt_of 243 (by decide +kernel) (by decide +kernel)
theorem xw_ins_X3_clear : Cond.instanceMethod yX3_clear ∈ xtbl := xt_of 244 (by decide +kernel) (by decide +kernel)
theorem xw_sel_X3_clear : Cond.selects RX3 yX3_clear yX3_clear ∈ xtbl := xt_of 245 (by decide +kernel) (by decide +kernel)
theorem xw_c_X3_clear : Cond.code yX3_clear cX3_clear 1 none ∈ xtbl := xt_of 246 (by decide +kernel) (by decide +kernel)
theorem xw_m_X7_40 : Cond.methodLink RX7 40 yX6_clear ∈ xtbl := xt_of 247 (by decide +kernel) (by decide +kernel)
theorem xw_ins_X6_clear : Cond.instanceMethod yX6_clear ∈ xtbl := xt_of 248 (by decide +kernel) (by decide +kernel)
theorem xw_sel_X6_clear : Cond.selects RX6 yX6_clear yX6_clear ∈ xtbl := xt_of 249 (by decide +kernel) (by decide +kernel)
theorem xw_c_X6_clear : Cond.code yX6_clear cX6_clear 1 none ∈ xtbl := xt_of 250 (by decide +kernel) (by decide +kernel)
theorem xw_m_X6_22 : Cond.methodLink RX6 22 yX1_clear ∈ xtbl := xt_of 251 (by decide +kernel) (by decide +kernel)
theorem xw_ins_X1_clear : Cond.instanceMethod yX1_clear ∈ xtbl := xt_of 252 (by decide +kernel) (by decide +kernel)
theorem xw_sel_X1_clear : Cond.selects RX1 yX1_clear yX1_clear ∈ xtbl := xt_of 253 (by decide +kernel) (by decide +kernel)
theorem xw_c_X1_clear : Cond.code yX1_clear cX1_clear 2 none ∈ xtbl := xt_of 254 (by decide +kernel) (by decide +kernel)
theorem xw_m_X1_22 : Cond.methodLink RX1 22 yX5_clear ∈ xtbl := xt_of 255 (by decide +kernel) (by decide +kernel)
theorem xw_m_X6_25 : Cond.methodLink RX6 25 yX6_forget ∈ xtbl := xt_of 256 (by decide +kernel) (by decide +kernel)
theorem xw_ins_X6_forget : Cond.instanceMethod yX6_forget ∈ xtbl := xt_of 257 (by decide +kernel) (by decide +kernel)
theorem xw_sel_X6_forget : Cond.selects RX6 yX6_forget yX6_forget ∈ xtbl := xt_of 258 (by decide +kernel) (by decide +kernel)
theorem xw_c_X6_forget : Cond.code yX6_forget cX6_forget 1 none ∈ xtbl := xt_of 259 (by decide +kernel) (by decide +kernel)
theorem xw_m_L_18 : Cond.methodLink RL 18 yX7_write ∈ xtbl := xt_of 260 (by decide +kernel) (by decide +kernel)
theorem xw_ins_X7_write : Cond.instanceMethod yX7_write ∈ xtbl := xt_of 261 (by decide +kernel) (by decide +kernel)
theorem xw_sel_X7_write : Cond.selects RX7 yX7_write yX7_write ∈ xtbl := xt_of 262 (by decide +kernel) (by decide +kernel)
theorem xw_c_X7_write : Cond.code yX7_write cX7_write 4 (some .int) ∈ xtbl := xt_of 263 (by decide +kernel) (by decide +kernel)
theorem xw_m_X7_41 : Cond.methodLink RX7 41 yX7_isUser ∈ xtbl := xt_of 264 (by decide +kernel) (by decide +kernel)
theorem xw_ins_X7_isUser : Cond.instanceMethod yX7_isUser ∈ xtbl := xt_of 266 (by decide +kernel) (by decide +kernel)
theorem xw_c_X7_isUser : Cond.code yX7_isUser cX7_isUser 2 (some .boolean) ∈ xtbl := xt_of 267 (by decide +kernel) (by decide +kernel)
theorem xw_m_X7_48 : Cond.methodLink RX7 48 yX7_operate ∈ xtbl := xt_of 268 (by decide +kernel) (by decide +kernel)
theorem xw_ins_X7_operate : Cond.instanceMethod yX7_operate ∈ xtbl := xt_of 270 (by decide +kernel) (by decide +kernel)
theorem xw_c_X7_operate : Cond.code yX7_operate cX7_operate 5 (some .int) ∈ xtbl := xt_of 271 (by decide +kernel) (by decide +kernel)
theorem xw_m_X7_73 : Cond.methodLink RX7 73 yX7_alarmAhead ∈ xtbl := xt_of 272 (by decide +kernel) (by decide +kernel)
theorem xw_ins_X7_alarmAhead : Cond.instanceMethod yX7_alarmAhead ∈ xtbl := xt_of 274 (by decide +kernel) (by decide +kernel)
theorem xw_c_X7_alarmAhead : Cond.code yX7_alarmAhead cX7_alarmAhead 4 (some .int) ∈ xtbl := xt_of 275 (by decide +kernel) (by decide +kernel)
theorem xw_m_X7_52 : Cond.methodLink RX7 52 yX7_entriesShownTo ∈ xtbl := xt_of 276 (by decide +kernel) (by decide +kernel)
theorem xw_ins_X7_entriesShownTo : Cond.instanceMethod yX7_entriesShownTo ∈ xtbl := xt_of 278 (by decide +kernel) (by decide +kernel)
theorem xw_c_X7_entriesShownTo : Cond.code yX7_entriesShownTo cX7_entriesShownTo 2 (some (.object "ForkedStore$Entries")) ∈ xtbl := xt_of 279 (by decide +kernel) (by decide +kernel)
theorem xw_m_X7_211 : Cond.methodLink RX7 211 yX5_relationTo ∈ xtbl := xt_of 280 (by decide +kernel) (by decide +kernel)
theorem xw_ins_X5_relationTo : Cond.instanceMethod yX5_relationTo ∈ xtbl := xt_of 281 (by decide +kernel) (by decide +kernel)
theorem xw_sel_X5_relationTo : Cond.selects RX5 yX5_relationTo yX5_relationTo ∈ xtbl := xt_of 282 (by decide +kernel) (by decide +kernel)
theorem xw_c_X5_relationTo : Cond.code yX5_relationTo cX5_relationTo 5 (some .int) ∈ xtbl := xt_of 283 (by decide +kernel) (by decide +kernel)
theorem xw_m_X7_200 : Cond.methodLink RX7 200 yX1_areForked ∈ xtbl := xt_of 284 (by decide +kernel) (by decide +kernel)
theorem xw_ins_X1_areForked : Cond.instanceMethod yX1_areForked ∈ xtbl := xt_of 285 (by decide +kernel) (by decide +kernel)
theorem xw_sel_X1_areForked : Cond.selects RX1 yX1_areForked yX1_areForked ∈ xtbl := xt_of 286 (by decide +kernel) (by decide +kernel)
theorem xw_c_X1_areForked : Cond.code yX1_areForked cX1_areForked 3 (some .boolean) ∈ xtbl := xt_of 287 (by decide +kernel) (by decide +kernel)
theorem xw_m_X1_32 : Cond.methodLink RX1 32 yX5_relationTo ∈ xtbl := xt_of 288 (by decide +kernel) (by decide +kernel)
theorem xw_m_X7_204 : Cond.methodLink RX7 204 yX1_greatest ∈ xtbl := xt_of 289 (by decide +kernel) (by decide +kernel)
theorem xw_ins_X1_greatest : Cond.instanceMethod yX1_greatest ∈ xtbl := xt_of 290 (by decide +kernel) (by decide +kernel)
theorem xw_sel_X1_greatest : Cond.selects RX1 yX1_greatest yX1_greatest ∈ xtbl := xt_of 291 (by decide +kernel) (by decide +kernel)
theorem xw_c_X1_greatest : Cond.code yX1_greatest cX1_greatest 3 (some (.object "ForkedStore$VersionVector")) ∈ xtbl := xt_of 292 (by decide +kernel) (by decide +kernel)
theorem xw_m_X1_36 : Cond.methodLink RX1 36 yX5_isAtMost ∈ xtbl := xt_of 293 (by decide +kernel) (by decide +kernel)
theorem xw_ins_X5_isAtMost : Cond.instanceMethod yX5_isAtMost ∈ xtbl := xt_of 294 (by decide +kernel) (by decide +kernel)
theorem xw_sel_X5_isAtMost : Cond.selects RX5 yX5_isAtMost yX5_isAtMost ∈ xtbl := xt_of 295 (by decide +kernel) (by decide +kernel)
theorem xw_c_X5_isAtMost : Cond.code yX5_isAtMost cX5_isAtMost 3 (some .boolean) ∈ xtbl := xt_of 296 (by decide +kernel) (by decide +kernel)
theorem xw_m_X7_240 : Cond.methodLink RX7 240 yX5_isAtMost ∈ xtbl := xt_of 297 (by decide +kernel) (by decide +kernel)
theorem xw_m_X7_244 : Cond.methodLink RX7 244 yX6_remember ∈ xtbl := xt_of 298 (by decide +kernel) (by decide +kernel)
theorem xw_ins_X6_remember : Cond.instanceMethod yX6_remember ∈ xtbl := xt_of 299 (by decide +kernel) (by decide +kernel)
theorem xw_sel_X6_remember : Cond.selects RX6 yX6_remember yX6_remember ∈ xtbl := xt_of 300 (by decide +kernel) (by decide +kernel)
theorem xw_c_X6_remember : Cond.code yX6_remember cX6_remember 1 none ∈ xtbl := xt_of 301 (by decide +kernel) (by decide +kernel)
theorem xw_m_X6_35 : Cond.methodLink RX6 35 yX1_copyFrom ∈ xtbl := xt_of 302 (by decide +kernel) (by decide +kernel)
theorem xw_ins_X1_copyFrom : Cond.instanceMethod yX1_copyFrom ∈ xtbl := xt_of 303 (by decide +kernel) (by decide +kernel)
theorem xw_sel_X1_copyFrom : Cond.selects RX1 yX1_copyFrom yX1_copyFrom ∈ xtbl := xt_of 304 (by decide +kernel) (by decide +kernel)
theorem xw_c_X1_copyFrom : Cond.code yX1_copyFrom cX1_copyFrom 3 none ∈ xtbl := xt_of 305 (by decide +kernel) (by decide +kernel)
theorem xw_m_X1_25 : Cond.methodLink RX1 25 yX5_copyFrom ∈ xtbl := xt_of 306 (by decide +kernel) (by decide +kernel)
theorem xw_ins_X5_copyFrom : Cond.instanceMethod yX5_copyFrom ∈ xtbl := xt_of 307 (by decide +kernel) (by decide +kernel)
theorem xw_sel_X5_copyFrom : Cond.selects RX5 yX5_copyFrom yX5_copyFrom ∈ xtbl := xt_of 308 (by decide +kernel) (by decide +kernel)
theorem xw_c_X5_copyFrom : Cond.code yX5_copyFrom cX5_copyFrom 3 none ∈ xtbl := xt_of 309 (by decide +kernel) (by decide +kernel)
theorem xw_m_X7_247 : Cond.methodLink RX7 247 yX2_sign ∈ xtbl := xt_of 310 (by decide +kernel) (by decide +kernel)
theorem xw_ins_X2_sign : Cond.instanceMethod yX2_sign ∈ xtbl := xt_of 311 (by decide +kernel) (by decide +kernel)
theorem xw_sel_X2_sign : Cond.selects RX2 yX2_sign yX2_sign ∈ xtbl := xt_of 312 (by decide +kernel) (by decide +kernel)
theorem xw_c_X2_sign : Cond.code yX2_sign cX2_sign 3 none ∈ xtbl := xt_of 313 (by decide +kernel) (by decide +kernel)
theorem xw_m_X2_65 : Cond.methodLink RX2 65 yX1_greatest ∈ xtbl := xt_of 314 (by decide +kernel) (by decide +kernel)
theorem xw_m_X2_71 : Cond.methodLink RX2 71 yX5_copyFrom ∈ xtbl := xt_of 315 (by decide +kernel) (by decide +kernel)
theorem xw_m_X7_163 : Cond.methodLink RX7 163 yX2_raise ∈ xtbl := xt_of 316 (by decide +kernel) (by decide +kernel)
theorem xw_ins_X2_raise : Cond.instanceMethod yX2_raise ∈ xtbl := xt_of 317 (by decide +kernel) (by decide +kernel)
theorem xw_sel_X2_raise : Cond.selects RX2 yX2_raise yX2_raise ∈ xtbl := xt_of 318 (by decide +kernel) (by decide +kernel)
theorem xw_c_X2_raise : Cond.code yX2_raise cX2_raise 2 none ∈ xtbl := xt_of 319 (by decide +kernel) (by decide +kernel)
theorem xw_m_X7_251 : Cond.methodLink RX7 251 yX1_prove ∈ xtbl := xt_of 320 (by decide +kernel) (by decide +kernel)
theorem xw_ins_X1_prove : Cond.instanceMethod yX1_prove ∈ xtbl := xt_of 321 (by decide +kernel) (by decide +kernel)
theorem xw_sel_X1_prove : Cond.selects RX1 yX1_prove yX1_prove ∈ xtbl := xt_of 322 (by decide +kernel) (by decide +kernel)
theorem xw_c_X1_prove : Cond.code yX1_prove cX1_prove 4 none ∈ xtbl := xt_of 323 (by decide +kernel) (by decide +kernel)
theorem xw_m_X1_40 : Cond.methodLink RX1 40 yX3_keepFirst ∈ xtbl := xt_of 324 (by decide +kernel) (by decide +kernel)
theorem xw_ins_X3_keepFirst : Cond.instanceMethod yX3_keepFirst ∈ xtbl := xt_of 325 (by decide +kernel) (by decide +kernel)
theorem xw_sel_X3_keepFirst : Cond.selects RX3 yX3_keepFirst yX3_keepFirst ∈ xtbl := xt_of 326 (by decide +kernel) (by decide +kernel)
theorem xw_c_X3_keepFirst : Cond.code yX3_keepFirst cX3_keepFirst 4 none ∈ xtbl := xt_of 327 (by decide +kernel) (by decide +kernel)
theorem xw_m_X3_23 : Cond.methodLink RX3 23 yX5_copyFrom ∈ xtbl := xt_of 328 (by decide +kernel) (by decide +kernel)
theorem xw_m_X7_255 : Cond.methodLink RX7 255 yX2_proveLack ∈ xtbl := xt_of 329 (by decide +kernel) (by decide +kernel)
theorem xw_ins_X2_proveLack : Cond.instanceMethod yX2_proveLack ∈ xtbl := xt_of 330 (by decide +kernel) (by decide +kernel)
theorem xw_sel_X2_proveLack : Cond.selects RX2 yX2_proveLack yX2_proveLack ∈ xtbl := xt_of 331 (by decide +kernel) (by decide +kernel)
theorem xw_c_X2_proveLack : Cond.code yX2_proveLack cX2_proveLack 2 none ∈ xtbl := xt_of 332 (by decide +kernel) (by decide +kernel)
theorem xw_m_X2_83 : Cond.methodLink RX2 83 yX5_relationTo ∈ xtbl := xt_of 333 (by decide +kernel) (by decide +kernel)
theorem xw_m_X2_87 : Cond.methodLink RX2 87 yX3_keepFirst ∈ xtbl := xt_of 334 (by decide +kernel) (by decide +kernel)
theorem xw_m_L_23 : Cond.methodLink RL 23 yX7_read ∈ xtbl := xt_of 335 (by decide +kernel) (by decide +kernel)
theorem xw_ins_X7_read : Cond.instanceMethod yX7_read ∈ xtbl := xt_of 336 (by decide +kernel) (by decide +kernel)
theorem xw_sel_X7_read : Cond.selects RX7 yX7_read yX7_read ∈ xtbl := xt_of 337 (by decide +kernel) (by decide +kernel)
theorem xw_c_X7_read : Cond.code yX7_read cX7_read 4 (some .int) ∈ xtbl := xt_of 338 (by decide +kernel) (by decide +kernel)
theorem xw_m_X7_62 : Cond.methodLink RX7 62 yX2_hear ∈ xtbl := xt_of 339 (by decide +kernel) (by decide +kernel)
theorem xw_ins_X2_hear : Cond.instanceMethod yX2_hear ∈ xtbl := xt_of 340 (by decide +kernel) (by decide +kernel)
theorem xw_sel_X2_hear : Cond.selects RX2 yX2_hear yX2_hear ∈ xtbl := xt_of 341 (by decide +kernel) (by decide +kernel)
theorem xw_c_X2_hear : Cond.code yX2_hear cX2_hear 2 none ∈ xtbl := xt_of 342 (by decide +kernel) (by decide +kernel)
theorem xw_m_L_27 : Cond.methodLink RL 27 yX7_lastRead ∈ xtbl := xt_of 343 (by decide +kernel) (by decide +kernel)
theorem xw_ins_X7_lastRead : Cond.instanceMethod yX7_lastRead ∈ xtbl := xt_of 344 (by decide +kernel) (by decide +kernel)
theorem xw_sel_X7_lastRead : Cond.selects RX7 yX7_lastRead yX7_lastRead ∈ xtbl := xt_of 345 (by decide +kernel) (by decide +kernel)
theorem xw_c_X7_lastRead : Cond.code yX7_lastRead cX7_lastRead 2 (some .int) ∈ xtbl := xt_of 346 (by decide +kernel) (by decide +kernel)
theorem xw_m_L_31 : Cond.methodLink RL 31 yX7_check ∈ xtbl := xt_of 347 (by decide +kernel) (by decide +kernel)
theorem xw_ins_X7_check : Cond.instanceMethod yX7_check ∈ xtbl := xt_of 348 (by decide +kernel) (by decide +kernel)
theorem xw_sel_X7_check : Cond.selects RX7 yX7_check yX7_check ∈ xtbl := xt_of 349 (by decide +kernel) (by decide +kernel)
theorem xw_c_X7_check : Cond.code yX7_check cX7_check 2 (some .int) ∈ xtbl := xt_of 350 (by decide +kernel) (by decide +kernel)
theorem xw_m_L_35 : Cond.methodLink RL 35 yX7_fork ∈ xtbl := xt_of 351 (by decide +kernel) (by decide +kernel)
theorem xw_ins_X7_fork : Cond.instanceMethod yX7_fork ∈ xtbl := xt_of 352 (by decide +kernel) (by decide +kernel)
theorem xw_sel_X7_fork : Cond.selects RX7 yX7_fork yX7_fork ∈ xtbl := xt_of 353 (by decide +kernel) (by decide +kernel)
theorem xw_c_X7_fork : Cond.code yX7_fork cX7_fork 5 (some .int) ∈ xtbl := xt_of 354 (by decide +kernel) (by decide +kernel)
theorem xw_m_X7_76 : Cond.methodLink RX7 76 yX7_isView ∈ xtbl := xt_of 355 (by decide +kernel) (by decide +kernel)
theorem xw_ins_X7_isView : Cond.instanceMethod yX7_isView ∈ xtbl := xt_of 357 (by decide +kernel) (by decide +kernel)
theorem xw_c_X7_isView : Cond.code yX7_isView cX7_isView 2 (some .boolean) ∈ xtbl := xt_of 358 (by decide +kernel) (by decide +kernel)
theorem xw_m_X7_79 : Cond.methodLink RX7 79 yX7_usersAttachedTo ∈ xtbl := xt_of 359 (by decide +kernel) (by decide +kernel)
theorem xw_ins_X7_usersAttachedTo : Cond.instanceMethod yX7_usersAttachedTo ∈ xtbl := xt_of 361 (by decide +kernel) (by decide +kernel)
theorem xw_c_X7_usersAttachedTo : Cond.code yX7_usersAttachedTo cX7_usersAttachedTo 4 (some .int) ∈ xtbl := xt_of 362 (by decide +kernel) (by decide +kernel)
theorem xw_m_X7_82 : Cond.methodLink RX7 82 yX6_copyFrom ∈ xtbl := xt_of 363 (by decide +kernel) (by decide +kernel)
theorem xw_ins_X6_copyFrom : Cond.instanceMethod yX6_copyFrom ∈ xtbl := xt_of 364 (by decide +kernel) (by decide +kernel)
theorem xw_sel_X6_copyFrom : Cond.selects RX6 yX6_copyFrom yX6_copyFrom ∈ xtbl := xt_of 365 (by decide +kernel) (by decide +kernel)
theorem xw_c_X6_copyFrom : Cond.code yX6_copyFrom cX6_copyFrom 3 none ∈ xtbl := xt_of 366 (by decide +kernel) (by decide +kernel)
theorem xw_m_X7_86 : Cond.methodLink RX7 86 yX7_contains ∈ xtbl := xt_of 367 (by decide +kernel) (by decide +kernel)
theorem xw_sta_X7_contains : Cond.static yX7_contains ∈ xtbl := xt_of 368 (by decide +kernel) (by decide +kernel)
theorem xw_c_X7_contains : Cond.code yX7_contains cX7_contains 2 (some .boolean) ∈ xtbl := xt_of 369 (by decide +kernel) (by decide +kernel)
theorem xw_m_L_39 : Cond.methodLink RL 39 yX7_attach ∈ xtbl := xt_of 370 (by decide +kernel) (by decide +kernel)
theorem xw_ins_X7_attach : Cond.instanceMethod yX7_attach ∈ xtbl := xt_of 371 (by decide +kernel) (by decide +kernel)
theorem xw_sel_X7_attach : Cond.selects RX7 yX7_attach yX7_attach ∈ xtbl := xt_of 372 (by decide +kernel) (by decide +kernel)
theorem xw_c_X7_attach : Cond.code yX7_attach cX7_attach 4 (some .int) ∈ xtbl := xt_of 373 (by decide +kernel) (by decide +kernel)
theorem xw_m_L_43 : Cond.methodLink RL 43 yX7_rollBack ∈ xtbl := xt_of 374 (by decide +kernel) (by decide +kernel)
theorem xw_ins_X7_rollBack : Cond.instanceMethod yX7_rollBack ∈ xtbl := xt_of 375 (by decide +kernel) (by decide +kernel)
theorem xw_sel_X7_rollBack : Cond.selects RX7 yX7_rollBack yX7_rollBack ∈ xtbl := xt_of 376 (by decide +kernel) (by decide +kernel)
theorem xw_c_X7_rollBack : Cond.code yX7_rollBack cX7_rollBack 3 (some .int) ∈ xtbl := xt_of 377 (by decide +kernel) (by decide +kernel)
theorem xw_m_X7_96 : Cond.methodLink RX7 96 yX6_takeBack ∈ xtbl := xt_of 378 (by decide +kernel) (by decide +kernel)
theorem xw_ins_X6_takeBack : Cond.instanceMethod yX6_takeBack ∈ xtbl := xt_of 379 (by decide +kernel) (by decide +kernel)
theorem xw_sel_X6_takeBack : Cond.selects RX6 yX6_takeBack yX6_takeBack ∈ xtbl := xt_of 380 (by decide +kernel) (by decide +kernel)
theorem xw_c_X6_takeBack : Cond.code yX6_takeBack cX6_takeBack 2 none ∈ xtbl := xt_of 381 (by decide +kernel) (by decide +kernel)
theorem xw_m_L_47 : Cond.methodLink RL 47 yX7_mix ∈ xtbl := xt_of 382 (by decide +kernel) (by decide +kernel)
theorem xw_ins_X7_mix : Cond.instanceMethod yX7_mix ∈ xtbl := xt_of 383 (by decide +kernel) (by decide +kernel)
theorem xw_sel_X7_mix : Cond.selects RX7 yX7_mix yX7_mix ∈ xtbl := xt_of 384 (by decide +kernel) (by decide +kernel)
theorem xw_c_X7_mix : Cond.code yX7_mix cX7_mix 4 (some .int) ∈ xtbl := xt_of 385 (by decide +kernel) (by decide +kernel)
theorem xw_m_X7_99 : Cond.methodLink RX7 99 yX6_forget ∈ xtbl := xt_of 386 (by decide +kernel) (by decide +kernel)
theorem xw_m_X7_106 : Cond.methodLink RX7 106 yX1_replaceByLater ∈ xtbl := xt_of 387 (by decide +kernel) (by decide +kernel)
theorem xw_ins_X1_replaceByLater : Cond.instanceMethod yX1_replaceByLater ∈ xtbl := xt_of 388 (by decide +kernel) (by decide +kernel)
theorem xw_sel_X1_replaceByLater : Cond.selects RX1 yX1_replaceByLater yX1_replaceByLater ∈ xtbl := xt_of 389 (by decide +kernel) (by decide +kernel)
theorem xw_c_X1_replaceByLater : Cond.code yX1_replaceByLater cX1_replaceByLater 4 (some .int) ∈ xtbl := xt_of 390 (by decide +kernel) (by decide +kernel)
theorem xw_m_L_51 : Cond.methodLink RL 51 yX7_sendLetter ∈ xtbl := xt_of 391 (by decide +kernel) (by decide +kernel)
theorem xw_ins_X7_sendLetter : Cond.instanceMethod yX7_sendLetter ∈ xtbl := xt_of 392 (by decide +kernel) (by decide +kernel)
theorem xw_sel_X7_sendLetter : Cond.selects RX7 yX7_sendLetter yX7_sendLetter ∈ xtbl := xt_of 393 (by decide +kernel) (by decide +kernel)
theorem xw_c_X7_sendLetter : Cond.code yX7_sendLetter cX7_sendLetter 4 (some .int) ∈ xtbl := xt_of 394 (by decide +kernel) (by decide +kernel)
theorem xw_m_X7_123 : Cond.methodLink RX7 123 yX0_put ∈ xtbl := xt_of 395 (by decide +kernel) (by decide +kernel)
theorem xw_ins_X0_put : Cond.instanceMethod yX0_put ∈ xtbl := xt_of 396 (by decide +kernel) (by decide +kernel)
theorem xw_sel_X0_put : Cond.selects RX0 yX0_put yX0_put ∈ xtbl := xt_of 397 (by decide +kernel) (by decide +kernel)
theorem xw_c_X0_put : Cond.code yX0_put cX0_put 2 none ∈ xtbl := xt_of 398 (by decide +kernel) (by decide +kernel)
theorem xw_m_X0_22 : Cond.methodLink RX0 22 yX5_copyFrom ∈ xtbl := xt_of 399 (by decide +kernel) (by decide +kernel)
theorem xw_m_L_55 : Cond.methodLink RL 55 yX7_readLetter ∈ xtbl := xt_of 400 (by decide +kernel) (by decide +kernel)
theorem xw_ins_X7_readLetter : Cond.instanceMethod yX7_readLetter ∈ xtbl := xt_of 401 (by decide +kernel) (by decide +kernel)
theorem xw_sel_X7_readLetter : Cond.selects RX7 yX7_readLetter yX7_readLetter ∈ xtbl := xt_of 402 (by decide +kernel) (by decide +kernel)
theorem xw_c_X7_readLetter : Cond.code yX7_readLetter cX7_readLetter 4 (some .int) ∈ xtbl := xt_of 403 (by decide +kernel) (by decide +kernel)
theorem xw_m_X7_134 : Cond.methodLink RX7 134 yX2_learn ∈ xtbl := xt_of 404 (by decide +kernel) (by decide +kernel)
theorem xw_ins_X2_learn : Cond.instanceMethod yX2_learn ∈ xtbl := xt_of 405 (by decide +kernel) (by decide +kernel)
theorem xw_sel_X2_learn : Cond.selects RX2 yX2_learn yX2_learn ∈ xtbl := xt_of 406 (by decide +kernel) (by decide +kernel)
theorem xw_c_X2_learn : Cond.code yX2_learn cX2_learn 2 (some .int) ∈ xtbl := xt_of 407 (by decide +kernel) (by decide +kernel)
theorem xw_m_X2_91 : Cond.methodLink RX2 91 yX5_isAtMost ∈ xtbl := xt_of 408 (by decide +kernel) (by decide +kernel)
theorem xw_m_X2_95 : Cond.methodLink RX2 95 yX2_raise ∈ xtbl := xt_of 409 (by decide +kernel) (by decide +kernel)
theorem xw_m_X7_138 : Cond.methodLink RX7 138 yX0_dropFirst ∈ xtbl := xt_of 410 (by decide +kernel) (by decide +kernel)
theorem xw_ins_X0_dropFirst : Cond.instanceMethod yX0_dropFirst ∈ xtbl := xt_of 411 (by decide +kernel) (by decide +kernel)
theorem xw_sel_X0_dropFirst : Cond.selects RX0 yX0_dropFirst yX0_dropFirst ∈ xtbl := xt_of 412 (by decide +kernel) (by decide +kernel)
theorem xw_c_X0_dropFirst : Cond.code yX0_dropFirst cX0_dropFirst 2 none ∈ xtbl := xt_of 413 (by decide +kernel) (by decide +kernel)
theorem xw_m_L_59 : Cond.methodLink RL 59 yX7_loseLetter ∈ xtbl := xt_of 414 (by decide +kernel) (by decide +kernel)
theorem xw_ins_X7_loseLetter : Cond.instanceMethod yX7_loseLetter ∈ xtbl := xt_of 415 (by decide +kernel) (by decide +kernel)
theorem xw_sel_X7_loseLetter : Cond.selects RX7 yX7_loseLetter yX7_loseLetter ∈ xtbl := xt_of 416 (by decide +kernel) (by decide +kernel)
theorem xw_c_X7_loseLetter : Cond.code yX7_loseLetter cX7_loseLetter 3 (some .int) ∈ xtbl := xt_of 417 (by decide +kernel) (by decide +kernel)
theorem xw_m_L_63 : Cond.methodLink RL 63 yX7_passProof ∈ xtbl := xt_of 418 (by decide +kernel) (by decide +kernel)
theorem xw_ins_X7_passProof : Cond.instanceMethod yX7_passProof ∈ xtbl := xt_of 419 (by decide +kernel) (by decide +kernel)
theorem xw_sel_X7_passProof : Cond.selects RX7 yX7_passProof yX7_passProof ∈ xtbl := xt_of 420 (by decide +kernel) (by decide +kernel)
theorem xw_c_X7_passProof : Cond.code yX7_passProof cX7_passProof 6 (some .int) ∈ xtbl := xt_of 421 (by decide +kernel) (by decide +kernel)
theorem xw_m_X7_159 : Cond.methodLink RX7 159 yX3_keepFirst ∈ xtbl := xt_of 422 (by decide +kernel) (by decide +kernel)
theorem xw_m_X7_166 : Cond.methodLink RX7 166 yX7_oneIf ∈ xtbl := xt_of 423 (by decide +kernel) (by decide +kernel)
theorem xw_sta_X7_oneIf : Cond.static yX7_oneIf ∈ xtbl := xt_of 424 (by decide +kernel) (by decide +kernel)
theorem xw_c_X7_oneIf : Cond.code yX7_oneIf cX7_oneIf 1 (some .int) ∈ xtbl := xt_of 425 (by decide +kernel) (by decide +kernel)
theorem xw_m_L_67 : Cond.methodLink RL 67 yX7_count ∈ xtbl := xt_of 426 (by decide +kernel) (by decide +kernel)
theorem xw_ins_X7_count : Cond.instanceMethod yX7_count ∈ xtbl := xt_of 427 (by decide +kernel) (by decide +kernel)
theorem xw_sel_X7_count : Cond.selects RX7 yX7_count yX7_count ∈ xtbl := xt_of 428 (by decide +kernel) (by decide +kernel)
theorem xw_c_X7_count : Cond.code yX7_count cX7_count 2 (some .int) ∈ xtbl := xt_of 429 (by decide +kernel) (by decide +kernel)
theorem xw_m_X7_170 : Cond.methodLink RX7 170 yX7_usersWithAlarm ∈ xtbl := xt_of 430 (by decide +kernel) (by decide +kernel)
theorem xw_ins_X7_usersWithAlarm : Cond.instanceMethod yX7_usersWithAlarm ∈ xtbl := xt_of 432 (by decide +kernel) (by decide +kernel)
theorem xw_c_X7_usersWithAlarm : Cond.code yX7_usersWithAlarm cX7_usersWithAlarm 3 (some .int) ∈ xtbl := xt_of 433 (by decide +kernel) (by decide +kernel)
theorem xw_m_X7_174 : Cond.methodLink RX7 174 yX7_usersWithProof ∈ xtbl := xt_of 434 (by decide +kernel) (by decide +kernel)
theorem xw_ins_X7_usersWithProof : Cond.instanceMethod yX7_usersWithProof ∈ xtbl := xt_of 436 (by decide +kernel) (by decide +kernel)
theorem xw_c_X7_usersWithProof : Cond.code yX7_usersWithProof cX7_usersWithProof 3 (some .int) ∈ xtbl := xt_of 437 (by decide +kernel) (by decide +kernel)
theorem xw_m_X7_177 : Cond.methodLink RX7 177 yX7_operationsOfAll ∈ xtbl := xt_of 438 (by decide +kernel) (by decide +kernel)
theorem xw_ins_X7_operationsOfAll : Cond.instanceMethod yX7_operationsOfAll ∈ xtbl := xt_of 440 (by decide +kernel) (by decide +kernel)
theorem xw_c_X7_operationsOfAll : Cond.code yX7_operationsOfAll cX7_operationsOfAll 3 (some .int) ∈ xtbl := xt_of 441 (by decide +kernel) (by decide +kernel)
theorem xw_m_X7_180 : Cond.methodLink RX7 180 yX7_lettersInBoxes ∈ xtbl := xt_of 442 (by decide +kernel) (by decide +kernel)
theorem xw_ins_X7_lettersInBoxes : Cond.instanceMethod yX7_lettersInBoxes ∈ xtbl := xt_of 444 (by decide +kernel) (by decide +kernel)
theorem xw_c_X7_lettersInBoxes : Cond.code yX7_lettersInBoxes cX7_lettersInBoxes 3 (some .int) ∈ xtbl := xt_of 445 (by decide +kernel) (by decide +kernel)
theorem xw_m_L_71 : Cond.methodLink RL 71 yX7_user ∈ xtbl := xt_of 446 (by decide +kernel) (by decide +kernel)
theorem xw_ins_X7_user : Cond.instanceMethod yX7_user ∈ xtbl := xt_of 447 (by decide +kernel) (by decide +kernel)
theorem xw_sel_X7_user : Cond.selects RX7 yX7_user yX7_user ∈ xtbl := xt_of 448 (by decide +kernel) (by decide +kernel)
theorem xw_c_X7_user : Cond.code yX7_user cX7_user 4 (some .int) ∈ xtbl := xt_of 449 (by decide +kernel) (by decide +kernel)
theorem xw_m_L_75 : Cond.methodLink RL 75 yX7_vector ∈ xtbl := xt_of 450 (by decide +kernel) (by decide +kernel)
theorem xw_ins_X7_vector : Cond.instanceMethod yX7_vector ∈ xtbl := xt_of 451 (by decide +kernel) (by decide +kernel)
theorem xw_sel_X7_vector : Cond.selects RX7 yX7_vector yX7_vector ∈ xtbl := xt_of 452 (by decide +kernel) (by decide +kernel)
theorem xw_c_X7_vector : Cond.code yX7_vector cX7_vector 5 (some .int) ∈ xtbl := xt_of 453 (by decide +kernel) (by decide +kernel)
theorem xw_m_L_80 : Cond.methodLink RL 80 yX7_entry ∈ xtbl := xt_of 454 (by decide +kernel) (by decide +kernel)
theorem xw_ins_X7_entry : Cond.instanceMethod yX7_entry ∈ xtbl := xt_of 455 (by decide +kernel) (by decide +kernel)
theorem xw_sel_X7_entry : Cond.selects RX7 yX7_entry yX7_entry ∈ xtbl := xt_of 456 (by decide +kernel) (by decide +kernel)
theorem xw_c_X7_entry : Cond.code yX7_entry cX7_entry 4 (some .int) ∈ xtbl := xt_of 457 (by decide +kernel) (by decide +kernel)
theorem xw_m_L_84 : Cond.methodLink RL 84 yX7_content ∈ xtbl := xt_of 458 (by decide +kernel) (by decide +kernel)
theorem xw_ins_X7_content : Cond.instanceMethod yX7_content ∈ xtbl := xt_of 459 (by decide +kernel) (by decide +kernel)
theorem xw_sel_X7_content : Cond.selects RX7 yX7_content yX7_content ∈ xtbl := xt_of 460 (by decide +kernel) (by decide +kernel)
theorem xw_c_X7_content : Cond.code yX7_content cX7_content 3 (some .int) ∈ xtbl := xt_of 461 (by decide +kernel) (by decide +kernel)
theorem xw_m_L_88 : Cond.methodLink RL 88 yX7_view ∈ xtbl := xt_of 462 (by decide +kernel) (by decide +kernel)
theorem xw_ins_X7_view : Cond.instanceMethod yX7_view ∈ xtbl := xt_of 463 (by decide +kernel) (by decide +kernel)
theorem xw_sel_X7_view : Cond.selects RX7 yX7_view yX7_view ∈ xtbl := xt_of 464 (by decide +kernel) (by decide +kernel)
theorem xw_c_X7_view : Cond.code yX7_view cX7_view 4 (some .int) ∈ xtbl := xt_of 465 (by decide +kernel) (by decide +kernel)
theorem xw_m_X7_208 : Cond.methodLink RX7 208 yX5_sum ∈ xtbl := xt_of 466 (by decide +kernel) (by decide +kernel)
theorem xw_ins_X5_sum : Cond.instanceMethod yX5_sum ∈ xtbl := xt_of 467 (by decide +kernel) (by decide +kernel)
theorem xw_sel_X5_sum : Cond.selects RX5 yX5_sum yX5_sum ∈ xtbl := xt_of 468 (by decide +kernel) (by decide +kernel)
theorem xw_c_X5_sum : Cond.code yX5_sum cX5_sum 3 (some .int) ∈ xtbl := xt_of 469 (by decide +kernel) (by decide +kernel)
theorem xw_m_L_92 : Cond.methodLink RL 92 yX7_compare ∈ xtbl := xt_of 470 (by decide +kernel) (by decide +kernel)
theorem xw_ins_X7_compare : Cond.instanceMethod yX7_compare ∈ xtbl := xt_of 471 (by decide +kernel) (by decide +kernel)
theorem xw_sel_X7_compare : Cond.selects RX7 yX7_compare yX7_compare ∈ xtbl := xt_of 472 (by decide +kernel) (by decide +kernel)
theorem xw_c_X7_compare : Cond.code yX7_compare cX7_compare 4 (some .int) ∈ xtbl := xt_of 473 (by decide +kernel) (by decide +kernel)
theorem xw_m_L_97 : Cond.methodLink RL 97 yX7_forkedPairs ∈ xtbl := xt_of 474 (by decide +kernel) (by decide +kernel)
theorem xw_ins_X7_forkedPairs : Cond.instanceMethod yX7_forkedPairs ∈ xtbl := xt_of 475 (by decide +kernel) (by decide +kernel)
theorem xw_sel_X7_forkedPairs : Cond.selects RX7 yX7_forkedPairs yX7_forkedPairs ∈ xtbl := xt_of 476 (by decide +kernel) (by decide +kernel)
theorem xw_c_X7_forkedPairs : Cond.code yX7_forkedPairs cX7_forkedPairs 4 (some .int) ∈ xtbl := xt_of 477 (by decide +kernel) (by decide +kernel)
theorem xw_m_X7_214 : Cond.methodLink RX7 214 yX7_knowForkedVectors ∈ xtbl := xt_of 478 (by decide +kernel) (by decide +kernel)
theorem xw_ins_X7_knowForkedVectors : Cond.instanceMethod yX7_knowForkedVectors ∈ xtbl := xt_of 480 (by decide +kernel) (by decide +kernel)
theorem xw_c_X7_knowForkedVectors : Cond.code yX7_knowForkedVectors cX7_knowForkedVectors 3 (some .boolean) ∈ xtbl := xt_of 481 (by decide +kernel) (by decide +kernel)
theorem xw_m_L_102 : Cond.methodLink RL 102 yX7_tellingLetter ∈ xtbl := xt_of 482 (by decide +kernel) (by decide +kernel)
theorem xw_ins_X7_tellingLetter : Cond.instanceMethod yX7_tellingLetter ∈ xtbl := xt_of 483 (by decide +kernel) (by decide +kernel)
theorem xw_sel_X7_tellingLetter : Cond.selects RX7 yX7_tellingLetter yX7_tellingLetter ∈ xtbl := xt_of 484 (by decide +kernel) (by decide +kernel)
theorem xw_c_X7_tellingLetter : Cond.code yX7_tellingLetter cX7_tellingLetter 3 (some .int) ∈ xtbl := xt_of 485 (by decide +kernel) (by decide +kernel)
theorem xw_m_L_106 : Cond.methodLink RL 106 yX7_unaware ∈ xtbl := xt_of 486 (by decide +kernel) (by decide +kernel)
theorem xw_ins_X7_unaware : Cond.instanceMethod yX7_unaware ∈ xtbl := xt_of 487 (by decide +kernel) (by decide +kernel)
theorem xw_sel_X7_unaware : Cond.selects RX7 yX7_unaware yX7_unaware ∈ xtbl := xt_of 488 (by decide +kernel) (by decide +kernel)
theorem xw_c_X7_unaware : Cond.code yX7_unaware cX7_unaware 3 (some .int) ∈ xtbl := xt_of 489 (by decide +kernel) (by decide +kernel)
theorem xw_m_X7_217 : Cond.methodLink RX7 217 yX7_isUnaware ∈ xtbl := xt_of 490 (by decide +kernel) (by decide +kernel)
theorem xw_ins_X7_isUnaware : Cond.instanceMethod yX7_isUnaware ∈ xtbl := xt_of 492 (by decide +kernel) (by decide +kernel)
theorem xw_c_X7_isUnaware : Cond.code yX7_isUnaware cX7_isUnaware 3 (some .boolean) ∈ xtbl := xt_of 493 (by decide +kernel) (by decide +kernel)
theorem xw_m_L_110 : Cond.methodLink RL 110 yX7_type ∈ xtbl := xt_of 494 (by decide +kernel) (by decide +kernel)
theorem xw_ins_X7_type : Cond.instanceMethod yX7_type ∈ xtbl := xt_of 495 (by decide +kernel) (by decide +kernel)
theorem xw_sel_X7_type : Cond.selects RX7 yX7_type yX7_type ∈ xtbl := xt_of 496 (by decide +kernel) (by decide +kernel)
theorem xw_c_X7_type : Cond.code yX7_type cX7_type 2 (some .int) ∈ xtbl := xt_of 497 (by decide +kernel) (by decide +kernel)
theorem xw_m_X7_223 : Cond.methodLink RX7 223 yX4_append ∈ xtbl := xt_of 498 (by decide +kernel) (by decide +kernel)
theorem xw_ins_X4_append : Cond.instanceMethod yX4_append ∈ xtbl := xt_of 499 (by decide +kernel) (by decide +kernel)
theorem xw_sel_X4_append : Cond.selects RX4 yX4_append yX4_append ∈ xtbl := xt_of 500 (by decide +kernel) (by decide +kernel)
theorem xw_c_X4_append : Cond.code yX4_append cX4_append 2 none ∈ xtbl := xt_of 501 (by decide +kernel) (by decide +kernel)
theorem xw_m_L_115 : Cond.methodLink RL 115 yX7_clearText ∈ xtbl := xt_of 502 (by decide +kernel) (by decide +kernel)
theorem xw_ins_X7_clearText : Cond.instanceMethod yX7_clearText ∈ xtbl := xt_of 503 (by decide +kernel) (by decide +kernel)
theorem xw_sel_X7_clearText : Cond.selects RX7 yX7_clearText yX7_clearText ∈ xtbl := xt_of 504 (by decide +kernel) (by decide +kernel)
theorem xw_c_X7_clearText : Cond.code yX7_clearText cX7_clearText 2 (some .int) ∈ xtbl := xt_of 505 (by decide +kernel) (by decide +kernel)
theorem xw_m_L_119 : Cond.methodLink RL 119 yX7_run ∈ xtbl := xt_of 506 (by decide +kernel) (by decide +kernel)
theorem xw_ins_X7_run : Cond.instanceMethod yX7_run ∈ xtbl := xt_of 507 (by decide +kernel) (by decide +kernel)
theorem xw_sel_X7_run : Cond.selects RX7 yX7_run yX7_run ∈ xtbl := xt_of 508 (by decide +kernel) (by decide +kernel)
theorem xw_c_X7_run : Cond.code yX7_run cX7_run 4 (some .int) ∈ xtbl := xt_of 509 (by decide +kernel) (by decide +kernel)
theorem xw_m_X7_227 : Cond.methodLink RX7 227 yX4_fault ∈ xtbl := xt_of 510 (by decide +kernel) (by decide +kernel)
theorem xw_ins_X4_fault : Cond.instanceMethod yX4_fault ∈ xtbl := xt_of 511 (by decide +kernel) (by decide +kernel)
theorem xw_sel_X4_fault : Cond.selects RX4 yX4_fault yX4_fault ∈ xtbl := xt_of 512 (by decide +kernel) (by decide +kernel)
theorem xw_c_X4_fault : Cond.code yX4_fault cX4_fault 3 (some .int) ∈ xtbl := xt_of 513 (by decide +kernel) (by decide +kernel)
theorem xw_m_X4_19 : Cond.methodLink RX4 19 yX4_isLetter ∈ xtbl := xt_of 514 (by decide +kernel) (by decide +kernel)
theorem xw_sta_X4_isLetter : Cond.static yX4_isLetter ∈ xtbl := xt_of 515 (by decide +kernel) (by decide +kernel)
theorem xw_c_X4_isLetter : Cond.code yX4_isLetter cX4_isLetter 1 (some .boolean) ∈ xtbl := xt_of 516 (by decide +kernel) (by decide +kernel)
theorem xw_m_X4_23 : Cond.methodLink RX4 23 yX4_isDigit ∈ xtbl := xt_of 517 (by decide +kernel) (by decide +kernel)
theorem xw_sta_X4_isDigit : Cond.static yX4_isDigit ∈ xtbl := xt_of 518 (by decide +kernel) (by decide +kernel)
theorem xw_c_X4_isDigit : Cond.code yX4_isDigit cX4_isDigit 1 (some .boolean) ∈ xtbl := xt_of 519 (by decide +kernel) (by decide +kernel)
theorem xw_m_X7_233 : Cond.methodLink RX7 233 yX4_digit ∈ xtbl := xt_of 520 (by decide +kernel) (by decide +kernel)
theorem xw_ins_X4_digit : Cond.instanceMethod yX4_digit ∈ xtbl := xt_of 521 (by decide +kernel) (by decide +kernel)
theorem xw_sel_X4_digit : Cond.selects RX4 yX4_digit yX4_digit ∈ xtbl := xt_of 522 (by decide +kernel) (by decide +kernel)
theorem xw_c_X4_digit : Cond.code yX4_digit cX4_digit 2 (some .int) ∈ xtbl := xt_of 523 (by decide +kernel) (by decide +kernel)
theorem xw_m_X7_236 : Cond.methodLink RX7 236 yX7_carryOut ∈ xtbl := xt_of 524 (by decide +kernel) (by decide +kernel)
theorem xw_ins_X7_carryOut : Cond.instanceMethod yX7_carryOut ∈ xtbl := xt_of 526 (by decide +kernel) (by decide +kernel)
theorem xw_c_X7_carryOut : Cond.code yX7_carryOut cX7_carryOut 4 (some .boolean) ∈ xtbl := xt_of 527 (by decide +kernel) (by decide +kernel)
theorem xw_m_X7_258 : Cond.methodLink RX7 258 yX7_write ∈ xtbl := xt_of 528 (by decide +kernel) (by decide +kernel)
theorem xw_m_X7_262 : Cond.methodLink RX7 262 yX7_read ∈ xtbl := xt_of 529 (by decide +kernel) (by decide +kernel)
theorem xw_m_X7_265 : Cond.methodLink RX7 265 yX7_sendLetter ∈ xtbl := xt_of 530 (by decide +kernel) (by decide +kernel)
theorem xw_m_X7_268 : Cond.methodLink RX7 268 yX7_readLetters ∈ xtbl := xt_of 531 (by decide +kernel) (by decide +kernel)
theorem xw_ins_X7_readLetters : Cond.instanceMethod yX7_readLetters ∈ xtbl := xt_of 533 (by decide +kernel) (by decide +kernel)
theorem xw_c_X7_readLetters : Cond.code yX7_readLetters cX7_readLetters 4 (some .boolean) ∈ xtbl := xt_of 534 (by decide +kernel) (by decide +kernel)
theorem xw_m_X7_274 : Cond.methodLink RX7 274 yX7_readLetter ∈ xtbl := xt_of 535 (by decide +kernel) (by decide +kernel)
theorem xw_m_X7_271 : Cond.methodLink RX7 271 yX7_attach ∈ xtbl := xt_of 536 (by decide +kernel) (by decide +kernel)
theorem xw_k_L_10 : Cond.classLink RL 10 RX8 ∈ xtbl := xt_of 537 (by decide +kernel) (by decide +kernel)
theorem xw_new_X8 : Cond.instantiable RX8 25 ∈ xtbl := xt_of 538 (by decide +kernel) (by decide +kernel)
theorem xw_m_L_12 : Cond.methodLink RL 12 yX8_init ∈ xtbl := xt_of 539 (by decide +kernel) (by decide +kernel)
theorem xw_ins_X8_init : Cond.instanceMethod yX8_init ∈ xtbl := xt_of 540 (by decide +kernel) (by decide +kernel)
theorem xw_c_X8_init : Cond.code yX8_init cX8_init 1 none ∈ xtbl := xt_of 541 (by decide +kernel) (by decide +kernel)
theorem xw_m_X8_1 : Cond.methodLink RX8 1 objectInit ∈ xtbl := xt_of 542 (by decide +kernel) (by decide +kernel)
theorem xw_m_X8_69 : Cond.methodLink RX8 69 yX8_begin ∈ xtbl := xt_of 543 (by decide +kernel) (by decide +kernel)
theorem xw_ins_X8_begin : Cond.instanceMethod yX8_begin ∈ xtbl := xt_of 545 (by decide +kernel) (by decide +kernel)
theorem xw_c_X8_begin : Cond.code yX8_begin cX8_begin 3 none ∈ xtbl := xt_of 546 (by decide +kernel) (by decide +kernel)
theorem xw_f_X8_73 : Cond.fieldLink RX8 73 "ForkedStoreModel" "users" "I" ∈ xtbl := xt_of 547 (by decide +kernel) (by decide +kernel)
theorem xw_f_X8_77 : Cond.fieldLink RX8 77 "ForkedStoreModel" "views" "I" ∈ xtbl := xt_of 548 (by decide +kernel) (by decide +kernel)
theorem xw_f_X8_80 : Cond.fieldLink RX8 80 "ForkedStoreModel" "operations" "I" ∈ xtbl := xt_of 549 (by decide +kernel) (by decide +kernel)
theorem xw_f_X8_7 : Cond.fieldLink RX8 7 "ForkedStoreModel" "row" "[I" ∈ xtbl := xt_of 550 (by decide +kernel) (by decide +kernel)
theorem xw_f_X8_13 : Cond.fieldLink RX8 13 "ForkedStoreModel" "keptOf" "[I" ∈ xtbl := xt_of 551 (by decide +kernel) (by decide +kernel)
theorem xw_f_X8_16 : Cond.fieldLink RX8 16 "ForkedStoreModel" "keptRow" "[I" ∈ xtbl := xt_of 552 (by decide +kernel) (by decide +kernel)
theorem xw_f_X8_19 : Cond.fieldLink RX8 19 "ForkedStoreModel" "viewOf" "[I" ∈ xtbl := xt_of 553 (by decide +kernel) (by decide +kernel)
theorem xw_f_X8_22 : Cond.fieldLink RX8 22 "ForkedStoreModel" "alarmOf" "[I" ∈ xtbl := xt_of 554 (by decide +kernel) (by decide +kernel)
theorem xw_f_X8_25 : Cond.fieldLink RX8 25 "ForkedStoreModel" "hasProof" "[Z" ∈ xtbl := xt_of 555 (by decide +kernel) (by decide +kernel)
theorem xw_f_X8_29 : Cond.fieldLink RX8 29 "ForkedStoreModel" "depthOf" "[I" ∈ xtbl := xt_of 556 (by decide +kernel) (by decide +kernel)
theorem xw_f_X8_32 : Cond.fieldLink RX8 32 "ForkedStoreModel" "proofOf" "[I" ∈ xtbl := xt_of 557 (by decide +kernel) (by decide +kernel)
theorem xw_f_X8_35 : Cond.fieldLink RX8 35 "ForkedStoreModel" "signedOf" "[I" ∈ xtbl := xt_of 558 (by decide +kernel) (by decide +kernel)
theorem xw_f_X8_38 : Cond.fieldLink RX8 38 "ForkedStoreModel" "knownOf" "[I" ∈ xtbl := xt_of 559 (by decide +kernel) (by decide +kernel)
theorem xw_f_X8_41 : Cond.fieldLink RX8 41 "ForkedStoreModel" "doneOf" "[I" ∈ xtbl := xt_of 560 (by decide +kernel) (by decide +kernel)
theorem xw_f_X8_44 : Cond.fieldLink RX8 44 "ForkedStoreModel" "shownTo" "[I" ∈ xtbl := xt_of 561 (by decide +kernel) (by decide +kernel)
theorem xw_f_X8_47 : Cond.fieldLink RX8 47 "ForkedStoreModel" "sentBy" "[I" ∈ xtbl := xt_of 562 (by decide +kernel) (by decide +kernel)
theorem xw_f_X8_50 : Cond.fieldLink RX8 50 "ForkedStoreModel" "hasRead" "[Z" ∈ xtbl := xt_of 563 (by decide +kernel) (by decide +kernel)
theorem xw_f_X8_53 : Cond.fieldLink RX8 53 "ForkedStoreModel" "readOf" "[I" ∈ xtbl := xt_of 564 (by decide +kernel) (by decide +kernel)
theorem xw_f_X8_56 : Cond.fieldLink RX8 56 "ForkedStoreModel" "lettersOf" "[I" ∈ xtbl := xt_of 565 (by decide +kernel) (by decide +kernel)
theorem xw_f_X8_59 : Cond.fieldLink RX8 59 "ForkedStoreModel" "letter" "[I" ∈ xtbl := xt_of 566 (by decide +kernel) (by decide +kernel)
theorem xw_f_X8_91 : Cond.fieldLink RX8 91 "ForkedStoreModel" "pairOne" "I" ∈ xtbl := xt_of 567 (by decide +kernel) (by decide +kernel)
theorem xw_f_X8_101 : Cond.fieldLink RX8 101 "ForkedStoreModel" "pairTwo" "I" ∈ xtbl := xt_of 568 (by decide +kernel) (by decide +kernel)
theorem xw_f_X8_62 : Cond.fieldLink RX8 62 "ForkedStoreModel" "hand" "[I" ∈ xtbl := xt_of 569 (by decide +kernel) (by decide +kernel)
theorem xw_f_X8_146 : Cond.fieldLink RX8 146 "ForkedStoreModel" "typed" "I" ∈ xtbl := xt_of 570 (by decide +kernel) (by decide +kernel)
theorem xw_f_X8_65 : Cond.fieldLink RX8 65 "ForkedStoreModel" "text" "[C" ∈ xtbl := xt_of 571 (by decide +kernel) (by decide +kernel)
theorem xw_ac_boolean : Cond.arrayClass .boolean ∈ xtbl := xt_of 623 (by decide +kernel) (by decide +kernel)
theorem xw_ac_char : Cond.arrayClass .char ∈ xtbl := xt_of 624 (by decide +kernel) (by decide +kernel)
theorem xw_m_L_17 : Cond.methodLink RL 17 yX8_reset ∈ xtbl := xt_of 625 (by decide +kernel) (by decide +kernel)
theorem xw_ins_X8_reset : Cond.instanceMethod yX8_reset ∈ xtbl := xt_of 626 (by decide +kernel) (by decide +kernel)
theorem xw_sel_X8_reset : Cond.selects RX8 yX8_reset yX8_reset ∈ xtbl := xt_of 627 (by decide +kernel) (by decide +kernel)
theorem xw_c_X8_reset : Cond.code yX8_reset cX8_reset 3 (some .int) ∈ xtbl := xt_of 628 (by decide +kernel) (by decide +kernel)
theorem xw_m_X8_83 : Cond.methodLink RX8 83 yX8_in ∈ xtbl := xt_of 629 (by decide +kernel) (by decide +kernel)
theorem xw_sta_X8_in : Cond.static yX8_in ∈ xtbl := xt_of 630 (by decide +kernel) (by decide +kernel)
theorem xw_c_X8_in : Cond.code yX8_in cX8_in 3 (some .boolean) ∈ xtbl := xt_of 631 (by decide +kernel) (by decide +kernel)
theorem xw_m_L_22 : Cond.methodLink RL 22 yX8_write ∈ xtbl := xt_of 632 (by decide +kernel) (by decide +kernel)
theorem xw_ins_X8_write : Cond.instanceMethod yX8_write ∈ xtbl := xt_of 633 (by decide +kernel) (by decide +kernel)
theorem xw_sel_X8_write : Cond.selects RX8 yX8_write yX8_write ∈ xtbl := xt_of 634 (by decide +kernel) (by decide +kernel)
theorem xw_c_X8_write : Cond.code yX8_write cX8_write 4 (some .int) ∈ xtbl := xt_of 635 (by decide +kernel) (by decide +kernel)
theorem xw_m_X8_126 : Cond.methodLink RX8 126 yX8_noUser ∈ xtbl := xt_of 636 (by decide +kernel) (by decide +kernel)
theorem xw_ins_X8_noUser : Cond.instanceMethod yX8_noUser ∈ xtbl := xt_of 638 (by decide +kernel) (by decide +kernel)
theorem xw_c_X8_noUser : Cond.code yX8_noUser cX8_noUser 2 (some .boolean) ∈ xtbl := xt_of 639 (by decide +kernel) (by decide +kernel)
theorem xw_m_X8_130 : Cond.methodLink RX8 130 yX8_operate ∈ xtbl := xt_of 640 (by decide +kernel) (by decide +kernel)
theorem xw_ins_X8_operate : Cond.instanceMethod yX8_operate ∈ xtbl := xt_of 642 (by decide +kernel) (by decide +kernel)
theorem xw_c_X8_operate : Cond.code yX8_operate cX8_operate 5 (some .int) ∈ xtbl := xt_of 643 (by decide +kernel) (by decide +kernel)
theorem xw_m_X8_116 : Cond.methodLink RX8 116 yX8_alarmFor ∈ xtbl := xt_of 644 (by decide +kernel) (by decide +kernel)
theorem xw_ins_X8_alarmFor : Cond.instanceMethod yX8_alarmFor ∈ xtbl := xt_of 646 (by decide +kernel) (by decide +kernel)
theorem xw_c_X8_alarmFor : Cond.code yX8_alarmFor cX8_alarmFor 5 (some .int) ∈ xtbl := xt_of 647 (by decide +kernel) (by decide +kernel)
theorem xw_m_X8_94 : Cond.methodLink RX8 94 yX8_entryAt ∈ xtbl := xt_of 648 (by decide +kernel) (by decide +kernel)
theorem xw_sta_X8_entryAt : Cond.static yX8_entryAt ∈ xtbl := xt_of 649 (by decide +kernel) (by decide +kernel)
theorem xw_c_X8_entryAt : Cond.code yX8_entryAt cX8_entryAt 2 (some .int) ∈ xtbl := xt_of 650 (by decide +kernel) (by decide +kernel)
theorem xw_m_X8_87 : Cond.methodLink RX8 87 yX8_atMost ∈ xtbl := xt_of 651 (by decide +kernel) (by decide +kernel)
theorem xw_ins_X8_atMost : Cond.instanceMethod yX8_atMost ∈ xtbl := xt_of 653 (by decide +kernel) (by decide +kernel)
theorem xw_c_X8_atMost : Cond.code yX8_atMost cX8_atMost 7 (some .boolean) ∈ xtbl := xt_of 654 (by decide +kernel) (by decide +kernel)
theorem xw_m_X8_104 : Cond.methodLink RX8 104 yX8_greatest ∈ xtbl := xt_of 655 (by decide +kernel) (by decide +kernel)
theorem xw_ins_X8_greatest : Cond.instanceMethod yX8_greatest ∈ xtbl := xt_of 657 (by decide +kernel) (by decide +kernel)
theorem xw_c_X8_greatest : Cond.code yX8_greatest cX8_greatest 4 (some .int) ∈ xtbl := xt_of 658 (by decide +kernel) (by decide +kernel)
theorem xw_m_X8_98 : Cond.methodLink RX8 98 yX8_areApart ∈ xtbl := xt_of 659 (by decide +kernel) (by decide +kernel)
theorem xw_ins_X8_areApart : Cond.instanceMethod yX8_areApart ∈ xtbl := xt_of 661 (by decide +kernel) (by decide +kernel)
theorem xw_c_X8_areApart : Cond.code yX8_areApart cX8_areApart 5 (some .boolean) ∈ xtbl := xt_of 662 (by decide +kernel) (by decide +kernel)
theorem xw_m_X8_119 : Cond.methodLink RX8 119 yX8_raises ∈ xtbl := xt_of 663 (by decide +kernel) (by decide +kernel)
theorem xw_ins_X8_raises : Cond.instanceMethod yX8_raises ∈ xtbl := xt_of 665 (by decide +kernel) (by decide +kernel)
theorem xw_c_X8_raises : Cond.code yX8_raises cX8_raises 5 none ∈ xtbl := xt_of 666 (by decide +kernel) (by decide +kernel)
theorem xw_m_X8_112 : Cond.methodLink RX8 112 yX8_proves ∈ xtbl := xt_of 667 (by decide +kernel) (by decide +kernel)
theorem xw_ins_X8_proves : Cond.instanceMethod yX8_proves ∈ xtbl := xt_of 669 (by decide +kernel) (by decide +kernel)
theorem xw_c_X8_proves : Cond.code yX8_proves cX8_proves 7 none ∈ xtbl := xt_of 670 (by decide +kernel) (by decide +kernel)
theorem xw_m_X8_108 : Cond.methodLink RX8 108 yX8_copy ∈ xtbl := xt_of 671 (by decide +kernel) (by decide +kernel)
theorem xw_ins_X8_copy : Cond.instanceMethod yX8_copy ∈ xtbl := xt_of 673 (by decide +kernel) (by decide +kernel)
theorem xw_c_X8_copy : Cond.code yX8_copy cX8_copy 6 none ∈ xtbl := xt_of 674 (by decide +kernel) (by decide +kernel)
theorem xw_m_X8_123 : Cond.methodLink RX8 123 yX8_remember ∈ xtbl := xt_of 675 (by decide +kernel) (by decide +kernel)
theorem xw_ins_X8_remember : Cond.instanceMethod yX8_remember ∈ xtbl := xt_of 677 (by decide +kernel) (by decide +kernel)
theorem xw_c_X8_remember : Cond.code yX8_remember cX8_remember 3 none ∈ xtbl := xt_of 678 (by decide +kernel) (by decide +kernel)
theorem xw_m_L_26 : Cond.methodLink RL 26 yX8_read ∈ xtbl := xt_of 679 (by decide +kernel) (by decide +kernel)
theorem xw_ins_X8_read : Cond.instanceMethod yX8_read ∈ xtbl := xt_of 680 (by decide +kernel) (by decide +kernel)
theorem xw_sel_X8_read : Cond.selects RX8 yX8_read yX8_read ∈ xtbl := xt_of 681 (by decide +kernel) (by decide +kernel)
theorem xw_c_X8_read : Cond.code yX8_read cX8_read 4 (some .int) ∈ xtbl := xt_of 682 (by decide +kernel) (by decide +kernel)
theorem xw_m_L_30 : Cond.methodLink RL 30 yX8_lastRead ∈ xtbl := xt_of 683 (by decide +kernel) (by decide +kernel)
theorem xw_ins_X8_lastRead : Cond.instanceMethod yX8_lastRead ∈ xtbl := xt_of 684 (by decide +kernel) (by decide +kernel)
theorem xw_sel_X8_lastRead : Cond.selects RX8 yX8_lastRead yX8_lastRead ∈ xtbl := xt_of 685 (by decide +kernel) (by decide +kernel)
theorem xw_c_X8_lastRead : Cond.code yX8_lastRead cX8_lastRead 2 (some .int) ∈ xtbl := xt_of 686 (by decide +kernel) (by decide +kernel)
theorem xw_m_L_34 : Cond.methodLink RL 34 yX8_check ∈ xtbl := xt_of 687 (by decide +kernel) (by decide +kernel)
theorem xw_ins_X8_check : Cond.instanceMethod yX8_check ∈ xtbl := xt_of 688 (by decide +kernel) (by decide +kernel)
theorem xw_sel_X8_check : Cond.selects RX8 yX8_check yX8_check ∈ xtbl := xt_of 689 (by decide +kernel) (by decide +kernel)
theorem xw_c_X8_check : Cond.code yX8_check cX8_check 2 (some .int) ∈ xtbl := xt_of 690 (by decide +kernel) (by decide +kernel)
theorem xw_m_L_38 : Cond.methodLink RL 38 yX8_fork ∈ xtbl := xt_of 691 (by decide +kernel) (by decide +kernel)
theorem xw_ins_X8_fork : Cond.instanceMethod yX8_fork ∈ xtbl := xt_of 692 (by decide +kernel) (by decide +kernel)
theorem xw_sel_X8_fork : Cond.selects RX8 yX8_fork yX8_fork ∈ xtbl := xt_of 693 (by decide +kernel) (by decide +kernel)
theorem xw_c_X8_fork : Cond.code yX8_fork cX8_fork 4 (some .int) ∈ xtbl := xt_of 694 (by decide +kernel) (by decide +kernel)
theorem xw_m_X8_133 : Cond.methodLink RX8 133 yX8_noView ∈ xtbl := xt_of 695 (by decide +kernel) (by decide +kernel)
theorem xw_ins_X8_noView : Cond.instanceMethod yX8_noView ∈ xtbl := xt_of 697 (by decide +kernel) (by decide +kernel)
theorem xw_c_X8_noView : Cond.code yX8_noView cX8_noView 2 (some .boolean) ∈ xtbl := xt_of 698 (by decide +kernel) (by decide +kernel)
theorem xw_m_X8_136 : Cond.methodLink RX8 136 yX8_attached ∈ xtbl := xt_of 699 (by decide +kernel) (by decide +kernel)
theorem xw_ins_X8_attached : Cond.instanceMethod yX8_attached ∈ xtbl := xt_of 701 (by decide +kernel) (by decide +kernel)
theorem xw_c_X8_attached : Cond.code yX8_attached cX8_attached 4 (some .int) ∈ xtbl := xt_of 702 (by decide +kernel) (by decide +kernel)
theorem xw_m_L_42 : Cond.methodLink RL 42 yX8_attach ∈ xtbl := xt_of 703 (by decide +kernel) (by decide +kernel)
theorem xw_ins_X8_attach : Cond.instanceMethod yX8_attach ∈ xtbl := xt_of 704 (by decide +kernel) (by decide +kernel)
theorem xw_sel_X8_attach : Cond.selects RX8 yX8_attach yX8_attach ∈ xtbl := xt_of 705 (by decide +kernel) (by decide +kernel)
theorem xw_c_X8_attach : Cond.code yX8_attach cX8_attach 4 (some .int) ∈ xtbl := xt_of 706 (by decide +kernel) (by decide +kernel)
theorem xw_m_L_46 : Cond.methodLink RL 46 yX8_rollBack ∈ xtbl := xt_of 707 (by decide +kernel) (by decide +kernel)
theorem xw_ins_X8_rollBack : Cond.instanceMethod yX8_rollBack ∈ xtbl := xt_of 708 (by decide +kernel) (by decide +kernel)
theorem xw_sel_X8_rollBack : Cond.selects RX8 yX8_rollBack yX8_rollBack ∈ xtbl := xt_of 709 (by decide +kernel) (by decide +kernel)
theorem xw_c_X8_rollBack : Cond.code yX8_rollBack cX8_rollBack 4 (some .int) ∈ xtbl := xt_of 710 (by decide +kernel) (by decide +kernel)
theorem xw_m_L_50 : Cond.methodLink RL 50 yX8_mix ∈ xtbl := xt_of 711 (by decide +kernel) (by decide +kernel)
theorem xw_ins_X8_mix : Cond.instanceMethod yX8_mix ∈ xtbl := xt_of 712 (by decide +kernel) (by decide +kernel)
theorem xw_sel_X8_mix : Cond.selects RX8 yX8_mix yX8_mix ∈ xtbl := xt_of 713 (by decide +kernel) (by decide +kernel)
theorem xw_c_X8_mix : Cond.code yX8_mix cX8_mix 5 (some .int) ∈ xtbl := xt_of 714 (by decide +kernel) (by decide +kernel)
theorem xw_m_L_54 : Cond.methodLink RL 54 yX8_sendLetter ∈ xtbl := xt_of 715 (by decide +kernel) (by decide +kernel)
theorem xw_ins_X8_sendLetter : Cond.instanceMethod yX8_sendLetter ∈ xtbl := xt_of 716 (by decide +kernel) (by decide +kernel)
theorem xw_sel_X8_sendLetter : Cond.selects RX8 yX8_sendLetter yX8_sendLetter ∈ xtbl := xt_of 717 (by decide +kernel) (by decide +kernel)
theorem xw_c_X8_sendLetter : Cond.code yX8_sendLetter cX8_sendLetter 3 (some .int) ∈ xtbl := xt_of 718 (by decide +kernel) (by decide +kernel)
theorem xw_m_L_58 : Cond.methodLink RL 58 yX8_readLetter ∈ xtbl := xt_of 719 (by decide +kernel) (by decide +kernel)
theorem xw_ins_X8_readLetter : Cond.instanceMethod yX8_readLetter ∈ xtbl := xt_of 720 (by decide +kernel) (by decide +kernel)
theorem xw_sel_X8_readLetter : Cond.selects RX8 yX8_readLetter yX8_readLetter ∈ xtbl := xt_of 721 (by decide +kernel) (by decide +kernel)
theorem xw_c_X8_readLetter : Cond.code yX8_readLetter cX8_readLetter 2 (some .int) ∈ xtbl := xt_of 722 (by decide +kernel) (by decide +kernel)
theorem xw_m_X8_139 : Cond.methodLink RX8 139 yX8_takesLetter ∈ xtbl := xt_of 723 (by decide +kernel) (by decide +kernel)
theorem xw_ins_X8_takesLetter : Cond.instanceMethod yX8_takesLetter ∈ xtbl := xt_of 725 (by decide +kernel) (by decide +kernel)
theorem xw_c_X8_takesLetter : Cond.code yX8_takesLetter cX8_takesLetter 3 none ∈ xtbl := xt_of 726 (by decide +kernel) (by decide +kernel)
theorem xw_m_L_62 : Cond.methodLink RL 62 yX8_loseLetter ∈ xtbl := xt_of 727 (by decide +kernel) (by decide +kernel)
theorem xw_ins_X8_loseLetter : Cond.instanceMethod yX8_loseLetter ∈ xtbl := xt_of 728 (by decide +kernel) (by decide +kernel)
theorem xw_sel_X8_loseLetter : Cond.selects RX8 yX8_loseLetter yX8_loseLetter ∈ xtbl := xt_of 729 (by decide +kernel) (by decide +kernel)
theorem xw_c_X8_loseLetter : Cond.code yX8_loseLetter cX8_loseLetter 2 (some .int) ∈ xtbl := xt_of 730 (by decide +kernel) (by decide +kernel)
theorem xw_m_L_66 : Cond.methodLink RL 66 yX8_passProof ∈ xtbl := xt_of 731 (by decide +kernel) (by decide +kernel)
theorem xw_ins_X8_passProof : Cond.instanceMethod yX8_passProof ∈ xtbl := xt_of 732 (by decide +kernel) (by decide +kernel)
theorem xw_sel_X8_passProof : Cond.selects RX8 yX8_passProof yX8_passProof ∈ xtbl := xt_of 733 (by decide +kernel) (by decide +kernel)
theorem xw_c_X8_passProof : Cond.code yX8_passProof cX8_passProof 3 (some .int) ∈ xtbl := xt_of 734 (by decide +kernel) (by decide +kernel)
theorem xw_m_L_70 : Cond.methodLink RL 70 yX8_count ∈ xtbl := xt_of 735 (by decide +kernel) (by decide +kernel)
theorem xw_ins_X8_count : Cond.instanceMethod yX8_count ∈ xtbl := xt_of 736 (by decide +kernel) (by decide +kernel)
theorem xw_sel_X8_count : Cond.selects RX8 yX8_count yX8_count ∈ xtbl := xt_of 737 (by decide +kernel) (by decide +kernel)
theorem xw_c_X8_count : Cond.code yX8_count cX8_count 6 (some .int) ∈ xtbl := xt_of 738 (by decide +kernel) (by decide +kernel)
theorem xw_m_L_74 : Cond.methodLink RL 74 yX8_user ∈ xtbl := xt_of 739 (by decide +kernel) (by decide +kernel)
theorem xw_ins_X8_user : Cond.instanceMethod yX8_user ∈ xtbl := xt_of 740 (by decide +kernel) (by decide +kernel)
theorem xw_sel_X8_user : Cond.selects RX8 yX8_user yX8_user ∈ xtbl := xt_of 741 (by decide +kernel) (by decide +kernel)
theorem xw_c_X8_user : Cond.code yX8_user cX8_user 3 (some .int) ∈ xtbl := xt_of 742 (by decide +kernel) (by decide +kernel)
theorem xw_m_L_79 : Cond.methodLink RL 79 yX8_vector ∈ xtbl := xt_of 743 (by decide +kernel) (by decide +kernel)
theorem xw_ins_X8_vector : Cond.instanceMethod yX8_vector ∈ xtbl := xt_of 744 (by decide +kernel) (by decide +kernel)
theorem xw_sel_X8_vector : Cond.selects RX8 yX8_vector yX8_vector ∈ xtbl := xt_of 745 (by decide +kernel) (by decide +kernel)
theorem xw_c_X8_vector : Cond.code yX8_vector cX8_vector 4 (some .int) ∈ xtbl := xt_of 746 (by decide +kernel) (by decide +kernel)
theorem xw_m_L_83 : Cond.methodLink RL 83 yX8_entry ∈ xtbl := xt_of 747 (by decide +kernel) (by decide +kernel)
theorem xw_ins_X8_entry : Cond.instanceMethod yX8_entry ∈ xtbl := xt_of 748 (by decide +kernel) (by decide +kernel)
theorem xw_sel_X8_entry : Cond.selects RX8 yX8_entry yX8_entry ∈ xtbl := xt_of 749 (by decide +kernel) (by decide +kernel)
theorem xw_c_X8_entry : Cond.code yX8_entry cX8_entry 4 (some .int) ∈ xtbl := xt_of 750 (by decide +kernel) (by decide +kernel)
theorem xw_m_L_87 : Cond.methodLink RL 87 yX8_content ∈ xtbl := xt_of 751 (by decide +kernel) (by decide +kernel)
theorem xw_ins_X8_content : Cond.instanceMethod yX8_content ∈ xtbl := xt_of 752 (by decide +kernel) (by decide +kernel)
theorem xw_sel_X8_content : Cond.selects RX8 yX8_content yX8_content ∈ xtbl := xt_of 753 (by decide +kernel) (by decide +kernel)
theorem xw_c_X8_content : Cond.code yX8_content cX8_content 3 (some .int) ∈ xtbl := xt_of 754 (by decide +kernel) (by decide +kernel)
theorem xw_m_L_91 : Cond.methodLink RL 91 yX8_view ∈ xtbl := xt_of 755 (by decide +kernel) (by decide +kernel)
theorem xw_ins_X8_view : Cond.instanceMethod yX8_view ∈ xtbl := xt_of 756 (by decide +kernel) (by decide +kernel)
theorem xw_sel_X8_view : Cond.selects RX8 yX8_view yX8_view ∈ xtbl := xt_of 757 (by decide +kernel) (by decide +kernel)
theorem xw_c_X8_view : Cond.code yX8_view cX8_view 6 (some .int) ∈ xtbl := xt_of 758 (by decide +kernel) (by decide +kernel)
theorem xw_m_L_96 : Cond.methodLink RL 96 yX8_compare ∈ xtbl := xt_of 759 (by decide +kernel) (by decide +kernel)
theorem xw_ins_X8_compare : Cond.instanceMethod yX8_compare ∈ xtbl := xt_of 760 (by decide +kernel) (by decide +kernel)
theorem xw_sel_X8_compare : Cond.selects RX8 yX8_compare yX8_compare ∈ xtbl := xt_of 761 (by decide +kernel) (by decide +kernel)
theorem xw_c_X8_compare : Cond.code yX8_compare cX8_compare 4 (some .int) ∈ xtbl := xt_of 762 (by decide +kernel) (by decide +kernel)
theorem xw_m_X8_142 : Cond.methodLink RX8 142 yX8_compared ∈ xtbl := xt_of 763 (by decide +kernel) (by decide +kernel)
theorem xw_ins_X8_compared : Cond.instanceMethod yX8_compared ∈ xtbl := xt_of 765 (by decide +kernel) (by decide +kernel)
theorem xw_c_X8_compared : Cond.code yX8_compared cX8_compared 6 (some .int) ∈ xtbl := xt_of 766 (by decide +kernel) (by decide +kernel)
theorem xw_m_L_101 : Cond.methodLink RL 101 yX8_forkedPairs ∈ xtbl := xt_of 767 (by decide +kernel) (by decide +kernel)
theorem xw_ins_X8_forkedPairs : Cond.instanceMethod yX8_forkedPairs ∈ xtbl := xt_of 768 (by decide +kernel) (by decide +kernel)
theorem xw_sel_X8_forkedPairs : Cond.selects RX8 yX8_forkedPairs yX8_forkedPairs ∈ xtbl := xt_of 769 (by decide +kernel) (by decide +kernel)
theorem xw_c_X8_forkedPairs : Cond.code yX8_forkedPairs cX8_forkedPairs 4 (some .int) ∈ xtbl := xt_of 770 (by decide +kernel) (by decide +kernel)
theorem xw_m_L_105 : Cond.methodLink RL 105 yX8_tellingLetter ∈ xtbl := xt_of 771 (by decide +kernel) (by decide +kernel)
theorem xw_ins_X8_tellingLetter : Cond.instanceMethod yX8_tellingLetter ∈ xtbl := xt_of 772 (by decide +kernel) (by decide +kernel)
theorem xw_sel_X8_tellingLetter : Cond.selects RX8 yX8_tellingLetter yX8_tellingLetter ∈ xtbl := xt_of 773 (by decide +kernel) (by decide +kernel)
theorem xw_c_X8_tellingLetter : Cond.code yX8_tellingLetter cX8_tellingLetter 3 (some .int) ∈ xtbl := xt_of 774 (by decide +kernel) (by decide +kernel)
theorem xw_m_L_109 : Cond.methodLink RL 109 yX8_unaware ∈ xtbl := xt_of 775 (by decide +kernel) (by decide +kernel)
theorem xw_ins_X8_unaware : Cond.instanceMethod yX8_unaware ∈ xtbl := xt_of 776 (by decide +kernel) (by decide +kernel)
theorem xw_sel_X8_unaware : Cond.selects RX8 yX8_unaware yX8_unaware ∈ xtbl := xt_of 777 (by decide +kernel) (by decide +kernel)
theorem xw_c_X8_unaware : Cond.code yX8_unaware cX8_unaware 5 (some .int) ∈ xtbl := xt_of 778 (by decide +kernel) (by decide +kernel)
theorem xw_m_L_114 : Cond.methodLink RL 114 yX8_type ∈ xtbl := xt_of 779 (by decide +kernel) (by decide +kernel)
theorem xw_ins_X8_type : Cond.instanceMethod yX8_type ∈ xtbl := xt_of 780 (by decide +kernel) (by decide +kernel)
theorem xw_sel_X8_type : Cond.selects RX8 yX8_type yX8_type ∈ xtbl := xt_of 781 (by decide +kernel) (by decide +kernel)
theorem xw_c_X8_type : Cond.code yX8_type cX8_type 2 (some .int) ∈ xtbl := xt_of 782 (by decide +kernel) (by decide +kernel)
theorem xw_m_L_118 : Cond.methodLink RL 118 yX8_clearText ∈ xtbl := xt_of 783 (by decide +kernel) (by decide +kernel)
theorem xw_ins_X8_clearText : Cond.instanceMethod yX8_clearText ∈ xtbl := xt_of 784 (by decide +kernel) (by decide +kernel)
theorem xw_sel_X8_clearText : Cond.selects RX8 yX8_clearText yX8_clearText ∈ xtbl := xt_of 785 (by decide +kernel) (by decide +kernel)
theorem xw_c_X8_clearText : Cond.code yX8_clearText cX8_clearText 2 (some .int) ∈ xtbl := xt_of 786 (by decide +kernel) (by decide +kernel)
theorem xw_m_L_122 : Cond.methodLink RL 122 yX8_run ∈ xtbl := xt_of 787 (by decide +kernel) (by decide +kernel)
theorem xw_ins_X8_run : Cond.instanceMethod yX8_run ∈ xtbl := xt_of 788 (by decide +kernel) (by decide +kernel)
theorem xw_sel_X8_run : Cond.selects RX8 yX8_run yX8_run ∈ xtbl := xt_of 789 (by decide +kernel) (by decide +kernel)
theorem xw_c_X8_run : Cond.code yX8_run cX8_run 2 (some .int) ∈ xtbl := xt_of 790 (by decide +kernel) (by decide +kernel)
theorem xw_m_X8_168 : Cond.methodLink RX8 168 yX8_fault ∈ xtbl := xt_of 791 (by decide +kernel) (by decide +kernel)
theorem xw_ins_X8_fault : Cond.instanceMethod yX8_fault ∈ xtbl := xt_of 793 (by decide +kernel) (by decide +kernel)
theorem xw_c_X8_fault : Cond.code yX8_fault cX8_fault 3 (some .int) ∈ xtbl := xt_of 794 (by decide +kernel) (by decide +kernel)
theorem xw_m_X8_149 : Cond.methodLink RX8 149 yX8_isCommand ∈ xtbl := xt_of 795 (by decide +kernel) (by decide +kernel)
theorem xw_sta_X8_isCommand : Cond.static yX8_isCommand ∈ xtbl := xt_of 796 (by decide +kernel) (by decide +kernel)
theorem xw_c_X8_isCommand : Cond.code yX8_isCommand cX8_isCommand 1 (some .boolean) ∈ xtbl := xt_of 797 (by decide +kernel) (by decide +kernel)
theorem xw_m_X8_172 : Cond.methodLink RX8 172 yX8_carries ∈ xtbl := xt_of 798 (by decide +kernel) (by decide +kernel)
theorem xw_ins_X8_carries : Cond.instanceMethod yX8_carries ∈ xtbl := xt_of 800 (by decide +kernel) (by decide +kernel)
theorem xw_c_X8_carries : Cond.code yX8_carries cX8_carries 6 (some .boolean) ∈ xtbl := xt_of 801 (by decide +kernel) (by decide +kernel)
theorem xw_m_X8_153 : Cond.methodLink RX8 153 yX8_write ∈ xtbl := xt_of 802 (by decide +kernel) (by decide +kernel)
theorem xw_m_X8_156 : Cond.methodLink RX8 156 yX8_read ∈ xtbl := xt_of 803 (by decide +kernel) (by decide +kernel)
theorem xw_m_X8_159 : Cond.methodLink RX8 159 yX8_sendLetter ∈ xtbl := xt_of 804 (by decide +kernel) (by decide +kernel)
theorem xw_m_X8_162 : Cond.methodLink RX8 162 yX8_attach ∈ xtbl := xt_of 805 (by decide +kernel) (by decide +kernel)
theorem xw_m_X8_165 : Cond.methodLink RX8 165 yX8_readLetter ∈ xtbl := xt_of 806 (by decide +kernel) (by decide +kernel)
theorem xd_X0_init : yX0_init.cls ≠ "java/lang/invoke/MethodHandle" ∧ yX0_init.cls ≠ "java/lang/invoke/VarHandle" ∧ (parseMethodDescriptor yX0_init.desc).map (fun d => d.parameters.length) = some 0 := ⟨by decide +kernel, by decide +kernel, by decide +kernel⟩
theorem xd_X0_put : yX0_put.cls ≠ "java/lang/invoke/MethodHandle" ∧ yX0_put.cls ≠ "java/lang/invoke/VarHandle" ∧ (parseMethodDescriptor yX0_put.desc).map (fun d => d.parameters.length) = some 1 := ⟨by decide +kernel, by decide +kernel, by decide +kernel⟩
theorem xd_X0_dropFirst : yX0_dropFirst.cls ≠ "java/lang/invoke/MethodHandle" ∧ yX0_dropFirst.cls ≠ "java/lang/invoke/VarHandle" ∧ (parseMethodDescriptor yX0_dropFirst.desc).map (fun d => d.parameters.length) = some 0 := ⟨by decide +kernel, by decide +kernel, by decide +kernel⟩
theorem xd_X1_init : yX1_init.cls ≠ "java/lang/invoke/MethodHandle" ∧ yX1_init.cls ≠ "java/lang/invoke/VarHandle" ∧ (parseMethodDescriptor yX1_init.desc).map (fun d => d.parameters.length) = some 0 := ⟨by decide +kernel, by decide +kernel, by decide +kernel⟩
theorem xd_X1_clear : yX1_clear.cls ≠ "java/lang/invoke/MethodHandle" ∧ yX1_clear.cls ≠ "java/lang/invoke/VarHandle" ∧ (parseMethodDescriptor yX1_clear.desc).map (fun d => d.parameters.length) = some 0 := ⟨by decide +kernel, by decide +kernel, by decide +kernel⟩
theorem xd_X1_copyFrom : yX1_copyFrom.cls ≠ "java/lang/invoke/MethodHandle" ∧ yX1_copyFrom.cls ≠ "java/lang/invoke/VarHandle" ∧ (parseMethodDescriptor yX1_copyFrom.desc).map (fun d => d.parameters.length) = some 1 := ⟨by decide +kernel, by decide +kernel, by decide +kernel⟩
theorem xd_X1_replaceByLater : yX1_replaceByLater.cls ≠ "java/lang/invoke/MethodHandle" ∧ yX1_replaceByLater.cls ≠ "java/lang/invoke/VarHandle" ∧ (parseMethodDescriptor yX1_replaceByLater.desc).map (fun d => d.parameters.length) = some 1 := ⟨by decide +kernel, by decide +kernel, by decide +kernel⟩
theorem xd_X1_areForked : yX1_areForked.cls ≠ "java/lang/invoke/MethodHandle" ∧ yX1_areForked.cls ≠ "java/lang/invoke/VarHandle" ∧ (parseMethodDescriptor yX1_areForked.desc).map (fun d => d.parameters.length) = some 0 := ⟨by decide +kernel, by decide +kernel, by decide +kernel⟩
theorem xd_X1_greatest : yX1_greatest.cls ≠ "java/lang/invoke/MethodHandle" ∧ yX1_greatest.cls ≠ "java/lang/invoke/VarHandle" ∧ (parseMethodDescriptor yX1_greatest.desc).map (fun d => d.parameters.length) = some 0 := ⟨by decide +kernel, by decide +kernel, by decide +kernel⟩
theorem xd_X1_prove : yX1_prove.cls ≠ "java/lang/invoke/MethodHandle" ∧ yX1_prove.cls ≠ "java/lang/invoke/VarHandle" ∧ (parseMethodDescriptor yX1_prove.desc).map (fun d => d.parameters.length) = some 1 := ⟨by decide +kernel, by decide +kernel, by decide +kernel⟩
theorem xd_X2_init : yX2_init.cls ≠ "java/lang/invoke/MethodHandle" ∧ yX2_init.cls ≠ "java/lang/invoke/VarHandle" ∧ (parseMethodDescriptor yX2_init.desc).map (fun d => d.parameters.length) = some 0 := ⟨by decide +kernel, by decide +kernel, by decide +kernel⟩
theorem xd_X2_clear : yX2_clear.cls ≠ "java/lang/invoke/MethodHandle" ∧ yX2_clear.cls ≠ "java/lang/invoke/VarHandle" ∧ (parseMethodDescriptor yX2_clear.desc).map (fun d => d.parameters.length) = some 0 := ⟨by decide +kernel, by decide +kernel, by decide +kernel⟩
theorem xd_X2_hear : yX2_hear.cls ≠ "java/lang/invoke/MethodHandle" ∧ yX2_hear.cls ≠ "java/lang/invoke/VarHandle" ∧ (parseMethodDescriptor yX2_hear.desc).map (fun d => d.parameters.length) = some 1 := ⟨by decide +kernel, by decide +kernel, by decide +kernel⟩
theorem xd_X2_raise : yX2_raise.cls ≠ "java/lang/invoke/MethodHandle" ∧ yX2_raise.cls ≠ "java/lang/invoke/VarHandle" ∧ (parseMethodDescriptor yX2_raise.desc).map (fun d => d.parameters.length) = some 1 := ⟨by decide +kernel, by decide +kernel, by decide +kernel⟩
theorem xd_X2_sign : yX2_sign.cls ≠ "java/lang/invoke/MethodHandle" ∧ yX2_sign.cls ≠ "java/lang/invoke/VarHandle" ∧ (parseMethodDescriptor yX2_sign.desc).map (fun d => d.parameters.length) = some 2 := ⟨by decide +kernel, by decide +kernel, by decide +kernel⟩
theorem xd_X2_proveLack : yX2_proveLack.cls ≠ "java/lang/invoke/MethodHandle" ∧ yX2_proveLack.cls ≠ "java/lang/invoke/VarHandle" ∧ (parseMethodDescriptor yX2_proveLack.desc).map (fun d => d.parameters.length) = some 1 := ⟨by decide +kernel, by decide +kernel, by decide +kernel⟩
theorem xd_X2_learn : yX2_learn.cls ≠ "java/lang/invoke/MethodHandle" ∧ yX2_learn.cls ≠ "java/lang/invoke/VarHandle" ∧ (parseMethodDescriptor yX2_learn.desc).map (fun d => d.parameters.length) = some 1 := ⟨by decide +kernel, by decide +kernel, by decide +kernel⟩
theorem xd_X3_init : yX3_init.cls ≠ "java/lang/invoke/MethodHandle" ∧ yX3_init.cls ≠ "java/lang/invoke/VarHandle" ∧ (parseMethodDescriptor yX3_init.desc).map (fun d => d.parameters.length) = some 0 := ⟨by decide +kernel, by decide +kernel, by decide +kernel⟩
theorem xd_X3_clear : yX3_clear.cls ≠ "java/lang/invoke/MethodHandle" ∧ yX3_clear.cls ≠ "java/lang/invoke/VarHandle" ∧ (parseMethodDescriptor yX3_clear.desc).map (fun d => d.parameters.length) = some 0 := ⟨by decide +kernel, by decide +kernel, by decide +kernel⟩
theorem xd_X3_keepFirst : yX3_keepFirst.cls ≠ "java/lang/invoke/MethodHandle" ∧ yX3_keepFirst.cls ≠ "java/lang/invoke/VarHandle" ∧ (parseMethodDescriptor yX3_keepFirst.desc).map (fun d => d.parameters.length) = some 3 := ⟨by decide +kernel, by decide +kernel, by decide +kernel⟩
theorem xd_X4_init : yX4_init.cls ≠ "java/lang/invoke/MethodHandle" ∧ yX4_init.cls ≠ "java/lang/invoke/VarHandle" ∧ (parseMethodDescriptor yX4_init.desc).map (fun d => d.parameters.length) = some 0 := ⟨by decide +kernel, by decide +kernel, by decide +kernel⟩
theorem xd_X4_append : yX4_append.cls ≠ "java/lang/invoke/MethodHandle" ∧ yX4_append.cls ≠ "java/lang/invoke/VarHandle" ∧ (parseMethodDescriptor yX4_append.desc).map (fun d => d.parameters.length) = some 1 := ⟨by decide +kernel, by decide +kernel, by decide +kernel⟩
theorem xd_X4_digit : yX4_digit.cls ≠ "java/lang/invoke/MethodHandle" ∧ yX4_digit.cls ≠ "java/lang/invoke/VarHandle" ∧ (parseMethodDescriptor yX4_digit.desc).map (fun d => d.parameters.length) = some 1 := ⟨by decide +kernel, by decide +kernel, by decide +kernel⟩
theorem xd_X4_fault : yX4_fault.cls ≠ "java/lang/invoke/MethodHandle" ∧ yX4_fault.cls ≠ "java/lang/invoke/VarHandle" ∧ (parseMethodDescriptor yX4_fault.desc).map (fun d => d.parameters.length) = some 0 := ⟨by decide +kernel, by decide +kernel, by decide +kernel⟩
theorem xd_X4_isLetter : yX4_isLetter.cls ≠ "java/lang/invoke/MethodHandle" ∧ yX4_isLetter.cls ≠ "java/lang/invoke/VarHandle" ∧ (parseMethodDescriptor yX4_isLetter.desc).map (fun d => d.parameters.length) = some 1 := ⟨by decide +kernel, by decide +kernel, by decide +kernel⟩
theorem xd_X4_isDigit : yX4_isDigit.cls ≠ "java/lang/invoke/MethodHandle" ∧ yX4_isDigit.cls ≠ "java/lang/invoke/VarHandle" ∧ (parseMethodDescriptor yX4_isDigit.desc).map (fun d => d.parameters.length) = some 1 := ⟨by decide +kernel, by decide +kernel, by decide +kernel⟩
theorem xd_X5_init : yX5_init.cls ≠ "java/lang/invoke/MethodHandle" ∧ yX5_init.cls ≠ "java/lang/invoke/VarHandle" ∧ (parseMethodDescriptor yX5_init.desc).map (fun d => d.parameters.length) = some 0 := ⟨by decide +kernel, by decide +kernel, by decide +kernel⟩
theorem xd_X5_clear : yX5_clear.cls ≠ "java/lang/invoke/MethodHandle" ∧ yX5_clear.cls ≠ "java/lang/invoke/VarHandle" ∧ (parseMethodDescriptor yX5_clear.desc).map (fun d => d.parameters.length) = some 0 := ⟨by decide +kernel, by decide +kernel, by decide +kernel⟩
theorem xd_X5_copyFrom : yX5_copyFrom.cls ≠ "java/lang/invoke/MethodHandle" ∧ yX5_copyFrom.cls ≠ "java/lang/invoke/VarHandle" ∧ (parseMethodDescriptor yX5_copyFrom.desc).map (fun d => d.parameters.length) = some 1 := ⟨by decide +kernel, by decide +kernel, by decide +kernel⟩
theorem xd_X5_isAtMost : yX5_isAtMost.cls ≠ "java/lang/invoke/MethodHandle" ∧ yX5_isAtMost.cls ≠ "java/lang/invoke/VarHandle" ∧ (parseMethodDescriptor yX5_isAtMost.desc).map (fun d => d.parameters.length) = some 1 := ⟨by decide +kernel, by decide +kernel, by decide +kernel⟩
theorem xd_X5_relationTo : yX5_relationTo.cls ≠ "java/lang/invoke/MethodHandle" ∧ yX5_relationTo.cls ≠ "java/lang/invoke/VarHandle" ∧ (parseMethodDescriptor yX5_relationTo.desc).map (fun d => d.parameters.length) = some 1 := ⟨by decide +kernel, by decide +kernel, by decide +kernel⟩
theorem xd_X5_sum : yX5_sum.cls ≠ "java/lang/invoke/MethodHandle" ∧ yX5_sum.cls ≠ "java/lang/invoke/VarHandle" ∧ (parseMethodDescriptor yX5_sum.desc).map (fun d => d.parameters.length) = some 0 := ⟨by decide +kernel, by decide +kernel, by decide +kernel⟩
theorem xd_X6_init : yX6_init.cls ≠ "java/lang/invoke/MethodHandle" ∧ yX6_init.cls ≠ "java/lang/invoke/VarHandle" ∧ (parseMethodDescriptor yX6_init.desc).map (fun d => d.parameters.length) = some 0 := ⟨by decide +kernel, by decide +kernel, by decide +kernel⟩
theorem xd_X6_clear : yX6_clear.cls ≠ "java/lang/invoke/MethodHandle" ∧ yX6_clear.cls ≠ "java/lang/invoke/VarHandle" ∧ (parseMethodDescriptor yX6_clear.desc).map (fun d => d.parameters.length) = some 0 := ⟨by decide +kernel, by decide +kernel, by decide +kernel⟩
theorem xd_X6_forget : yX6_forget.cls ≠ "java/lang/invoke/MethodHandle" ∧ yX6_forget.cls ≠ "java/lang/invoke/VarHandle" ∧ (parseMethodDescriptor yX6_forget.desc).map (fun d => d.parameters.length) = some 0 := ⟨by decide +kernel, by decide +kernel, by decide +kernel⟩
theorem xd_X6_copyFrom : yX6_copyFrom.cls ≠ "java/lang/invoke/MethodHandle" ∧ yX6_copyFrom.cls ≠ "java/lang/invoke/VarHandle" ∧ (parseMethodDescriptor yX6_copyFrom.desc).map (fun d => d.parameters.length) = some 1 := ⟨by decide +kernel, by decide +kernel, by decide +kernel⟩
theorem xd_X6_remember : yX6_remember.cls ≠ "java/lang/invoke/MethodHandle" ∧ yX6_remember.cls ≠ "java/lang/invoke/VarHandle" ∧ (parseMethodDescriptor yX6_remember.desc).map (fun d => d.parameters.length) = some 0 := ⟨by decide +kernel, by decide +kernel, by decide +kernel⟩
theorem xd_X6_takeBack : yX6_takeBack.cls ≠ "java/lang/invoke/MethodHandle" ∧ yX6_takeBack.cls ≠ "java/lang/invoke/VarHandle" ∧ (parseMethodDescriptor yX6_takeBack.desc).map (fun d => d.parameters.length) = some 1 := ⟨by decide +kernel, by decide +kernel, by decide +kernel⟩
theorem xd_X7_init : yX7_init.cls ≠ "java/lang/invoke/MethodHandle" ∧ yX7_init.cls ≠ "java/lang/invoke/VarHandle" ∧ (parseMethodDescriptor yX7_init.desc).map (fun d => d.parameters.length) = some 0 := ⟨by decide +kernel, by decide +kernel, by decide +kernel⟩
theorem xd_X7_reset : yX7_reset.cls ≠ "java/lang/invoke/MethodHandle" ∧ yX7_reset.cls ≠ "java/lang/invoke/VarHandle" ∧ (parseMethodDescriptor yX7_reset.desc).map (fun d => d.parameters.length) = some 1 := ⟨by decide +kernel, by decide +kernel, by decide +kernel⟩
theorem xd_X7_write : yX7_write.cls ≠ "java/lang/invoke/MethodHandle" ∧ yX7_write.cls ≠ "java/lang/invoke/VarHandle" ∧ (parseMethodDescriptor yX7_write.desc).map (fun d => d.parameters.length) = some 2 := ⟨by decide +kernel, by decide +kernel, by decide +kernel⟩
theorem xd_X7_read : yX7_read.cls ≠ "java/lang/invoke/MethodHandle" ∧ yX7_read.cls ≠ "java/lang/invoke/VarHandle" ∧ (parseMethodDescriptor yX7_read.desc).map (fun d => d.parameters.length) = some 2 := ⟨by decide +kernel, by decide +kernel, by decide +kernel⟩
theorem xd_X7_lastRead : yX7_lastRead.cls ≠ "java/lang/invoke/MethodHandle" ∧ yX7_lastRead.cls ≠ "java/lang/invoke/VarHandle" ∧ (parseMethodDescriptor yX7_lastRead.desc).map (fun d => d.parameters.length) = some 1 := ⟨by decide +kernel, by decide +kernel, by decide +kernel⟩
theorem xd_X7_check : yX7_check.cls ≠ "java/lang/invoke/MethodHandle" ∧ yX7_check.cls ≠ "java/lang/invoke/VarHandle" ∧ (parseMethodDescriptor yX7_check.desc).map (fun d => d.parameters.length) = some 1 := ⟨by decide +kernel, by decide +kernel, by decide +kernel⟩
theorem xd_X7_fork : yX7_fork.cls ≠ "java/lang/invoke/MethodHandle" ∧ yX7_fork.cls ≠ "java/lang/invoke/VarHandle" ∧ (parseMethodDescriptor yX7_fork.desc).map (fun d => d.parameters.length) = some 2 := ⟨by decide +kernel, by decide +kernel, by decide +kernel⟩
theorem xd_X7_attach : yX7_attach.cls ≠ "java/lang/invoke/MethodHandle" ∧ yX7_attach.cls ≠ "java/lang/invoke/VarHandle" ∧ (parseMethodDescriptor yX7_attach.desc).map (fun d => d.parameters.length) = some 2 := ⟨by decide +kernel, by decide +kernel, by decide +kernel⟩
theorem xd_X7_rollBack : yX7_rollBack.cls ≠ "java/lang/invoke/MethodHandle" ∧ yX7_rollBack.cls ≠ "java/lang/invoke/VarHandle" ∧ (parseMethodDescriptor yX7_rollBack.desc).map (fun d => d.parameters.length) = some 2 := ⟨by decide +kernel, by decide +kernel, by decide +kernel⟩
theorem xd_X7_mix : yX7_mix.cls ≠ "java/lang/invoke/MethodHandle" ∧ yX7_mix.cls ≠ "java/lang/invoke/VarHandle" ∧ (parseMethodDescriptor yX7_mix.desc).map (fun d => d.parameters.length) = some 2 := ⟨by decide +kernel, by decide +kernel, by decide +kernel⟩
theorem xd_X7_sendLetter : yX7_sendLetter.cls ≠ "java/lang/invoke/MethodHandle" ∧ yX7_sendLetter.cls ≠ "java/lang/invoke/VarHandle" ∧ (parseMethodDescriptor yX7_sendLetter.desc).map (fun d => d.parameters.length) = some 2 := ⟨by decide +kernel, by decide +kernel, by decide +kernel⟩
theorem xd_X7_readLetter : yX7_readLetter.cls ≠ "java/lang/invoke/MethodHandle" ∧ yX7_readLetter.cls ≠ "java/lang/invoke/VarHandle" ∧ (parseMethodDescriptor yX7_readLetter.desc).map (fun d => d.parameters.length) = some 1 := ⟨by decide +kernel, by decide +kernel, by decide +kernel⟩
theorem xd_X7_loseLetter : yX7_loseLetter.cls ≠ "java/lang/invoke/MethodHandle" ∧ yX7_loseLetter.cls ≠ "java/lang/invoke/VarHandle" ∧ (parseMethodDescriptor yX7_loseLetter.desc).map (fun d => d.parameters.length) = some 1 := ⟨by decide +kernel, by decide +kernel, by decide +kernel⟩
theorem xd_X7_passProof : yX7_passProof.cls ≠ "java/lang/invoke/MethodHandle" ∧ yX7_passProof.cls ≠ "java/lang/invoke/VarHandle" ∧ (parseMethodDescriptor yX7_passProof.desc).map (fun d => d.parameters.length) = some 2 := ⟨by decide +kernel, by decide +kernel, by decide +kernel⟩
theorem xd_X7_count : yX7_count.cls ≠ "java/lang/invoke/MethodHandle" ∧ yX7_count.cls ≠ "java/lang/invoke/VarHandle" ∧ (parseMethodDescriptor yX7_count.desc).map (fun d => d.parameters.length) = some 1 := ⟨by decide +kernel, by decide +kernel, by decide +kernel⟩
theorem xd_X7_user : yX7_user.cls ≠ "java/lang/invoke/MethodHandle" ∧ yX7_user.cls ≠ "java/lang/invoke/VarHandle" ∧ (parseMethodDescriptor yX7_user.desc).map (fun d => d.parameters.length) = some 2 := ⟨by decide +kernel, by decide +kernel, by decide +kernel⟩
theorem xd_X7_vector : yX7_vector.cls ≠ "java/lang/invoke/MethodHandle" ∧ yX7_vector.cls ≠ "java/lang/invoke/VarHandle" ∧ (parseMethodDescriptor yX7_vector.desc).map (fun d => d.parameters.length) = some 3 := ⟨by decide +kernel, by decide +kernel, by decide +kernel⟩
theorem xd_X7_entry : yX7_entry.cls ≠ "java/lang/invoke/MethodHandle" ∧ yX7_entry.cls ≠ "java/lang/invoke/VarHandle" ∧ (parseMethodDescriptor yX7_entry.desc).map (fun d => d.parameters.length) = some 3 := ⟨by decide +kernel, by decide +kernel, by decide +kernel⟩
theorem xd_X7_content : yX7_content.cls ≠ "java/lang/invoke/MethodHandle" ∧ yX7_content.cls ≠ "java/lang/invoke/VarHandle" ∧ (parseMethodDescriptor yX7_content.desc).map (fun d => d.parameters.length) = some 2 := ⟨by decide +kernel, by decide +kernel, by decide +kernel⟩
theorem xd_X7_view : yX7_view.cls ≠ "java/lang/invoke/MethodHandle" ∧ yX7_view.cls ≠ "java/lang/invoke/VarHandle" ∧ (parseMethodDescriptor yX7_view.desc).map (fun d => d.parameters.length) = some 2 := ⟨by decide +kernel, by decide +kernel, by decide +kernel⟩
theorem xd_X7_compare : yX7_compare.cls ≠ "java/lang/invoke/MethodHandle" ∧ yX7_compare.cls ≠ "java/lang/invoke/VarHandle" ∧ (parseMethodDescriptor yX7_compare.desc).map (fun d => d.parameters.length) = some 3 := ⟨by decide +kernel, by decide +kernel, by decide +kernel⟩
theorem xd_X7_forkedPairs : yX7_forkedPairs.cls ≠ "java/lang/invoke/MethodHandle" ∧ yX7_forkedPairs.cls ≠ "java/lang/invoke/VarHandle" ∧ (parseMethodDescriptor yX7_forkedPairs.desc).map (fun d => d.parameters.length) = some 0 := ⟨by decide +kernel, by decide +kernel, by decide +kernel⟩
theorem xd_X7_tellingLetter : yX7_tellingLetter.cls ≠ "java/lang/invoke/MethodHandle" ∧ yX7_tellingLetter.cls ≠ "java/lang/invoke/VarHandle" ∧ (parseMethodDescriptor yX7_tellingLetter.desc).map (fun d => d.parameters.length) = some 0 := ⟨by decide +kernel, by decide +kernel, by decide +kernel⟩
theorem xd_X7_unaware : yX7_unaware.cls ≠ "java/lang/invoke/MethodHandle" ∧ yX7_unaware.cls ≠ "java/lang/invoke/VarHandle" ∧ (parseMethodDescriptor yX7_unaware.desc).map (fun d => d.parameters.length) = some 0 := ⟨by decide +kernel, by decide +kernel, by decide +kernel⟩
theorem xd_X7_type : yX7_type.cls ≠ "java/lang/invoke/MethodHandle" ∧ yX7_type.cls ≠ "java/lang/invoke/VarHandle" ∧ (parseMethodDescriptor yX7_type.desc).map (fun d => d.parameters.length) = some 1 := ⟨by decide +kernel, by decide +kernel, by decide +kernel⟩
theorem xd_X7_clearText : yX7_clearText.cls ≠ "java/lang/invoke/MethodHandle" ∧ yX7_clearText.cls ≠ "java/lang/invoke/VarHandle" ∧ (parseMethodDescriptor yX7_clearText.desc).map (fun d => d.parameters.length) = some 0 := ⟨by decide +kernel, by decide +kernel, by decide +kernel⟩
theorem xd_X7_run : yX7_run.cls ≠ "java/lang/invoke/MethodHandle" ∧ yX7_run.cls ≠ "java/lang/invoke/VarHandle" ∧ (parseMethodDescriptor yX7_run.desc).map (fun d => d.parameters.length) = some 0 := ⟨by decide +kernel, by decide +kernel, by decide +kernel⟩
theorem xd_X7_isUser : yX7_isUser.cls ≠ "java/lang/invoke/MethodHandle" ∧ yX7_isUser.cls ≠ "java/lang/invoke/VarHandle" ∧ (parseMethodDescriptor yX7_isUser.desc).map (fun d => d.parameters.length) = some 1 := ⟨by decide +kernel, by decide +kernel, by decide +kernel⟩
theorem xd_X7_isView : yX7_isView.cls ≠ "java/lang/invoke/MethodHandle" ∧ yX7_isView.cls ≠ "java/lang/invoke/VarHandle" ∧ (parseMethodDescriptor yX7_isView.desc).map (fun d => d.parameters.length) = some 1 := ⟨by decide +kernel, by decide +kernel, by decide +kernel⟩
theorem xd_X7_contains : yX7_contains.cls ≠ "java/lang/invoke/MethodHandle" ∧ yX7_contains.cls ≠ "java/lang/invoke/VarHandle" ∧ (parseMethodDescriptor yX7_contains.desc).map (fun d => d.parameters.length) = some 2 := ⟨by decide +kernel, by decide +kernel, by decide +kernel⟩
theorem xd_X7_oneIf : yX7_oneIf.cls ≠ "java/lang/invoke/MethodHandle" ∧ yX7_oneIf.cls ≠ "java/lang/invoke/VarHandle" ∧ (parseMethodDescriptor yX7_oneIf.desc).map (fun d => d.parameters.length) = some 1 := ⟨by decide +kernel, by decide +kernel, by decide +kernel⟩
theorem xd_X7_entriesShownTo : yX7_entriesShownTo.cls ≠ "java/lang/invoke/MethodHandle" ∧ yX7_entriesShownTo.cls ≠ "java/lang/invoke/VarHandle" ∧ (parseMethodDescriptor yX7_entriesShownTo.desc).map (fun d => d.parameters.length) = some 1 := ⟨by decide +kernel, by decide +kernel, by decide +kernel⟩
theorem xd_X7_usersAttachedTo : yX7_usersAttachedTo.cls ≠ "java/lang/invoke/MethodHandle" ∧ yX7_usersAttachedTo.cls ≠ "java/lang/invoke/VarHandle" ∧ (parseMethodDescriptor yX7_usersAttachedTo.desc).map (fun d => d.parameters.length) = some 1 := ⟨by decide +kernel, by decide +kernel, by decide +kernel⟩
theorem xd_X7_alarmAhead : yX7_alarmAhead.cls ≠ "java/lang/invoke/MethodHandle" ∧ yX7_alarmAhead.cls ≠ "java/lang/invoke/VarHandle" ∧ (parseMethodDescriptor yX7_alarmAhead.desc).map (fun d => d.parameters.length) = some 1 := ⟨by decide +kernel, by decide +kernel, by decide +kernel⟩
theorem xd_X7_operate : yX7_operate.cls ≠ "java/lang/invoke/MethodHandle" ∧ yX7_operate.cls ≠ "java/lang/invoke/VarHandle" ∧ (parseMethodDescriptor yX7_operate.desc).map (fun d => d.parameters.length) = some 1 := ⟨by decide +kernel, by decide +kernel, by decide +kernel⟩
theorem xd_X7_usersWithAlarm : yX7_usersWithAlarm.cls ≠ "java/lang/invoke/MethodHandle" ∧ yX7_usersWithAlarm.cls ≠ "java/lang/invoke/VarHandle" ∧ (parseMethodDescriptor yX7_usersWithAlarm.desc).map (fun d => d.parameters.length) = some 0 := ⟨by decide +kernel, by decide +kernel, by decide +kernel⟩
theorem xd_X7_usersWithProof : yX7_usersWithProof.cls ≠ "java/lang/invoke/MethodHandle" ∧ yX7_usersWithProof.cls ≠ "java/lang/invoke/VarHandle" ∧ (parseMethodDescriptor yX7_usersWithProof.desc).map (fun d => d.parameters.length) = some 0 := ⟨by decide +kernel, by decide +kernel, by decide +kernel⟩
theorem xd_X7_operationsOfAll : yX7_operationsOfAll.cls ≠ "java/lang/invoke/MethodHandle" ∧ yX7_operationsOfAll.cls ≠ "java/lang/invoke/VarHandle" ∧ (parseMethodDescriptor yX7_operationsOfAll.desc).map (fun d => d.parameters.length) = some 0 := ⟨by decide +kernel, by decide +kernel, by decide +kernel⟩
theorem xd_X7_lettersInBoxes : yX7_lettersInBoxes.cls ≠ "java/lang/invoke/MethodHandle" ∧ yX7_lettersInBoxes.cls ≠ "java/lang/invoke/VarHandle" ∧ (parseMethodDescriptor yX7_lettersInBoxes.desc).map (fun d => d.parameters.length) = some 0 := ⟨by decide +kernel, by decide +kernel, by decide +kernel⟩
theorem xd_X7_knowForkedVectors : yX7_knowForkedVectors.cls ≠ "java/lang/invoke/MethodHandle" ∧ yX7_knowForkedVectors.cls ≠ "java/lang/invoke/VarHandle" ∧ (parseMethodDescriptor yX7_knowForkedVectors.desc).map (fun d => d.parameters.length) = some 2 := ⟨by decide +kernel, by decide +kernel, by decide +kernel⟩
theorem xd_X7_isUnaware : yX7_isUnaware.cls ≠ "java/lang/invoke/MethodHandle" ∧ yX7_isUnaware.cls ≠ "java/lang/invoke/VarHandle" ∧ (parseMethodDescriptor yX7_isUnaware.desc).map (fun d => d.parameters.length) = some 1 := ⟨by decide +kernel, by decide +kernel, by decide +kernel⟩
theorem xd_X7_carryOut : yX7_carryOut.cls ≠ "java/lang/invoke/MethodHandle" ∧ yX7_carryOut.cls ≠ "java/lang/invoke/VarHandle" ∧ (parseMethodDescriptor yX7_carryOut.desc).map (fun d => d.parameters.length) = some 3 := ⟨by decide +kernel, by decide +kernel, by decide +kernel⟩
theorem xd_X7_readLetters : yX7_readLetters.cls ≠ "java/lang/invoke/MethodHandle" ∧ yX7_readLetters.cls ≠ "java/lang/invoke/VarHandle" ∧ (parseMethodDescriptor yX7_readLetters.desc).map (fun d => d.parameters.length) = some 2 := ⟨by decide +kernel, by decide +kernel, by decide +kernel⟩
theorem xd_X8_init : yX8_init.cls ≠ "java/lang/invoke/MethodHandle" ∧ yX8_init.cls ≠ "java/lang/invoke/VarHandle" ∧ (parseMethodDescriptor yX8_init.desc).map (fun d => d.parameters.length) = some 0 := ⟨by decide +kernel, by decide +kernel, by decide +kernel⟩
theorem xd_X8_in : yX8_in.cls ≠ "java/lang/invoke/MethodHandle" ∧ yX8_in.cls ≠ "java/lang/invoke/VarHandle" ∧ (parseMethodDescriptor yX8_in.desc).map (fun d => d.parameters.length) = some 3 := ⟨by decide +kernel, by decide +kernel, by decide +kernel⟩
theorem xd_X8_begin : yX8_begin.cls ≠ "java/lang/invoke/MethodHandle" ∧ yX8_begin.cls ≠ "java/lang/invoke/VarHandle" ∧ (parseMethodDescriptor yX8_begin.desc).map (fun d => d.parameters.length) = some 1 := ⟨by decide +kernel, by decide +kernel, by decide +kernel⟩
theorem xd_X8_reset : yX8_reset.cls ≠ "java/lang/invoke/MethodHandle" ∧ yX8_reset.cls ≠ "java/lang/invoke/VarHandle" ∧ (parseMethodDescriptor yX8_reset.desc).map (fun d => d.parameters.length) = some 1 := ⟨by decide +kernel, by decide +kernel, by decide +kernel⟩
theorem xd_X8_noUser : yX8_noUser.cls ≠ "java/lang/invoke/MethodHandle" ∧ yX8_noUser.cls ≠ "java/lang/invoke/VarHandle" ∧ (parseMethodDescriptor yX8_noUser.desc).map (fun d => d.parameters.length) = some 1 := ⟨by decide +kernel, by decide +kernel, by decide +kernel⟩
theorem xd_X8_noView : yX8_noView.cls ≠ "java/lang/invoke/MethodHandle" ∧ yX8_noView.cls ≠ "java/lang/invoke/VarHandle" ∧ (parseMethodDescriptor yX8_noView.desc).map (fun d => d.parameters.length) = some 1 := ⟨by decide +kernel, by decide +kernel, by decide +kernel⟩
theorem xd_X8_atMost : yX8_atMost.cls ≠ "java/lang/invoke/MethodHandle" ∧ yX8_atMost.cls ≠ "java/lang/invoke/VarHandle" ∧ (parseMethodDescriptor yX8_atMost.desc).map (fun d => d.parameters.length) = some 4 := ⟨by decide +kernel, by decide +kernel, by decide +kernel⟩
theorem xd_X8_areApart : yX8_areApart.cls ≠ "java/lang/invoke/MethodHandle" ∧ yX8_areApart.cls ≠ "java/lang/invoke/VarHandle" ∧ (parseMethodDescriptor yX8_areApart.desc).map (fun d => d.parameters.length) = some 4 := ⟨by decide +kernel, by decide +kernel, by decide +kernel⟩
theorem xd_X8_copy : yX8_copy.cls ≠ "java/lang/invoke/MethodHandle" ∧ yX8_copy.cls ≠ "java/lang/invoke/VarHandle" ∧ (parseMethodDescriptor yX8_copy.desc).map (fun d => d.parameters.length) = some 4 := ⟨by decide +kernel, by decide +kernel, by decide +kernel⟩
theorem xd_X8_entryAt : yX8_entryAt.cls ≠ "java/lang/invoke/MethodHandle" ∧ yX8_entryAt.cls ≠ "java/lang/invoke/VarHandle" ∧ (parseMethodDescriptor yX8_entryAt.desc).map (fun d => d.parameters.length) = some 2 := ⟨by decide +kernel, by decide +kernel, by decide +kernel⟩
theorem xd_X8_greatest : yX8_greatest.cls ≠ "java/lang/invoke/MethodHandle" ∧ yX8_greatest.cls ≠ "java/lang/invoke/VarHandle" ∧ (parseMethodDescriptor yX8_greatest.desc).map (fun d => d.parameters.length) = some 1 := ⟨by decide +kernel, by decide +kernel, by decide +kernel⟩
theorem xd_X8_alarmFor : yX8_alarmFor.cls ≠ "java/lang/invoke/MethodHandle" ∧ yX8_alarmFor.cls ≠ "java/lang/invoke/VarHandle" ∧ (parseMethodDescriptor yX8_alarmFor.desc).map (fun d => d.parameters.length) = some 1 := ⟨by decide +kernel, by decide +kernel, by decide +kernel⟩
theorem xd_X8_proves : yX8_proves.cls ≠ "java/lang/invoke/MethodHandle" ∧ yX8_proves.cls ≠ "java/lang/invoke/VarHandle" ∧ (parseMethodDescriptor yX8_proves.desc).map (fun d => d.parameters.length) = some 6 := ⟨by decide +kernel, by decide +kernel, by decide +kernel⟩
theorem xd_X8_raises : yX8_raises.cls ≠ "java/lang/invoke/MethodHandle" ∧ yX8_raises.cls ≠ "java/lang/invoke/VarHandle" ∧ (parseMethodDescriptor yX8_raises.desc).map (fun d => d.parameters.length) = some 2 := ⟨by decide +kernel, by decide +kernel, by decide +kernel⟩
theorem xd_X8_remember : yX8_remember.cls ≠ "java/lang/invoke/MethodHandle" ∧ yX8_remember.cls ≠ "java/lang/invoke/VarHandle" ∧ (parseMethodDescriptor yX8_remember.desc).map (fun d => d.parameters.length) = some 1 := ⟨by decide +kernel, by decide +kernel, by decide +kernel⟩
theorem xd_X8_operate : yX8_operate.cls ≠ "java/lang/invoke/MethodHandle" ∧ yX8_operate.cls ≠ "java/lang/invoke/VarHandle" ∧ (parseMethodDescriptor yX8_operate.desc).map (fun d => d.parameters.length) = some 1 := ⟨by decide +kernel, by decide +kernel, by decide +kernel⟩
theorem xd_X8_write : yX8_write.cls ≠ "java/lang/invoke/MethodHandle" ∧ yX8_write.cls ≠ "java/lang/invoke/VarHandle" ∧ (parseMethodDescriptor yX8_write.desc).map (fun d => d.parameters.length) = some 2 := ⟨by decide +kernel, by decide +kernel, by decide +kernel⟩
theorem xd_X8_read : yX8_read.cls ≠ "java/lang/invoke/MethodHandle" ∧ yX8_read.cls ≠ "java/lang/invoke/VarHandle" ∧ (parseMethodDescriptor yX8_read.desc).map (fun d => d.parameters.length) = some 2 := ⟨by decide +kernel, by decide +kernel, by decide +kernel⟩
theorem xd_X8_lastRead : yX8_lastRead.cls ≠ "java/lang/invoke/MethodHandle" ∧ yX8_lastRead.cls ≠ "java/lang/invoke/VarHandle" ∧ (parseMethodDescriptor yX8_lastRead.desc).map (fun d => d.parameters.length) = some 1 := ⟨by decide +kernel, by decide +kernel, by decide +kernel⟩
theorem xd_X8_check : yX8_check.cls ≠ "java/lang/invoke/MethodHandle" ∧ yX8_check.cls ≠ "java/lang/invoke/VarHandle" ∧ (parseMethodDescriptor yX8_check.desc).map (fun d => d.parameters.length) = some 1 := ⟨by decide +kernel, by decide +kernel, by decide +kernel⟩
theorem xd_X8_fork : yX8_fork.cls ≠ "java/lang/invoke/MethodHandle" ∧ yX8_fork.cls ≠ "java/lang/invoke/VarHandle" ∧ (parseMethodDescriptor yX8_fork.desc).map (fun d => d.parameters.length) = some 2 := ⟨by decide +kernel, by decide +kernel, by decide +kernel⟩
theorem xd_X8_attached : yX8_attached.cls ≠ "java/lang/invoke/MethodHandle" ∧ yX8_attached.cls ≠ "java/lang/invoke/VarHandle" ∧ (parseMethodDescriptor yX8_attached.desc).map (fun d => d.parameters.length) = some 1 := ⟨by decide +kernel, by decide +kernel, by decide +kernel⟩
theorem xd_X8_attach : yX8_attach.cls ≠ "java/lang/invoke/MethodHandle" ∧ yX8_attach.cls ≠ "java/lang/invoke/VarHandle" ∧ (parseMethodDescriptor yX8_attach.desc).map (fun d => d.parameters.length) = some 2 := ⟨by decide +kernel, by decide +kernel, by decide +kernel⟩
theorem xd_X8_rollBack : yX8_rollBack.cls ≠ "java/lang/invoke/MethodHandle" ∧ yX8_rollBack.cls ≠ "java/lang/invoke/VarHandle" ∧ (parseMethodDescriptor yX8_rollBack.desc).map (fun d => d.parameters.length) = some 2 := ⟨by decide +kernel, by decide +kernel, by decide +kernel⟩
theorem xd_X8_mix : yX8_mix.cls ≠ "java/lang/invoke/MethodHandle" ∧ yX8_mix.cls ≠ "java/lang/invoke/VarHandle" ∧ (parseMethodDescriptor yX8_mix.desc).map (fun d => d.parameters.length) = some 2 := ⟨by decide +kernel, by decide +kernel, by decide +kernel⟩
theorem xd_X8_sendLetter : yX8_sendLetter.cls ≠ "java/lang/invoke/MethodHandle" ∧ yX8_sendLetter.cls ≠ "java/lang/invoke/VarHandle" ∧ (parseMethodDescriptor yX8_sendLetter.desc).map (fun d => d.parameters.length) = some 2 := ⟨by decide +kernel, by decide +kernel, by decide +kernel⟩
theorem xd_X8_takesLetter : yX8_takesLetter.cls ≠ "java/lang/invoke/MethodHandle" ∧ yX8_takesLetter.cls ≠ "java/lang/invoke/VarHandle" ∧ (parseMethodDescriptor yX8_takesLetter.desc).map (fun d => d.parameters.length) = some 1 := ⟨by decide +kernel, by decide +kernel, by decide +kernel⟩
theorem xd_X8_readLetter : yX8_readLetter.cls ≠ "java/lang/invoke/MethodHandle" ∧ yX8_readLetter.cls ≠ "java/lang/invoke/VarHandle" ∧ (parseMethodDescriptor yX8_readLetter.desc).map (fun d => d.parameters.length) = some 1 := ⟨by decide +kernel, by decide +kernel, by decide +kernel⟩
theorem xd_X8_loseLetter : yX8_loseLetter.cls ≠ "java/lang/invoke/MethodHandle" ∧ yX8_loseLetter.cls ≠ "java/lang/invoke/VarHandle" ∧ (parseMethodDescriptor yX8_loseLetter.desc).map (fun d => d.parameters.length) = some 1 := ⟨by decide +kernel, by decide +kernel, by decide +kernel⟩
theorem xd_X8_passProof : yX8_passProof.cls ≠ "java/lang/invoke/MethodHandle" ∧ yX8_passProof.cls ≠ "java/lang/invoke/VarHandle" ∧ (parseMethodDescriptor yX8_passProof.desc).map (fun d => d.parameters.length) = some 2 := ⟨by decide +kernel, by decide +kernel, by decide +kernel⟩
theorem xd_X8_count : yX8_count.cls ≠ "java/lang/invoke/MethodHandle" ∧ yX8_count.cls ≠ "java/lang/invoke/VarHandle" ∧ (parseMethodDescriptor yX8_count.desc).map (fun d => d.parameters.length) = some 1 := ⟨by decide +kernel, by decide +kernel, by decide +kernel⟩
theorem xd_X8_user : yX8_user.cls ≠ "java/lang/invoke/MethodHandle" ∧ yX8_user.cls ≠ "java/lang/invoke/VarHandle" ∧ (parseMethodDescriptor yX8_user.desc).map (fun d => d.parameters.length) = some 2 := ⟨by decide +kernel, by decide +kernel, by decide +kernel⟩
theorem xd_X8_vector : yX8_vector.cls ≠ "java/lang/invoke/MethodHandle" ∧ yX8_vector.cls ≠ "java/lang/invoke/VarHandle" ∧ (parseMethodDescriptor yX8_vector.desc).map (fun d => d.parameters.length) = some 3 := ⟨by decide +kernel, by decide +kernel, by decide +kernel⟩
theorem xd_X8_entry : yX8_entry.cls ≠ "java/lang/invoke/MethodHandle" ∧ yX8_entry.cls ≠ "java/lang/invoke/VarHandle" ∧ (parseMethodDescriptor yX8_entry.desc).map (fun d => d.parameters.length) = some 3 := ⟨by decide +kernel, by decide +kernel, by decide +kernel⟩
theorem xd_X8_content : yX8_content.cls ≠ "java/lang/invoke/MethodHandle" ∧ yX8_content.cls ≠ "java/lang/invoke/VarHandle" ∧ (parseMethodDescriptor yX8_content.desc).map (fun d => d.parameters.length) = some 2 := ⟨by decide +kernel, by decide +kernel, by decide +kernel⟩
theorem xd_X8_view : yX8_view.cls ≠ "java/lang/invoke/MethodHandle" ∧ yX8_view.cls ≠ "java/lang/invoke/VarHandle" ∧ (parseMethodDescriptor yX8_view.desc).map (fun d => d.parameters.length) = some 2 := ⟨by decide +kernel, by decide +kernel, by decide +kernel⟩
theorem xd_X8_compared : yX8_compared.cls ≠ "java/lang/invoke/MethodHandle" ∧ yX8_compared.cls ≠ "java/lang/invoke/VarHandle" ∧ (parseMethodDescriptor yX8_compared.desc).map (fun d => d.parameters.length) = some 3 := ⟨by decide +kernel, by decide +kernel, by decide +kernel⟩
theorem xd_X8_compare : yX8_compare.cls ≠ "java/lang/invoke/MethodHandle" ∧ yX8_compare.cls ≠ "java/lang/invoke/VarHandle" ∧ (parseMethodDescriptor yX8_compare.desc).map (fun d => d.parameters.length) = some 3 := ⟨by decide +kernel, by decide +kernel, by decide +kernel⟩
theorem xd_X8_forkedPairs : yX8_forkedPairs.cls ≠ "java/lang/invoke/MethodHandle" ∧ yX8_forkedPairs.cls ≠ "java/lang/invoke/VarHandle" ∧ (parseMethodDescriptor yX8_forkedPairs.desc).map (fun d => d.parameters.length) = some 0 := ⟨by decide +kernel, by decide +kernel, by decide +kernel⟩
theorem xd_X8_tellingLetter : yX8_tellingLetter.cls ≠ "java/lang/invoke/MethodHandle" ∧ yX8_tellingLetter.cls ≠ "java/lang/invoke/VarHandle" ∧ (parseMethodDescriptor yX8_tellingLetter.desc).map (fun d => d.parameters.length) = some 0 := ⟨by decide +kernel, by decide +kernel, by decide +kernel⟩
theorem xd_X8_unaware : yX8_unaware.cls ≠ "java/lang/invoke/MethodHandle" ∧ yX8_unaware.cls ≠ "java/lang/invoke/VarHandle" ∧ (parseMethodDescriptor yX8_unaware.desc).map (fun d => d.parameters.length) = some 0 := ⟨by decide +kernel, by decide +kernel, by decide +kernel⟩
theorem xd_X8_type : yX8_type.cls ≠ "java/lang/invoke/MethodHandle" ∧ yX8_type.cls ≠ "java/lang/invoke/VarHandle" ∧ (parseMethodDescriptor yX8_type.desc).map (fun d => d.parameters.length) = some 1 := ⟨by decide +kernel, by decide +kernel, by decide +kernel⟩
theorem xd_X8_clearText : yX8_clearText.cls ≠ "java/lang/invoke/MethodHandle" ∧ yX8_clearText.cls ≠ "java/lang/invoke/VarHandle" ∧ (parseMethodDescriptor yX8_clearText.desc).map (fun d => d.parameters.length) = some 0 := ⟨by decide +kernel, by decide +kernel, by decide +kernel⟩
theorem xd_X8_isCommand : yX8_isCommand.cls ≠ "java/lang/invoke/MethodHandle" ∧ yX8_isCommand.cls ≠ "java/lang/invoke/VarHandle" ∧ (parseMethodDescriptor yX8_isCommand.desc).map (fun d => d.parameters.length) = some 1 := ⟨by decide +kernel, by decide +kernel, by decide +kernel⟩
theorem xd_X8_fault : yX8_fault.cls ≠ "java/lang/invoke/MethodHandle" ∧ yX8_fault.cls ≠ "java/lang/invoke/VarHandle" ∧ (parseMethodDescriptor yX8_fault.desc).map (fun d => d.parameters.length) = some 0 := ⟨by decide +kernel, by decide +kernel, by decide +kernel⟩
theorem xd_X8_carries : yX8_carries.cls ≠ "java/lang/invoke/MethodHandle" ∧ yX8_carries.cls ≠ "java/lang/invoke/VarHandle" ∧ (parseMethodDescriptor yX8_carries.desc).map (fun d => d.parameters.length) = some 3 := ⟨by decide +kernel, by decide +kernel, by decide +kernel⟩
theorem xd_X8_run : yX8_run.cls ≠ "java/lang/invoke/MethodHandle" ∧ yX8_run.cls ≠ "java/lang/invoke/VarHandle" ∧ (parseMethodDescriptor yX8_run.desc).map (fun d => d.parameters.length) = some 0 := ⟨by decide +kernel, by decide +kernel, by decide +kernel⟩
theorem xd_L_law : yL_law.cls ≠ "java/lang/invoke/MethodHandle" ∧ yL_law.cls ≠ "java/lang/invoke/VarHandle" ∧ (parseMethodDescriptor yL_law.desc).map (fun d => d.parameters.length) = some 1 := ⟨by decide +kernel, by decide +kernel, by decide +kernel⟩
theorem xw_lay_X0 : ∀ w ∈ u_ws RX0 TX0 2, w ∈ xtbl := fun w h => by
  have hp : u_ws RX0 TX0 2 = ([126, 128] : List Nat).filterMap (fun i => lw_tbl[i]?) := by decide +kernel
  have hg : (u_ws RX0 TX0 2).all goodWord = true := by decide +kernel
  have h1 := List.all_eq_true.mp hg w h
  rw [hp] at h
  obtain ⟨i, -, hi⟩ := List.mem_filterMap.mp h
  exact xt_of i hi h1
theorem xw_lay_X1 : ∀ w ∈ u_ws RX1 TX1 2, w ∈ xtbl := fun w h => by
  have hp : u_ws RX1 TX1 2 = ([194, 196] : List Nat).filterMap (fun i => lw_tbl[i]?) := by decide +kernel
  have hg : (u_ws RX1 TX1 2).all goodWord = true := by decide +kernel
  have h1 := List.all_eq_true.mp hg w h
  rw [hp] at h
  obtain ⟨i, -, hi⟩ := List.mem_filterMap.mp h
  exact xt_of i hi h1
theorem xw_lay_X2 : ∀ w ∈ u_ws RX2 TX2 11, w ∈ xtbl := fun w h => by
  have hp : u_ws RX2 TX2 11 = ([153, 155, 157, 159, 161, 163, 165, 167, 169, 171, 173] : List Nat).filterMap (fun i => lw_tbl[i]?) := by decide +kernel
  have hg : (u_ws RX2 TX2 11).all goodWord = true := by decide +kernel
  have h1 := List.all_eq_true.mp hg w h
  rw [hp] at h
  obtain ⟨i, -, hi⟩ := List.mem_filterMap.mp h
  exact xt_of i hi h1
theorem xw_lay_X3 : ∀ w ∈ u_ws RX3 TX3 4, w ∈ xtbl := fun w h => by
  have hp : u_ws RX3 TX3 4 = ([103, 105, 107, 109] : List Nat).filterMap (fun i => lw_tbl[i]?) := by decide +kernel
  have hg : (u_ws RX3 TX3 4).all goodWord = true := by decide +kernel
  have h1 := List.all_eq_true.mp hg w h
  rw [hp] at h
  obtain ⟨i, -, hi⟩ := List.mem_filterMap.mp h
  exact xt_of i hi h1
theorem xw_lay_X4 : ∀ w ∈ u_ws RX4 TX4 2, w ∈ xtbl := fun w h => by
  have hp : u_ws RX4 TX4 2 = ([63, 65] : List Nat).filterMap (fun i => lw_tbl[i]?) := by decide +kernel
  have hg : (u_ws RX4 TX4 2).all goodWord = true := by decide +kernel
  have h1 := List.all_eq_true.mp hg w h
  rw [hp] at h
  obtain ⟨i, -, hi⟩ := List.mem_filterMap.mp h
  exact xt_of i hi h1
theorem xw_lay_X5 : ∀ w ∈ u_ws RX5 TX5 1, w ∈ xtbl := fun w h => by
  have hp : u_ws RX5 TX5 1 = ([84] : List Nat).filterMap (fun i => lw_tbl[i]?) := by decide +kernel
  have hg : (u_ws RX5 TX5 1).all goodWord = true := by decide +kernel
  have h1 := List.all_eq_true.mp hg w h
  rw [hp] at h
  obtain ⟨i, -, hi⟩ := List.mem_filterMap.mp h
  exact xt_of i hi h1
theorem xw_lay_X6 : ∀ w ∈ u_ws RX6 TX6 4, w ∈ xtbl := fun w h => by
  have hp : u_ws RX6 TX6 4 = ([206, 208, 210, 212] : List Nat).filterMap (fun i => lw_tbl[i]?) := by decide +kernel
  have hg : (u_ws RX6 TX6 4).all goodWord = true := by decide +kernel
  have h1 := List.all_eq_true.mp hg w h
  rw [hp] at h
  obtain ⟨i, -, hi⟩ := List.mem_filterMap.mp h
  exact xt_of i hi h1
theorem xw_lay_X7 : ∀ w ∈ u_ws RX7 TX7 5, w ∈ xtbl := fun w h => by
  have hp : u_ws RX7 TX7 5 = ([220, 222, 224, 226, 228] : List Nat).filterMap (fun i => lw_tbl[i]?) := by decide +kernel
  have hg : (u_ws RX7 TX7 5).all goodWord = true := by decide +kernel
  have h1 := List.all_eq_true.mp hg w h
  rw [hp] at h
  obtain ⟨i, -, hi⟩ := List.mem_filterMap.mp h
  exact xt_of i hi h1
theorem xw_lay_X8 : ∀ w ∈ u_ws RX8 TX8 25, w ∈ xtbl := fun w h => by
  have hp : u_ws RX8 TX8 25 = ([572, 574, 576, 578, 580, 582, 584, 586, 588, 590, 592, 594, 596, 598, 600, 602, 604, 606, 608, 610, 612, 614, 616, 618, 620] : List Nat).filterMap (fun i => lw_tbl[i]?) := by decide +kernel
  have hg : (u_ws RX8 TX8 25).all goodWord = true := by decide +kernel
  have h1 := List.all_eq_true.mp hg w h
  rw [hp] at h
  obtain ⟨i, -, hi⟩ := List.mem_filterMap.mp h
  exact xt_of i hi h1
/-- what a state says of the nest mates and of the arrays of references -/
def xNest (U : State) : Prop := va_Nw (.methodLinkNest RX7 23 yX4_init RX7) U ∧ va_Nw (.methodLinkNest RX7 35 yX2_init RX7) U ∧ va_Nw (.methodLinkNest RX2 11 yX5_init RX7) U ∧ va_Nw (.methodLinkNest RX2 23 yX3_init RX7) U ∧ va_Nw (.methodLinkNest RX3 9 yX5_init RX7) U ∧ va_Nw (.methodLinkNest RX0 17 yX5_init RX7) U ∧ va_Nw (.methodLinkNest RX1 21 yX5_init RX7) U ∧ va_AO RX2 U ∧ va_AO RX6 U ∧ va_AO RX5 U ∧ va_AO RX1 U
theorem xNest.warm {s U : State} (hW : s.WarmedH U.vm) (h : xNest s) : xNest U := by
  obtain ⟨h0, h1, h2, h3, h4, h5, h6, h7, h8, h9, h10⟩ := h
  exact ⟨va_Nw.warmM hW h0, va_Nw.warmM hW h1, va_Nw.warmM hW h2, va_Nw.warmM hW h3, va_Nw.warmM hW h4, va_Nw.warmM hW h5, va_Nw.warmM hW h6, h7.moved hW.alike, h8.moved hW.alike, h9.moved hW.alike, h10.moved hW.alike⟩
theorem xNest.same {s U : State} (hW : s.vm = U.vm) (h : xNest s) : xNest U := by
  have ha : s.vm.Alike U.vm := by rw [hW]; exact Vm.Alike.refl _
  obtain ⟨h0, h1, h2, h3, h4, h5, h6, h7, h8, h9, h10⟩ := h
  exact ⟨h0.same rfl hW, h1.same rfl hW, h2.same rfl hW, h3.same rfl hW, h4.same rfl hW, h5.same rfl hW, h6.same rfl hW, h7.moved ha, h8.moved ha, h9.moved ha, h10.moved ha⟩
theorem xNest.start {s : State} {A : Array Value} (h : ∀ w ∈ lw_tbl, w.before A s = true) : xNest s := ⟨.of rfl (h _ xn_X7_23), .of rfl (h _ xn_X7_35), .of rfl (h _ xn_X2_11), .of rfl (h _ xn_X2_23), .of rfl (h _ xn_X3_9), .of rfl (h _ xn_X0_17), .of rfl (h _ xn_X1_21), .of (h _ xw_ao_X2), .of (h _ xw_ao_X6), .of (h _ xw_ao_X5), .of (h _ xw_ao_X1)⟩
theorem xNest.X7_23 {s : State} (h : xNest s) : va_Nw (.methodLinkNest RX7 23 yX4_init RX7) s := h.1
theorem xNest.X7_35 {s : State} (h : xNest s) : va_Nw (.methodLinkNest RX7 35 yX2_init RX7) s := h.2.1
theorem xNest.X2_11 {s : State} (h : xNest s) : va_Nw (.methodLinkNest RX2 11 yX5_init RX7) s := h.2.2.1
theorem xNest.X2_23 {s : State} (h : xNest s) : va_Nw (.methodLinkNest RX2 23 yX3_init RX7) s := h.2.2.2.1
theorem xNest.X3_9 {s : State} (h : xNest s) : va_Nw (.methodLinkNest RX3 9 yX5_init RX7) s := h.2.2.2.2.1
theorem xNest.X0_17 {s : State} (h : xNest s) : va_Nw (.methodLinkNest RX0 17 yX5_init RX7) s := h.2.2.2.2.2.1
theorem xNest.X1_21 {s : State} (h : xNest s) : va_Nw (.methodLinkNest RX1 21 yX5_init RX7) s := h.2.2.2.2.2.2.1
theorem xNest.ao_X2 {s : State} (h : xNest s) : va_AO RX2 s := h.2.2.2.2.2.2.2.1
theorem xNest.ao_X6 {s : State} (h : xNest s) : va_AO RX6 s := h.2.2.2.2.2.2.2.2.1
theorem xNest.ao_X5 {s : State} (h : xNest s) : va_AO RX5 s := h.2.2.2.2.2.2.2.2.2.1
theorem xNest.ao_X1 {s : State} (h : xNest s) : va_AO RX1 s := h.2.2.2.2.2.2.2.2.2.2
end
section
/-! ===== the layer: a heap as a function of the address; one judgement over it, one row an instruction ===== -/
abbrev XD : Type := va_G × (Nat → ClassId)
abbrev XH : Type := Nat → Option va_E
def xtys (D : XD) : List (ClassId × FieldType) := [(D.2 0, .int), (D.2 1, .boolean), (D.2 2, .char), (D.2 3, .object RX2), (D.2 4, .object RX6), (D.2 5, .object RX1), (D.2 6, .object RX5)]
def xK (D : XD) (U : State) : Prop := va_K D.1 vwCl (xtys D) U ∧ xNest U
def xR (f lo mc ms : Nat) : Room := { frames := f, cells := mc, slots := ms, locals := lo }
/-- the heap H holds what h says, from b on; its size is n -/
def xP (D : XD) (b n : Nat) (h : XH) (H : Heap) : Prop := H.size = n ∧ b ≤ n ∧ ∀ (q : Nat) (e : va_E), h q = some e → b ≤ q ∧ va_at D.1 vwCl (q, e) H
def xup (h : XH) (a : Nat) (e : va_E) : XH := fun q => if q = a then some e else h q
theorem xup_s {h : XH} {a : Nat} {e : va_E} : xup h a e a = some e := if_pos rfl
theorem xup_n {h : XH} {a q : Nat} {e : va_E} (hq : q ≠ a) : xup h a e q = h q := if_neg hq
/-- the locals that are known, by their places -/
def xL (nL : Nat) (lv : List (Option Value)) (ls : Array Slot) : Prop := ls.size = nL ∧ lv_wf ls ∧ ∀ (i : Nat) (v : Value), lv[i]? = some (some v) → v.category = 1 ∧ ls[i]? = some (.val v)
def xC (p : Program) (s : State) (m : MethodId) (args : Array Value) (meth : Method) (c : Code) (D : XD) (cc : ByteArray) (nL : Nat) (own : String) : Prop := CallFix p m c cc nL s args xtbl own ∧ xK D s ∧ meth.locks = false
def xV (p : Program) (l : Launch) (e : Env) (R : Room) (s : State) (m : MethodId) (args : Array Value) (below : List Frame) (meth : Method) (c : Code) (D : XD) (b nL cells slots : Nat) (Q : State → Prop) (n : Nat) (h : XH) (pc : Nat) (lv : List (Option Value)) (st : List Value) : Prop :=
  ∀ (H : Heap) (locs : List Loc) (ls : Array Slot), xP D b n h H → va_S (fun q => b ≤ q) s.heap H locs → xL nL lv ls → W p l e R s m args below meth c H locs cells slots Q (F0 m pc ls st)
/-- a method's end: what it answers and the heap behind it; below b nothing has changed -/
def xQ (D : XD) (b n : Nat) (P : Option Value → XH → Prop) : Array Value → State → Outcome → State → Prop := fun _ st o t =>
  (∃ (v : Option Value) (h' : XH), o = .returned v ∧ P v h' ∧ xP D b n h' t.heap) ∧ va_F (fun q => b ≤ q) st t
def xPre (D : XD) (b n : Nat) (h : XH) : State → Prop := fun U => xP D b n h U.heap ∧ xK D U
/-- a method's contract -/
def xM (l : Launch) (y : MethodName) (cc : ByteArray) (maxL : Nat) (ret : Option FieldType) (f lo mc ms : Nat) (D : XD) (b n : Nat) (av : List Value) (h : XH) (n' : Nat) (P : Option Value → XH → Prop) : Prop :=
  Met l y (Cond.code y cc maxL ret :: xtbl) (xR f lo mc ms) (va_Pc av (xPre D b n h)) (xQ D b n' P) mc ms (fun q => b ≤ q)
theorem xK.warm {D : XD} {s U : State} (hW : s.WarmedH U.vm) (h : xK D s) : xK D U := ⟨h.1.moved hW.alike, h.2.warm hW⟩
theorem xPre.blind {D : XD} {b n : Nat} {h : XH} {av : List Value} : FrameBlind (va_Pc av (xPre D b n h)) := fun a U g mk q =>
  ⟨q.1, q.2.1, va_K.moved (u := U) (U := U.calling g mk a) (Vm.Alike.refl U.vm) q.2.2.1, xNest.same (s := U) (U := U.calling g mk a) rfl q.2.2.2⟩
theorem xP.one {D : XD} {b n : Nat} {h : XH} {H : Heap} {a : Nat} {e : va_E} (hP : xP D b n h H) (he : h a = some e) : va_P D.1 vwCl [(a, e)] H := by
  intro k q hk
  match k, hk with
  | 0, hk => cases hk; exact (hP.2.2 a e he).2
  | k + 1, hk => simp at hk
theorem xP.put {D : XD} {b n : Nat} {h : XH} {H H1 : Heap} {a : Nat} {e : va_E} (hP : xP D b n h H) (ha : b ≤ a) (he : va_at D.1 vwCl (a, e) H1) (z : H1.size = H.size) (oq : ∀ q : Nat, q ≠ a → H1[q]? = H[q]?) : xP D b n (xup h a e) H1 := by
  refine ⟨z.trans hP.1, hP.2.1, fun q e1 h1 => ?_⟩
  by_cases hq : q = a
  · subst hq
    rw [xup_s] at h1
    cases h1
    exact ⟨ha, he⟩
  · rw [xup_n hq] at h1
    exact ⟨(hP.2.2 q e1 h1).1, (hP.2.2 q e1 h1).2.kept (oq q hq)⟩
theorem xL.store {nL : Nat} {lv lv' : List (Option Value)} {ls : Array Slot} {i : Nat} {v : Value} (h : xL nL lv ls) (hi : i < nL) (hc : v.category = 1) (hl : lv.set i (some v) = lv') : ∃ ls', storeLocals ls i v = some ls' ∧ xL nL lv' ls' := by
  obtain ⟨hs, hw, ha⟩ := h
  obtain ⟨ls', e1, h1⟩ := lv_store1 (l := []) (v := v) ⟨hs, hw, fun q hq => by cases hq⟩ hi hc
  refine ⟨ls', e1, h1.1, h1.2.1, fun j w hj => ?_⟩
  subst hl
  by_cases hij : j = i
  · subst hij
    have hlt : j < lv.length := by
      have := (List.getElem?_eq_some_iff.mp hj).1
      rwa [List.length_set] at this
    rw [List.getElem?_set_self hlt] at hj
    cases hj
    exact ⟨hc, h1.2.2 (j, v) List.mem_cons_self⟩
  · rw [List.getElem?_set_ne (Ne.symm hij)] at hj
    obtain ⟨c1, g1⟩ := ha j w hj
    obtain ⟨ls2, e2, h2⟩ := lv_store1 (l := [(j, w)]) (v := v) ⟨hs, hw, fun q hq => by rw [List.mem_singleton.mp hq]; exact g1⟩ hi hc
    rw [e1] at e2
    cases e2
    refine ⟨c1, h2.2.2 (j, w) (List.mem_cons_of_mem _ (List.mem_filter.mpr ⟨List.mem_singleton.mpr rfl, ?_⟩))⟩
    simp [hij, c1]
theorem xL.entry {av : List Value} {nL : Nat} {lv : List (Option Value)} (hc : ∀ v ∈ av, v.category = 1) (hn : av.length ≤ nL) (hl : av.map some ++ List.replicate (nL - av.length) none = lv) : ∃ ls : Array Slot, (∀ m : MethodId, entryFrame m av.toArray nL = F0 m 0 ls []) ∧ xL nL lv ls := by
  have hsl : ∀ vs : List Value, (∀ v ∈ vs, v.category = 1) → lg_sl vs = vs.map Slot.val := by
    intro vs
    induction vs with
    | nil => intro _; rfl
    | cons v t ih =>
      intro hv
      have h1 := hv v List.mem_cons_self
      have h2 := ih (fun w hw => hv w (List.mem_cons_of_mem _ hw))
      show (if v.category = 2 then [Slot.val v, .second] else [Slot.val v]) ++ lg_sl t = _
      rw [if_neg (by omega), h2]
      rfl
  have hlen : (lg_sl av).length = av.length := by rw [hsl av hc, List.length_map]
  have h0 := lv_entry av (n := nL) (by rw [hlen]; exact hn)
  refine ⟨_, fun m => lg_entry_eq m av nL, h0.1, h0.2.1, fun i v hi => ?_⟩
  subst hl
  have hlt : i < av.length := by
    rcases Nat.lt_or_ge i av.length with q | q
    · exact q
    · rw [List.getElem?_append_right (by rw [List.length_map]; exact q), List.length_map, List.getElem?_replicate] at hi
      split at hi <;> cases hi
  rw [List.getElem?_append_left (by rw [List.length_map]; exact hlt), List.getElem?_map] at hi
  have hv : av[i]? = some v := by
    cases hq : av[i]? with
    | none => rw [hq] at hi; cases hi
    | some w => rw [hq] at hi; cases hi; rfl
  refine ⟨hc v (List.mem_of_getElem? hv), ?_⟩
  rw [List.getElem?_toArray, hsl av hc, List.getElem?_append_left (by rw [List.length_map]; exact hlt), List.getElem?_map, hv]
  rfl
/-- a contract out of the body's walk -/
theorem xM.of {l : Launch} {y : MethodName} {cc : ByteArray} {maxL : Nat} {ret : Option FieldType} {f lo mc ms : Nat} {D : XD} {b n : Nat} {av : List Value} {h : XH} {n' : Nat} {P : Option Value → XH → Prop} {own : String} {lv : List (Option Value)} (hy : plainName y.cls = true) (ho : y.cls = own) (hc : ∀ v ∈ av, v.category = 1) (hn : av.length ≤ maxL) (hl : av.map some ++ List.replicate (maxL - av.length) none = lv)
    (body : ∀ (p : Program) (e : Env) (s : State) (m : MethodId) (args : Array Value) (below : List Frame) (meth : Method) (c : Code), xC p s m args meth c D cc maxL own → meth.sig.returnType = ret → meth.name = y.name → xV p l e (xR f lo mc ms) s m args below meth c D b maxL 0 0 (MQ below (xQ D b n' P) args s mc ms (fun q => b ≤ q)) n h 0 lv []) :
    xM l y cc maxL ret f lo mc ms D b n av h n' P := by
  refine Met.ofW (cc := cc) (maxL := maxL) (ret := ret) hy rfl ?_
  intro p e s m args below meth c s₁ B hml hv
  obtain ⟨hav, hP, hK⟩ := hv
  have hts := atoms_spec (ws := Cond.code y cc maxL ret :: xtbl) B.pre
  have hown : s.vm.findClass own = some m.cls := by rw [← ho]; exact findClass_of_methodNamed B.named
  obtain ⟨ls, hE, hL⟩ := xL.entry hc hn hl
  rw [hav, hE m]
  rw [← hav]
  exact body p e s m args below meth c ⟨⟨B.exec, B.bytes, hml, hown, fun w hw => hts w (List.mem_cons_of_mem _ hw)⟩, hK, B.notSynchronized⟩ B.returns (name_of_methodNamed B.named B.method).1 s.heap [] ls hP va_S.rf hL
section XV
variable {p : Program} {l : Launch} {e : Env} {R : Room} {s : State} {m : MethodId} {args : Array Value} {below : List Frame} {meth : Method} {c : Code} {D : XD} {b nL cells slots : Nat} {Q : State → Prop} {n : Nat} {h : XH} {pc : Nat} {lv : List (Option Value)} {rest : List Value} {cc : ByteArray} {own : String}
theorem xi_iconst {i : Int} {v : Int32} (hC : xC p s m args meth c D cc nL own) (hdg : decode cc pc = .ok (.iconst i, 1)) {pc' : Nat} (hp : pc + 1 = pc') (hv : Int32.ofInt i = v)
    (k : xV p l e R s m args below meth c D b nL cells slots Q n h pc' lv (.int v :: rest)) : xV p l e R s m args below meth c D b nL cells slots Q n h pc lv rest := by
  subst hp
  exact fun H locs ls h1 h2 h3 => lv_iconst hC.1.1 hC.1.2.1 hdg hv (k H locs ls h1 h2 h3)
theorem xi_bipush {i : Int} {v : Int32} (hC : xC p s m args meth c D cc nL own) (hdg : decode cc pc = .ok (.bipush i, 2)) {pc' : Nat} (hp : pc + 2 = pc') (hv : (Int8.ofInt i).toInt32 = v)
    (k : xV p l e R s m args below meth c D b nL cells slots Q n h pc' lv (.int v :: rest)) : xV p l e R s m args below meth c D b nL cells slots Q n h pc lv rest := by
  subst hp
  exact fun H locs ls h1 h2 h3 => lv_bipush hC.1.1 hC.1.2.1 hdg hv (k H locs ls h1 h2 h3)
theorem xi_sipush {i : Int} {v : Int32} (hC : xC p s m args meth c D cc nL own) (hdg : decode cc pc = .ok (.sipush i, 3)) {pc' : Nat} (hp : pc + 3 = pc') (hv : (Int16.ofInt i).toInt32 = v)
    (k : xV p l e R s m args below meth c D b nL cells slots Q n h pc' lv (.int v :: rest)) : xV p l e R s m args below meth c D b nL cells slots Q n h pc lv rest := by
  subst hp
  exact fun H locs ls h1 h2 h3 => lv_sipush hC.1.1 hC.1.2.1 hdg hv (k H locs ls h1 h2 h3)
theorem xi_iload_n {j : Fin 4} {i : Nat} {x : Int32} (hC : xC p s m args meth c D cc nL own) (hdg : decode cc pc = .ok (.iload_n j, 1)) {pc' : Nat} (hp : pc + 1 = pc') (hi : (j : Nat) = i) (hx : lv[i]? = some (some (.int x)))
    (k : xV p l e R s m args below meth c D b nL cells slots Q n h pc' lv (.int x :: rest)) : xV p l e R s m args below meth c D b nL cells slots Q n h pc lv rest := by
  subst hp
  exact fun H locs ls h1 h2 h3 => lv_iload_n hC.1.1 hC.1.2.1 hdg hi (h3.2.2 _ _ hx).2 (k H locs ls h1 h2 h3)
theorem xi_iload {i : Nat} {x : Int32} (hC : xC p s m args meth c D cc nL own) (hdg : decode cc pc = .ok (.iload i, 2)) {pc' : Nat} (hp : pc + 2 = pc') (hx : lv[i]? = some (some (.int x)))
    (k : xV p l e R s m args below meth c D b nL cells slots Q n h pc' lv (.int x :: rest)) : xV p l e R s m args below meth c D b nL cells slots Q n h pc lv rest := by
  subst hp
  exact fun H locs ls h1 h2 h3 => lv_iload hC.1.1 hC.1.2.1 hdg (h3.2.2 _ _ hx).2 (k H locs ls h1 h2 h3)
theorem xi_aload_n {j : Fin 4} {i : Nat} {x : Nat} (hC : xC p s m args meth c D cc nL own) (hdg : decode cc pc = .ok (.aload_n j, 1)) {pc' : Nat} (hp : pc + 1 = pc') (hi : (j : Nat) = i) (hx : lv[i]? = some (some (.ref x)))
    (k : xV p l e R s m args below meth c D b nL cells slots Q n h pc' lv (.ref x :: rest)) : xV p l e R s m args below meth c D b nL cells slots Q n h pc lv rest := by
  subst hp
  exact fun H locs ls h1 h2 h3 => lv_aload_n hC.1.1 hC.1.2.1 hdg hi (h3.2.2 _ _ hx).2 (k H locs ls h1 h2 h3)
theorem xi_aload {i : Nat} {x : Nat} (hC : xC p s m args meth c D cc nL own) (hdg : decode cc pc = .ok (.aload i, 2)) {pc' : Nat} (hp : pc + 2 = pc') (hx : lv[i]? = some (some (.ref x)))
    (k : xV p l e R s m args below meth c D b nL cells slots Q n h pc' lv (.ref x :: rest)) : xV p l e R s m args below meth c D b nL cells slots Q n h pc lv rest := by
  subst hp
  exact fun H locs ls h1 h2 h3 => lv_aload hC.1.1 hC.1.2.1 hdg (h3.2.2 _ _ hx).2 (k H locs ls h1 h2 h3)
theorem xi_istore_n {j : Fin 4} {i : Nat} {x : Int32} {lv' : List (Option Value)} (hC : xC p s m args meth c D cc nL own) (hdg : decode cc pc = .ok (.istore_n j, 1)) {pc' : Nat} (hp : pc + 1 = pc') (hi : (j : Nat) = i) (hn : i < nL) (hl : lv.set i (some (.int x)) = lv')
    (k : xV p l e R s m args below meth c D b nL cells slots Q n h pc' lv' rest) : xV p l e R s m args below meth c D b nL cells slots Q n h pc lv (.int x :: rest) := by
  subst hp
  subst hi
  intro H locs ls h1 h2 h3 T hT X
  obtain ⟨ls', e', h'⟩ := h3.store (v := .int x) hn rfl hl
  obtain ⟨t, a, b⟩ := k H locs ls' h1 h2 h' T hT X
  refine ⟨t, ?_, b⟩
  have hexec := hC.1.1
  have hb := hC.1.2.1
  jvm_step X.here [X.here.top, ↓top_set X.here.top, hexec, hb, hdg, e']
  exact a
theorem xi_istore {i : Nat} {x : Int32} {lv' : List (Option Value)} (hC : xC p s m args meth c D cc nL own) (hdg : decode cc pc = .ok (.istore i, 2)) {pc' : Nat} (hp : pc + 2 = pc') (hn : i < nL) (hl : lv.set i (some (.int x)) = lv')
    (k : xV p l e R s m args below meth c D b nL cells slots Q n h pc' lv' rest) : xV p l e R s m args below meth c D b nL cells slots Q n h pc lv (.int x :: rest) := by
  subst hp
  intro H locs ls h1 h2 h3 T hT X
  obtain ⟨ls', e', h'⟩ := h3.store (v := .int x) hn rfl hl
  obtain ⟨t, a, b⟩ := k H locs ls' h1 h2 h' T hT X
  refine ⟨t, ?_, b⟩
  have hexec := hC.1.1
  have hb := hC.1.2.1
  jvm_step X.here [X.here.top, ↓top_set X.here.top, hexec, hb, hdg, e']
  exact a
theorem xi_astore_n {j : Fin 4} {i : Nat} {x : Nat} {lv' : List (Option Value)} (hC : xC p s m args meth c D cc nL own) (hdg : decode cc pc = .ok (.astore_n j, 1)) {pc' : Nat} (hp : pc + 1 = pc') (hi : (j : Nat) = i) (hn : i < nL) (hl : lv.set i (some (.ref x)) = lv')
    (k : xV p l e R s m args below meth c D b nL cells slots Q n h pc' lv' rest) : xV p l e R s m args below meth c D b nL cells slots Q n h pc lv (.ref x :: rest) := by
  subst hp
  subst hi
  intro H locs ls h1 h2 h3 T hT X
  obtain ⟨ls', e', h'⟩ := h3.store (v := .ref x) hn rfl hl
  obtain ⟨t, a, b⟩ := k H locs ls' h1 h2 h' T hT X
  refine ⟨t, ?_, b⟩
  have hexec := hC.1.1
  have hb := hC.1.2.1
  jvm_step X.here [X.here.top, ↓top_set X.here.top, hexec, hb, hdg, e', Value.isRef]
  exact a
theorem xi_astore {i : Nat} {x : Nat} {lv' : List (Option Value)} (hC : xC p s m args meth c D cc nL own) (hdg : decode cc pc = .ok (.astore i, 2)) {pc' : Nat} (hp : pc + 2 = pc') (hn : i < nL) (hl : lv.set i (some (.ref x)) = lv')
    (k : xV p l e R s m args below meth c D b nL cells slots Q n h pc' lv' rest) : xV p l e R s m args below meth c D b nL cells slots Q n h pc lv (.ref x :: rest) := by
  subst hp
  intro H locs ls h1 h2 h3 T hT X
  obtain ⟨ls', e', h'⟩ := h3.store (v := .ref x) hn rfl hl
  obtain ⟨t, a, b⟩ := k H locs ls' h1 h2 h' T hT X
  refine ⟨t, ?_, b⟩
  have hexec := hC.1.1
  have hb := hC.1.2.1
  jvm_step X.here [X.here.top, ↓top_set X.here.top, hexec, hb, hdg, e', Value.isRef]
  exact a
theorem xi_iinc {i : Nat} {z : Int} {x v : Int32} {lv' : List (Option Value)} (hC : xC p s m args meth c D cc nL own) (hdg : decode cc pc = .ok (.iinc i z, 3)) {pc' : Nat} (hp : pc + 3 = pc') (hx : lv[i]? = some (some (.int x))) (hv : x + Int32.ofInt z = v) (hn : i < nL) (hl : lv.set i (some (.int v)) = lv')
    (k : xV p l e R s m args below meth c D b nL cells slots Q n h pc' lv' rest) : xV p l e R s m args below meth c D b nL cells slots Q n h pc lv rest := by
  subst hp
  subst hv
  intro H locs ls h1 h2 h3 T hT X
  have hg := (h3.2.2 _ _ hx).2
  obtain ⟨ls', e', h'⟩ := h3.store (v := .int (x + Int32.ofInt z)) hn rfl hl
  obtain ⟨t, a, b⟩ := k H locs ls' h1 h2 h' T hT X
  refine ⟨t, ?_, b⟩
  have hexec := hC.1.1
  have hb := hC.1.2.1
  jvm_step X.here [X.here.top, ↓top_set X.here.top, hexec, hb, hdg, hg, e']
  exact a
theorem xi_iadd {x y : Int32} (hC : xC p s m args meth c D cc nL own) (hdg : decode cc pc = .ok (.iadd, 1)) {pc' : Nat} (hp : pc + 1 = pc')
    (k : xV p l e R s m args below meth c D b nL cells slots Q n h pc' lv (.int (x + y) :: rest)) : xV p l e R s m args below meth c D b nL cells slots Q n h pc lv (.int y :: .int x :: rest) := by
  subst hp
  exact fun H locs ls h1 h2 h3 => lv_iadd hC.1.1 hC.1.2.1 hdg (k H locs ls h1 h2 h3)
theorem xi_isub {x y : Int32} (hC : xC p s m args meth c D cc nL own) (hdg : decode cc pc = .ok (.isub, 1)) {pc' : Nat} (hp : pc + 1 = pc')
    (k : xV p l e R s m args below meth c D b nL cells slots Q n h pc' lv (.int (x - y) :: rest)) : xV p l e R s m args below meth c D b nL cells slots Q n h pc lv (.int y :: .int x :: rest) := by
  subst hp
  exact fun H locs ls h1 h2 h3 => lv_isub hC.1.1 hC.1.2.1 hdg (k H locs ls h1 h2 h3)
theorem xi_imul {x y : Int32} (hC : xC p s m args meth c D cc nL own) (hdg : decode cc pc = .ok (.imul, 1)) {pc' : Nat} (hp : pc + 1 = pc')
    (k : xV p l e R s m args below meth c D b nL cells slots Q n h pc' lv (.int (x * y) :: rest)) : xV p l e R s m args below meth c D b nL cells slots Q n h pc lv (.int y :: .int x :: rest) := by
  subst hp
  exact fun H locs ls h1 h2 h3 => lv_imul hC.1.1 hC.1.2.1 hdg (k H locs ls h1 h2 h3)
theorem xi_iand {x y : Int32} (hC : xC p s m args meth c D cc nL own) (hdg : decode cc pc = .ok (.iand, 1)) {pc' : Nat} (hp : pc + 1 = pc')
    (k : xV p l e R s m args below meth c D b nL cells slots Q n h pc' lv (.int (x &&& y) :: rest)) : xV p l e R s m args below meth c D b nL cells slots Q n h pc lv (.int y :: .int x :: rest) := by
  subst hp
  exact fun H locs ls h1 h2 h3 => lv_iand hC.1.1 hC.1.2.1 hdg (k H locs ls h1 h2 h3)
theorem xi_ior {x y : Int32} (hC : xC p s m args meth c D cc nL own) (hdg : decode cc pc = .ok (.ior, 1)) {pc' : Nat} (hp : pc + 1 = pc')
    (k : xV p l e R s m args below meth c D b nL cells slots Q n h pc' lv (.int (x ||| y) :: rest)) : xV p l e R s m args below meth c D b nL cells slots Q n h pc lv (.int y :: .int x :: rest) := by
  subst hp
  exact fun H locs ls h1 h2 h3 => lv_ior hC.1.1 hC.1.2.1 hdg (k H locs ls h1 h2 h3)
theorem xi_ixor {x y : Int32} (hC : xC p s m args meth c D cc nL own) (hdg : decode cc pc = .ok (.ixor, 1)) {pc' : Nat} (hp : pc + 1 = pc')
    (k : xV p l e R s m args below meth c D b nL cells slots Q n h pc' lv (.int (x ^^^ y) :: rest)) : xV p l e R s m args below meth c D b nL cells slots Q n h pc lv (.int y :: .int x :: rest) := by
  subst hp
  exact fun H locs ls h1 h2 h3 => lv_ixor hC.1.1 hC.1.2.1 hdg (k H locs ls h1 h2 h3)
theorem xi_ishl {x y : Int32} (hC : xC p s m args meth c D cc nL own) (hdg : decode cc pc = .ok (.ishl, 1)) {pc' : Nat} (hp : pc + 1 = pc')
    (k : xV p l e R s m args below meth c D b nL cells slots Q n h pc' lv (.int (x <<< (y &&& 31)) :: rest)) : xV p l e R s m args below meth c D b nL cells slots Q n h pc lv (.int y :: .int x :: rest) := by
  subst hp
  exact fun H locs ls h1 h2 h3 => lv_ishl hC.1.1 hC.1.2.1 hdg (k H locs ls h1 h2 h3)
theorem xi_ishr {x y : Int32} (hC : xC p s m args meth c D cc nL own) (hdg : decode cc pc = .ok (.ishr, 1)) {pc' : Nat} (hp : pc + 1 = pc')
    (k : xV p l e R s m args below meth c D b nL cells slots Q n h pc' lv (.int (x >>> (y &&& 31)) :: rest)) : xV p l e R s m args below meth c D b nL cells slots Q n h pc lv (.int y :: .int x :: rest) := by
  subst hp
  exact fun H locs ls h1 h2 h3 => lv_ishr hC.1.1 hC.1.2.1 hdg (k H locs ls h1 h2 h3)
theorem xi_irem {x y : Int32} (hC : xC p s m args meth c D cc nL own) (hdg : decode cc pc = .ok (.irem, 1)) {pc' : Nat} (hp : pc + 1 = pc') (hne : ¬ y = 0)
    (k : xV p l e R s m args below meth c D b nL cells slots Q n h pc' lv (.int (x - x / y * y) :: rest)) : xV p l e R s m args below meth c D b nL cells slots Q n h pc lv (.int y :: .int x :: rest) := by
  subst hp
  exact fun H locs ls h1 h2 h3 => lv_irem hC.1.1 hC.1.2.1 hdg hne (k H locs ls h1 h2 h3)
theorem xi_i2c {x v : Int32} (hC : xC p s m args meth c D cc nL own) (hdg : decode cc pc = .ok (.i2c, 1)) {pc' : Nat} (hp : pc + 1 = pc') (hv : (x.toUInt32 % 65536).toInt32 = v)
    (k : xV p l e R s m args below meth c D b nL cells slots Q n h pc' lv (.int v :: rest)) : xV p l e R s m args below meth c D b nL cells slots Q n h pc lv (.int x :: rest) := by
  subst hp
  exact fun H locs ls h1 h2 h3 => lv_i2c hC.1.1 hC.1.2.1 hdg hv (k H locs ls h1 h2 h3)
/-- another name for the number on top -/
theorem xtop {x y : Int32} (he : x = y) (k : xV p l e R s m args below meth c D b nL cells slots Q n h pc lv (.int y :: rest)) : xV p l e R s m args below meth c D b nL cells slots Q n h pc lv (.int x :: rest) := he ▸ k
theorem xheap {h' : XH} (he : h = h') (k : xV p l e R s m args below meth c D b nL cells slots Q n h' pc lv rest) : xV p l e R s m args below meth c D b nL cells slots Q n h pc lv rest := he ▸ k
theorem xi_dup {v : Value} (hC : xC p s m args meth c D cc nL own) (hdg : decode cc pc = .ok (.dup, 1)) {pc' : Nat} (hp : pc + 1 = pc') (hv : v.category = 1)
    (k : xV p l e R s m args below meth c D b nL cells slots Q n h pc' lv (v :: v :: rest)) : xV p l e R s m args below meth c D b nL cells slots Q n h pc lv (v :: rest) := by
  subst hp
  exact fun H locs ls h1 h2 h3 => lv_dup hC.1.1 hC.1.2.1 hdg hv (k H locs ls h1 h2 h3)
theorem xi_dup2 {v w : Value} (hC : xC p s m args meth c D cc nL own) (hdg : decode cc pc = .ok (.dup2, 1)) {pc' : Nat} (hp : pc + 1 = pc') (hv : v.category = 1) (hw : w.category = 1)
    (k : xV p l e R s m args below meth c D b nL cells slots Q n h pc' lv (v :: w :: v :: w :: rest)) : xV p l e R s m args below meth c D b nL cells slots Q n h pc lv (v :: w :: rest) := by
  subst hp
  exact fun H locs ls h1 h2 h3 => lv_dup2_11 hC.1.1 hC.1.2.1 hdg hv hw (k H locs ls h1 h2 h3)
theorem xi_goto {off : Int} {tgt : Nat} (hC : xC p s m args meth c D cc nL own) (hdg : decode cc pc = .ok (.goto off, 3)) (ht : (pc : Int) + off = (tgt : Int))
    (k : xV p l e R s m args below meth c D b nL cells slots Q n h tgt lv rest) : xV p l e R s m args below meth c D b nL cells slots Q n h pc lv rest := fun H locs ls h1 h2 h3 => lv_goto hC.1.1 hC.1.2.1 hdg ht (k H locs ls h1 h2 h3)
theorem xi_ifeq {x : Int32} {off : Int} {tgt : Nat} (hC : xC p s m args meth c D cc nL own) (hdg : decode cc pc = .ok (.ifCond .eq off, 3)) {pc' : Nat} (hp : pc + 3 = pc') (ht : (pc : Int) + off = (tgt : Int))
    (kt : x = 0 → xV p l e R s m args below meth c D b nL cells slots Q n h tgt lv rest) (kf : ¬ x = 0 → xV p l e R s m args below meth c D b nL cells slots Q n h pc' lv rest) : xV p l e R s m args below meth c D b nL cells slots Q n h pc lv (.int x :: rest) := by
  subst hp
  exact fun H locs ls h1 h2 h3 => lv_if_eq hC.1.1 hC.1.2.1 hdg ht (fun q => kt q H locs ls h1 h2 h3) (fun q => kf q H locs ls h1 h2 h3)
theorem xi_ifne {x : Int32} {off : Int} {tgt : Nat} (hC : xC p s m args meth c D cc nL own) (hdg : decode cc pc = .ok (.ifCond .ne off, 3)) {pc' : Nat} (hp : pc + 3 = pc') (ht : (pc : Int) + off = (tgt : Int))
    (kt : ¬ x = 0 → xV p l e R s m args below meth c D b nL cells slots Q n h tgt lv rest) (kf : x = 0 → xV p l e R s m args below meth c D b nL cells slots Q n h pc' lv rest) : xV p l e R s m args below meth c D b nL cells slots Q n h pc lv (.int x :: rest) := by
  subst hp
  exact fun H locs ls h1 h2 h3 => lv_if_ne hC.1.1 hC.1.2.1 hdg ht (fun q => kt q H locs ls h1 h2 h3) (fun q => kf q H locs ls h1 h2 h3)
theorem xi_iflt {x : Int32} {off : Int} {tgt : Nat} (hC : xC p s m args meth c D cc nL own) (hdg : decode cc pc = .ok (.ifCond .lt off, 3)) {pc' : Nat} (hp : pc + 3 = pc') (ht : (pc : Int) + off = (tgt : Int))
    (kt : x < 0 → xV p l e R s m args below meth c D b nL cells slots Q n h tgt lv rest) (kf : ¬ x < 0 → xV p l e R s m args below meth c D b nL cells slots Q n h pc' lv rest) : xV p l e R s m args below meth c D b nL cells slots Q n h pc lv (.int x :: rest) := by
  subst hp
  exact fun H locs ls h1 h2 h3 => lv_if_lt hC.1.1 hC.1.2.1 hdg ht (fun q => kt q H locs ls h1 h2 h3) (fun q => kf q H locs ls h1 h2 h3)
theorem xi_ifge {x : Int32} {off : Int} {tgt : Nat} (hC : xC p s m args meth c D cc nL own) (hdg : decode cc pc = .ok (.ifCond .ge off, 3)) {pc' : Nat} (hp : pc + 3 = pc') (ht : (pc : Int) + off = (tgt : Int))
    (kt : 0 ≤ x → xV p l e R s m args below meth c D b nL cells slots Q n h tgt lv rest) (kf : ¬ 0 ≤ x → xV p l e R s m args below meth c D b nL cells slots Q n h pc' lv rest) : xV p l e R s m args below meth c D b nL cells slots Q n h pc lv (.int x :: rest) := by
  subst hp
  exact fun H locs ls h1 h2 h3 => lv_if_ge hC.1.1 hC.1.2.1 hdg ht (fun q => kt q H locs ls h1 h2 h3) (fun q => kf q H locs ls h1 h2 h3)
theorem xi_ifgt {x : Int32} {off : Int} {tgt : Nat} (hC : xC p s m args meth c D cc nL own) (hdg : decode cc pc = .ok (.ifCond .gt off, 3)) {pc' : Nat} (hp : pc + 3 = pc') (ht : (pc : Int) + off = (tgt : Int))
    (kt : 0 < x → xV p l e R s m args below meth c D b nL cells slots Q n h tgt lv rest) (kf : ¬ 0 < x → xV p l e R s m args below meth c D b nL cells slots Q n h pc' lv rest) : xV p l e R s m args below meth c D b nL cells slots Q n h pc lv (.int x :: rest) := by
  subst hp
  exact fun H locs ls h1 h2 h3 => lv_if_gt hC.1.1 hC.1.2.1 hdg ht (fun q => kt q H locs ls h1 h2 h3) (fun q => kf q H locs ls h1 h2 h3)
theorem xi_ifle {x : Int32} {off : Int} {tgt : Nat} (hC : xC p s m args meth c D cc nL own) (hdg : decode cc pc = .ok (.ifCond .le off, 3)) {pc' : Nat} (hp : pc + 3 = pc') (ht : (pc : Int) + off = (tgt : Int))
    (kt : x ≤ 0 → xV p l e R s m args below meth c D b nL cells slots Q n h tgt lv rest) (kf : ¬ x ≤ 0 → xV p l e R s m args below meth c D b nL cells slots Q n h pc' lv rest) : xV p l e R s m args below meth c D b nL cells slots Q n h pc lv (.int x :: rest) := by
  subst hp
  exact fun H locs ls h1 h2 h3 => lv_if_le hC.1.1 hC.1.2.1 hdg ht (fun q => kt q H locs ls h1 h2 h3) (fun q => kf q H locs ls h1 h2 h3)
theorem xi_icmpeq {x y : Int32} {off : Int} {tgt : Nat} (hC : xC p s m args meth c D cc nL own) (hdg : decode cc pc = .ok (.if_icmp .eq off, 3)) {pc' : Nat} (hp : pc + 3 = pc') (ht : (pc : Int) + off = (tgt : Int))
    (kt : x = y → xV p l e R s m args below meth c D b nL cells slots Q n h tgt lv rest) (kf : ¬ x = y → xV p l e R s m args below meth c D b nL cells slots Q n h pc' lv rest) : xV p l e R s m args below meth c D b nL cells slots Q n h pc lv (.int y :: .int x :: rest) := by
  subst hp
  exact fun H locs ls h1 h2 h3 => lv_icmp_eq hC.1.1 hC.1.2.1 hdg ht (fun q => kt q H locs ls h1 h2 h3) (fun q => kf q H locs ls h1 h2 h3)
theorem xi_icmpne {x y : Int32} {off : Int} {tgt : Nat} (hC : xC p s m args meth c D cc nL own) (hdg : decode cc pc = .ok (.if_icmp .ne off, 3)) {pc' : Nat} (hp : pc + 3 = pc') (ht : (pc : Int) + off = (tgt : Int))
    (kt : ¬ x = y → xV p l e R s m args below meth c D b nL cells slots Q n h tgt lv rest) (kf : x = y → xV p l e R s m args below meth c D b nL cells slots Q n h pc' lv rest) : xV p l e R s m args below meth c D b nL cells slots Q n h pc lv (.int y :: .int x :: rest) := by
  subst hp
  exact fun H locs ls h1 h2 h3 => lv_icmp_ne hC.1.1 hC.1.2.1 hdg ht (fun q => kt q H locs ls h1 h2 h3) (fun q => kf q H locs ls h1 h2 h3)
theorem xi_icmplt {x y : Int32} {off : Int} {tgt : Nat} (hC : xC p s m args meth c D cc nL own) (hdg : decode cc pc = .ok (.if_icmp .lt off, 3)) {pc' : Nat} (hp : pc + 3 = pc') (ht : (pc : Int) + off = (tgt : Int))
    (kt : x < y → xV p l e R s m args below meth c D b nL cells slots Q n h tgt lv rest) (kf : ¬ x < y → xV p l e R s m args below meth c D b nL cells slots Q n h pc' lv rest) : xV p l e R s m args below meth c D b nL cells slots Q n h pc lv (.int y :: .int x :: rest) := by
  subst hp
  exact fun H locs ls h1 h2 h3 => lv_icmp_lt hC.1.1 hC.1.2.1 hdg ht (fun q => kt q H locs ls h1 h2 h3) (fun q => kf q H locs ls h1 h2 h3)
theorem xi_icmpge {x y : Int32} {off : Int} {tgt : Nat} (hC : xC p s m args meth c D cc nL own) (hdg : decode cc pc = .ok (.if_icmp .ge off, 3)) {pc' : Nat} (hp : pc + 3 = pc') (ht : (pc : Int) + off = (tgt : Int))
    (kt : y ≤ x → xV p l e R s m args below meth c D b nL cells slots Q n h tgt lv rest) (kf : ¬ y ≤ x → xV p l e R s m args below meth c D b nL cells slots Q n h pc' lv rest) : xV p l e R s m args below meth c D b nL cells slots Q n h pc lv (.int y :: .int x :: rest) := by
  subst hp
  exact fun H locs ls h1 h2 h3 => lv_icmp_ge hC.1.1 hC.1.2.1 hdg ht (fun q => kt q H locs ls h1 h2 h3) (fun q => kf q H locs ls h1 h2 h3)
theorem xi_icmpgt {x y : Int32} {off : Int} {tgt : Nat} (hC : xC p s m args meth c D cc nL own) (hdg : decode cc pc = .ok (.if_icmp .gt off, 3)) {pc' : Nat} (hp : pc + 3 = pc') (ht : (pc : Int) + off = (tgt : Int))
    (kt : y < x → xV p l e R s m args below meth c D b nL cells slots Q n h tgt lv rest) (kf : ¬ y < x → xV p l e R s m args below meth c D b nL cells slots Q n h pc' lv rest) : xV p l e R s m args below meth c D b nL cells slots Q n h pc lv (.int y :: .int x :: rest) := by
  subst hp
  exact fun H locs ls h1 h2 h3 => lv_icmp_gt hC.1.1 hC.1.2.1 hdg ht (fun q => kt q H locs ls h1 h2 h3) (fun q => kf q H locs ls h1 h2 h3)
theorem xi_icmple {x y : Int32} {off : Int} {tgt : Nat} (hC : xC p s m args meth c D cc nL own) (hdg : decode cc pc = .ok (.if_icmp .le off, 3)) {pc' : Nat} (hp : pc + 3 = pc') (ht : (pc : Int) + off = (tgt : Int))
    (kt : x ≤ y → xV p l e R s m args below meth c D b nL cells slots Q n h tgt lv rest) (kf : ¬ x ≤ y → xV p l e R s m args below meth c D b nL cells slots Q n h pc' lv rest) : xV p l e R s m args below meth c D b nL cells slots Q n h pc lv (.int y :: .int x :: rest) := by
  subst hp
  exact fun H locs ls h1 h2 h3 => lv_icmp_le hC.1.1 hC.1.2.1 hdg ht (fun q => kt q H locs ls h1 h2 h3) (fun q => kf q H locs ls h1 h2 h3)
theorem xi_lookup {dflt : Int} {ps : Array (Int × Int)} {len : Nat} {x : Int32} {off : Int} {tgt : Nat} (hC : xC p s m args meth c D cc nL own) (hdg : decode cc pc = .ok (.lookupswitch dflt ps, len)) (hp : (ps.toList.zip (ps.toList.drop 1)).all (fun (a, next) => a.1 < next.1) = true) (ho : Op.lookupswitch.offset ps.toList dflt x.toInt = off) (ht : (pc : Int) + off = (tgt : Int))
    (k : xV p l e R s m args below meth c D b nL cells slots Q n h tgt lv rest) : xV p l e R s m args below meth c D b nL cells slots Q n h pc lv (.int x :: rest) := fun H locs ls h1 h2 h3 => lv_lookup hC.1.1 hC.1.2.1 hdg hp ho ht (k H locs ls h1 h2 h3)
theorem xi_tableOut {dflt lo hi : Int} {offs : Array Int} {len : Nat} {x : Int32} {tgt : Nat} (hC : xC p s m args meth c D cc nL own) (hdg : decode cc pc = .ok (.tableswitch dflt lo hi offs, len)) (hx : x.toInt < lo ∨ hi < x.toInt) (ht : (pc : Int) + dflt = (tgt : Int))
    (k : xV p l e R s m args below meth c D b nL cells slots Q n h tgt lv rest) : xV p l e R s m args below meth c D b nL cells slots Q n h pc lv (.int x :: rest) := fun H locs ls h1 h2 h3 => lv_tableOut hC.1.1 hC.1.2.1 hdg hx ht (k H locs ls h1 h2 h3)
theorem xi_tableIn {dflt lo hi : Int} {offs : Array Int} {len : Nat} {x : Int32} {off : Int} {tgt : Nat} (hC : xC p s m args meth c D cc nL own) (hdg : decode cc pc = .ok (.tableswitch dflt lo hi offs, len)) (q1 : ¬ x.toInt < lo) (q2 : ¬ hi < x.toInt) (ho : offs[(x.toInt - lo).toNat]? = some off) (ht : (pc : Int) + off = (tgt : Int))
    (k : xV p l e R s m args below meth c D b nL cells slots Q n h tgt lv rest) : xV p l e R s m args below meth c D b nL cells slots Q n h pc lv (.int x :: rest) := fun H locs ls h1 h2 h3 => lv_tableIn hC.1.1 hC.1.2.1 hdg q1 q2 ho ht (k H locs ls h1 h2 h3)
theorem xi_getfield {C : String} {T : u_T} {a ci i N index : Nat} {fs : List Value} {v : Value} (hC : xC p s m args meth c D cc nL own) (hdg : decode cc pc = .ok (.getfield index, 3)) {pc' : Nat} (hp : pc + 3 = pc') (hlink : Cond.fieldLink own index (T i).1 (T i).2.1 (T i).2.2.1 ∈ xtbl) (hin : ∀ w ∈ u_ws C T N, w ∈ xtbl) (hc : vwCl[ci]? = some (C, T, N)) (hk : i < N) (he : h a = some (.inr (ci, fs))) (hv : fs[i]? = some v)
    (k : xV p l e R s m args below meth c D b nL cells slots Q n h pc' lv (v :: rest)) : xV p l e R s m args below meth c D b nL cells slots Q n h pc lv (.ref a :: rest) := by
  subst hp
  exact fun H locs ls h1 h2 h3 => va_get hC.1.1 hC.1.2.1 hC.1.2.2.2.2 hin hC.1.2.2.2.1 hC.2.1.1 (h1.one he) 0 rfl hc i hk (hC.1.2.2.2.2 _ hlink) (fun _ q => q) hv hdg (k H locs ls h1 h2 h3)
theorem xi_putfield {C : String} {T : u_T} {a ci i N index : Nat} {fs : List Value} {v : Value} {ty : FieldType} (ty0 : Nat → FieldType) (hC : xC p s m args meth c D cc nL own) (hdg : decode cc pc = .ok (.putfield index, 3)) {pc' : Nat} (hp : pc + 3 = pc') (hlink : Cond.fieldLink own index (T i).1 (T i).2.1 (T i).2.2.1 ∈ xtbl) (hin : ∀ w ∈ u_ws C T N, w ∈ xtbl) (hty : ∀ k, k < N → parseFieldDescriptor (T k).2.2.1 = some (ty0 k)) (hnm : ∀ a, a < N → ∀ b, b < N → a ≠ b → (T a).2.1 ≠ (T b).2.1) (hc : vwCl[ci]? = some (C, T, N)) (hk : i < N) (he : h a = some (.inr (ci, fs))) (hfin : (T i).2.2.2 = false) (hd : parseFieldDescriptor (T i).2.2.1 = some ty) (hn : narrow ty v = v) (hfit : fits ty v = true) (hl : i < fs.length)
    (k : xV p l e R s m args below meth c D b nL cells slots Q n (xup h a (.inr (ci, fs.set i v))) pc' lv rest) : xV p l e R s m args below meth c D b nL cells slots Q n h pc lv (v :: .ref a :: rest) := by
  subst hp
  intro H locs ls h1 h2 h3
  have hts := hC.1.2.2.2.2
  have hap := va_apart (own := own) hts hin ty0 hty hnm hC.2.1.1 hc
  obtain ⟨hba, r, g1, cell, q1, q2, q3, q4⟩ := h1.2.2 a _ he
  have hr : r = (C, T, N) := Option.some.inj (g1.symm.trans hc)
  subst hr
  obtain ⟨hS, hfc, kC, hkC, hkind⟩ := hC.2.1.1.1 ci _ hc
  obtain ⟨cf, kf, fi, fd, hi, hsl⟩ := hS i hk
  have hlay := hts _ (hin _ (u_in_lay hk))
  unfold u_lay at hlay
  rw [if_neg (by rw [hfin]; decide)] at hlay
  have hst := (u_facts hfc hkC (u_lays hts hin hk) hi).1
  have h6 := u_store hfc hkC hkind hlay hi hd hn hfit
  refine W.putK hC.1.1 hC.1.2.1 (f := fd) ⟨hC.1.2.2.2.1, hts _ hlink, ⟨_, _, _, hi⟩, hst⟩ (by rw [q2]; exact h6) q1 q3 (by rw [hsl]; exact k2_hasslot (q4 i hk)) rfl rfl hdg fun H' e1 e2 e3 => ?_
  rw [hsl] at e1 ⊢
  exact k H' _ ls (h1.put hba ⟨_, hc, t_OB.to (V := updV (vp_V fs) i v) ⟨_, e1, q2, q3, t_set q4 hap hk v⟩ (fun j _ => vp_updV_set hl v j)⟩ e2 e3) (h2.put e2 e3 hba) h3
theorem xi_putfinal {C : String} {T : u_T} {a ci i N index : Nat} {fs : List Value} {v : Value} {ty : FieldType} (ty0 : Nat → FieldType) (hC : xC p s m args meth c D cc nL own) (hdg : decode cc pc = .ok (.putfield index, 3)) {pc' : Nat} (hp : pc + 3 = pc') (hlink : Cond.fieldLink own index (T i).1 (T i).2.1 (T i).2.2.1 ∈ xtbl) (hin : ∀ w ∈ u_ws C T N, w ∈ xtbl) (hty : ∀ k, k < N → parseFieldDescriptor (T k).2.2.1 = some (ty0 k)) (hnm : ∀ a, a < N → ∀ b, b < N → a ≠ b → (T a).2.1 ≠ (T b).2.1) (hc : vwCl[ci]? = some (C, T, N)) (hk : i < N) (he : h a = some (.inr (ci, fs))) (hfin : (T i).2.2.2 = true) (hin2 : meth.name = "<init>") (hdecl : (T i).1 = own) (hd : parseFieldDescriptor (T i).2.2.1 = some ty) (hn : narrow ty v = v) (hfit : fits ty v = true) (hl : i < fs.length)
    (k : xV p l e R s m args below meth c D b nL cells slots Q n (xup h a (.inr (ci, fs.set i v))) pc' lv rest) : xV p l e R s m args below meth c D b nL cells slots Q n h pc lv (v :: .ref a :: rest) := by
  subst hp
  intro H locs ls h1 h2 h3
  have hts := hC.1.2.2.2.2
  have hown := hC.1.2.2.2.1
  have hap := va_apart (own := own) hts hin ty0 hty hnm hC.2.1.1 hc
  obtain ⟨hba, r, g1, cell, q1, q2, q3, q4⟩ := h1.2.2 a _ he
  have hr : r = (C, T, N) := Option.some.inj (g1.symm.trans hc)
  subst hr
  obtain ⟨hS, hfc, kC, hkC, hkind⟩ := hC.2.1.1.1 ci _ hc
  obtain ⟨cf, kf, fi, fd, hi, hsl⟩ := hS i hk
  have hlay := hts _ (hin _ (u_in_lay hk))
  unfold u_lay at hlay
  rw [if_pos hfin] at hlay
  have hst := (u_facts hfc hkC (u_lays hts hin hk) hi).1
  have hcf : m.cls = cf := by
    obtain ⟨_, _, c', _, _, _, -, -, hf', -, -, -, hown2, -⟩ := Cond.laysFinal_spec hlay
    have e1 : c' = cf := by have := hi.symm.trans hf'; simp at this; exact this.1.symm
    rw [hdecl] at hown2
    rw [← e1]; exact Option.some.inj (hown.symm.trans hown2)
  have h6 := u_fits hfc hkC hkind (Or.inr hlay) hi hd hn hfit
  refine W.putFinK hC.1.1 hC.1.2.1 hown (hts _ hlink) hi hst hcf hin2 (by rw [q2]; exact h6) q1 q3 (by rw [hsl]; exact k2_hasslot (q4 i hk)) rfl rfl hdg fun H' e1 e2 e3 => ?_
  rw [hsl] at e1 ⊢
  exact k H' _ ls (h1.put hba ⟨_, hc, t_OB.to (V := updV (vp_V fs) i v) ⟨_, e1, q2, q3, t_set q4 hap hk v⟩ (fun j _ => vp_updV_set hl v j)⟩ e2 e3) (h2.put e2 e3 hba) h3
theorem xi_iaload {a N j : Nat} {i : Int32} {f : Nat → Int32} (hC : xC p s m args meth c D cc nL own) (hdg : decode cc pc = .ok (.iaload, 1)) {pc' : Nat} (hp : pc + 1 = pc') (he : h a = some (.inl (D.2 0, N, .inl f))) (hi : i = nI j) (hj : j < N) (hN : N < 2 ^ 31)
    (k : xV p l e R s m args below meth c D b nL cells slots Q n h pc' lv (.int (f j) :: rest)) : xV p l e R s m args below meth c D b nL cells slots Q n h pc lv (.int i :: .ref a :: rest) := by
  subst hp
  subst hi
  intro H locs ls h1 h2 h3
  refine va_iald hC.1.1 hC.1.2.1 hC.2.1.1 (h1.one he) 0 0 rfl rfl (vp_in_nI hj hN) hdg ?_
  rw [nI_clamp (Nat.lt_trans hj hN)]
  exact k H locs ls h1 h2 h3
theorem xi_baload {a N j : Nat} {i : Int32} {f : Nat → Int32} (hC : xC p s m args meth c D cc nL own) (hdg : decode cc pc = .ok (.baload, 1)) {pc' : Nat} (hp : pc + 1 = pc') (he : h a = some (.inl (D.2 1, N, .inl f))) (hi : i = nI j) (hj : j < N) (hN : N < 2 ^ 31)
    (k : xV p l e R s m args below meth c D b nL cells slots Q n h pc' lv (.int (f j) :: rest)) : xV p l e R s m args below meth c D b nL cells slots Q n h pc lv (.int i :: .ref a :: rest) := by
  subst hp
  subst hi
  intro H locs ls h1 h2 h3
  refine va_zald hC.1.1 hC.1.2.1 hC.2.1.1 (h1.one he) 0 1 rfl rfl (vp_in_nI hj hN) hdg ?_
  rw [nI_clamp (Nat.lt_trans hj hN)]
  exact k H locs ls h1 h2 h3
theorem xi_caload {a N j : Nat} {i : Int32} {f : Nat → Int32} (hC : xC p s m args meth c D cc nL own) (hdg : decode cc pc = .ok (.caload, 1)) {pc' : Nat} (hp : pc + 1 = pc') (he : h a = some (.inl (D.2 2, N, .inl f))) (hi : i = nI j) (hj : j < N) (hN : N < 2 ^ 31)
    (k : xV p l e R s m args below meth c D b nL cells slots Q n h pc' lv (.int (f j) :: rest)) : xV p l e R s m args below meth c D b nL cells slots Q n h pc lv (.int i :: .ref a :: rest) := by
  subst hp
  subst hi
  intro H locs ls h1 h2 h3
  refine va_cald hC.1.1 hC.1.2.1 hC.2.1.1 (h1.one he) 0 2 rfl rfl (vp_in_nI hj hN) hdg ?_
  rw [nI_clamp (Nat.lt_trans hj hN)]
  exact k H locs ls h1 h2 h3
theorem xi_aaload {a N j t0 v : Nat} {C : String} {cA : ClassId} {i : Int32} {f : Nat → Option Nat} (hC : xC p s m args meth c D cc nL own) (hdg : decode cc pc = .ok (.aaload, 1)) {pc' : Nat} (hp : pc + 1 = pc') (he : h a = some (.inl (cA, N, .inr (.inr (.inr (.inr f)))))) (ht : (xtys D)[t0]? = some (cA, .object C)) (hi : i = nI j) (hj : j < N) (hN : N < 2 ^ 31) (hv : f j = some v)
    (k : xV p l e R s m args below meth c D b nL cells slots Q n h pc' lv (.ref v :: rest)) : xV p l e R s m args below meth c D b nL cells slots Q n h pc lv (.int i :: .ref a :: rest) := by
  subst hp
  subst hi
  intro H locs ls h1 h2 h3
  refine va_aldq hC.1.1 hC.1.2.1 hC.2.1.1 (h1.one he) 0 t0 rfl ht (vp_in_nI hj hN) hdg ?_
  rw [nI_clamp (Nat.lt_trans hj hN), hv]
  exact k H locs ls h1 h2 h3
theorem xi_iastore {a N j : Nat} {i x : Int32} {f : Nat → Int32} (hC : xC p s m args meth c D cc nL own) (hdg : decode cc pc = .ok (.iastore, 1)) {pc' : Nat} (hp : pc + 1 = pc') (he : h a = some (.inl (D.2 0, N, .inl f))) (hi : i = nI j) (hj : j < N) (hN : N < 2 ^ 31)
    (k : xV p l e R s m args below meth c D b nL cells slots Q n (xup h a (.inl (D.2 0, N, .inl (upd f j x)))) pc' lv rest) : xV p l e R s m args below meth c D b nL cells slots Q n h pc lv (.int x :: .int i :: .ref a :: rest) := by
  subst hp
  subst hi
  intro H locs ls h1 h2 h3
  obtain ⟨hba, hat⟩ := h1.2.2 a _ he
  refine W.iast hC.1.1 hC.1.2.1 hat ((hC.2.1.1.2 0 _ rfl).1 N (fun j => .int (f j))) (fun q => by cases q) (by show ¬ (nI j < 0 ∨ (arrV _ _ _).slots.size ≤ _); rw [arrV_size]; exact vp_in_nI hj hN) rfl rfl hdg fun H1 g z oq => ?_
  refine k H1 _ ls (h1.put hba ?_ z oq) (h2.put z oq hba) h3
  show H1[a]? = some (vp_cell _ _)
  rw [g, nI_clamp (Nat.lt_trans hj hN)]
  rw [vp_cell_i, vp_cell_i, arrV_store]
  congr 2
  funext q
  by_cases hq : q = j
  · subst hq
    simp [updV, upd]
  · simp [updV, upd, hq]
theorem xi_bastore {a N j : Nat} {i x : Int32} {f : Nat → Int32} (hC : xC p s m args meth c D cc nL own) (hdg : decode cc pc = .ok (.bastore, 1)) {pc' : Nat} (hp : pc + 1 = pc') (he : h a = some (.inl (D.2 1, N, .inl f))) (hi : i = nI j) (hj : j < N) (hN : N < 2 ^ 31) (hx : vp_nar .boolean x = x)
    (k : xV p l e R s m args below meth c D b nL cells slots Q n (xup h a (.inl (D.2 1, N, .inl (upd f j x)))) pc' lv rest) : xV p l e R s m args below meth c D b nL cells slots Q n h pc lv (.int x :: .int i :: .ref a :: rest) := by
  subst hp
  subst hi
  intro H locs ls h1 h2 h3
  obtain ⟨hba, hat⟩ := h1.2.2 a _ he
  refine W.zast hC.1.1 hC.1.2.1 hat ((hC.2.1.1.2 1 _ rfl).1 N (fun j => .int (f j))) (fun q => by cases q) (by show ¬ (nI j < 0 ∨ (arrV _ _ _).slots.size ≤ _); rw [arrV_size]; exact vp_in_nI hj hN) rfl rfl hdg fun H1 g z oq => ?_
  refine k H1 _ ls (h1.put hba ?_ z oq) (h2.put z oq hba) h3
  have hn : narrow .boolean (.int x) = .int x := by
    simp [vp_nar, narrow] at hx ⊢
    exact hx
  show H1[a]? = some (vp_cell _ _)
  rw [g, nI_clamp (Nat.lt_trans hj hN)]
  rw [vp_cell_i, vp_cell_i, arrV_store, hn]
  congr 2
  funext q
  by_cases hq : q = j
  · subst hq
    simp [updV, upd]
  · simp [updV, upd, hq]
theorem xi_castore {a N j : Nat} {i x : Int32} {f : Nat → Int32} (hC : xC p s m args meth c D cc nL own) (hdg : decode cc pc = .ok (.castore, 1)) {pc' : Nat} (hp : pc + 1 = pc') (he : h a = some (.inl (D.2 2, N, .inl f))) (hi : i = nI j) (hj : j < N) (hN : N < 2 ^ 31) (hx : vp_nar .char x = x)
    (k : xV p l e R s m args below meth c D b nL cells slots Q n (xup h a (.inl (D.2 2, N, .inl (upd f j x)))) pc' lv rest) : xV p l e R s m args below meth c D b nL cells slots Q n h pc lv (.int x :: .int i :: .ref a :: rest) := by
  subst hp
  subst hi
  intro H locs ls h1 h2 h3
  obtain ⟨hba, hat⟩ := h1.2.2 a _ he
  refine W.cast hC.1.1 hC.1.2.1 hat ((hC.2.1.1.2 2 _ rfl).1 N (fun j => .int (f j))) (fun q => by cases q) (by show ¬ (nI j < 0 ∨ (arrV _ _ _).slots.size ≤ _); rw [arrV_size]; exact vp_in_nI hj hN) rfl rfl hdg fun H1 g z oq => ?_
  refine k H1 _ ls (h1.put hba ?_ z oq) (h2.put z oq hba) h3
  have hn : narrow .char (.int x) = .int x := by
    simp [vp_nar, narrow] at hx ⊢
    exact hx
  show H1[a]? = some (vp_cell _ _)
  rw [g, nI_clamp (Nat.lt_trans hj hN)]
  rw [vp_cell_i, vp_cell_i, arrV_store, hn]
  congr 2
  funext q
  by_cases hq : q = j
  · subst hq
    simp [updV, upd]
  · simp [updV, upd, hq]
theorem xi_ireturn {n' : Nat} {P : Option Value → XH → Prop} {x : Int32} (hC : xC p s m args meth c D cc nL own) (hdg : decode cc pc = .ok (.ireturn, 1)) (hr : meth.sig.returnType = some .int) (hn : n = n') (hP : P (some (.int x)) h) : xV p l e R s m args below meth c D b nL cells slots (MQ below (xQ D b n' P) args s cells slots (fun q => b ≤ q)) n h pc lv [.int x] := by
  subst hn
  intro H locs ls h1 h2 h3
  have hlocks := hC.2.2
  exact W.iret hC.1.1 hC.1.2.1 hr (fun t ht hW => ⟨⟨_, h, rfl, hP, by rw [ht]; exact h1⟩, h2.F ht⟩) h2.2.2 hdg hlocks
theorem xi_zreturn {n' : Nat} {P : Option Value → XH → Prop} {x : Int32} {ty : FieldType} (hC : xC p s m args meth c D cc nL own) (hdg : decode cc pc = .ok (.ireturn, 1)) (hr : meth.sig.returnType = some ty) (hx : narrow ty (.int x) = .int x) (hn : n = n') (hP : P (some (.int x)) h) : xV p l e R s m args below meth c D b nL cells slots (MQ below (xQ D b n' P) args s cells slots (fun q => b ≤ q)) n h pc lv [.int x] := by
  subst hn
  intro H locs ls h1 h2 h3
  have hlocks := hC.2.2
  exact W.zret hC.1.1 hC.1.2.1 hr hx (fun t ht hW => ⟨⟨_, h, rfl, hP, by rw [ht]; exact h1⟩, h2.F ht⟩) h2.2.2 hdg hlocks
theorem xi_return {n' : Nat} {P : Option Value → XH → Prop} (hC : xC p s m args meth c D cc nL own) (hdg : decode cc pc = .ok (.return_, 1)) (hr : meth.sig.returnType = none) (hn : n = n') (hP : P none h) : xV p l e R s m args below meth c D b nL cells slots (MQ below (xQ D b n' P) args s cells slots (fun q => b ≤ q)) n h pc lv [] := by
  subst hn
  intro H locs ls h1 h2 h3
  have hlocks := hC.2.2
  exact W.vret hC.1.1 hC.1.2.1 hr (fun t ht hW => ⟨⟨_, h, rfl, hP, by rw [ht]; exact h1⟩, h2.F ht⟩) h2.2.2 hdg hlocks
theorem xi_areturn {n' : Nat} {P : Option Value → XH → Prop} {x : Nat} {C : String} (hC : xC p s m args meth c D cc nL own) (hdg : decode cc pc = .ok (.areturn, 1)) (hr : meth.sig.returnType = some (.object C)) (hn : n = n') (hP : P (some (.ref x)) h) : xV p l e R s m args below meth c D b nL cells slots (MQ below (xQ D b n' P) args s cells slots (fun q => b ≤ q)) n h pc lv [.ref x] := by
  subst hn
  intro H locs ls h1 h2 h3
  have hlocks := hC.2.2
  exact W.aret hC.1.1 hC.1.2.1 hr (Or.inl ⟨_, rfl⟩) (Or.inr ⟨_, rfl⟩) (fun t ht hW => ⟨⟨_, h, rfl, hP, by rw [ht]; exact h1⟩, h2.F ht⟩) h2.2.2 hdg hlocks
theorem xwiden {mc ms : Nat} (q1 : cells ≤ mc) (q2 : slots ≤ ms) (k : xV p l e R s m args below meth c D b nL mc ms Q n h pc lv rest) : xV p l e R s m args below meth c D b nL cells slots Q n h pc lv rest := fun H locs ls h1 h2 h3 => W.widen q1 q2 (k H locs ls h1 h2 h3)
end XV
end
section
/-! ===== the layer: calls, new objects and arrays ===== -/
section XW
variable {p : Program} {l : Launch} {e : Env} {R : Room} {s : State} {m : MethodId} {args : Array Value} {below : List Frame} {meth : Method} {c : Code} {D : XD} {b nL cells slots : Nat} {Q : State → Prop} {n : Nat} {h : XH} {pc : Nat} {lv : List (Option Value)} {rest : List Value} {cc : ByteArray} {own : String}
theorem xrun {H : Heap} {locs : List Loc} {ls : Array Slot} {st : List Value} {a : Array Value} {mc ms n' : Nat} {P : Option Value → XH → Prop} (hr : va_Run p l e R s m args below meth c H locs cells slots mc ms (F0 m pc ls st) rest (xQ D b n' P a) (fun q => b ≤ q)) (hS : va_S (fun q => b ≤ q) s.heap H locs)
    (kk : ∀ (v : Option Value) (h' : XH) (H1 : Heap) (locs1 : List Loc), P v h' → xP D b n' h' H1 → va_S (fun q => b ≤ q) s.heap H1 locs1 → W p l e R s m args below meth c H1 locs1 (cells + mc) (slots + ms) Q (F0 m (pc + 3) ls (v.toList ++ rest))) : W p l e R s m args below meth c H locs cells slots Q (F0 m pc ls st) := by
  intro T hT X
  obtain ⟨v, st₀, t, T', L, h0, X', hL, e1, e2, ⟨⟨v', h', hv, hp, hh⟩, hz, hk⟩, g⟩ := hr T hT X
  cases hv
  rw [h0] at hz hk
  obtain ⟨t2, a1, b1⟩ := kk v h' T'.heap (locs ++ L) hp (by rw [e1]; exact hh)
    ⟨Nat.le_trans hS.1 (by rw [e1]; exact hz), fun q h1 h2 => by rw [e1, hk q (Nat.lt_of_lt_of_le h1 hS.1) h2]; exact hS.2.1 q h1 h2, fun q hq => by
      rcases List.mem_append.mp hq with h | h
      · exact hS.2.2 q h
      · exact hL q h⟩ T' rfl X'
  exact ⟨t2, g t2 a1, b1⟩
theorem xpre {H : Heap} {av : List Value} (hC : xC p s m args meth c D cc nL own) (h1 : xP D b n h H) : ∀ U : State, U.heap = H → s.WarmedH U.vm → va_Pc av (xPre D b n h) av.toArray U := fun U hU hW => ⟨rfl, by rw [hU]; exact h1, hC.2.1.warm hW⟩
theorem xgood {y : MethodName} {cc' : ByteArray} {maxL : Nat} {ret : Option FieldType} (hcode : Cond.code y cc' maxL ret ∈ xtbl) : GoodIn xtbl (Cond.code y cc' maxL ret :: xtbl) := fun w hw => (List.mem_cons.mp hw).elim (fun q => by rw [q]; exact xt_good _ hcode) (fun q => xt_good w q)
theorem xi_callV {y : MethodName} {cc' : ByteArray} {maxL : Nat} {ret : Option FieldType} {f lo mc ms n' : Nat} {a ci N index : Nat} {T : u_T} {fs As st : List Value} {P : Option Value → XH → Prop} (hM : xM l y cc' maxL ret f lo mc ms D b n (.ref a :: As) h n' P) (hC : xC p s m args meth c D cc nL own) (hdg : decode cc pc = .ok (.invokevirtual index, 3)) {pc' : Nat} (hp : pc + 3 = pc') (hlink : Cond.methodLink own index y ∈ xtbl) (hcode : Cond.code y cc' maxL ret ∈ xtbl) (hins : Cond.instanceMethod y ∈ xtbl) (hsel : Cond.selects y.cls y y ∈ xtbl) (hini : Cond.initialized y.cls ∈ xtbl)
    (hd : y.cls ≠ "java/lang/invoke/MethodHandle" ∧ y.cls ≠ "java/lang/invoke/VarHandle" ∧ (parseMethodDescriptor y.desc).map (fun d => d.parameters.length) = some As.length) (he : h a = some (.inr (ci, fs))) (hc : vwCl[ci]? = some (y.cls, T, N)) (hR : f + 1 ≤ R.frames ∧ 8 + (maxL + 11) + lo ≤ R.locals) (hst : st = As.reverse ++ .ref a :: rest) (hcat : (rest.map fun v => v.category).sum ≤ 8) (hf : cells + mc ≤ R.cells ∧ slots + ms ≤ R.slots)
    (kk : ∀ (v : Option Value) (h' : XH), P v h' → xV p l e R s m args below meth c D b nL (cells + mc) (slots + ms) Q n' h' pc' lv (v.toList ++ rest)) : xV p l e R s m args below meth c D b nL cells slots Q n h pc lv st := by
  subst hp
  intro H locs ls h1 h2 h3
  have hts := hC.1.2.2.2.2
  refine xrun (va_runV (As := As) (rest := rest) (b := a) (C := y.cls) (own := own) (index := index) (bytes := cc') (maxL := maxL) (ret := ret) (n := As.length) (nL := nL) (Ts := xtbl) hC.1 hM ⟨callB_of As.length hts (xgood hcode) rfl rfl rfl (hts _ hini) (hts _ hlink) hd hR, hts _ hins, hts _ hsel⟩ ⟨xPre.blind, va_recv hC.2.1.1 (h1.one he) hc (q0 := 0) rfl, xpre hC h1⟩ rfl rfl h3.1 hst (lv_room (m := m) (pc := pc) (ls := ls) (rest := st) hcat) hdg hf) h2 ?_
  intro v h' H1 locs1 hp g1 g2
  exact kk v h' hp H1 locs1 ls g1 g2 h3
theorem xi_callS {y : MethodName} {cc' : ByteArray} {maxL : Nat} {ret : Option FieldType} {f lo mc ms n' : Nat} {index : Nat} {As st : List Value} {P : Option Value → XH → Prop} (hM : xM l y cc' maxL ret f lo mc ms D b n As h n' P) (hC : xC p s m args meth c D cc nL own) (hdg : decode cc pc = .ok (.invokestatic index, 3)) {pc' : Nat} (hp : pc + 3 = pc') (hlink : Cond.methodLink own index y ∈ xtbl) (hcode : Cond.code y cc' maxL ret ∈ xtbl) (hsta : Cond.static y ∈ xtbl) (hini : Cond.initialized y.cls ∈ xtbl)
    (hd : y.cls ≠ "java/lang/invoke/MethodHandle" ∧ y.cls ≠ "java/lang/invoke/VarHandle" ∧ (parseMethodDescriptor y.desc).map (fun d => d.parameters.length) = some As.length) (hR : f + 1 ≤ R.frames ∧ 8 + (maxL + 11) + lo ≤ R.locals) (hst : st = As.reverse ++ rest) (hcat : (rest.map fun v => v.category).sum ≤ 8) (hf : cells + mc ≤ R.cells ∧ slots + ms ≤ R.slots)
    (kk : ∀ (v : Option Value) (h' : XH), P v h' → xV p l e R s m args below meth c D b nL (cells + mc) (slots + ms) Q n' h' pc' lv (v.toList ++ rest)) : xV p l e R s m args below meth c D b nL cells slots Q n h pc lv st := by
  subst hp
  intro H locs ls h1 h2 h3
  have hts := hC.1.2.2.2.2
  refine xrun (va_runS (As := As) (rest := rest) (own := own) (index := index) (bytes := cc') (maxL := maxL) (ret := ret) (n := As.length) (nL := nL) (Ts := xtbl) hC.1 hM ⟨callB_of As.length hts (xgood hcode) rfl rfl rfl (hts _ hini) (hts _ hlink) hd hR, hts _ hsta⟩ ⟨xPre.blind, xpre hC h1⟩ rfl rfl h3.1 hst (lv_room (m := m) (pc := pc) (ls := ls) (rest := st) hcat) hdg hf) h2 ?_
  intro v h' H1 locs1 hp g1 g2
  exact kk v h' hp H1 locs1 ls g1 g2 h3
theorem xi_callI {y : MethodName} {cc' : ByteArray} {maxL : Nat} {f lo mc ms n' : Nat} {a index : Nat} {As st : List Value} {P : Option Value → XH → Prop} (hM : xM l y cc' maxL none f lo mc ms D b n (.ref a :: As) h n' P) (hC : xC p s m args meth c D cc nL own) (hdg : decode cc pc = .ok (.invokespecial index, 3)) {pc' : Nat} (hp : pc + 3 = pc') (hlink : Cond.methodLink own index y ∈ xtbl) (hcode : Cond.code y cc' maxL none ∈ xtbl) (hins : Cond.instanceMethod y ∈ xtbl) (hini : Cond.initialized y.cls ∈ xtbl) (hnm : y.name = "<init>")
    (hd : y.cls ≠ "java/lang/invoke/MethodHandle" ∧ y.cls ≠ "java/lang/invoke/VarHandle" ∧ (parseMethodDescriptor y.desc).map (fun d => d.parameters.length) = some As.length) (hR : f + 1 ≤ R.frames ∧ 8 + (maxL + 11) + lo ≤ R.locals) (hst : st = As.reverse ++ .ref a :: rest) (hcat : (rest.map fun v => v.category).sum ≤ 8) (hf : cells + mc ≤ R.cells ∧ slots + ms ≤ R.slots)
    (kk : ∀ (v : Option Value) (h' : XH), P v h' → xV p l e R s m args below meth c D b nL (cells + mc) (slots + ms) Q n' h' pc' lv (v.toList ++ rest)) : xV p l e R s m args below meth c D b nL cells slots Q n h pc lv st := by
  subst hp
  intro H locs ls h1 h2 h3
  have hts := hC.1.2.2.2.2
  refine xrun (va_runI (As := As) (rest := rest) (b := a) (own := own) (index := index) (bytes := cc') (maxL := maxL) (n := As.length) (nL := nL) (Ts := xtbl) hC.1 hM ⟨callB_of As.length hts (xgood hcode) rfl rfl rfl (hts _ hini) (hts _ hlink) hd hR, hnm, hts _ hins⟩ ⟨xPre.blind, xpre hC h1⟩ rfl rfl h3.1 hst (lv_room (m := m) (pc := pc) (ls := ls) (rest := st) hcat) hdg hf) h2 ?_
  intro v h' H1 locs1 hp g1 g2
  exact kk v h' hp H1 locs1 ls g1 g2 h3
theorem xi_callIN {y : MethodName} {host : String} {cc' : ByteArray} {maxL : Nat} {f lo mc ms n' : Nat} {a index : Nat} {As st : List Value} {P : Option Value → XH → Prop} (hM : xM l y cc' maxL none f lo mc ms D b n (.ref a :: As) h n' P) (hC : xC p s m args meth c D cc nL own) (hdg : decode cc pc = .ok (.invokespecial index, 3)) {pc' : Nat} (hp : pc + 3 = pc') (hlink : va_Nw (.methodLinkNest own index y host) s) (hcode : Cond.code y cc' maxL none ∈ xtbl) (hins : Cond.instanceMethod y ∈ xtbl) (hini : Cond.initialized y.cls ∈ xtbl) (hnm : y.name = "<init>")
    (hd : y.cls ≠ "java/lang/invoke/MethodHandle" ∧ y.cls ≠ "java/lang/invoke/VarHandle" ∧ (parseMethodDescriptor y.desc).map (fun d => d.parameters.length) = some As.length) (hR : f + 1 ≤ R.frames ∧ 8 + (maxL + 11) + lo ≤ R.locals) (hst : st = As.reverse ++ .ref a :: rest) (hcat : (rest.map fun v => v.category).sum ≤ 8) (hf : cells + mc ≤ R.cells ∧ slots + ms ≤ R.slots)
    (kk : ∀ (v : Option Value) (h' : XH), P v h' → xV p l e R s m args below meth c D b nL (cells + mc) (slots + ms) Q n' h' pc' lv (v.toList ++ rest)) : xV p l e R s m args below meth c D b nL cells slots Q n h pc lv st := by
  subst hp
  intro H locs ls h1 h2 h3
  have hts := hC.1.2.2.2.2
  refine xrun (va_runIN (As := As) (rest := rest) (b := a) (own := own) (index := index) (bytes := cc') (maxL := maxL) (n := As.length) (nL := nL) (Ts := xtbl) hC.1 hM ⟨va_cnB As.length hts (xgood hcode) rfl rfl rfl hlink (hts _ hini) hd hR, hnm, hts _ hins⟩ ⟨xPre.blind, xpre hC h1⟩ rfl rfl h3.1 hst (lv_room (m := m) (pc := pc) (ls := ls) (rest := st) hcat) hdg hf) h2 ?_
  intro v h' H1 locs1 hp g1 g2
  exact kk v h' hp H1 locs1 ls g1 g2 h3
theorem xi_objInit {a index : Nat} (hC : xC p s m args meth c D cc nL own) (hdg : decode cc pc = .ok (.invokespecial index, 3)) {pc' : Nat} (hp : pc + 3 = pc') (hlink : Cond.methodLink own index objectInit ∈ xtbl) (hR : 1 ≤ R.frames ∧ (rest.map fun v => v.category).sum + 12 ≤ R.locals)
    (k : xV p l e R s m args below meth c D b nL cells slots Q n h pc' lv rest) : xV p l e R s m args below meth c D b nL cells slots Q n h pc lv (.ref a :: rest) := by
  subst hp
  intro H locs ls h1 h2 h3
  have hts := hC.1.2.2.2.2
  refine W.objInit hC.1.1 hC.1.2.1 hC.1.2.2.2.1 (hts _ hlink) (hts _ xw_ins_obj) (hts _ xw_c_obj) rfl (by rw [hC.1.2.2.1]; exact h3.1) rfl hdg hR.1 ?_ (k H locs ls h1 h2 h3)
  show 2 * 0 + _ + 12 ≤ _
  have := hR.2
  omega
theorem xP.new {H H1 : Heap} {e0 : va_E} (h1 : xP D b n h H) (he : va_at D.1 vwCl (n, e0) H1) (z : H1.size = n + 1) (oq : ∀ q : Nat, q < n → H1[q]? = H[q]?) : xP D b (n + 1) (xup h n e0) H1 := by
  refine ⟨z, Nat.le_succ_of_le h1.2.1, fun q e1 g => ?_⟩
  by_cases hq : q = n
  · subst hq
    rw [xup_s] at g
    cases g
    exact ⟨h1.2.1, he⟩
  · rw [xup_n hq] at g
    have hlt : q < n := by
      have := (h1.2.2 q e1 g).2.lt
      rw [h1.1] at this
      exact this
    exact ⟨(h1.2.2 q e1 g).1, (h1.2.2 q e1 g).2.kept (oq q hlt)⟩
theorem xS.new {H H0 H1 : Heap} {locs : List Loc} {n : Nat} (h1 : H.size = n) (h2 : va_S (fun q => b ≤ q) H0 H locs) (z : H1.size = n + 1) (oq : ∀ q : Nat, q < n → H1[q]? = H[q]?) : va_S (fun q => b ≤ q) H0 H1 locs :=
  ⟨by have := h2.1; omega, fun q q1 q2 => (oq q (by have := h2.1; omega)).trans (h2.2.1 q q1 q2), h2.2.2⟩
theorem xi_new {C : String} {T : u_T} {ci N index : Nat} {fs : List Value} (ty : Nat → FieldType) (hC : xC p s m args meth c D cc nL own) (hdg : decode cc pc = .ok (.new index, 3)) {pc' : Nat} (hp : pc + 3 = pc') (hlink : Cond.classLink own index C ∈ xtbl) (hinst : Cond.instantiable C N ∈ xtbl) (hini : Cond.initialized C ∈ xtbl) (hin : ∀ w ∈ u_ws C T N, w ∈ xtbl) (hty : ∀ k, k < N → parseFieldDescriptor (T k).2.2.1 = some (ty k)) (hc : vwCl[ci]? = some (C, T, N)) (hfs : ∀ j, j < N → defaultValue (ty j) = vp_V fs j) (hf : cells + 1 ≤ R.cells ∧ slots + N ≤ R.slots)
    (k : xV p l e R s m args below meth c D b nL (cells + 1) (slots + N) Q (n + 1) (xup h n (.inr (ci, fs))) pc' lv (.ref n :: rest)) : xV p l e R s m args below meth c D b nL cells slots Q n h pc lv rest := by
  subst hp
  intro H locs ls h1 h2 h3
  have hts := hC.1.2.2.2.2
  have hKn := hC.2.1.1.1 ci _ hc
  refine W.newcK hC.1.1 hC.1.2.1 hC.1.2.2.2.1 (hts _ hlink) (hts _ hinst) (hts _ hini) rfl hdg hf.1 hf.2 hKn.2.1 h1.1 fun H1 kC hkC e1 z1 o1 => ?_
  exact k H1 locs ls (h1.new ⟨_, hc, (u_born ty hts hin hKn hkC e1 hty).to hfs⟩ z1 o1) (xS.new h1.1 h2 z1 o1) h3
theorem xi_newarray {atype : ArrayType} {ty : FieldType} {N t0 : Nat} {i : Int32} {cA : ClassId} {a0 : (Nat → Int32) ⊕ (Nat → Int64) ⊕ (Nat → UInt32) ⊕ (Nat → UInt64) ⊕ (Nat → Option Nat)} (hC : xC p s m args meth c D cc nL own) (hdg : decode cc pc = .ok (.newarray atype, 2)) {pc' : Nat} (hp : pc + 2 = pc') (hty : newarray.typeOf atype = ty) (harr : Cond.arrayClass ty ∈ xtbl) (ht : (xtys D)[t0]? = some (cA, ty)) (hra : ∀ U cA', va_RA U cA' ty = (U.vm.findClass ("[" ++ ty.toString) = some cA')) (ha : vp_cell cA (N, a0) = arrV cA N (fun _ => defaultValue ty)) (hi : i = nI N) (hN : N < 2 ^ 31) (hbytes : N * componentBytes ty ≤ 536870912) (hf : cells + 1 ≤ R.cells ∧ slots + N ≤ R.slots)
    (k : xV p l e R s m args below meth c D b nL (cells + 1) (slots + N) Q (n + 1) (xup h n (.inl (cA, N, a0))) pc' lv (.ref n :: rest)) : xV p l e R s m args below meth c D b nL cells slots Q n h pc lv (.int i :: rest) := by
  subst hp
  subst hi
  subst hty
  intro H locs ls h1 h2 h3
  have hts := hC.1.2.2.2.2
  refine va_newaK hC.1.1 hC.1.2.1 (hts _ harr) rfl hdg rfl (nI_pos hN) (nI_clamp hN) hbytes hf.1 hf.2 h1.1 fun H1 cA' e1 z1 o1 hAr hNm => ?_
  have hk := (hC.2.1.1.2 t0 _ ht).2
  rw [hra] at hk
  have hcA : cA' = cA := Option.some.inj (hNm.symm.trans hk)
  subst hcA
  exact k H1 locs ls (h1.new (by show H1[n]? = some (vp_cell _ _); rw [ha]; exact e1) z1 o1) (xS.new h1.1 h2 z1 o1) h3
theorem xi_anewarray {C : String} {N t0 index : Nat} {i : Int32} {cA : ClassId} (hC : xC p s m args meth c D cc nL own) (hdg : decode cc pc = .ok (.anewarray index, 3)) {pc' : Nat} (hp : pc + 3 = pc') (hlink : Cond.classLink own index C ∈ xtbl) (hao : va_AO C s) (ht : (xtys D)[t0]? = some (cA, .object C)) (hi : i = nI N) (hN : N < 2 ^ 31) (hbytes : N * 4 ≤ 536870912) (hf : cells + 1 ≤ R.cells ∧ slots + N ≤ R.slots)
    (k : xV p l e R s m args below meth c D b nL (cells + 1) (slots + N) Q (n + 1) (xup h n (.inl (cA, N, .inr (.inr (.inr (.inr (fun _ => none))))))) pc' lv (.ref n :: rest)) : xV p l e R s m args below meth c D b nL cells slots Q n h pc lv (.int i :: rest) := by
  subst hp
  subst hi
  intro H locs ls h1 h2 h3
  have hts := hC.1.2.2.2.2
  refine W.anew hC.1.1 hC.1.2.1 hC.1.2.2.2.1 (hts _ hlink) (va_AO.use hao) rfl hdg rfl (nI_pos hN) (by rw [nI_clamp hN]; exact hbytes) hf.1 (by rw [nI_clamp hN]; exact hf.2) fun cA' kA comp g1 g2 g3 g4 => ?_
  obtain ⟨kA', comp', k1, k2, k3, k4⟩ := (hC.2.1.1.2 t0 _ ht).2
  have hcA : cA' = cA := Option.some.inj (g1.symm.trans k4)
  subst hcA
  rw [nI_clamp hN, h1.1]
  have hz : (H.push { cls := cA', slots := Array.replicate N .null, vm := .none }).size = n + 1 := by rw [Array.size_push, h1.1]
  have ho : ∀ q : Nat, q < n → (H.push { cls := cA', slots := Array.replicate N .null, vm := .none })[q]? = H[q]? := fun q hq => by
    rw [Array.getElem?_push, if_neg (by rw [h1.1]; omega)]
  refine k _ locs ls (h1.new ?_ hz ho) (xS.new h1.1 h2 hz ho) h3
  show _ = some (vp_cell _ _)
  rw [vp_cell_q, ← arrV_new, ← h1.1]
  simp [va_rf]
theorem xi_aastore {C : String} {T : u_T} {a N j t0 v ci M : Nat} {i : Int32} {cA : ClassId} {vs : List Value} {f : Nat → Option Nat} (hC : xC p s m args meth c D cc nL own) (hdg : decode cc pc = .ok (.aastore, 1)) {pc' : Nat} (hp : pc + 1 = pc') (he : h a = some (.inl (cA, N, .inr (.inr (.inr (.inr f)))))) (ht : (xtys D)[t0]? = some (cA, .object C)) (hv : h v = some (.inr (ci, vs))) (hc : vwCl[ci]? = some (C, T, M)) (hi : i = nI j) (hj : j < N) (hN : N < 2 ^ 31)
    (k : xV p l e R s m args below meth c D b nL cells slots Q n (xup h a (.inl (cA, N, .inr (.inr (.inr (.inr (va_up f j (some v)))))))) pc' lv rest) : xV p l e R s m args below meth c D b nL cells slots Q n h pc lv (.ref v :: .int i :: .ref a :: rest) := by
  subst hp
  subst hi
  intro H locs ls h1 h2 h3
  have hin := vp_in_nI hj hN
  have h0 : ¬ nI j < 0 := fun q => hin (Or.inl q)
  obtain ⟨hba, hat⟩ := h1.2.2 a _ he
  obtain ⟨hbv, r', hr', cellV, g1, g2, g3, -⟩ := h1.2.2 v _ hv
  have hcls := (hC.2.1.1.1 ci _ hc).2
  obtain ⟨kA, comp, k1, k2, k3, -⟩ := (hC.2.1.1.2 t0 _ ht).2
  have hcomp : comp = D.1.1 ci := Option.some.inj (k3.symm.trans hcls.1)
  subst hcomp
  obtain ⟨kC, hkC, -⟩ := hcls.2
  refine W.aast hC.1.1 hC.1.2.1 hat (fun q h => by cases h) (fun h => by cases h) k1 k2 rfl hkC ⟨h0, by show _ < (arrV _ _ _).slots.size; rw [arrV_size, nI_clamp (Nat.lt_trans hj hN)]; exact hj⟩ g1 (fun q h => by rw [g3] at h; cases h) (by rw [g2]; exact hkC) (by rw [g2]; exact va_assign hcls) rfl rfl hdg fun H1 g z oq => ?_
  refine k H1 _ ls (h1.put hba ?_ z oq) (h2.put z oq hba) h3
  show H1[a]? = some (vp_cell _ _)
  rw [g, nI_clamp (Nat.lt_trans hj hN)]
  rw [vp_cell_q, vp_cell_q, arrV_store]
  congr 2
  funext q
  by_cases hq : q = j
  · subst hq
    simp [updV, va_up, va_rf]
  · simp [updV, va_up, hq]
end XW
end
section
/-! ===== where things lie, counted from b ===== -/
abbrev XM : Type := Nat → Nat → Int32
def kMem (r : Nat) : Nat := [2, 5, 1005, 5, 1005, 3, 5, 1005, 5, 1005, 0, 27, 5, 1005, 5, 1005, 5, 1005, 5, 1005].getD r 9
def kEnt (r : Nat) : Nat := [1, 26, 1005, 5, 1005, 5, 1005, 5, 1005, 5, 1005, 5, 1005].getD r 9
def kVw (r : Nat) : Nat := if r = 0 then 6 else if r < 14 then kEnt (r - 1) else if r = 14 then 25 else kEnt ((r - 15) % 13)
/-- what kind of thing lies at an offset: 0 to 8 an object of that class, 23 to 27 an array of references, 1000 + n, 2000 + n, 3000 + n an array of n ints, booleans, chars -/
def kd (o : Nat) : Nat := if o < 5 then [7, 23, 24, 4, 1060].getD o 9 else if o < 105 then kMem ((o - 5) % 20) else if o < 585 then kVw ((o - 105) % 80) else if o < 605 then [8, 1180, 1006, 1900, 1005, 1005, 2005, 1005, 1050, 1025, 1025, 1005, 1005, 1005, 2005, 1005, 1005, 1100, 1005, 3060].getD (o - 585) 9 else 9
def oMs : Nat := 1
def oVws : Nat := 2
def oScr : Nat := 3
def oSgn : Nat := 4
def oMod : Nat := 585
def oMem (i : Nat) : Nat := 5 + 20 * i
def oSig (o : Nat) : Nat := o + 1
def oKno (o : Nat) : Nat := o + 3
def oPro (o : Nat) : Nat := o + 5
def oBox (o : Nat) : Nat := o + 10
def oFst (o : Nat) : Nat := o + 1
def oSnd (o : Nat) : Nat := o + 3
def oLts (o : Nat) : Nat := o + 1
def oLet (x j : Nat) : Nat := x + 1 + 2 * j
def oNum (o : Nat) : Nat := o + 1
def oVw (v : Nat) : Nat := 105 + 80 * v
def oEnt (o : Nat) : Nat := o + 1
def oBef (o : Nat) : Nat := o + 14
def oBk (x j : Nat) : Nat := x + 1 + 13 * j
def oVs (o : Nat) : Nat := o + 1
def oCon (o : Nat) : Nat := o + 2
def oVec (x j : Nat) : Nat := x + 2 + 2 * j
def m_row : Nat := 586
def m_keptOf : Nat := 587
def m_keptRow : Nat := 588
def m_viewOf : Nat := 589
def m_alarmOf : Nat := 590
def m_hasProof : Nat := 591
def m_depthOf : Nat := 592
def m_proofOf : Nat := 593
def m_signedOf : Nat := 594
def m_knownOf : Nat := 595
def m_doneOf : Nat := 596
def m_shownTo : Nat := 597
def m_sentBy : Nat := 598
def m_hasRead : Nat := 599
def m_readOf : Nat := 600
def m_lettersOf : Nat := 601
def m_letter : Nat := 602
def m_hand : Nat := 603
def m_text : Nat := 604
theorem kd_lt {o : Nat} (h : kd o ≠ 9) : o < 605 := by
  rcases Nat.lt_or_ge o 605 with q | q
  · exact q
  · exact absurd (by simp only [kd]; rw [if_neg (by omega), if_neg (by omega), if_neg (by omega), if_neg (by omega)]) h
theorem kd_oSig {o : Nat} (h : kd o = 2) : kd (oSig o) = 5 := (show ∀ o, o < 605 → kd o = 2 → kd (oSig o) = 5 by decide +kernel) o (kd_lt (by rw [h]; decide)) h
theorem kd_oKno {o : Nat} (h : kd o = 2) : kd (oKno o) = 5 := (show ∀ o, o < 605 → kd o = 2 → kd (oKno o) = 5 by decide +kernel) o (kd_lt (by rw [h]; decide)) h
theorem kd_oPro {o : Nat} (h : kd o = 2) : kd (oPro o) = 3 := (show ∀ o, o < 605 → kd o = 2 → kd (oPro o) = 3 by decide +kernel) o (kd_lt (by rw [h]; decide)) h
theorem kd_oBox {o : Nat} (h : kd o = 2) : kd (oBox o) = 0 := (show ∀ o, o < 605 → kd o = 2 → kd (oBox o) = 0 by decide +kernel) o (kd_lt (by rw [h]; decide)) h
theorem kd_oFst {o : Nat} (h : kd o = 3) : kd (oFst o) = 5 := (show ∀ o, o < 605 → kd o = 3 → kd (oFst o) = 5 by decide +kernel) o (kd_lt (by rw [h]; decide)) h
theorem kd_oSnd {o : Nat} (h : kd o = 3) : kd (oSnd o) = 5 := (show ∀ o, o < 605 → kd o = 3 → kd (oSnd o) = 5 by decide +kernel) o (kd_lt (by rw [h]; decide)) h
theorem kd_oLts {o : Nat} (h : kd o = 0) : kd (oLts o) = 27 := (show ∀ o, o < 605 → kd o = 0 → kd (oLts o) = 27 by decide +kernel) o (kd_lt (by rw [h]; decide)) h
theorem kd_oNum {o : Nat} (h : kd o = 5) : kd (oNum o) = 1005 := (show ∀ o, o < 605 → kd o = 5 → kd (oNum o) = 1005 by decide +kernel) o (kd_lt (by rw [h]; decide)) h
theorem kd_oEnt {o : Nat} (h : kd o = 6) : kd (oEnt o) = 1 := (show ∀ o, o < 605 → kd o = 6 → kd (oEnt o) = 1 by decide +kernel) o (kd_lt (by rw [h]; decide)) h
theorem kd_oBef {o : Nat} (h : kd o = 6) : kd (oBef o) = 25 := (show ∀ o, o < 605 → kd o = 6 → kd (oBef o) = 25 by decide +kernel) o (kd_lt (by rw [h]; decide)) h
theorem kd_oVs {o : Nat} (h : kd o = 1) : kd (oVs o) = 26 := (show ∀ o, o < 605 → kd o = 1 → kd (oVs o) = 26 by decide +kernel) o (kd_lt (by rw [h]; decide)) h
theorem kd_oCon {o : Nat} (h : kd o = 1) : kd (oCon o) = 1005 := (show ∀ o, o < 605 → kd o = 1 → kd (oCon o) = 1005 by decide +kernel) o (kd_lt (by rw [h]; decide)) h
theorem kd_oLet {o j : Nat} (h : kd o = 27) (hj : j < 4) : kd (oLet o j) = 5 := (show ∀ o, o < 605 → kd o = 27 → ∀ j, j < 4 → kd (oLet o j) = 5 by decide +kernel) o (kd_lt (by rw [h]; decide)) h j hj
theorem kd_oBk {o j : Nat} (h : kd o = 25) (hj : j < 5) : kd (oBk o j) = 1 := (show ∀ o, o < 605 → kd o = 25 → ∀ j, j < 5 → kd (oBk o j) = 1 by decide +kernel) o (kd_lt (by rw [h]; decide)) h j hj
theorem kd_oVec {o j : Nat} (h : kd o = 26) (hj : j < 5) : kd (oVec o j) = 5 := (show ∀ o, o < 605 → kd o = 26 → ∀ j, j < 5 → kd (oVec o j) = 5 by decide +kernel) o (kd_lt (by rw [h]; decide)) h j hj
theorem kd_oMem {i : Nat} (h : i < 5) : kd (oMem i) = 2 := (show ∀ i, i < 5 → kd (oMem i) = 2 by decide +kernel) i h
theorem kd_oVw {i : Nat} (h : i < 6) : kd (oVw i) = 6 := (show ∀ i, i < 6 → kd (oVw i) = 6 by decide +kernel) i h
theorem kd_0 : kd 0 = 7 := by decide +kernel
theorem kd_oMs : kd oMs = 23 := by decide +kernel
theorem kd_oVws : kd oVws = 24 := by decide +kernel
theorem kd_oScr : kd oScr = 4 := by decide +kernel
theorem kd_oSgn : kd oSgn = 1060 := by decide +kernel
theorem kd_oMod : kd oMod = 8 := by decide +kernel
theorem kd_m_row : kd m_row = 1180 := by decide +kernel
theorem kd_m_keptOf : kd m_keptOf = 1006 := by decide +kernel
theorem kd_m_keptRow : kd m_keptRow = 1900 := by decide +kernel
theorem kd_m_viewOf : kd m_viewOf = 1005 := by decide +kernel
theorem kd_m_alarmOf : kd m_alarmOf = 1005 := by decide +kernel
theorem kd_m_hasProof : kd m_hasProof = 2005 := by decide +kernel
theorem kd_m_depthOf : kd m_depthOf = 1005 := by decide +kernel
theorem kd_m_proofOf : kd m_proofOf = 1050 := by decide +kernel
theorem kd_m_signedOf : kd m_signedOf = 1025 := by decide +kernel
theorem kd_m_knownOf : kd m_knownOf = 1025 := by decide +kernel
theorem kd_m_doneOf : kd m_doneOf = 1005 := by decide +kernel
theorem kd_m_shownTo : kd m_shownTo = 1005 := by decide +kernel
theorem kd_m_sentBy : kd m_sentBy = 1005 := by decide +kernel
theorem kd_m_hasRead : kd m_hasRead = 2005 := by decide +kernel
theorem kd_m_readOf : kd m_readOf = 1005 := by decide +kernel
theorem kd_m_lettersOf : kd m_lettersOf = 1005 := by decide +kernel
theorem kd_m_letter : kd m_letter = 1100 := by decide +kernel
theorem kd_m_hand : kd m_hand = 1005 := by decide +kernel
theorem kd_m_text : kd m_text = 3060 := by decide +kernel
def xF0 (b o : Nat) (f : Nat → Int32) : List Value := [.ref (b + (oLts o)), .int (f 1)]
def xF1 (b o : Nat) (f : Nat → Int32) : List Value := [.ref (b + (oVs o)), .ref (b + (oCon o))]
def xF2 (b o : Nat) (f : Nat → Int32) : List Value := [.ref (b + (oSig o)), .ref (b + (oKno o)), .ref (b + (oPro o)), .ref (b + (oBox o)), .int (f 4), .int (f 5), .int (f 6), .int (f 7), .int (f 8), .int (f 9), .int (f 10)]
def xF3 (b o : Nat) (f : Nat → Int32) : List Value := [.ref (b + (oFst o)), .ref (b + (oSnd o)), .int (f 2), .int (f 3)]
def xF4 (b o : Nat) (f : Nat → Int32) : List Value := [.ref (b + oSgn), .int (f 1)]
def xF5 (b o : Nat) (f : Nat → Int32) : List Value := [.ref (b + (oNum o))]
def xF6 (b o : Nat) (f : Nat → Int32) : List Value := [.ref (b + (oEnt o)), .ref (b + (oBef o)), .int (f 2), .int (f 3)]
def xF7 (b o : Nat) (f : Nat → Int32) : List Value := [.ref (b + oMs), .ref (b + oVws), .ref (b + oScr), .int (f 3), .int (f 4)]
def xF8 (b o : Nat) (f : Nat → Int32) : List Value := [.int (f 0), .int (f 1), .int (f 2), .ref (b + m_row), .ref (b + m_keptOf), .ref (b + m_keptRow), .ref (b + m_viewOf), .ref (b + m_alarmOf), .ref (b + m_hasProof), .ref (b + m_depthOf), .ref (b + m_proofOf), .ref (b + m_signedOf), .ref (b + m_knownOf), .ref (b + m_doneOf), .ref (b + m_shownTo), .ref (b + m_sentBy), .ref (b + m_hasRead), .ref (b + m_readOf), .ref (b + m_lettersOf), .ref (b + m_letter), .int (f 20), .int (f 21), .ref (b + m_hand), .int (f 23), .ref (b + m_text)]
def xRf (cA : ClassId) (N : Nat) (f : Nat → Nat) : va_E := .inl (cA, N, .inr (.inr (.inr (.inr (fun j => if j < N then some (f j) else none)))))
def xsh (D : XD) (b o : Nat) (f : Nat → Int32) : Option va_E :=
  if kd o = 9 then none
  else if kd o = 0 then some (.inr (0, xF0 b o f))
  else if kd o = 1 then some (.inr (1, xF1 b o f))
  else if kd o = 2 then some (.inr (2, xF2 b o f))
  else if kd o = 3 then some (.inr (3, xF3 b o f))
  else if kd o = 4 then some (.inr (4, xF4 b o f))
  else if kd o = 5 then some (.inr (5, xF5 b o f))
  else if kd o = 6 then some (.inr (6, xF6 b o f))
  else if kd o = 7 then some (.inr (7, xF7 b o f))
  else if kd o = 8 then some (.inr (8, xF8 b o f))
  else if kd o = 23 then some (xRf (D.2 3) 5 (fun j => b + oMem j))
  else if kd o = 24 then some (xRf (D.2 4) 6 (fun j => b + oVw j))
  else if kd o = 25 then some (xRf (D.2 5) 5 (fun j => b + oBk o j))
  else if kd o = 26 then some (xRf (D.2 6) 5 (fun j => b + oVec o j))
  else if kd o = 27 then some (xRf (D.2 6) 4 (fun j => b + oLet o j))
  else if kd o < 2000 then some (.inl (D.2 0, kd o - 1000, .inl f))
  else if kd o < 3000 then some (.inl (D.2 1, kd o - 2000, .inl f))
  else some (.inl (D.2 2, kd o - 3000, .inl f))
/-- the heap that an int memory says -/
def xH (D : XD) (b : Nat) (σ : XM) : XH := fun q => if b ≤ q then xsh D b (q - b) (σ (q - b)) else none
def su (σ : XM) (o : Nat) (g : Nat → Int32) : XM := fun k => if k = o then g else σ k
def sw (σ : XM) (o k : Nat) (x : Int32) : XM := su σ o (upd (σ o) k x)
theorem su_s {σ : XM} {o : Nat} {g : Nat → Int32} : su σ o g o = g := if_pos rfl
theorem su_n {σ : XM} {o q : Nat} {g : Nat → Int32} (h : q ≠ o) : su σ o g q = σ q := if_neg h
theorem sw_s {σ : XM} {o k : Nat} {x : Int32} : sw σ o k x o k = x := by simp [sw, su, upd]
theorem sw_k {σ : XM} {o k j : Nat} {x : Int32} (h : j ≠ k) : sw σ o k x o j = σ o j := by simp [sw, su, upd, h]
theorem sw_n {σ : XM} {o q k : Nat} {x : Int32} (h : q ≠ o) : sw σ o k x q = σ q := su_n h
theorem xH_at {D : XD} {b o : Nat} {σ : XM} : xH D b σ (b + o) = xsh D b o (σ o) := by simp [xH]
theorem xH_up {D : XD} {b o : Nat} {σ : XM} {g : Nat → Int32} {e : va_E} (h : xsh D b o g = some e) : xup (xH D b σ) (b + o) e = xH D b (su σ o g) := by
  funext q
  by_cases hq : q = b + o
  · subst hq
    rw [xup_s, xH_at, su_s, h]
  · rw [xup_n hq]
    unfold xH
    by_cases hb : b ≤ q
    · rw [if_pos hb, if_pos hb, su_n (by omega)]
    · rw [if_neg hb, if_neg hb]
theorem xH_congr {D : XD} {b : Nat} {σ τ : XM} (h : ∀ o, xsh D b o (σ o) = xsh D b o (τ o)) : xH D b σ = xH D b τ := by
  funext q
  unfold xH
  split
  · exact h _
  · rfl
theorem xsh_0 {D : XD} {b o : Nat} {f : Nat → Int32} (h : kd o = 0) : xsh D b o f = some (.inr (0, xF0 b o f)) := by simp [xsh, h]
theorem xsh_1 {D : XD} {b o : Nat} {f : Nat → Int32} (h : kd o = 1) : xsh D b o f = some (.inr (1, xF1 b o f)) := by simp [xsh, h]
theorem xsh_2 {D : XD} {b o : Nat} {f : Nat → Int32} (h : kd o = 2) : xsh D b o f = some (.inr (2, xF2 b o f)) := by simp [xsh, h]
theorem xsh_3 {D : XD} {b o : Nat} {f : Nat → Int32} (h : kd o = 3) : xsh D b o f = some (.inr (3, xF3 b o f)) := by simp [xsh, h]
theorem xsh_4 {D : XD} {b o : Nat} {f : Nat → Int32} (h : kd o = 4) : xsh D b o f = some (.inr (4, xF4 b o f)) := by simp [xsh, h]
theorem xsh_5 {D : XD} {b o : Nat} {f : Nat → Int32} (h : kd o = 5) : xsh D b o f = some (.inr (5, xF5 b o f)) := by simp [xsh, h]
theorem xsh_6 {D : XD} {b o : Nat} {f : Nat → Int32} (h : kd o = 6) : xsh D b o f = some (.inr (6, xF6 b o f)) := by simp [xsh, h]
theorem xsh_7 {D : XD} {b o : Nat} {f : Nat → Int32} (h : kd o = 7) : xsh D b o f = some (.inr (7, xF7 b o f)) := by simp [xsh, h]
theorem xsh_8 {D : XD} {b o : Nat} {f : Nat → Int32} (h : kd o = 8) : xsh D b o f = some (.inr (8, xF8 b o f)) := by simp [xsh, h]
theorem xsh_23 {D : XD} {b o : Nat} {f : Nat → Int32} (h : kd o = 23) : xsh D b o f = some (xRf (D.2 3) 5 (fun j => b + oMem j)) := by simp [xsh, h]
theorem xsh_24 {D : XD} {b o : Nat} {f : Nat → Int32} (h : kd o = 24) : xsh D b o f = some (xRf (D.2 4) 6 (fun j => b + oVw j)) := by simp [xsh, h]
theorem xsh_25 {D : XD} {b o : Nat} {f : Nat → Int32} (h : kd o = 25) : xsh D b o f = some (xRf (D.2 5) 5 (fun j => b + oBk o j)) := by simp [xsh, h]
theorem xsh_26 {D : XD} {b o : Nat} {f : Nat → Int32} (h : kd o = 26) : xsh D b o f = some (xRf (D.2 6) 5 (fun j => b + oVec o j)) := by simp [xsh, h]
theorem xsh_27 {D : XD} {b o : Nat} {f : Nat → Int32} (h : kd o = 27) : xsh D b o f = some (xRf (D.2 6) 4 (fun j => b + oLet o j)) := by simp [xsh, h]
theorem xsh_a0 {D : XD} {b o N : Nat} {f : Nat → Int32} (hN : N < 1000) (h : kd o = 1000 + N) : xsh D b o f = some (.inl (D.2 0, N, .inl f)) := by
  unfold xsh
  rw [if_neg (by omega)]
  rw [if_neg (by omega)]
  rw [if_neg (by omega)]
  rw [if_neg (by omega)]
  rw [if_neg (by omega)]
  rw [if_neg (by omega)]
  rw [if_neg (by omega)]
  rw [if_neg (by omega)]
  rw [if_neg (by omega)]
  rw [if_neg (by omega)]
  rw [if_neg (by omega)]
  rw [if_neg (by omega)]
  rw [if_neg (by omega)]
  rw [if_neg (by omega)]
  rw [if_neg (by omega)]
  rw [if_pos (by omega), show kd o - 1000 = N by omega]
theorem xsh_a1 {D : XD} {b o N : Nat} {f : Nat → Int32} (hN : N < 1000) (h : kd o = 2000 + N) : xsh D b o f = some (.inl (D.2 1, N, .inl f)) := by
  unfold xsh
  rw [if_neg (by omega)]
  rw [if_neg (by omega)]
  rw [if_neg (by omega)]
  rw [if_neg (by omega)]
  rw [if_neg (by omega)]
  rw [if_neg (by omega)]
  rw [if_neg (by omega)]
  rw [if_neg (by omega)]
  rw [if_neg (by omega)]
  rw [if_neg (by omega)]
  rw [if_neg (by omega)]
  rw [if_neg (by omega)]
  rw [if_neg (by omega)]
  rw [if_neg (by omega)]
  rw [if_neg (by omega)]
  rw [if_neg (by omega), if_pos (by omega), show kd o - 2000 = N by omega]
theorem xsh_a2 {D : XD} {b o N : Nat} {f : Nat → Int32} (hN : N < 1000) (h : kd o = 3000 + N) : xsh D b o f = some (.inl (D.2 2, N, .inl f)) := by
  unfold xsh
  rw [if_neg (by omega)]
  rw [if_neg (by omega)]
  rw [if_neg (by omega)]
  rw [if_neg (by omega)]
  rw [if_neg (by omega)]
  rw [if_neg (by omega)]
  rw [if_neg (by omega)]
  rw [if_neg (by omega)]
  rw [if_neg (by omega)]
  rw [if_neg (by omega)]
  rw [if_neg (by omega)]
  rw [if_neg (by omega)]
  rw [if_neg (by omega)]
  rw [if_neg (by omega)]
  rw [if_neg (by omega)]
  rw [if_neg (by omega), if_neg (by omega), show kd o - 3000 = N by omega]
section XR
variable {p : Program} {l : Launch} {e : Env} {R : Room} {s : State} {m : MethodId} {args : Array Value} {below : List Frame} {meth : Method} {c : Code} {D : XD} {b nL cells slots : Nat} {Q : State → Prop} {n : Nat} {σ : XM} {pc : Nat} {lv : List (Option Value)} {rest : List Value} {cc : ByteArray} {own : String}
theorem xg0_letters {o index : Nat} (hC : xC p s m args meth c D cc nL own) (hdg : decode cc pc = .ok (.getfield index, 3)) {pc' : Nat} (hp : pc + 3 = pc') (hlink : Cond.fieldLink own index (TX0 0).1 (TX0 0).2.1 (TX0 0).2.2.1 ∈ xtbl) (hk : kd o = 0) (k : xV p l e R s m args below meth c D b nL cells slots Q n (xH D b σ) pc' lv (.ref (b + (oLts o)) :: rest)) : xV p l e R s m args below meth c D b nL cells slots Q n (xH D b σ) pc lv (.ref (b + o) :: rest) :=
  xi_getfield hC hdg hp hlink xw_lay_X0 rfl (by decide) (xH_at.trans (xsh_0 hk)) rfl k
theorem xg0_size {o index : Nat} (hC : xC p s m args meth c D cc nL own) (hdg : decode cc pc = .ok (.getfield index, 3)) {pc' : Nat} (hp : pc + 3 = pc') (hlink : Cond.fieldLink own index (TX0 1).1 (TX0 1).2.1 (TX0 1).2.2.1 ∈ xtbl) (hk : kd o = 0) (k : xV p l e R s m args below meth c D b nL cells slots Q n (xH D b σ) pc' lv (.int (σ o 1) :: rest)) : xV p l e R s m args below meth c D b nL cells slots Q n (xH D b σ) pc lv (.ref (b + o) :: rest) :=
  xi_getfield hC hdg hp hlink xw_lay_X0 rfl (by decide) (xH_at.trans (xsh_0 hk)) rfl k
theorem xp0_size {o index : Nat} {x : Int32} (hC : xC p s m args meth c D cc nL own) (hdg : decode cc pc = .ok (.putfield index, 3)) {pc' : Nat} (hp : pc + 3 = pc') (hlink : Cond.fieldLink own index (TX0 1).1 (TX0 1).2.1 (TX0 1).2.2.1 ∈ xtbl) (hk : kd o = 0) (k : xV p l e R s m args below meth c D b nL cells slots Q n (xH D b (sw σ o 1 x)) pc' lv rest) : xV p l e R s m args below meth c D b nL cells slots Q n (xH D b σ) pc lv (.int x :: .ref (b + o) :: rest) := by
  refine xi_putfield (ty := .int) tyX0 hC hdg hp hlink xw_lay_X0 tyX0_ok nmX0 rfl (by decide) (xH_at.trans (xsh_0 hk)) rfl (by decide +kernel) rfl rfl (Nat.le_of_ble_eq_true rfl) ?_
  rw [xH_up (g := upd (σ o) 1 x) (by rw [xsh_0 hk]; rfl)]
  exact k
theorem xg1_vectors {o index : Nat} (hC : xC p s m args meth c D cc nL own) (hdg : decode cc pc = .ok (.getfield index, 3)) {pc' : Nat} (hp : pc + 3 = pc') (hlink : Cond.fieldLink own index (TX1 0).1 (TX1 0).2.1 (TX1 0).2.2.1 ∈ xtbl) (hk : kd o = 1) (k : xV p l e R s m args below meth c D b nL cells slots Q n (xH D b σ) pc' lv (.ref (b + (oVs o)) :: rest)) : xV p l e R s m args below meth c D b nL cells slots Q n (xH D b σ) pc lv (.ref (b + o) :: rest) :=
  xi_getfield hC hdg hp hlink xw_lay_X1 rfl (by decide) (xH_at.trans (xsh_1 hk)) rfl k
theorem xg1_contents {o index : Nat} (hC : xC p s m args meth c D cc nL own) (hdg : decode cc pc = .ok (.getfield index, 3)) {pc' : Nat} (hp : pc + 3 = pc') (hlink : Cond.fieldLink own index (TX1 1).1 (TX1 1).2.1 (TX1 1).2.2.1 ∈ xtbl) (hk : kd o = 1) (k : xV p l e R s m args below meth c D b nL cells slots Q n (xH D b σ) pc' lv (.ref (b + (oCon o)) :: rest)) : xV p l e R s m args below meth c D b nL cells slots Q n (xH D b σ) pc lv (.ref (b + o) :: rest) :=
  xi_getfield hC hdg hp hlink xw_lay_X1 rfl (by decide) (xH_at.trans (xsh_1 hk)) rfl k
theorem xg2_signed {o index : Nat} (hC : xC p s m args meth c D cc nL own) (hdg : decode cc pc = .ok (.getfield index, 3)) {pc' : Nat} (hp : pc + 3 = pc') (hlink : Cond.fieldLink own index (TX2 0).1 (TX2 0).2.1 (TX2 0).2.2.1 ∈ xtbl) (hk : kd o = 2) (k : xV p l e R s m args below meth c D b nL cells slots Q n (xH D b σ) pc' lv (.ref (b + (oSig o)) :: rest)) : xV p l e R s m args below meth c D b nL cells slots Q n (xH D b σ) pc lv (.ref (b + o) :: rest) :=
  xi_getfield hC hdg hp hlink xw_lay_X2 rfl (by decide) (xH_at.trans (xsh_2 hk)) rfl k
theorem xg2_known {o index : Nat} (hC : xC p s m args meth c D cc nL own) (hdg : decode cc pc = .ok (.getfield index, 3)) {pc' : Nat} (hp : pc + 3 = pc') (hlink : Cond.fieldLink own index (TX2 1).1 (TX2 1).2.1 (TX2 1).2.2.1 ∈ xtbl) (hk : kd o = 2) (k : xV p l e R s m args below meth c D b nL cells slots Q n (xH D b σ) pc' lv (.ref (b + (oKno o)) :: rest)) : xV p l e R s m args below meth c D b nL cells slots Q n (xH D b σ) pc lv (.ref (b + o) :: rest) :=
  xi_getfield hC hdg hp hlink xw_lay_X2 rfl (by decide) (xH_at.trans (xsh_2 hk)) rfl k
theorem xg2_proof {o index : Nat} (hC : xC p s m args meth c D cc nL own) (hdg : decode cc pc = .ok (.getfield index, 3)) {pc' : Nat} (hp : pc + 3 = pc') (hlink : Cond.fieldLink own index (TX2 2).1 (TX2 2).2.1 (TX2 2).2.2.1 ∈ xtbl) (hk : kd o = 2) (k : xV p l e R s m args below meth c D b nL cells slots Q n (xH D b σ) pc' lv (.ref (b + (oPro o)) :: rest)) : xV p l e R s m args below meth c D b nL cells slots Q n (xH D b σ) pc lv (.ref (b + o) :: rest) :=
  xi_getfield hC hdg hp hlink xw_lay_X2 rfl (by decide) (xH_at.trans (xsh_2 hk)) rfl k
theorem xg2_box {o index : Nat} (hC : xC p s m args meth c D cc nL own) (hdg : decode cc pc = .ok (.getfield index, 3)) {pc' : Nat} (hp : pc + 3 = pc') (hlink : Cond.fieldLink own index (TX2 3).1 (TX2 3).2.1 (TX2 3).2.2.1 ∈ xtbl) (hk : kd o = 2) (k : xV p l e R s m args below meth c D b nL cells slots Q n (xH D b σ) pc' lv (.ref (b + (oBox o)) :: rest)) : xV p l e R s m args below meth c D b nL cells slots Q n (xH D b σ) pc lv (.ref (b + o) :: rest) :=
  xi_getfield hC hdg hp hlink xw_lay_X2 rfl (by decide) (xH_at.trans (xsh_2 hk)) rfl k
theorem xg2_view {o index : Nat} (hC : xC p s m args meth c D cc nL own) (hdg : decode cc pc = .ok (.getfield index, 3)) {pc' : Nat} (hp : pc + 3 = pc') (hlink : Cond.fieldLink own index (TX2 4).1 (TX2 4).2.1 (TX2 4).2.2.1 ∈ xtbl) (hk : kd o = 2) (k : xV p l e R s m args below meth c D b nL cells slots Q n (xH D b σ) pc' lv (.int (σ o 4) :: rest)) : xV p l e R s m args below meth c D b nL cells slots Q n (xH D b σ) pc lv (.ref (b + o) :: rest) :=
  xi_getfield hC hdg hp hlink xw_lay_X2 rfl (by decide) (xH_at.trans (xsh_2 hk)) rfl k
theorem xp2_view {o index : Nat} {x : Int32} (hC : xC p s m args meth c D cc nL own) (hdg : decode cc pc = .ok (.putfield index, 3)) {pc' : Nat} (hp : pc + 3 = pc') (hlink : Cond.fieldLink own index (TX2 4).1 (TX2 4).2.1 (TX2 4).2.2.1 ∈ xtbl) (hk : kd o = 2) (k : xV p l e R s m args below meth c D b nL cells slots Q n (xH D b (sw σ o 4 x)) pc' lv rest) : xV p l e R s m args below meth c D b nL cells slots Q n (xH D b σ) pc lv (.int x :: .ref (b + o) :: rest) := by
  refine xi_putfield (ty := .int) tyX2 hC hdg hp hlink xw_lay_X2 tyX2_ok nmX2 rfl (by decide) (xH_at.trans (xsh_2 hk)) rfl (by decide +kernel) rfl rfl (Nat.le_of_ble_eq_true rfl) ?_
  rw [xH_up (g := upd (σ o) 4 x) (by rw [xsh_2 hk]; rfl)]
  exact k
theorem xg2_alarm {o index : Nat} (hC : xC p s m args meth c D cc nL own) (hdg : decode cc pc = .ok (.getfield index, 3)) {pc' : Nat} (hp : pc + 3 = pc') (hlink : Cond.fieldLink own index (TX2 5).1 (TX2 5).2.1 (TX2 5).2.2.1 ∈ xtbl) (hk : kd o = 2) (k : xV p l e R s m args below meth c D b nL cells slots Q n (xH D b σ) pc' lv (.int (σ o 5) :: rest)) : xV p l e R s m args below meth c D b nL cells slots Q n (xH D b σ) pc lv (.ref (b + o) :: rest) :=
  xi_getfield hC hdg hp hlink xw_lay_X2 rfl (by decide) (xH_at.trans (xsh_2 hk)) rfl k
theorem xp2_alarm {o index : Nat} {x : Int32} (hC : xC p s m args meth c D cc nL own) (hdg : decode cc pc = .ok (.putfield index, 3)) {pc' : Nat} (hp : pc + 3 = pc') (hlink : Cond.fieldLink own index (TX2 5).1 (TX2 5).2.1 (TX2 5).2.2.1 ∈ xtbl) (hk : kd o = 2) (k : xV p l e R s m args below meth c D b nL cells slots Q n (xH D b (sw σ o 5 x)) pc' lv rest) : xV p l e R s m args below meth c D b nL cells slots Q n (xH D b σ) pc lv (.int x :: .ref (b + o) :: rest) := by
  refine xi_putfield (ty := .int) tyX2 hC hdg hp hlink xw_lay_X2 tyX2_ok nmX2 rfl (by decide) (xH_at.trans (xsh_2 hk)) rfl (by decide +kernel) rfl rfl (Nat.le_of_ble_eq_true rfl) ?_
  rw [xH_up (g := upd (σ o) 5 x) (by rw [xsh_2 hk]; rfl)]
  exact k
theorem xg2_hasHeard {o index : Nat} (hC : xC p s m args meth c D cc nL own) (hdg : decode cc pc = .ok (.getfield index, 3)) {pc' : Nat} (hp : pc + 3 = pc') (hlink : Cond.fieldLink own index (TX2 6).1 (TX2 6).2.1 (TX2 6).2.2.1 ∈ xtbl) (hk : kd o = 2) (k : xV p l e R s m args below meth c D b nL cells slots Q n (xH D b σ) pc' lv (.int (σ o 6) :: rest)) : xV p l e R s m args below meth c D b nL cells slots Q n (xH D b σ) pc lv (.ref (b + o) :: rest) :=
  xi_getfield hC hdg hp hlink xw_lay_X2 rfl (by decide) (xH_at.trans (xsh_2 hk)) rfl k
theorem xp2_hasHeard {o index : Nat} {x : Int32} (hC : xC p s m args meth c D cc nL own) (hdg : decode cc pc = .ok (.putfield index, 3)) {pc' : Nat} (hp : pc + 3 = pc') (hlink : Cond.fieldLink own index (TX2 6).1 (TX2 6).2.1 (TX2 6).2.2.1 ∈ xtbl) (hk : kd o = 2) (hx : x = 0 ∨ x = 1) (k : xV p l e R s m args below meth c D b nL cells slots Q n (xH D b (sw σ o 6 x)) pc' lv rest) : xV p l e R s m args below meth c D b nL cells slots Q n (xH D b σ) pc lv (.int x :: .ref (b + o) :: rest) := by
  refine xi_putfield (ty := .boolean) tyX2 hC hdg hp hlink xw_lay_X2 tyX2_ok nmX2 rfl (by decide) (xH_at.trans (xsh_2 hk)) rfl (by decide +kernel) (by rcases hx with rfl | rfl <;> rfl) (by rcases hx with rfl | rfl <;> rfl) (Nat.le_of_ble_eq_true rfl) ?_
  rw [xH_up (g := upd (σ o) 6 x) (by rw [xsh_2 hk]; rfl)]
  exact k
theorem xg2_heard {o index : Nat} (hC : xC p s m args meth c D cc nL own) (hdg : decode cc pc = .ok (.getfield index, 3)) {pc' : Nat} (hp : pc + 3 = pc') (hlink : Cond.fieldLink own index (TX2 7).1 (TX2 7).2.1 (TX2 7).2.2.1 ∈ xtbl) (hk : kd o = 2) (k : xV p l e R s m args below meth c D b nL cells slots Q n (xH D b σ) pc' lv (.int (σ o 7) :: rest)) : xV p l e R s m args below meth c D b nL cells slots Q n (xH D b σ) pc lv (.ref (b + o) :: rest) :=
  xi_getfield hC hdg hp hlink xw_lay_X2 rfl (by decide) (xH_at.trans (xsh_2 hk)) rfl k
theorem xp2_heard {o index : Nat} {x : Int32} (hC : xC p s m args meth c D cc nL own) (hdg : decode cc pc = .ok (.putfield index, 3)) {pc' : Nat} (hp : pc + 3 = pc') (hlink : Cond.fieldLink own index (TX2 7).1 (TX2 7).2.1 (TX2 7).2.2.1 ∈ xtbl) (hk : kd o = 2) (k : xV p l e R s m args below meth c D b nL cells slots Q n (xH D b (sw σ o 7 x)) pc' lv rest) : xV p l e R s m args below meth c D b nL cells slots Q n (xH D b σ) pc lv (.int x :: .ref (b + o) :: rest) := by
  refine xi_putfield (ty := .int) tyX2 hC hdg hp hlink xw_lay_X2 tyX2_ok nmX2 rfl (by decide) (xH_at.trans (xsh_2 hk)) rfl (by decide +kernel) rfl rfl (Nat.le_of_ble_eq_true rfl) ?_
  rw [xH_up (g := upd (σ o) 7 x) (by rw [xsh_2 hk]; rfl)]
  exact k
theorem xg2_operations {o index : Nat} (hC : xC p s m args meth c D cc nL own) (hdg : decode cc pc = .ok (.getfield index, 3)) {pc' : Nat} (hp : pc + 3 = pc') (hlink : Cond.fieldLink own index (TX2 8).1 (TX2 8).2.1 (TX2 8).2.2.1 ∈ xtbl) (hk : kd o = 2) (k : xV p l e R s m args below meth c D b nL cells slots Q n (xH D b σ) pc' lv (.int (σ o 8) :: rest)) : xV p l e R s m args below meth c D b nL cells slots Q n (xH D b σ) pc lv (.ref (b + o) :: rest) :=
  xi_getfield hC hdg hp hlink xw_lay_X2 rfl (by decide) (xH_at.trans (xsh_2 hk)) rfl k
theorem xp2_operations {o index : Nat} {x : Int32} (hC : xC p s m args meth c D cc nL own) (hdg : decode cc pc = .ok (.putfield index, 3)) {pc' : Nat} (hp : pc + 3 = pc') (hlink : Cond.fieldLink own index (TX2 8).1 (TX2 8).2.1 (TX2 8).2.2.1 ∈ xtbl) (hk : kd o = 2) (k : xV p l e R s m args below meth c D b nL cells slots Q n (xH D b (sw σ o 8 x)) pc' lv rest) : xV p l e R s m args below meth c D b nL cells slots Q n (xH D b σ) pc lv (.int x :: .ref (b + o) :: rest) := by
  refine xi_putfield (ty := .int) tyX2 hC hdg hp hlink xw_lay_X2 tyX2_ok nmX2 rfl (by decide) (xH_at.trans (xsh_2 hk)) rfl (by decide +kernel) rfl rfl (Nat.le_of_ble_eq_true rfl) ?_
  rw [xH_up (g := upd (σ o) 8 x) (by rw [xsh_2 hk]; rfl)]
  exact k
theorem xg2_shown {o index : Nat} (hC : xC p s m args meth c D cc nL own) (hdg : decode cc pc = .ok (.getfield index, 3)) {pc' : Nat} (hp : pc + 3 = pc') (hlink : Cond.fieldLink own index (TX2 9).1 (TX2 9).2.1 (TX2 9).2.2.1 ∈ xtbl) (hk : kd o = 2) (k : xV p l e R s m args below meth c D b nL cells slots Q n (xH D b σ) pc' lv (.int (σ o 9) :: rest)) : xV p l e R s m args below meth c D b nL cells slots Q n (xH D b σ) pc lv (.ref (b + o) :: rest) :=
  xi_getfield hC hdg hp hlink xw_lay_X2 rfl (by decide) (xH_at.trans (xsh_2 hk)) rfl k
theorem xp2_shown {o index : Nat} {x : Int32} (hC : xC p s m args meth c D cc nL own) (hdg : decode cc pc = .ok (.putfield index, 3)) {pc' : Nat} (hp : pc + 3 = pc') (hlink : Cond.fieldLink own index (TX2 9).1 (TX2 9).2.1 (TX2 9).2.2.1 ∈ xtbl) (hk : kd o = 2) (k : xV p l e R s m args below meth c D b nL cells slots Q n (xH D b (sw σ o 9 x)) pc' lv rest) : xV p l e R s m args below meth c D b nL cells slots Q n (xH D b σ) pc lv (.int x :: .ref (b + o) :: rest) := by
  refine xi_putfield (ty := .int) tyX2 hC hdg hp hlink xw_lay_X2 tyX2_ok nmX2 rfl (by decide) (xH_at.trans (xsh_2 hk)) rfl (by decide +kernel) rfl rfl (Nat.le_of_ble_eq_true rfl) ?_
  rw [xH_up (g := upd (σ o) 9 x) (by rw [xsh_2 hk]; rfl)]
  exact k
theorem xg2_sent {o index : Nat} (hC : xC p s m args meth c D cc nL own) (hdg : decode cc pc = .ok (.getfield index, 3)) {pc' : Nat} (hp : pc + 3 = pc') (hlink : Cond.fieldLink own index (TX2 10).1 (TX2 10).2.1 (TX2 10).2.2.1 ∈ xtbl) (hk : kd o = 2) (k : xV p l e R s m args below meth c D b nL cells slots Q n (xH D b σ) pc' lv (.int (σ o 10) :: rest)) : xV p l e R s m args below meth c D b nL cells slots Q n (xH D b σ) pc lv (.ref (b + o) :: rest) :=
  xi_getfield hC hdg hp hlink xw_lay_X2 rfl (by decide) (xH_at.trans (xsh_2 hk)) rfl k
theorem xp2_sent {o index : Nat} {x : Int32} (hC : xC p s m args meth c D cc nL own) (hdg : decode cc pc = .ok (.putfield index, 3)) {pc' : Nat} (hp : pc + 3 = pc') (hlink : Cond.fieldLink own index (TX2 10).1 (TX2 10).2.1 (TX2 10).2.2.1 ∈ xtbl) (hk : kd o = 2) (k : xV p l e R s m args below meth c D b nL cells slots Q n (xH D b (sw σ o 10 x)) pc' lv rest) : xV p l e R s m args below meth c D b nL cells slots Q n (xH D b σ) pc lv (.int x :: .ref (b + o) :: rest) := by
  refine xi_putfield (ty := .int) tyX2 hC hdg hp hlink xw_lay_X2 tyX2_ok nmX2 rfl (by decide) (xH_at.trans (xsh_2 hk)) rfl (by decide +kernel) rfl rfl (Nat.le_of_ble_eq_true rfl) ?_
  rw [xH_up (g := upd (σ o) 10 x) (by rw [xsh_2 hk]; rfl)]
  exact k
theorem xg3_first {o index : Nat} (hC : xC p s m args meth c D cc nL own) (hdg : decode cc pc = .ok (.getfield index, 3)) {pc' : Nat} (hp : pc + 3 = pc') (hlink : Cond.fieldLink own index (TX3 0).1 (TX3 0).2.1 (TX3 0).2.2.1 ∈ xtbl) (hk : kd o = 3) (k : xV p l e R s m args below meth c D b nL cells slots Q n (xH D b σ) pc' lv (.ref (b + (oFst o)) :: rest)) : xV p l e R s m args below meth c D b nL cells slots Q n (xH D b σ) pc lv (.ref (b + o) :: rest) :=
  xi_getfield hC hdg hp hlink xw_lay_X3 rfl (by decide) (xH_at.trans (xsh_3 hk)) rfl k
theorem xg3_second {o index : Nat} (hC : xC p s m args meth c D cc nL own) (hdg : decode cc pc = .ok (.getfield index, 3)) {pc' : Nat} (hp : pc + 3 = pc') (hlink : Cond.fieldLink own index (TX3 1).1 (TX3 1).2.1 (TX3 1).2.2.1 ∈ xtbl) (hk : kd o = 3) (k : xV p l e R s m args below meth c D b nL cells slots Q n (xH D b σ) pc' lv (.ref (b + (oSnd o)) :: rest)) : xV p l e R s m args below meth c D b nL cells slots Q n (xH D b σ) pc lv (.ref (b + o) :: rest) :=
  xi_getfield hC hdg hp hlink xw_lay_X3 rfl (by decide) (xH_at.trans (xsh_3 hk)) rfl k
theorem xg3_isHeld {o index : Nat} (hC : xC p s m args meth c D cc nL own) (hdg : decode cc pc = .ok (.getfield index, 3)) {pc' : Nat} (hp : pc + 3 = pc') (hlink : Cond.fieldLink own index (TX3 2).1 (TX3 2).2.1 (TX3 2).2.2.1 ∈ xtbl) (hk : kd o = 3) (k : xV p l e R s m args below meth c D b nL cells slots Q n (xH D b σ) pc' lv (.int (σ o 2) :: rest)) : xV p l e R s m args below meth c D b nL cells slots Q n (xH D b σ) pc lv (.ref (b + o) :: rest) :=
  xi_getfield hC hdg hp hlink xw_lay_X3 rfl (by decide) (xH_at.trans (xsh_3 hk)) rfl k
theorem xp3_isHeld {o index : Nat} {x : Int32} (hC : xC p s m args meth c D cc nL own) (hdg : decode cc pc = .ok (.putfield index, 3)) {pc' : Nat} (hp : pc + 3 = pc') (hlink : Cond.fieldLink own index (TX3 2).1 (TX3 2).2.1 (TX3 2).2.2.1 ∈ xtbl) (hk : kd o = 3) (hx : x = 0 ∨ x = 1) (k : xV p l e R s m args below meth c D b nL cells slots Q n (xH D b (sw σ o 2 x)) pc' lv rest) : xV p l e R s m args below meth c D b nL cells slots Q n (xH D b σ) pc lv (.int x :: .ref (b + o) :: rest) := by
  refine xi_putfield (ty := .boolean) tyX3 hC hdg hp hlink xw_lay_X3 tyX3_ok nmX3 rfl (by decide) (xH_at.trans (xsh_3 hk)) rfl (by decide +kernel) (by rcases hx with rfl | rfl <;> rfl) (by rcases hx with rfl | rfl <;> rfl) (Nat.le_of_ble_eq_true rfl) ?_
  rw [xH_up (g := upd (σ o) 2 x) (by rw [xsh_3 hk]; rfl)]
  exact k
theorem xg3_depth {o index : Nat} (hC : xC p s m args meth c D cc nL own) (hdg : decode cc pc = .ok (.getfield index, 3)) {pc' : Nat} (hp : pc + 3 = pc') (hlink : Cond.fieldLink own index (TX3 3).1 (TX3 3).2.1 (TX3 3).2.2.1 ∈ xtbl) (hk : kd o = 3) (k : xV p l e R s m args below meth c D b nL cells slots Q n (xH D b σ) pc' lv (.int (σ o 3) :: rest)) : xV p l e R s m args below meth c D b nL cells slots Q n (xH D b σ) pc lv (.ref (b + o) :: rest) :=
  xi_getfield hC hdg hp hlink xw_lay_X3 rfl (by decide) (xH_at.trans (xsh_3 hk)) rfl k
theorem xp3_depth {o index : Nat} {x : Int32} (hC : xC p s m args meth c D cc nL own) (hdg : decode cc pc = .ok (.putfield index, 3)) {pc' : Nat} (hp : pc + 3 = pc') (hlink : Cond.fieldLink own index (TX3 3).1 (TX3 3).2.1 (TX3 3).2.2.1 ∈ xtbl) (hk : kd o = 3) (k : xV p l e R s m args below meth c D b nL cells slots Q n (xH D b (sw σ o 3 x)) pc' lv rest) : xV p l e R s m args below meth c D b nL cells slots Q n (xH D b σ) pc lv (.int x :: .ref (b + o) :: rest) := by
  refine xi_putfield (ty := .int) tyX3 hC hdg hp hlink xw_lay_X3 tyX3_ok nmX3 rfl (by decide) (xH_at.trans (xsh_3 hk)) rfl (by decide +kernel) rfl rfl (Nat.le_of_ble_eq_true rfl) ?_
  rw [xH_up (g := upd (σ o) 3 x) (by rw [xsh_3 hk]; rfl)]
  exact k
theorem xg4_signs {o index : Nat} (hC : xC p s m args meth c D cc nL own) (hdg : decode cc pc = .ok (.getfield index, 3)) {pc' : Nat} (hp : pc + 3 = pc') (hlink : Cond.fieldLink own index (TX4 0).1 (TX4 0).2.1 (TX4 0).2.2.1 ∈ xtbl) (hk : kd o = 4) (k : xV p l e R s m args below meth c D b nL cells slots Q n (xH D b σ) pc' lv (.ref (b + oSgn) :: rest)) : xV p l e R s m args below meth c D b nL cells slots Q n (xH D b σ) pc lv (.ref (b + o) :: rest) :=
  xi_getfield hC hdg hp hlink xw_lay_X4 rfl (by decide) (xH_at.trans (xsh_4 hk)) rfl k
theorem xg4_length {o index : Nat} (hC : xC p s m args meth c D cc nL own) (hdg : decode cc pc = .ok (.getfield index, 3)) {pc' : Nat} (hp : pc + 3 = pc') (hlink : Cond.fieldLink own index (TX4 1).1 (TX4 1).2.1 (TX4 1).2.2.1 ∈ xtbl) (hk : kd o = 4) (k : xV p l e R s m args below meth c D b nL cells slots Q n (xH D b σ) pc' lv (.int (σ o 1) :: rest)) : xV p l e R s m args below meth c D b nL cells slots Q n (xH D b σ) pc lv (.ref (b + o) :: rest) :=
  xi_getfield hC hdg hp hlink xw_lay_X4 rfl (by decide) (xH_at.trans (xsh_4 hk)) rfl k
theorem xp4_length {o index : Nat} {x : Int32} (hC : xC p s m args meth c D cc nL own) (hdg : decode cc pc = .ok (.putfield index, 3)) {pc' : Nat} (hp : pc + 3 = pc') (hlink : Cond.fieldLink own index (TX4 1).1 (TX4 1).2.1 (TX4 1).2.2.1 ∈ xtbl) (hk : kd o = 4) (k : xV p l e R s m args below meth c D b nL cells slots Q n (xH D b (sw σ o 1 x)) pc' lv rest) : xV p l e R s m args below meth c D b nL cells slots Q n (xH D b σ) pc lv (.int x :: .ref (b + o) :: rest) := by
  refine xi_putfield (ty := .int) tyX4 hC hdg hp hlink xw_lay_X4 tyX4_ok nmX4 rfl (by decide) (xH_at.trans (xsh_4 hk)) rfl (by decide +kernel) rfl rfl (Nat.le_of_ble_eq_true rfl) ?_
  rw [xH_up (g := upd (σ o) 1 x) (by rw [xsh_4 hk]; rfl)]
  exact k
theorem xg5_numbers {o index : Nat} (hC : xC p s m args meth c D cc nL own) (hdg : decode cc pc = .ok (.getfield index, 3)) {pc' : Nat} (hp : pc + 3 = pc') (hlink : Cond.fieldLink own index (TX5 0).1 (TX5 0).2.1 (TX5 0).2.2.1 ∈ xtbl) (hk : kd o = 5) (k : xV p l e R s m args below meth c D b nL cells slots Q n (xH D b σ) pc' lv (.ref (b + (oNum o)) :: rest)) : xV p l e R s m args below meth c D b nL cells slots Q n (xH D b σ) pc lv (.ref (b + o) :: rest) :=
  xi_getfield hC hdg hp hlink xw_lay_X5 rfl (by decide) (xH_at.trans (xsh_5 hk)) rfl k
theorem xg6_entries {o index : Nat} (hC : xC p s m args meth c D cc nL own) (hdg : decode cc pc = .ok (.getfield index, 3)) {pc' : Nat} (hp : pc + 3 = pc') (hlink : Cond.fieldLink own index (TX6 0).1 (TX6 0).2.1 (TX6 0).2.2.1 ∈ xtbl) (hk : kd o = 6) (k : xV p l e R s m args below meth c D b nL cells slots Q n (xH D b σ) pc' lv (.ref (b + (oEnt o)) :: rest)) : xV p l e R s m args below meth c D b nL cells slots Q n (xH D b σ) pc lv (.ref (b + o) :: rest) :=
  xi_getfield hC hdg hp hlink xw_lay_X6 rfl (by decide) (xH_at.trans (xsh_6 hk)) rfl k
theorem xg6_before {o index : Nat} (hC : xC p s m args meth c D cc nL own) (hdg : decode cc pc = .ok (.getfield index, 3)) {pc' : Nat} (hp : pc + 3 = pc') (hlink : Cond.fieldLink own index (TX6 1).1 (TX6 1).2.1 (TX6 1).2.2.1 ∈ xtbl) (hk : kd o = 6) (k : xV p l e R s m args below meth c D b nL cells slots Q n (xH D b σ) pc' lv (.ref (b + (oBef o)) :: rest)) : xV p l e R s m args below meth c D b nL cells slots Q n (xH D b σ) pc lv (.ref (b + o) :: rest) :=
  xi_getfield hC hdg hp hlink xw_lay_X6 rfl (by decide) (xH_at.trans (xsh_6 hk)) rfl k
theorem xg6_remembered {o index : Nat} (hC : xC p s m args meth c D cc nL own) (hdg : decode cc pc = .ok (.getfield index, 3)) {pc' : Nat} (hp : pc + 3 = pc') (hlink : Cond.fieldLink own index (TX6 2).1 (TX6 2).2.1 (TX6 2).2.2.1 ∈ xtbl) (hk : kd o = 6) (k : xV p l e R s m args below meth c D b nL cells slots Q n (xH D b σ) pc' lv (.int (σ o 2) :: rest)) : xV p l e R s m args below meth c D b nL cells slots Q n (xH D b σ) pc lv (.ref (b + o) :: rest) :=
  xi_getfield hC hdg hp hlink xw_lay_X6 rfl (by decide) (xH_at.trans (xsh_6 hk)) rfl k
theorem xp6_remembered {o index : Nat} {x : Int32} (hC : xC p s m args meth c D cc nL own) (hdg : decode cc pc = .ok (.putfield index, 3)) {pc' : Nat} (hp : pc + 3 = pc') (hlink : Cond.fieldLink own index (TX6 2).1 (TX6 2).2.1 (TX6 2).2.2.1 ∈ xtbl) (hk : kd o = 6) (k : xV p l e R s m args below meth c D b nL cells slots Q n (xH D b (sw σ o 2 x)) pc' lv rest) : xV p l e R s m args below meth c D b nL cells slots Q n (xH D b σ) pc lv (.int x :: .ref (b + o) :: rest) := by
  refine xi_putfield (ty := .int) tyX6 hC hdg hp hlink xw_lay_X6 tyX6_ok nmX6 rfl (by decide) (xH_at.trans (xsh_6 hk)) rfl (by decide +kernel) rfl rfl (Nat.le_of_ble_eq_true rfl) ?_
  rw [xH_up (g := upd (σ o) 2 x) (by rw [xsh_6 hk]; rfl)]
  exact k
theorem xg6_next {o index : Nat} (hC : xC p s m args meth c D cc nL own) (hdg : decode cc pc = .ok (.getfield index, 3)) {pc' : Nat} (hp : pc + 3 = pc') (hlink : Cond.fieldLink own index (TX6 3).1 (TX6 3).2.1 (TX6 3).2.2.1 ∈ xtbl) (hk : kd o = 6) (k : xV p l e R s m args below meth c D b nL cells slots Q n (xH D b σ) pc' lv (.int (σ o 3) :: rest)) : xV p l e R s m args below meth c D b nL cells slots Q n (xH D b σ) pc lv (.ref (b + o) :: rest) :=
  xi_getfield hC hdg hp hlink xw_lay_X6 rfl (by decide) (xH_at.trans (xsh_6 hk)) rfl k
theorem xp6_next {o index : Nat} {x : Int32} (hC : xC p s m args meth c D cc nL own) (hdg : decode cc pc = .ok (.putfield index, 3)) {pc' : Nat} (hp : pc + 3 = pc') (hlink : Cond.fieldLink own index (TX6 3).1 (TX6 3).2.1 (TX6 3).2.2.1 ∈ xtbl) (hk : kd o = 6) (k : xV p l e R s m args below meth c D b nL cells slots Q n (xH D b (sw σ o 3 x)) pc' lv rest) : xV p l e R s m args below meth c D b nL cells slots Q n (xH D b σ) pc lv (.int x :: .ref (b + o) :: rest) := by
  refine xi_putfield (ty := .int) tyX6 hC hdg hp hlink xw_lay_X6 tyX6_ok nmX6 rfl (by decide) (xH_at.trans (xsh_6 hk)) rfl (by decide +kernel) rfl rfl (Nat.le_of_ble_eq_true rfl) ?_
  rw [xH_up (g := upd (σ o) 3 x) (by rw [xsh_6 hk]; rfl)]
  exact k
theorem xg7_members {o index : Nat} (hC : xC p s m args meth c D cc nL own) (hdg : decode cc pc = .ok (.getfield index, 3)) {pc' : Nat} (hp : pc + 3 = pc') (hlink : Cond.fieldLink own index (TX7 0).1 (TX7 0).2.1 (TX7 0).2.2.1 ∈ xtbl) (hk : kd o = 7) (k : xV p l e R s m args below meth c D b nL cells slots Q n (xH D b σ) pc' lv (.ref (b + oMs) :: rest)) : xV p l e R s m args below meth c D b nL cells slots Q n (xH D b σ) pc lv (.ref (b + o) :: rest) :=
  xi_getfield hC hdg hp hlink xw_lay_X7 rfl (by decide) (xH_at.trans (xsh_7 hk)) rfl k
theorem xg7_views {o index : Nat} (hC : xC p s m args meth c D cc nL own) (hdg : decode cc pc = .ok (.getfield index, 3)) {pc' : Nat} (hp : pc + 3 = pc') (hlink : Cond.fieldLink own index (TX7 1).1 (TX7 1).2.1 (TX7 1).2.2.1 ∈ xtbl) (hk : kd o = 7) (k : xV p l e R s m args below meth c D b nL cells slots Q n (xH D b σ) pc' lv (.ref (b + oVws) :: rest)) : xV p l e R s m args below meth c D b nL cells slots Q n (xH D b σ) pc lv (.ref (b + o) :: rest) :=
  xi_getfield hC hdg hp hlink xw_lay_X7 rfl (by decide) (xH_at.trans (xsh_7 hk)) rfl k
theorem xg7_script {o index : Nat} (hC : xC p s m args meth c D cc nL own) (hdg : decode cc pc = .ok (.getfield index, 3)) {pc' : Nat} (hp : pc + 3 = pc') (hlink : Cond.fieldLink own index (TX7 2).1 (TX7 2).2.1 (TX7 2).2.2.1 ∈ xtbl) (hk : kd o = 7) (k : xV p l e R s m args below meth c D b nL cells slots Q n (xH D b σ) pc' lv (.ref (b + oScr) :: rest)) : xV p l e R s m args below meth c D b nL cells slots Q n (xH D b σ) pc lv (.ref (b + o) :: rest) :=
  xi_getfield hC hdg hp hlink xw_lay_X7 rfl (by decide) (xH_at.trans (xsh_7 hk)) rfl k
theorem xg7_users {o index : Nat} (hC : xC p s m args meth c D cc nL own) (hdg : decode cc pc = .ok (.getfield index, 3)) {pc' : Nat} (hp : pc + 3 = pc') (hlink : Cond.fieldLink own index (TX7 3).1 (TX7 3).2.1 (TX7 3).2.2.1 ∈ xtbl) (hk : kd o = 7) (k : xV p l e R s m args below meth c D b nL cells slots Q n (xH D b σ) pc' lv (.int (σ o 3) :: rest)) : xV p l e R s m args below meth c D b nL cells slots Q n (xH D b σ) pc lv (.ref (b + o) :: rest) :=
  xi_getfield hC hdg hp hlink xw_lay_X7 rfl (by decide) (xH_at.trans (xsh_7 hk)) rfl k
theorem xp7_users {o index : Nat} {x : Int32} (hC : xC p s m args meth c D cc nL own) (hdg : decode cc pc = .ok (.putfield index, 3)) {pc' : Nat} (hp : pc + 3 = pc') (hlink : Cond.fieldLink own index (TX7 3).1 (TX7 3).2.1 (TX7 3).2.2.1 ∈ xtbl) (hk : kd o = 7) (k : xV p l e R s m args below meth c D b nL cells slots Q n (xH D b (sw σ o 3 x)) pc' lv rest) : xV p l e R s m args below meth c D b nL cells slots Q n (xH D b σ) pc lv (.int x :: .ref (b + o) :: rest) := by
  refine xi_putfield (ty := .int) tyX7 hC hdg hp hlink xw_lay_X7 tyX7_ok nmX7 rfl (by decide) (xH_at.trans (xsh_7 hk)) rfl (by decide +kernel) rfl rfl (Nat.le_of_ble_eq_true rfl) ?_
  rw [xH_up (g := upd (σ o) 3 x) (by rw [xsh_7 hk]; rfl)]
  exact k
theorem xg7_viewCount {o index : Nat} (hC : xC p s m args meth c D cc nL own) (hdg : decode cc pc = .ok (.getfield index, 3)) {pc' : Nat} (hp : pc + 3 = pc') (hlink : Cond.fieldLink own index (TX7 4).1 (TX7 4).2.1 (TX7 4).2.2.1 ∈ xtbl) (hk : kd o = 7) (k : xV p l e R s m args below meth c D b nL cells slots Q n (xH D b σ) pc' lv (.int (σ o 4) :: rest)) : xV p l e R s m args below meth c D b nL cells slots Q n (xH D b σ) pc lv (.ref (b + o) :: rest) :=
  xi_getfield hC hdg hp hlink xw_lay_X7 rfl (by decide) (xH_at.trans (xsh_7 hk)) rfl k
theorem xp7_viewCount {o index : Nat} {x : Int32} (hC : xC p s m args meth c D cc nL own) (hdg : decode cc pc = .ok (.putfield index, 3)) {pc' : Nat} (hp : pc + 3 = pc') (hlink : Cond.fieldLink own index (TX7 4).1 (TX7 4).2.1 (TX7 4).2.2.1 ∈ xtbl) (hk : kd o = 7) (k : xV p l e R s m args below meth c D b nL cells slots Q n (xH D b (sw σ o 4 x)) pc' lv rest) : xV p l e R s m args below meth c D b nL cells slots Q n (xH D b σ) pc lv (.int x :: .ref (b + o) :: rest) := by
  refine xi_putfield (ty := .int) tyX7 hC hdg hp hlink xw_lay_X7 tyX7_ok nmX7 rfl (by decide) (xH_at.trans (xsh_7 hk)) rfl (by decide +kernel) rfl rfl (Nat.le_of_ble_eq_true rfl) ?_
  rw [xH_up (g := upd (σ o) 4 x) (by rw [xsh_7 hk]; rfl)]
  exact k
theorem xg8_users {o index : Nat} (hC : xC p s m args meth c D cc nL own) (hdg : decode cc pc = .ok (.getfield index, 3)) {pc' : Nat} (hp : pc + 3 = pc') (hlink : Cond.fieldLink own index (TX8 0).1 (TX8 0).2.1 (TX8 0).2.2.1 ∈ xtbl) (hk : kd o = 8) (k : xV p l e R s m args below meth c D b nL cells slots Q n (xH D b σ) pc' lv (.int (σ o 0) :: rest)) : xV p l e R s m args below meth c D b nL cells slots Q n (xH D b σ) pc lv (.ref (b + o) :: rest) :=
  xi_getfield hC hdg hp hlink xw_lay_X8 rfl (by decide) (xH_at.trans (xsh_8 hk)) rfl k
theorem xp8_users {o index : Nat} {x : Int32} (hC : xC p s m args meth c D cc nL own) (hdg : decode cc pc = .ok (.putfield index, 3)) {pc' : Nat} (hp : pc + 3 = pc') (hlink : Cond.fieldLink own index (TX8 0).1 (TX8 0).2.1 (TX8 0).2.2.1 ∈ xtbl) (hk : kd o = 8) (k : xV p l e R s m args below meth c D b nL cells slots Q n (xH D b (sw σ o 0 x)) pc' lv rest) : xV p l e R s m args below meth c D b nL cells slots Q n (xH D b σ) pc lv (.int x :: .ref (b + o) :: rest) := by
  refine xi_putfield (ty := .int) tyX8 hC hdg hp hlink xw_lay_X8 tyX8_ok nmX8 rfl (by decide) (xH_at.trans (xsh_8 hk)) rfl (by decide +kernel) rfl rfl (Nat.le_of_ble_eq_true rfl) ?_
  rw [xH_up (g := upd (σ o) 0 x) (by rw [xsh_8 hk]; rfl)]
  exact k
theorem xg8_views {o index : Nat} (hC : xC p s m args meth c D cc nL own) (hdg : decode cc pc = .ok (.getfield index, 3)) {pc' : Nat} (hp : pc + 3 = pc') (hlink : Cond.fieldLink own index (TX8 1).1 (TX8 1).2.1 (TX8 1).2.2.1 ∈ xtbl) (hk : kd o = 8) (k : xV p l e R s m args below meth c D b nL cells slots Q n (xH D b σ) pc' lv (.int (σ o 1) :: rest)) : xV p l e R s m args below meth c D b nL cells slots Q n (xH D b σ) pc lv (.ref (b + o) :: rest) :=
  xi_getfield hC hdg hp hlink xw_lay_X8 rfl (by decide) (xH_at.trans (xsh_8 hk)) rfl k
theorem xp8_views {o index : Nat} {x : Int32} (hC : xC p s m args meth c D cc nL own) (hdg : decode cc pc = .ok (.putfield index, 3)) {pc' : Nat} (hp : pc + 3 = pc') (hlink : Cond.fieldLink own index (TX8 1).1 (TX8 1).2.1 (TX8 1).2.2.1 ∈ xtbl) (hk : kd o = 8) (k : xV p l e R s m args below meth c D b nL cells slots Q n (xH D b (sw σ o 1 x)) pc' lv rest) : xV p l e R s m args below meth c D b nL cells slots Q n (xH D b σ) pc lv (.int x :: .ref (b + o) :: rest) := by
  refine xi_putfield (ty := .int) tyX8 hC hdg hp hlink xw_lay_X8 tyX8_ok nmX8 rfl (by decide) (xH_at.trans (xsh_8 hk)) rfl (by decide +kernel) rfl rfl (Nat.le_of_ble_eq_true rfl) ?_
  rw [xH_up (g := upd (σ o) 1 x) (by rw [xsh_8 hk]; rfl)]
  exact k
theorem xg8_operations {o index : Nat} (hC : xC p s m args meth c D cc nL own) (hdg : decode cc pc = .ok (.getfield index, 3)) {pc' : Nat} (hp : pc + 3 = pc') (hlink : Cond.fieldLink own index (TX8 2).1 (TX8 2).2.1 (TX8 2).2.2.1 ∈ xtbl) (hk : kd o = 8) (k : xV p l e R s m args below meth c D b nL cells slots Q n (xH D b σ) pc' lv (.int (σ o 2) :: rest)) : xV p l e R s m args below meth c D b nL cells slots Q n (xH D b σ) pc lv (.ref (b + o) :: rest) :=
  xi_getfield hC hdg hp hlink xw_lay_X8 rfl (by decide) (xH_at.trans (xsh_8 hk)) rfl k
theorem xp8_operations {o index : Nat} {x : Int32} (hC : xC p s m args meth c D cc nL own) (hdg : decode cc pc = .ok (.putfield index, 3)) {pc' : Nat} (hp : pc + 3 = pc') (hlink : Cond.fieldLink own index (TX8 2).1 (TX8 2).2.1 (TX8 2).2.2.1 ∈ xtbl) (hk : kd o = 8) (k : xV p l e R s m args below meth c D b nL cells slots Q n (xH D b (sw σ o 2 x)) pc' lv rest) : xV p l e R s m args below meth c D b nL cells slots Q n (xH D b σ) pc lv (.int x :: .ref (b + o) :: rest) := by
  refine xi_putfield (ty := .int) tyX8 hC hdg hp hlink xw_lay_X8 tyX8_ok nmX8 rfl (by decide) (xH_at.trans (xsh_8 hk)) rfl (by decide +kernel) rfl rfl (Nat.le_of_ble_eq_true rfl) ?_
  rw [xH_up (g := upd (σ o) 2 x) (by rw [xsh_8 hk]; rfl)]
  exact k
theorem xg8_row {o index : Nat} (hC : xC p s m args meth c D cc nL own) (hdg : decode cc pc = .ok (.getfield index, 3)) {pc' : Nat} (hp : pc + 3 = pc') (hlink : Cond.fieldLink own index (TX8 3).1 (TX8 3).2.1 (TX8 3).2.2.1 ∈ xtbl) (hk : kd o = 8) (k : xV p l e R s m args below meth c D b nL cells slots Q n (xH D b σ) pc' lv (.ref (b + m_row) :: rest)) : xV p l e R s m args below meth c D b nL cells slots Q n (xH D b σ) pc lv (.ref (b + o) :: rest) :=
  xi_getfield hC hdg hp hlink xw_lay_X8 rfl (by decide) (xH_at.trans (xsh_8 hk)) rfl k
theorem xg8_keptOf {o index : Nat} (hC : xC p s m args meth c D cc nL own) (hdg : decode cc pc = .ok (.getfield index, 3)) {pc' : Nat} (hp : pc + 3 = pc') (hlink : Cond.fieldLink own index (TX8 4).1 (TX8 4).2.1 (TX8 4).2.2.1 ∈ xtbl) (hk : kd o = 8) (k : xV p l e R s m args below meth c D b nL cells slots Q n (xH D b σ) pc' lv (.ref (b + m_keptOf) :: rest)) : xV p l e R s m args below meth c D b nL cells slots Q n (xH D b σ) pc lv (.ref (b + o) :: rest) :=
  xi_getfield hC hdg hp hlink xw_lay_X8 rfl (by decide) (xH_at.trans (xsh_8 hk)) rfl k
theorem xg8_keptRow {o index : Nat} (hC : xC p s m args meth c D cc nL own) (hdg : decode cc pc = .ok (.getfield index, 3)) {pc' : Nat} (hp : pc + 3 = pc') (hlink : Cond.fieldLink own index (TX8 5).1 (TX8 5).2.1 (TX8 5).2.2.1 ∈ xtbl) (hk : kd o = 8) (k : xV p l e R s m args below meth c D b nL cells slots Q n (xH D b σ) pc' lv (.ref (b + m_keptRow) :: rest)) : xV p l e R s m args below meth c D b nL cells slots Q n (xH D b σ) pc lv (.ref (b + o) :: rest) :=
  xi_getfield hC hdg hp hlink xw_lay_X8 rfl (by decide) (xH_at.trans (xsh_8 hk)) rfl k
theorem xg8_viewOf {o index : Nat} (hC : xC p s m args meth c D cc nL own) (hdg : decode cc pc = .ok (.getfield index, 3)) {pc' : Nat} (hp : pc + 3 = pc') (hlink : Cond.fieldLink own index (TX8 6).1 (TX8 6).2.1 (TX8 6).2.2.1 ∈ xtbl) (hk : kd o = 8) (k : xV p l e R s m args below meth c D b nL cells slots Q n (xH D b σ) pc' lv (.ref (b + m_viewOf) :: rest)) : xV p l e R s m args below meth c D b nL cells slots Q n (xH D b σ) pc lv (.ref (b + o) :: rest) :=
  xi_getfield hC hdg hp hlink xw_lay_X8 rfl (by decide) (xH_at.trans (xsh_8 hk)) rfl k
theorem xg8_alarmOf {o index : Nat} (hC : xC p s m args meth c D cc nL own) (hdg : decode cc pc = .ok (.getfield index, 3)) {pc' : Nat} (hp : pc + 3 = pc') (hlink : Cond.fieldLink own index (TX8 7).1 (TX8 7).2.1 (TX8 7).2.2.1 ∈ xtbl) (hk : kd o = 8) (k : xV p l e R s m args below meth c D b nL cells slots Q n (xH D b σ) pc' lv (.ref (b + m_alarmOf) :: rest)) : xV p l e R s m args below meth c D b nL cells slots Q n (xH D b σ) pc lv (.ref (b + o) :: rest) :=
  xi_getfield hC hdg hp hlink xw_lay_X8 rfl (by decide) (xH_at.trans (xsh_8 hk)) rfl k
theorem xg8_hasProof {o index : Nat} (hC : xC p s m args meth c D cc nL own) (hdg : decode cc pc = .ok (.getfield index, 3)) {pc' : Nat} (hp : pc + 3 = pc') (hlink : Cond.fieldLink own index (TX8 8).1 (TX8 8).2.1 (TX8 8).2.2.1 ∈ xtbl) (hk : kd o = 8) (k : xV p l e R s m args below meth c D b nL cells slots Q n (xH D b σ) pc' lv (.ref (b + m_hasProof) :: rest)) : xV p l e R s m args below meth c D b nL cells slots Q n (xH D b σ) pc lv (.ref (b + o) :: rest) :=
  xi_getfield hC hdg hp hlink xw_lay_X8 rfl (by decide) (xH_at.trans (xsh_8 hk)) rfl k
theorem xg8_depthOf {o index : Nat} (hC : xC p s m args meth c D cc nL own) (hdg : decode cc pc = .ok (.getfield index, 3)) {pc' : Nat} (hp : pc + 3 = pc') (hlink : Cond.fieldLink own index (TX8 9).1 (TX8 9).2.1 (TX8 9).2.2.1 ∈ xtbl) (hk : kd o = 8) (k : xV p l e R s m args below meth c D b nL cells slots Q n (xH D b σ) pc' lv (.ref (b + m_depthOf) :: rest)) : xV p l e R s m args below meth c D b nL cells slots Q n (xH D b σ) pc lv (.ref (b + o) :: rest) :=
  xi_getfield hC hdg hp hlink xw_lay_X8 rfl (by decide) (xH_at.trans (xsh_8 hk)) rfl k
theorem xg8_proofOf {o index : Nat} (hC : xC p s m args meth c D cc nL own) (hdg : decode cc pc = .ok (.getfield index, 3)) {pc' : Nat} (hp : pc + 3 = pc') (hlink : Cond.fieldLink own index (TX8 10).1 (TX8 10).2.1 (TX8 10).2.2.1 ∈ xtbl) (hk : kd o = 8) (k : xV p l e R s m args below meth c D b nL cells slots Q n (xH D b σ) pc' lv (.ref (b + m_proofOf) :: rest)) : xV p l e R s m args below meth c D b nL cells slots Q n (xH D b σ) pc lv (.ref (b + o) :: rest) :=
  xi_getfield hC hdg hp hlink xw_lay_X8 rfl (by decide) (xH_at.trans (xsh_8 hk)) rfl k
theorem xg8_signedOf {o index : Nat} (hC : xC p s m args meth c D cc nL own) (hdg : decode cc pc = .ok (.getfield index, 3)) {pc' : Nat} (hp : pc + 3 = pc') (hlink : Cond.fieldLink own index (TX8 11).1 (TX8 11).2.1 (TX8 11).2.2.1 ∈ xtbl) (hk : kd o = 8) (k : xV p l e R s m args below meth c D b nL cells slots Q n (xH D b σ) pc' lv (.ref (b + m_signedOf) :: rest)) : xV p l e R s m args below meth c D b nL cells slots Q n (xH D b σ) pc lv (.ref (b + o) :: rest) :=
  xi_getfield hC hdg hp hlink xw_lay_X8 rfl (by decide) (xH_at.trans (xsh_8 hk)) rfl k
theorem xg8_knownOf {o index : Nat} (hC : xC p s m args meth c D cc nL own) (hdg : decode cc pc = .ok (.getfield index, 3)) {pc' : Nat} (hp : pc + 3 = pc') (hlink : Cond.fieldLink own index (TX8 12).1 (TX8 12).2.1 (TX8 12).2.2.1 ∈ xtbl) (hk : kd o = 8) (k : xV p l e R s m args below meth c D b nL cells slots Q n (xH D b σ) pc' lv (.ref (b + m_knownOf) :: rest)) : xV p l e R s m args below meth c D b nL cells slots Q n (xH D b σ) pc lv (.ref (b + o) :: rest) :=
  xi_getfield hC hdg hp hlink xw_lay_X8 rfl (by decide) (xH_at.trans (xsh_8 hk)) rfl k
theorem xg8_doneOf {o index : Nat} (hC : xC p s m args meth c D cc nL own) (hdg : decode cc pc = .ok (.getfield index, 3)) {pc' : Nat} (hp : pc + 3 = pc') (hlink : Cond.fieldLink own index (TX8 13).1 (TX8 13).2.1 (TX8 13).2.2.1 ∈ xtbl) (hk : kd o = 8) (k : xV p l e R s m args below meth c D b nL cells slots Q n (xH D b σ) pc' lv (.ref (b + m_doneOf) :: rest)) : xV p l e R s m args below meth c D b nL cells slots Q n (xH D b σ) pc lv (.ref (b + o) :: rest) :=
  xi_getfield hC hdg hp hlink xw_lay_X8 rfl (by decide) (xH_at.trans (xsh_8 hk)) rfl k
theorem xg8_shownTo {o index : Nat} (hC : xC p s m args meth c D cc nL own) (hdg : decode cc pc = .ok (.getfield index, 3)) {pc' : Nat} (hp : pc + 3 = pc') (hlink : Cond.fieldLink own index (TX8 14).1 (TX8 14).2.1 (TX8 14).2.2.1 ∈ xtbl) (hk : kd o = 8) (k : xV p l e R s m args below meth c D b nL cells slots Q n (xH D b σ) pc' lv (.ref (b + m_shownTo) :: rest)) : xV p l e R s m args below meth c D b nL cells slots Q n (xH D b σ) pc lv (.ref (b + o) :: rest) :=
  xi_getfield hC hdg hp hlink xw_lay_X8 rfl (by decide) (xH_at.trans (xsh_8 hk)) rfl k
theorem xg8_sentBy {o index : Nat} (hC : xC p s m args meth c D cc nL own) (hdg : decode cc pc = .ok (.getfield index, 3)) {pc' : Nat} (hp : pc + 3 = pc') (hlink : Cond.fieldLink own index (TX8 15).1 (TX8 15).2.1 (TX8 15).2.2.1 ∈ xtbl) (hk : kd o = 8) (k : xV p l e R s m args below meth c D b nL cells slots Q n (xH D b σ) pc' lv (.ref (b + m_sentBy) :: rest)) : xV p l e R s m args below meth c D b nL cells slots Q n (xH D b σ) pc lv (.ref (b + o) :: rest) :=
  xi_getfield hC hdg hp hlink xw_lay_X8 rfl (by decide) (xH_at.trans (xsh_8 hk)) rfl k
theorem xg8_hasRead {o index : Nat} (hC : xC p s m args meth c D cc nL own) (hdg : decode cc pc = .ok (.getfield index, 3)) {pc' : Nat} (hp : pc + 3 = pc') (hlink : Cond.fieldLink own index (TX8 16).1 (TX8 16).2.1 (TX8 16).2.2.1 ∈ xtbl) (hk : kd o = 8) (k : xV p l e R s m args below meth c D b nL cells slots Q n (xH D b σ) pc' lv (.ref (b + m_hasRead) :: rest)) : xV p l e R s m args below meth c D b nL cells slots Q n (xH D b σ) pc lv (.ref (b + o) :: rest) :=
  xi_getfield hC hdg hp hlink xw_lay_X8 rfl (by decide) (xH_at.trans (xsh_8 hk)) rfl k
theorem xg8_readOf {o index : Nat} (hC : xC p s m args meth c D cc nL own) (hdg : decode cc pc = .ok (.getfield index, 3)) {pc' : Nat} (hp : pc + 3 = pc') (hlink : Cond.fieldLink own index (TX8 17).1 (TX8 17).2.1 (TX8 17).2.2.1 ∈ xtbl) (hk : kd o = 8) (k : xV p l e R s m args below meth c D b nL cells slots Q n (xH D b σ) pc' lv (.ref (b + m_readOf) :: rest)) : xV p l e R s m args below meth c D b nL cells slots Q n (xH D b σ) pc lv (.ref (b + o) :: rest) :=
  xi_getfield hC hdg hp hlink xw_lay_X8 rfl (by decide) (xH_at.trans (xsh_8 hk)) rfl k
theorem xg8_lettersOf {o index : Nat} (hC : xC p s m args meth c D cc nL own) (hdg : decode cc pc = .ok (.getfield index, 3)) {pc' : Nat} (hp : pc + 3 = pc') (hlink : Cond.fieldLink own index (TX8 18).1 (TX8 18).2.1 (TX8 18).2.2.1 ∈ xtbl) (hk : kd o = 8) (k : xV p l e R s m args below meth c D b nL cells slots Q n (xH D b σ) pc' lv (.ref (b + m_lettersOf) :: rest)) : xV p l e R s m args below meth c D b nL cells slots Q n (xH D b σ) pc lv (.ref (b + o) :: rest) :=
  xi_getfield hC hdg hp hlink xw_lay_X8 rfl (by decide) (xH_at.trans (xsh_8 hk)) rfl k
theorem xg8_letter {o index : Nat} (hC : xC p s m args meth c D cc nL own) (hdg : decode cc pc = .ok (.getfield index, 3)) {pc' : Nat} (hp : pc + 3 = pc') (hlink : Cond.fieldLink own index (TX8 19).1 (TX8 19).2.1 (TX8 19).2.2.1 ∈ xtbl) (hk : kd o = 8) (k : xV p l e R s m args below meth c D b nL cells slots Q n (xH D b σ) pc' lv (.ref (b + m_letter) :: rest)) : xV p l e R s m args below meth c D b nL cells slots Q n (xH D b σ) pc lv (.ref (b + o) :: rest) :=
  xi_getfield hC hdg hp hlink xw_lay_X8 rfl (by decide) (xH_at.trans (xsh_8 hk)) rfl k
theorem xg8_pairOne {o index : Nat} (hC : xC p s m args meth c D cc nL own) (hdg : decode cc pc = .ok (.getfield index, 3)) {pc' : Nat} (hp : pc + 3 = pc') (hlink : Cond.fieldLink own index (TX8 20).1 (TX8 20).2.1 (TX8 20).2.2.1 ∈ xtbl) (hk : kd o = 8) (k : xV p l e R s m args below meth c D b nL cells slots Q n (xH D b σ) pc' lv (.int (σ o 20) :: rest)) : xV p l e R s m args below meth c D b nL cells slots Q n (xH D b σ) pc lv (.ref (b + o) :: rest) :=
  xi_getfield hC hdg hp hlink xw_lay_X8 rfl (by decide) (xH_at.trans (xsh_8 hk)) rfl k
theorem xp8_pairOne {o index : Nat} {x : Int32} (hC : xC p s m args meth c D cc nL own) (hdg : decode cc pc = .ok (.putfield index, 3)) {pc' : Nat} (hp : pc + 3 = pc') (hlink : Cond.fieldLink own index (TX8 20).1 (TX8 20).2.1 (TX8 20).2.2.1 ∈ xtbl) (hk : kd o = 8) (k : xV p l e R s m args below meth c D b nL cells slots Q n (xH D b (sw σ o 20 x)) pc' lv rest) : xV p l e R s m args below meth c D b nL cells slots Q n (xH D b σ) pc lv (.int x :: .ref (b + o) :: rest) := by
  refine xi_putfield (ty := .int) tyX8 hC hdg hp hlink xw_lay_X8 tyX8_ok nmX8 rfl (by decide) (xH_at.trans (xsh_8 hk)) rfl (by decide +kernel) rfl rfl (Nat.le_of_ble_eq_true rfl) ?_
  rw [xH_up (g := upd (σ o) 20 x) (by rw [xsh_8 hk]; rfl)]
  exact k
theorem xg8_pairTwo {o index : Nat} (hC : xC p s m args meth c D cc nL own) (hdg : decode cc pc = .ok (.getfield index, 3)) {pc' : Nat} (hp : pc + 3 = pc') (hlink : Cond.fieldLink own index (TX8 21).1 (TX8 21).2.1 (TX8 21).2.2.1 ∈ xtbl) (hk : kd o = 8) (k : xV p l e R s m args below meth c D b nL cells slots Q n (xH D b σ) pc' lv (.int (σ o 21) :: rest)) : xV p l e R s m args below meth c D b nL cells slots Q n (xH D b σ) pc lv (.ref (b + o) :: rest) :=
  xi_getfield hC hdg hp hlink xw_lay_X8 rfl (by decide) (xH_at.trans (xsh_8 hk)) rfl k
theorem xp8_pairTwo {o index : Nat} {x : Int32} (hC : xC p s m args meth c D cc nL own) (hdg : decode cc pc = .ok (.putfield index, 3)) {pc' : Nat} (hp : pc + 3 = pc') (hlink : Cond.fieldLink own index (TX8 21).1 (TX8 21).2.1 (TX8 21).2.2.1 ∈ xtbl) (hk : kd o = 8) (k : xV p l e R s m args below meth c D b nL cells slots Q n (xH D b (sw σ o 21 x)) pc' lv rest) : xV p l e R s m args below meth c D b nL cells slots Q n (xH D b σ) pc lv (.int x :: .ref (b + o) :: rest) := by
  refine xi_putfield (ty := .int) tyX8 hC hdg hp hlink xw_lay_X8 tyX8_ok nmX8 rfl (by decide) (xH_at.trans (xsh_8 hk)) rfl (by decide +kernel) rfl rfl (Nat.le_of_ble_eq_true rfl) ?_
  rw [xH_up (g := upd (σ o) 21 x) (by rw [xsh_8 hk]; rfl)]
  exact k
theorem xg8_hand {o index : Nat} (hC : xC p s m args meth c D cc nL own) (hdg : decode cc pc = .ok (.getfield index, 3)) {pc' : Nat} (hp : pc + 3 = pc') (hlink : Cond.fieldLink own index (TX8 22).1 (TX8 22).2.1 (TX8 22).2.2.1 ∈ xtbl) (hk : kd o = 8) (k : xV p l e R s m args below meth c D b nL cells slots Q n (xH D b σ) pc' lv (.ref (b + m_hand) :: rest)) : xV p l e R s m args below meth c D b nL cells slots Q n (xH D b σ) pc lv (.ref (b + o) :: rest) :=
  xi_getfield hC hdg hp hlink xw_lay_X8 rfl (by decide) (xH_at.trans (xsh_8 hk)) rfl k
theorem xg8_typed {o index : Nat} (hC : xC p s m args meth c D cc nL own) (hdg : decode cc pc = .ok (.getfield index, 3)) {pc' : Nat} (hp : pc + 3 = pc') (hlink : Cond.fieldLink own index (TX8 23).1 (TX8 23).2.1 (TX8 23).2.2.1 ∈ xtbl) (hk : kd o = 8) (k : xV p l e R s m args below meth c D b nL cells slots Q n (xH D b σ) pc' lv (.int (σ o 23) :: rest)) : xV p l e R s m args below meth c D b nL cells slots Q n (xH D b σ) pc lv (.ref (b + o) :: rest) :=
  xi_getfield hC hdg hp hlink xw_lay_X8 rfl (by decide) (xH_at.trans (xsh_8 hk)) rfl k
theorem xp8_typed {o index : Nat} {x : Int32} (hC : xC p s m args meth c D cc nL own) (hdg : decode cc pc = .ok (.putfield index, 3)) {pc' : Nat} (hp : pc + 3 = pc') (hlink : Cond.fieldLink own index (TX8 23).1 (TX8 23).2.1 (TX8 23).2.2.1 ∈ xtbl) (hk : kd o = 8) (k : xV p l e R s m args below meth c D b nL cells slots Q n (xH D b (sw σ o 23 x)) pc' lv rest) : xV p l e R s m args below meth c D b nL cells slots Q n (xH D b σ) pc lv (.int x :: .ref (b + o) :: rest) := by
  refine xi_putfield (ty := .int) tyX8 hC hdg hp hlink xw_lay_X8 tyX8_ok nmX8 rfl (by decide) (xH_at.trans (xsh_8 hk)) rfl (by decide +kernel) rfl rfl (Nat.le_of_ble_eq_true rfl) ?_
  rw [xH_up (g := upd (σ o) 23 x) (by rw [xsh_8 hk]; rfl)]
  exact k
theorem xg8_text {o index : Nat} (hC : xC p s m args meth c D cc nL own) (hdg : decode cc pc = .ok (.getfield index, 3)) {pc' : Nat} (hp : pc + 3 = pc') (hlink : Cond.fieldLink own index (TX8 24).1 (TX8 24).2.1 (TX8 24).2.2.1 ∈ xtbl) (hk : kd o = 8) (k : xV p l e R s m args below meth c D b nL cells slots Q n (xH D b σ) pc' lv (.ref (b + m_text) :: rest)) : xV p l e R s m args below meth c D b nL cells slots Q n (xH D b σ) pc lv (.ref (b + o) :: rest) :=
  xi_getfield hC hdg hp hlink xw_lay_X8 rfl (by decide) (xH_at.trans (xsh_8 hk)) rfl k
theorem xa_members {o j : Nat} {i : Int32} (hC : xC p s m args meth c D cc nL own) (hdg : decode cc pc = .ok (.aaload, 1)) {pc' : Nat} (hp : pc + 1 = pc') (hk : kd o = 23) (hi : i = nI j) (hj : j < 5) (k : xV p l e R s m args below meth c D b nL cells slots Q n (xH D b σ) pc' lv (.ref (b + oMem j) :: rest)) : xV p l e R s m args below meth c D b nL cells slots Q n (xH D b σ) pc lv (.int i :: .ref (b + o) :: rest) :=
  xi_aaload (t0 := 3) (C := RX2) hC hdg hp (xH_at.trans (xsh_23 hk)) rfl hi hj (by decide) (if_pos hj) k
theorem xa_views {o j : Nat} {i : Int32} (hC : xC p s m args meth c D cc nL own) (hdg : decode cc pc = .ok (.aaload, 1)) {pc' : Nat} (hp : pc + 1 = pc') (hk : kd o = 24) (hi : i = nI j) (hj : j < 6) (k : xV p l e R s m args below meth c D b nL cells slots Q n (xH D b σ) pc' lv (.ref (b + oVw j) :: rest)) : xV p l e R s m args below meth c D b nL cells slots Q n (xH D b σ) pc lv (.int i :: .ref (b + o) :: rest) :=
  xi_aaload (t0 := 4) (C := RX6) hC hdg hp (xH_at.trans (xsh_24 hk)) rfl hi hj (by decide) (if_pos hj) k
theorem xa_before {o j : Nat} {i : Int32} (hC : xC p s m args meth c D cc nL own) (hdg : decode cc pc = .ok (.aaload, 1)) {pc' : Nat} (hp : pc + 1 = pc') (hk : kd o = 25) (hi : i = nI j) (hj : j < 5) (k : xV p l e R s m args below meth c D b nL cells slots Q n (xH D b σ) pc' lv (.ref (b + oBk o j) :: rest)) : xV p l e R s m args below meth c D b nL cells slots Q n (xH D b σ) pc lv (.int i :: .ref (b + o) :: rest) :=
  xi_aaload (t0 := 5) (C := RX1) hC hdg hp (xH_at.trans (xsh_25 hk)) rfl hi hj (by decide) (if_pos hj) k
theorem xa_vectors {o j : Nat} {i : Int32} (hC : xC p s m args meth c D cc nL own) (hdg : decode cc pc = .ok (.aaload, 1)) {pc' : Nat} (hp : pc + 1 = pc') (hk : kd o = 26) (hi : i = nI j) (hj : j < 5) (k : xV p l e R s m args below meth c D b nL cells slots Q n (xH D b σ) pc' lv (.ref (b + oVec o j) :: rest)) : xV p l e R s m args below meth c D b nL cells slots Q n (xH D b σ) pc lv (.int i :: .ref (b + o) :: rest) :=
  xi_aaload (t0 := 6) (C := RX5) hC hdg hp (xH_at.trans (xsh_26 hk)) rfl hi hj (by decide) (if_pos hj) k
theorem xa_letters {o j : Nat} {i : Int32} (hC : xC p s m args meth c D cc nL own) (hdg : decode cc pc = .ok (.aaload, 1)) {pc' : Nat} (hp : pc + 1 = pc') (hk : kd o = 27) (hi : i = nI j) (hj : j < 4) (k : xV p l e R s m args below meth c D b nL cells slots Q n (xH D b σ) pc' lv (.ref (b + oLet o j) :: rest)) : xV p l e R s m args below meth c D b nL cells slots Q n (xH D b σ) pc lv (.int i :: .ref (b + o) :: rest) :=
  xi_aaload (t0 := 6) (C := RX5) hC hdg hp (xH_at.trans (xsh_27 hk)) rfl hi hj (by decide) (if_pos hj) k
theorem xl_i {o N j : Nat} {i : Int32} (hC : xC p s m args meth c D cc nL own) (hdg : decode cc pc = .ok (.iaload, 1)) {pc' : Nat} (hp : pc + 1 = pc') (hk : kd o = 1000 + N) (hN : N < 1000) (hi : i = nI j) (hj : j < N) (k : xV p l e R s m args below meth c D b nL cells slots Q n (xH D b σ) pc' lv (.int (σ o j) :: rest)) : xV p l e R s m args below meth c D b nL cells slots Q n (xH D b σ) pc lv (.int i :: .ref (b + o) :: rest) :=
  xi_iaload hC hdg hp (xH_at.trans (xsh_a0 hN hk)) hi hj (by omega) k
theorem xl_b {o N j : Nat} {i : Int32} (hC : xC p s m args meth c D cc nL own) (hdg : decode cc pc = .ok (.baload, 1)) {pc' : Nat} (hp : pc + 1 = pc') (hk : kd o = 2000 + N) (hN : N < 1000) (hi : i = nI j) (hj : j < N) (k : xV p l e R s m args below meth c D b nL cells slots Q n (xH D b σ) pc' lv (.int (σ o j) :: rest)) : xV p l e R s m args below meth c D b nL cells slots Q n (xH D b σ) pc lv (.int i :: .ref (b + o) :: rest) :=
  xi_baload hC hdg hp (xH_at.trans (xsh_a1 hN hk)) hi hj (by omega) k
theorem xl_c {o N j : Nat} {i : Int32} (hC : xC p s m args meth c D cc nL own) (hdg : decode cc pc = .ok (.caload, 1)) {pc' : Nat} (hp : pc + 1 = pc') (hk : kd o = 3000 + N) (hN : N < 1000) (hi : i = nI j) (hj : j < N) (k : xV p l e R s m args below meth c D b nL cells slots Q n (xH D b σ) pc' lv (.int (σ o j) :: rest)) : xV p l e R s m args below meth c D b nL cells slots Q n (xH D b σ) pc lv (.int i :: .ref (b + o) :: rest) :=
  xi_caload hC hdg hp (xH_at.trans (xsh_a2 hN hk)) hi hj (by omega) k
theorem xs_i {o N j : Nat} {i x : Int32} (hC : xC p s m args meth c D cc nL own) (hdg : decode cc pc = .ok (.iastore, 1)) {pc' : Nat} (hp : pc + 1 = pc') (hk : kd o = 1000 + N) (hN : N < 1000) (hi : i = nI j) (hj : j < N) (k : xV p l e R s m args below meth c D b nL cells slots Q n (xH D b (sw σ o j x)) pc' lv rest) : xV p l e R s m args below meth c D b nL cells slots Q n (xH D b σ) pc lv (.int x :: .int i :: .ref (b + o) :: rest) := by
  refine xi_iastore hC hdg hp (xH_at.trans (xsh_a0 hN hk)) hi hj (by omega) ?_
  rw [xH_up (g := upd (σ o) j x) (xsh_a0 hN hk)]
  exact k
theorem xs_b {o N j : Nat} {i x : Int32} (hC : xC p s m args meth c D cc nL own) (hdg : decode cc pc = .ok (.bastore, 1)) {pc' : Nat} (hp : pc + 1 = pc') (hk : kd o = 2000 + N) (hN : N < 1000) (hi : i = nI j) (hj : j < N) (hx : x = 0 ∨ x = 1) (k : xV p l e R s m args below meth c D b nL cells slots Q n (xH D b (sw σ o j x)) pc' lv rest) : xV p l e R s m args below meth c D b nL cells slots Q n (xH D b σ) pc lv (.int x :: .int i :: .ref (b + o) :: rest) := by
  refine xi_bastore hC hdg hp (xH_at.trans (xsh_a1 hN hk)) hi hj (by omega) (by rcases hx with rfl | rfl <;> rfl) ?_
  rw [xH_up (g := upd (σ o) j x) (xsh_a1 hN hk)]
  exact k
theorem xs_c {o N j : Nat} {i x : Int32} (hC : xC p s m args meth c D cc nL own) (hdg : decode cc pc = .ok (.castore, 1)) {pc' : Nat} (hp : pc + 1 = pc') (hk : kd o = 3000 + N) (hN : N < 1000) (hi : i = nI j) (hj : j < N) (hx : vp_nar .char x = x) (k : xV p l e R s m args below meth c D b nL cells slots Q n (xH D b (sw σ o j x)) pc' lv rest) : xV p l e R s m args below meth c D b nL cells slots Q n (xH D b σ) pc lv (.int x :: .int i :: .ref (b + o) :: rest) := by
  refine xi_castore hC hdg hp (xH_at.trans (xsh_a2 hN hk)) hi hj (by omega) hx ?_
  rw [xH_up (g := upd (σ o) j x) (xsh_a2 hN hk)]
  exact k
theorem xstate {τ : XM} (he : σ = τ) (k : xV p l e R s m args below meth c D b nL cells slots Q n (xH D b τ) pc lv rest) : xV p l e R s m args below meth c D b nL cells slots Q n (xH D b σ) pc lv rest := he ▸ k
end XR
end
section
/-! ===== rows over numbers that are known as naturals, and over truth values ===== -/
noncomputable def bI (P : Prop) : Int32 := @ite _ P (Classical.propDecidable P) (nI 1) (nI 0)
theorem bI_t {P : Prop} (h : P) : bI P = nI 1 := if_pos h
theorem bI_f {P : Prop} (h : ¬ P) : bI P = nI 0 := if_neg h
theorem bI_eq0 {P : Prop} : bI P = 0 ↔ ¬ P := by
  by_cases h : P
  · rw [bI_t h]; exact ⟨fun q => absurd q (by decide), fun q => absurd h q⟩
  · rw [bI_f h]; exact ⟨fun _ => h, fun _ => by decide⟩
theorem bI_01 {P : Prop} : bI P = 0 ∨ bI P = 1 := by
  by_cases h : P
  · rw [bI_t h]; exact Or.inr (by decide)
  · rw [bI_f h]; exact Or.inl (by decide)
theorem bI_congr {P Q : Prop} (h : P ↔ Q) : bI P = bI Q := by rw [propext h]
theorem bI_nar {P : Prop} : narrow .boolean (.int (bI P)) = .int (bI P) := by rcases bI_01 (P := P) with h | h <;> rw [h] <;> rfl
theorem nar_01 {x : Int32} (h : x = 0 ∨ x = 1) : narrow .boolean (.int x) = .int x := by rcases h with rfl | rfl <;> rfl
theorem nI_eq0 {a : Nat} (ha : a < 2 ^ 31) : nI a = 0 ↔ a = 0 := by rw [← nI_0]; exact nI_eq ha (by decide)
/-- the class's memory below oMod, the twin's from there on -/
def jn (C S : XM) : XM := fun o => if o < 585 then C o else S o
theorem jn_c {C S : XM} {o : Nat} (h : o < 585) : jn C S o = C o := if_pos h
theorem jn_s {C S : XM} {o : Nat} (h : 585 ≤ o) : jn C S o = S o := if_neg (Nat.not_lt.mpr h)
theorem jn_sw {C S : XM} {o k : Nat} {x : Int32} (h : 585 ≤ o) : sw (jn C S) o k x = jn C (sw S o k x) := by
  funext q
  by_cases hq : q = o
  · subst hq
    rw [jn_s h]
    simp only [sw, su, if_true]
    rw [jn_s h]
  · rw [sw_n hq]
    by_cases h2 : q < 585
    · rw [jn_c h2, jn_c h2]
    · rw [jn_s (by omega), jn_s (by omega), sw_n hq]
theorem jn_of {σ τ : XM} (h : ∀ o, 585 ≤ o → τ o = σ o) : τ = jn τ σ := by
  funext q
  by_cases h2 : q < 585
  · rw [jn_c h2]
  · rw [jn_s (by omega)]; exact h q (by omega)
section XN
variable {p : Program} {l : Launch} {e : Env} {R : Room} {s : State} {m : MethodId} {args : Array Value} {below : List Frame} {meth : Method} {c : Code} {D : XD} {b nL cells slots : Nat} {Q : State → Prop} {n : Nat} {h : XH} {pc : Nat} {lv : List (Option Value)} {rest : List Value} {cc : ByteArray} {own : String} {C S : XM}
theorem xn_iadd {a a2 : Nat} (hC : xC p s m args meth c D cc nL own) (hdg : decode cc pc = .ok (.iadd, 1)) {pc' : Nat} (hp : pc + 1 = pc') (k : xV p l e R s m args below meth c D b nL cells slots Q n h pc' lv (.int (nI (a + a2)) :: rest)) : xV p l e R s m args below meth c D b nL cells slots Q n h pc lv (.int (nI a2) :: .int (nI a) :: rest) := xi_iadd hC hdg hp (xtop (nI_add a a2) k)
theorem xn_imul {a a2 : Nat} (hC : xC p s m args meth c D cc nL own) (hdg : decode cc pc = .ok (.imul, 1)) {pc' : Nat} (hp : pc + 1 = pc') (k : xV p l e R s m args below meth c D b nL cells slots Q n h pc' lv (.int (nI (a * a2)) :: rest)) : xV p l e R s m args below meth c D b nL cells slots Q n h pc lv (.int (nI a2) :: .int (nI a) :: rest) := xi_imul hC hdg hp (xtop (pk_mul a a2) k)
theorem xn_isub {a a2 : Nat} (hC : xC p s m args meth c D cc nL own) (hdg : decode cc pc = .ok (.isub, 1)) {pc' : Nat} (hp : pc + 1 = pc') (hle : a2 ≤ a) (k : xV p l e R s m args below meth c D b nL cells slots Q n h pc' lv (.int (nI (a - a2)) :: rest)) : xV p l e R s m args below meth c D b nL cells slots Q n h pc lv (.int (nI a2) :: .int (nI a) :: rest) := xi_isub hC hdg hp (xtop (pk_sub hle) k)
theorem xn_iinc {i a : Nat} {lv' : List (Option Value)} (hC : xC p s m args meth c D cc nL own) (hdg : decode cc pc = .ok (.iinc i 1, 3)) {pc' : Nat} (hp : pc + 3 = pc') (hx : lv[i]? = some (some (.int (nI a)))) (hn : i < nL) (hl : lv.set i (some (.int (nI (a + 1)))) = lv') (k : xV p l e R s m args below meth c D b nL cells slots Q n h pc' lv' rest) : xV p l e R s m args below meth c D b nL cells slots Q n h pc lv rest := xi_iinc hC hdg hp hx (show nI a + Int32.ofInt 1 = nI (a + 1) by rw [← nI_1]; rfl) hn hl k
theorem xn_ifeq {a : Nat} {off : Int} {tgt : Nat} (hC : xC p s m args meth c D cc nL own) (hdg : decode cc pc = .ok (.ifCond .eq off, 3)) {pc' : Nat} (hp : pc + 3 = pc') (ht : (pc : Int) + off = (tgt : Int)) (ha : a < 2 ^ 31) (kt : a = 0 → xV p l e R s m args below meth c D b nL cells slots Q n h tgt lv rest) (kf : a ≠ 0 → xV p l e R s m args below meth c D b nL cells slots Q n h pc' lv rest) : xV p l e R s m args below meth c D b nL cells slots Q n h pc lv (.int (nI a) :: rest) := xi_ifeq hC hdg hp ht (fun q => kt ((nI_eq0 ha).mp q)) (fun q => kf (fun z => q ((nI_eq0 ha).mpr z)))
theorem xn_ifne {a : Nat} {off : Int} {tgt : Nat} (hC : xC p s m args meth c D cc nL own) (hdg : decode cc pc = .ok (.ifCond .ne off, 3)) {pc' : Nat} (hp : pc + 3 = pc') (ht : (pc : Int) + off = (tgt : Int)) (ha : a < 2 ^ 31) (kt : a ≠ 0 → xV p l e R s m args below meth c D b nL cells slots Q n h tgt lv rest) (kf : a = 0 → xV p l e R s m args below meth c D b nL cells slots Q n h pc' lv rest) : xV p l e R s m args below meth c D b nL cells slots Q n h pc lv (.int (nI a) :: rest) := xi_ifne hC hdg hp ht (fun q => kt (fun z => q ((nI_eq0 ha).mpr z))) (fun q => kf ((nI_eq0 ha).mp q))
theorem xn_icmpeq {a a2 : Nat} {off : Int} {tgt : Nat} (hC : xC p s m args meth c D cc nL own) (hdg : decode cc pc = .ok (.if_icmp .eq off, 3)) {pc' : Nat} (hp : pc + 3 = pc') (ht : (pc : Int) + off = (tgt : Int)) (ha : a < 2 ^ 31) (ha2 : a2 < 2 ^ 31) (kt : a = a2 → xV p l e R s m args below meth c D b nL cells slots Q n h tgt lv rest) (kf : a ≠ a2 → xV p l e R s m args below meth c D b nL cells slots Q n h pc' lv rest) : xV p l e R s m args below meth c D b nL cells slots Q n h pc lv (.int (nI a2) :: .int (nI a) :: rest) := xi_icmpeq hC hdg hp ht (fun q => kt ((nI_eq ha ha2).mp q)) (fun q => kf (fun z => q ((nI_eq ha ha2).mpr z)))
theorem xn_icmpne {a a2 : Nat} {off : Int} {tgt : Nat} (hC : xC p s m args meth c D cc nL own) (hdg : decode cc pc = .ok (.if_icmp .ne off, 3)) {pc' : Nat} (hp : pc + 3 = pc') (ht : (pc : Int) + off = (tgt : Int)) (ha : a < 2 ^ 31) (ha2 : a2 < 2 ^ 31) (kt : a ≠ a2 → xV p l e R s m args below meth c D b nL cells slots Q n h tgt lv rest) (kf : a = a2 → xV p l e R s m args below meth c D b nL cells slots Q n h pc' lv rest) : xV p l e R s m args below meth c D b nL cells slots Q n h pc lv (.int (nI a2) :: .int (nI a) :: rest) := xi_icmpne hC hdg hp ht (fun q => kt (fun z => q ((nI_eq ha ha2).mpr z))) (fun q => kf ((nI_eq ha ha2).mp q))
theorem xn_icmplt {a a2 : Nat} {off : Int} {tgt : Nat} (hC : xC p s m args meth c D cc nL own) (hdg : decode cc pc = .ok (.if_icmp .lt off, 3)) {pc' : Nat} (hp : pc + 3 = pc') (ht : (pc : Int) + off = (tgt : Int)) (ha : a < 2 ^ 31) (ha2 : a2 < 2 ^ 31) (kt : a < a2 → xV p l e R s m args below meth c D b nL cells slots Q n h tgt lv rest) (kf : a2 ≤ a → xV p l e R s m args below meth c D b nL cells slots Q n h pc' lv rest) : xV p l e R s m args below meth c D b nL cells slots Q n h pc lv (.int (nI a2) :: .int (nI a) :: rest) := xi_icmplt hC hdg hp ht (fun q => kt ((nI_ltI ha ha2).mp q)) (fun q => kf (by have := mt (nI_ltI ha ha2).mpr q; omega))
theorem xn_icmpge {a a2 : Nat} {off : Int} {tgt : Nat} (hC : xC p s m args meth c D cc nL own) (hdg : decode cc pc = .ok (.if_icmp .ge off, 3)) {pc' : Nat} (hp : pc + 3 = pc') (ht : (pc : Int) + off = (tgt : Int)) (ha : a < 2 ^ 31) (ha2 : a2 < 2 ^ 31) (kt : a2 ≤ a → xV p l e R s m args below meth c D b nL cells slots Q n h tgt lv rest) (kf : a < a2 → xV p l e R s m args below meth c D b nL cells slots Q n h pc' lv rest) : xV p l e R s m args below meth c D b nL cells slots Q n h pc lv (.int (nI a2) :: .int (nI a) :: rest) := xi_icmpge hC hdg hp ht (fun q => kt ((nI_leI ha2 ha).mp q)) (fun q => kf (by have := mt (nI_leI ha2 ha).mpr q; omega))
theorem xn_icmpgt {a a2 : Nat} {off : Int} {tgt : Nat} (hC : xC p s m args meth c D cc nL own) (hdg : decode cc pc = .ok (.if_icmp .gt off, 3)) {pc' : Nat} (hp : pc + 3 = pc') (ht : (pc : Int) + off = (tgt : Int)) (ha : a < 2 ^ 31) (ha2 : a2 < 2 ^ 31) (kt : a2 < a → xV p l e R s m args below meth c D b nL cells slots Q n h tgt lv rest) (kf : a ≤ a2 → xV p l e R s m args below meth c D b nL cells slots Q n h pc' lv rest) : xV p l e R s m args below meth c D b nL cells slots Q n h pc lv (.int (nI a2) :: .int (nI a) :: rest) := xi_icmpgt hC hdg hp ht (fun q => kt ((nI_ltI ha2 ha).mp q)) (fun q => kf (by have := mt (nI_ltI ha2 ha).mpr q; omega))
theorem xn_icmple {a a2 : Nat} {off : Int} {tgt : Nat} (hC : xC p s m args meth c D cc nL own) (hdg : decode cc pc = .ok (.if_icmp .le off, 3)) {pc' : Nat} (hp : pc + 3 = pc') (ht : (pc : Int) + off = (tgt : Int)) (ha : a < 2 ^ 31) (ha2 : a2 < 2 ^ 31) (kt : a ≤ a2 → xV p l e R s m args below meth c D b nL cells slots Q n h tgt lv rest) (kf : a2 < a → xV p l e R s m args below meth c D b nL cells slots Q n h pc' lv rest) : xV p l e R s m args below meth c D b nL cells slots Q n h pc lv (.int (nI a2) :: .int (nI a) :: rest) := xi_icmple hC hdg hp ht (fun q => kt ((nI_leI ha ha2).mp q)) (fun q => kf (by have := mt (nI_leI ha ha2).mpr q; omega))
theorem xn_ifle {a : Nat} {off : Int} {tgt : Nat} (hC : xC p s m args meth c D cc nL own) (hdg : decode cc pc = .ok (.ifCond .le off, 3)) {pc' : Nat} (hp : pc + 3 = pc') (ht : (pc : Int) + off = (tgt : Int)) (ha : a < 2 ^ 31) (kt : a = 0 → xV p l e R s m args below meth c D b nL cells slots Q n h tgt lv rest) (kf : 0 < a → xV p l e R s m args below meth c D b nL cells slots Q n h pc' lv rest) : xV p l e R s m args below meth c D b nL cells slots Q n h pc lv (.int (nI a) :: rest) := xi_ifle hC hdg hp ht (fun q => kt (by have := (nI_leI (b := 0) ha (by decide)).mp (by rw [nI_0]; exact q); omega)) (fun q => kf (by have := mt (fun z => (nI_leI (b := 0) ha (by decide)).mpr z) (by rw [nI_0]; exact q); omega))
theorem xn_ifgt {a : Nat} {off : Int} {tgt : Nat} (hC : xC p s m args meth c D cc nL own) (hdg : decode cc pc = .ok (.ifCond .gt off, 3)) {pc' : Nat} (hp : pc + 3 = pc') (ht : (pc : Int) + off = (tgt : Int)) (ha : a < 2 ^ 31) (kt : 0 < a → xV p l e R s m args below meth c D b nL cells slots Q n h tgt lv rest) (kf : a = 0 → xV p l e R s m args below meth c D b nL cells slots Q n h pc' lv rest) : xV p l e R s m args below meth c D b nL cells slots Q n h pc lv (.int (nI a) :: rest) := xi_ifgt hC hdg hp ht (fun q => kt ((nI_ltI (a := 0) (by decide) ha).mp (by rw [nI_0]; exact q))) (fun q => kf (by have := mt (fun z => (nI_ltI (a := 0) (by decide) ha).mpr z) (by rw [nI_0]; exact q); omega))
theorem xn_iflt {a : Nat} {off : Int} {tgt : Nat} (hC : xC p s m args meth c D cc nL own) (hdg : decode cc pc = .ok (.ifCond .lt off, 3)) {pc' : Nat} (hp : pc + 3 = pc') (ht : (pc : Int) + off = (tgt : Int)) (ha : a < 2 ^ 31) (kt : False → xV p l e R s m args below meth c D b nL cells slots Q n h tgt lv rest) (kf : True → xV p l e R s m args below meth c D b nL cells slots Q n h pc' lv rest) : xV p l e R s m args below meth c D b nL cells slots Q n h pc lv (.int (nI a) :: rest) := xi_iflt hC hdg hp ht (fun q => kt (absurd q (nI_pos ha))) (fun _ => kf trivial)
theorem xn_ifge {a : Nat} {off : Int} {tgt : Nat} (hC : xC p s m args meth c D cc nL own) (hdg : decode cc pc = .ok (.ifCond .ge off, 3)) {pc' : Nat} (hp : pc + 3 = pc') (ht : (pc : Int) + off = (tgt : Int)) (ha : a < 2 ^ 31) (kt : True → xV p l e R s m args below meth c D b nL cells slots Q n h tgt lv rest) (kf : False → xV p l e R s m args below meth c D b nL cells slots Q n h pc' lv rest) : xV p l e R s m args below meth c D b nL cells slots Q n h pc lv (.int (nI a) :: rest) := xi_ifge hC hdg hp ht (fun _ => kt trivial) (fun q => kf (absurd (nI_pos' ha) q))
theorem xb_ifeq {P : Prop} {off : Int} {tgt : Nat} (hC : xC p s m args meth c D cc nL own) (hdg : decode cc pc = .ok (.ifCond .eq off, 3)) {pc' : Nat} (hp : pc + 3 = pc') (ht : (pc : Int) + off = (tgt : Int)) (kt : ¬ P → xV p l e R s m args below meth c D b nL cells slots Q n h tgt lv rest) (kf : P → xV p l e R s m args below meth c D b nL cells slots Q n h pc' lv rest) : xV p l e R s m args below meth c D b nL cells slots Q n h pc lv (.int (bI P) :: rest) := xi_ifeq hC hdg hp ht (fun q => kt (bI_eq0.mp q)) (fun q => kf (Classical.not_not.mp (fun z => q (bI_eq0.mpr z))))
theorem xb_ifne {P : Prop} {off : Int} {tgt : Nat} (hC : xC p s m args meth c D cc nL own) (hdg : decode cc pc = .ok (.ifCond .ne off, 3)) {pc' : Nat} (hp : pc + 3 = pc') (ht : (pc : Int) + off = (tgt : Int)) (kt : P → xV p l e R s m args below meth c D b nL cells slots Q n h tgt lv rest) (kf : ¬ P → xV p l e R s m args below meth c D b nL cells slots Q n h pc' lv rest) : xV p l e R s m args below meth c D b nL cells slots Q n h pc lv (.int (bI P) :: rest) := xi_ifne hC hdg hp ht (fun q => kt (Classical.not_not.mp (fun z => q (bI_eq0.mpr z)))) (fun q => kf (bI_eq0.mp q))
theorem xb_ireturn {n' : Nat} {P : Option Value → XH → Prop} {x : Int32} (hC : xC p s m args meth c D cc nL own) (hdg : decode cc pc = .ok (.ireturn, 1)) (hr : meth.sig.returnType = some .boolean) (hx : x = 0 ∨ x = 1) (hn : n = n') (hP : P (some (.int x)) h) : xV p l e R s m args below meth c D b nL cells slots (MQ below (xQ D b n' P) args s cells slots (fun q => b ≤ q)) n h pc lv [.int x] := xi_zreturn hC hdg hr (nar_01 hx) hn hP
theorem xt_g_users {index : Nat} (hC : xC p s m args meth c D cc nL own) (hdg : decode cc pc = .ok (.getfield index, 3)) {pc' : Nat} (hp : pc + 3 = pc') (hlink : Cond.fieldLink own index (TX8 0).1 (TX8 0).2.1 (TX8 0).2.2.1 ∈ xtbl) (k : xV p l e R s m args below meth c D b nL cells slots Q n (xH D b (jn C S)) pc' lv (.int (S oMod 0) :: rest)) : xV p l e R s m args below meth c D b nL cells slots Q n (xH D b (jn C S)) pc lv (.ref (b + oMod) :: rest) := xg8_users hC hdg hp hlink kd_oMod (xtop (by rw [jn_s (by decide)]) k)
theorem xt_p_users {index : Nat} {x : Int32} (hC : xC p s m args meth c D cc nL own) (hdg : decode cc pc = .ok (.putfield index, 3)) {pc' : Nat} (hp : pc + 3 = pc') (hlink : Cond.fieldLink own index (TX8 0).1 (TX8 0).2.1 (TX8 0).2.2.1 ∈ xtbl) (k : xV p l e R s m args below meth c D b nL cells slots Q n (xH D b (jn C (sw S oMod 0 x))) pc' lv rest) : xV p l e R s m args below meth c D b nL cells slots Q n (xH D b (jn C S)) pc lv (.int x :: .ref (b + oMod) :: rest) := xp8_users hC hdg hp hlink kd_oMod (xstate (jn_sw (by decide)) k)
theorem xt_g_views {index : Nat} (hC : xC p s m args meth c D cc nL own) (hdg : decode cc pc = .ok (.getfield index, 3)) {pc' : Nat} (hp : pc + 3 = pc') (hlink : Cond.fieldLink own index (TX8 1).1 (TX8 1).2.1 (TX8 1).2.2.1 ∈ xtbl) (k : xV p l e R s m args below meth c D b nL cells slots Q n (xH D b (jn C S)) pc' lv (.int (S oMod 1) :: rest)) : xV p l e R s m args below meth c D b nL cells slots Q n (xH D b (jn C S)) pc lv (.ref (b + oMod) :: rest) := xg8_views hC hdg hp hlink kd_oMod (xtop (by rw [jn_s (by decide)]) k)
theorem xt_p_views {index : Nat} {x : Int32} (hC : xC p s m args meth c D cc nL own) (hdg : decode cc pc = .ok (.putfield index, 3)) {pc' : Nat} (hp : pc + 3 = pc') (hlink : Cond.fieldLink own index (TX8 1).1 (TX8 1).2.1 (TX8 1).2.2.1 ∈ xtbl) (k : xV p l e R s m args below meth c D b nL cells slots Q n (xH D b (jn C (sw S oMod 1 x))) pc' lv rest) : xV p l e R s m args below meth c D b nL cells slots Q n (xH D b (jn C S)) pc lv (.int x :: .ref (b + oMod) :: rest) := xp8_views hC hdg hp hlink kd_oMod (xstate (jn_sw (by decide)) k)
theorem xt_g_operations {index : Nat} (hC : xC p s m args meth c D cc nL own) (hdg : decode cc pc = .ok (.getfield index, 3)) {pc' : Nat} (hp : pc + 3 = pc') (hlink : Cond.fieldLink own index (TX8 2).1 (TX8 2).2.1 (TX8 2).2.2.1 ∈ xtbl) (k : xV p l e R s m args below meth c D b nL cells slots Q n (xH D b (jn C S)) pc' lv (.int (S oMod 2) :: rest)) : xV p l e R s m args below meth c D b nL cells slots Q n (xH D b (jn C S)) pc lv (.ref (b + oMod) :: rest) := xg8_operations hC hdg hp hlink kd_oMod (xtop (by rw [jn_s (by decide)]) k)
theorem xt_p_operations {index : Nat} {x : Int32} (hC : xC p s m args meth c D cc nL own) (hdg : decode cc pc = .ok (.putfield index, 3)) {pc' : Nat} (hp : pc + 3 = pc') (hlink : Cond.fieldLink own index (TX8 2).1 (TX8 2).2.1 (TX8 2).2.2.1 ∈ xtbl) (k : xV p l e R s m args below meth c D b nL cells slots Q n (xH D b (jn C (sw S oMod 2 x))) pc' lv rest) : xV p l e R s m args below meth c D b nL cells slots Q n (xH D b (jn C S)) pc lv (.int x :: .ref (b + oMod) :: rest) := xp8_operations hC hdg hp hlink kd_oMod (xstate (jn_sw (by decide)) k)
theorem xt_g_pairOne {index : Nat} (hC : xC p s m args meth c D cc nL own) (hdg : decode cc pc = .ok (.getfield index, 3)) {pc' : Nat} (hp : pc + 3 = pc') (hlink : Cond.fieldLink own index (TX8 20).1 (TX8 20).2.1 (TX8 20).2.2.1 ∈ xtbl) (k : xV p l e R s m args below meth c D b nL cells slots Q n (xH D b (jn C S)) pc' lv (.int (S oMod 20) :: rest)) : xV p l e R s m args below meth c D b nL cells slots Q n (xH D b (jn C S)) pc lv (.ref (b + oMod) :: rest) := xg8_pairOne hC hdg hp hlink kd_oMod (xtop (by rw [jn_s (by decide)]) k)
theorem xt_p_pairOne {index : Nat} {x : Int32} (hC : xC p s m args meth c D cc nL own) (hdg : decode cc pc = .ok (.putfield index, 3)) {pc' : Nat} (hp : pc + 3 = pc') (hlink : Cond.fieldLink own index (TX8 20).1 (TX8 20).2.1 (TX8 20).2.2.1 ∈ xtbl) (k : xV p l e R s m args below meth c D b nL cells slots Q n (xH D b (jn C (sw S oMod 20 x))) pc' lv rest) : xV p l e R s m args below meth c D b nL cells slots Q n (xH D b (jn C S)) pc lv (.int x :: .ref (b + oMod) :: rest) := xp8_pairOne hC hdg hp hlink kd_oMod (xstate (jn_sw (by decide)) k)
theorem xt_g_pairTwo {index : Nat} (hC : xC p s m args meth c D cc nL own) (hdg : decode cc pc = .ok (.getfield index, 3)) {pc' : Nat} (hp : pc + 3 = pc') (hlink : Cond.fieldLink own index (TX8 21).1 (TX8 21).2.1 (TX8 21).2.2.1 ∈ xtbl) (k : xV p l e R s m args below meth c D b nL cells slots Q n (xH D b (jn C S)) pc' lv (.int (S oMod 21) :: rest)) : xV p l e R s m args below meth c D b nL cells slots Q n (xH D b (jn C S)) pc lv (.ref (b + oMod) :: rest) := xg8_pairTwo hC hdg hp hlink kd_oMod (xtop (by rw [jn_s (by decide)]) k)
theorem xt_p_pairTwo {index : Nat} {x : Int32} (hC : xC p s m args meth c D cc nL own) (hdg : decode cc pc = .ok (.putfield index, 3)) {pc' : Nat} (hp : pc + 3 = pc') (hlink : Cond.fieldLink own index (TX8 21).1 (TX8 21).2.1 (TX8 21).2.2.1 ∈ xtbl) (k : xV p l e R s m args below meth c D b nL cells slots Q n (xH D b (jn C (sw S oMod 21 x))) pc' lv rest) : xV p l e R s m args below meth c D b nL cells slots Q n (xH D b (jn C S)) pc lv (.int x :: .ref (b + oMod) :: rest) := xp8_pairTwo hC hdg hp hlink kd_oMod (xstate (jn_sw (by decide)) k)
theorem xt_g_typed {index : Nat} (hC : xC p s m args meth c D cc nL own) (hdg : decode cc pc = .ok (.getfield index, 3)) {pc' : Nat} (hp : pc + 3 = pc') (hlink : Cond.fieldLink own index (TX8 23).1 (TX8 23).2.1 (TX8 23).2.2.1 ∈ xtbl) (k : xV p l e R s m args below meth c D b nL cells slots Q n (xH D b (jn C S)) pc' lv (.int (S oMod 23) :: rest)) : xV p l e R s m args below meth c D b nL cells slots Q n (xH D b (jn C S)) pc lv (.ref (b + oMod) :: rest) := xg8_typed hC hdg hp hlink kd_oMod (xtop (by rw [jn_s (by decide)]) k)
theorem xt_p_typed {index : Nat} {x : Int32} (hC : xC p s m args meth c D cc nL own) (hdg : decode cc pc = .ok (.putfield index, 3)) {pc' : Nat} (hp : pc + 3 = pc') (hlink : Cond.fieldLink own index (TX8 23).1 (TX8 23).2.1 (TX8 23).2.2.1 ∈ xtbl) (k : xV p l e R s m args below meth c D b nL cells slots Q n (xH D b (jn C (sw S oMod 23 x))) pc' lv rest) : xV p l e R s m args below meth c D b nL cells slots Q n (xH D b (jn C S)) pc lv (.int x :: .ref (b + oMod) :: rest) := xp8_typed hC hdg hp hlink kd_oMod (xstate (jn_sw (by decide)) k)
theorem xt_l_i {o N j : Nat} {i : Int32} (hC : xC p s m args meth c D cc nL own) (hdg : decode cc pc = .ok (.iaload, 1)) {pc' : Nat} (hp : pc + 1 = pc') (hk : kd o = 1000 + N) (ho : 585 ≤ o) (hN : N < 1000) (hi : i = nI j) (hj : j < N) (k : xV p l e R s m args below meth c D b nL cells slots Q n (xH D b (jn C S)) pc' lv (.int (S o j) :: rest)) : xV p l e R s m args below meth c D b nL cells slots Q n (xH D b (jn C S)) pc lv (.int i :: .ref (b + o) :: rest) := xl_i hC hdg hp hk hN hi hj (xtop (by rw [jn_s ho]) k)
theorem xt_s_i {o N j : Nat} {i x : Int32} (hC : xC p s m args meth c D cc nL own) (hdg : decode cc pc = .ok (.iastore, 1)) {pc' : Nat} (hp : pc + 1 = pc') (hk : kd o = 1000 + N) (ho : 585 ≤ o) (hN : N < 1000) (hi : i = nI j) (hj : j < N) (k : xV p l e R s m args below meth c D b nL cells slots Q n (xH D b (jn C (sw S o j x))) pc' lv rest) : xV p l e R s m args below meth c D b nL cells slots Q n (xH D b (jn C S)) pc lv (.int x :: .int i :: .ref (b + o) :: rest) := xs_i hC hdg hp hk hN hi hj (xstate (jn_sw ho) k)
theorem xt_l_b {o N j : Nat} {i : Int32} (hC : xC p s m args meth c D cc nL own) (hdg : decode cc pc = .ok (.baload, 1)) {pc' : Nat} (hp : pc + 1 = pc') (hk : kd o = 2000 + N) (ho : 585 ≤ o) (hN : N < 1000) (hi : i = nI j) (hj : j < N) (k : xV p l e R s m args below meth c D b nL cells slots Q n (xH D b (jn C S)) pc' lv (.int (S o j) :: rest)) : xV p l e R s m args below meth c D b nL cells slots Q n (xH D b (jn C S)) pc lv (.int i :: .ref (b + o) :: rest) := xl_b hC hdg hp hk hN hi hj (xtop (by rw [jn_s ho]) k)
theorem xt_s_b {o N j : Nat} {i x : Int32} (hC : xC p s m args meth c D cc nL own) (hdg : decode cc pc = .ok (.bastore, 1)) {pc' : Nat} (hp : pc + 1 = pc') (hk : kd o = 2000 + N) (ho : 585 ≤ o) (hN : N < 1000) (hi : i = nI j) (hj : j < N) (hx : x = 0 ∨ x = 1) (k : xV p l e R s m args below meth c D b nL cells slots Q n (xH D b (jn C (sw S o j x))) pc' lv rest) : xV p l e R s m args below meth c D b nL cells slots Q n (xH D b (jn C S)) pc lv (.int x :: .int i :: .ref (b + o) :: rest) := xs_b hC hdg hp hk hN hi hj hx (xstate (jn_sw ho) k)
theorem xt_l_c {o N j : Nat} {i : Int32} (hC : xC p s m args meth c D cc nL own) (hdg : decode cc pc = .ok (.caload, 1)) {pc' : Nat} (hp : pc + 1 = pc') (hk : kd o = 3000 + N) (ho : 585 ≤ o) (hN : N < 1000) (hi : i = nI j) (hj : j < N) (k : xV p l e R s m args below meth c D b nL cells slots Q n (xH D b (jn C S)) pc' lv (.int (S o j) :: rest)) : xV p l e R s m args below meth c D b nL cells slots Q n (xH D b (jn C S)) pc lv (.int i :: .ref (b + o) :: rest) := xl_c hC hdg hp hk hN hi hj (xtop (by rw [jn_s ho]) k)
theorem xt_s_c {o N j : Nat} {i x : Int32} (hC : xC p s m args meth c D cc nL own) (hdg : decode cc pc = .ok (.castore, 1)) {pc' : Nat} (hp : pc + 1 = pc') (hk : kd o = 3000 + N) (ho : 585 ≤ o) (hN : N < 1000) (hi : i = nI j) (hj : j < N) (hx : vp_nar .char x = x) (k : xV p l e R s m args below meth c D b nL cells slots Q n (xH D b (jn C (sw S o j x))) pc' lv rest) : xV p l e R s m args below meth c D b nL cells slots Q n (xH D b (jn C S)) pc lv (.int x :: .int i :: .ref (b + o) :: rest) := xs_c hC hdg hp hk hN hi hj hx (xstate (jn_sw ho) k)
end XN
end
section
theorem xtab_0_5 {x : Int32} (h : ¬ (x.toInt < 0 ∨ 5 < x.toInt)) : x = 0 ∨ x = 1 ∨ x = 2 ∨ x = 3 ∨ x = 4 ∨ x = 5 := by
  have h1 : x.toInt = 0 ∨ x.toInt = 1 ∨ x.toInt = 2 ∨ x.toInt = 3 ∨ x.toInt = 4 ∨ x.toInt = 5 := by omega
  rcases h1 with q | q | q | q | q | q
  · exact Or.inl (Int32.toInt_inj.mp (q.trans (by decide)))
  · exact Or.inr (Or.inl (Int32.toInt_inj.mp (q.trans (by decide))))
  · exact Or.inr (Or.inr (Or.inl (Int32.toInt_inj.mp (q.trans (by decide)))))
  · exact Or.inr (Or.inr (Or.inr (Or.inl (Int32.toInt_inj.mp (q.trans (by decide))))))
  · exact Or.inr (Or.inr (Or.inr (Or.inr (Or.inl (Int32.toInt_inj.mp (q.trans (by decide)))))))
  · exact Or.inr (Or.inr (Or.inr (Or.inr (Or.inr (Int32.toInt_inj.mp (q.trans (by decide)))))))
theorem xtab_0_7 {x : Int32} (h : ¬ (x.toInt < 0 ∨ 7 < x.toInt)) : x = 0 ∨ x = 1 ∨ x = 2 ∨ x = 3 ∨ x = 4 ∨ x = 5 ∨ x = 6 ∨ x = 7 := by
  have h1 : x.toInt = 0 ∨ x.toInt = 1 ∨ x.toInt = 2 ∨ x.toInt = 3 ∨ x.toInt = 4 ∨ x.toInt = 5 ∨ x.toInt = 6 ∨ x.toInt = 7 := by omega
  rcases h1 with q | q | q | q | q | q | q | q
  · exact Or.inl (Int32.toInt_inj.mp (q.trans (by decide)))
  · exact Or.inr (Or.inl (Int32.toInt_inj.mp (q.trans (by decide))))
  · exact Or.inr (Or.inr (Or.inl (Int32.toInt_inj.mp (q.trans (by decide)))))
  · exact Or.inr (Or.inr (Or.inr (Or.inl (Int32.toInt_inj.mp (q.trans (by decide))))))
  · exact Or.inr (Or.inr (Or.inr (Or.inr (Or.inl (Int32.toInt_inj.mp (q.trans (by decide)))))))
  · exact Or.inr (Or.inr (Or.inr (Or.inr (Or.inr (Or.inl (Int32.toInt_inj.mp (q.trans (by decide))))))))
  · exact Or.inr (Or.inr (Or.inr (Or.inr (Or.inr (Or.inr (Or.inl (Int32.toInt_inj.mp (q.trans (by decide)))))))))
  · exact Or.inr (Or.inr (Or.inr (Or.inr (Or.inr (Or.inr (Or.inr (Int32.toInt_inj.mp (q.trans (by decide)))))))))
theorem xtab_0_3 {x : Int32} (h : ¬ (x.toInt < 0 ∨ 3 < x.toInt)) : x = 0 ∨ x = 1 ∨ x = 2 ∨ x = 3 := by
  have h1 : x.toInt = 0 ∨ x.toInt = 1 ∨ x.toInt = 2 ∨ x.toInt = 3 := by omega
  rcases h1 with q | q | q | q
  · exact Or.inl (Int32.toInt_inj.mp (q.trans (by decide)))
  · exact Or.inr (Or.inl (Int32.toInt_inj.mp (q.trans (by decide))))
  · exact Or.inr (Or.inr (Or.inl (Int32.toInt_inj.mp (q.trans (by decide)))))
  · exact Or.inr (Or.inr (Or.inr (Int32.toInt_inj.mp (q.trans (by decide)))))
theorem xtab_0_25 {x : Int32} (h : ¬ (x.toInt < 0 ∨ 25 < x.toInt)) : x = 0 ∨ x = 1 ∨ x = 2 ∨ x = 3 ∨ x = 4 ∨ x = 5 ∨ x = 6 ∨ x = 7 ∨ x = 8 ∨ x = 9 ∨ x = 10 ∨ x = 11 ∨ x = 12 ∨ x = 13 ∨ x = 14 ∨ x = 15 ∨ x = 16 ∨ x = 17 ∨ x = 18 ∨ x = 19 ∨ x = 20 ∨ x = 21 ∨ x = 22 ∨ x = 23 ∨ x = 24 ∨ x = 25 := by
  have h1 : x.toInt = 0 ∨ x.toInt = 1 ∨ x.toInt = 2 ∨ x.toInt = 3 ∨ x.toInt = 4 ∨ x.toInt = 5 ∨ x.toInt = 6 ∨ x.toInt = 7 ∨ x.toInt = 8 ∨ x.toInt = 9 ∨ x.toInt = 10 ∨ x.toInt = 11 ∨ x.toInt = 12 ∨ x.toInt = 13 ∨ x.toInt = 14 ∨ x.toInt = 15 ∨ x.toInt = 16 ∨ x.toInt = 17 ∨ x.toInt = 18 ∨ x.toInt = 19 ∨ x.toInt = 20 ∨ x.toInt = 21 ∨ x.toInt = 22 ∨ x.toInt = 23 ∨ x.toInt = 24 ∨ x.toInt = 25 := by omega
  rcases h1 with q | q | q | q | q | q | q | q | q | q | q | q | q | q | q | q | q | q | q | q | q | q | q | q | q | q
  · exact Or.inl (Int32.toInt_inj.mp (q.trans (by decide)))
  · exact Or.inr (Or.inl (Int32.toInt_inj.mp (q.trans (by decide))))
  · exact Or.inr (Or.inr (Or.inl (Int32.toInt_inj.mp (q.trans (by decide)))))
  · exact Or.inr (Or.inr (Or.inr (Or.inl (Int32.toInt_inj.mp (q.trans (by decide))))))
  · exact Or.inr (Or.inr (Or.inr (Or.inr (Or.inl (Int32.toInt_inj.mp (q.trans (by decide)))))))
  · exact Or.inr (Or.inr (Or.inr (Or.inr (Or.inr (Or.inl (Int32.toInt_inj.mp (q.trans (by decide))))))))
  · exact Or.inr (Or.inr (Or.inr (Or.inr (Or.inr (Or.inr (Or.inl (Int32.toInt_inj.mp (q.trans (by decide)))))))))
  · exact Or.inr (Or.inr (Or.inr (Or.inr (Or.inr (Or.inr (Or.inr (Or.inl (Int32.toInt_inj.mp (q.trans (by decide))))))))))
  · exact Or.inr (Or.inr (Or.inr (Or.inr (Or.inr (Or.inr (Or.inr (Or.inr (Or.inl (Int32.toInt_inj.mp (q.trans (by decide)))))))))))
  · exact Or.inr (Or.inr (Or.inr (Or.inr (Or.inr (Or.inr (Or.inr (Or.inr (Or.inr (Or.inl (Int32.toInt_inj.mp (q.trans (by decide))))))))))))
  · exact Or.inr (Or.inr (Or.inr (Or.inr (Or.inr (Or.inr (Or.inr (Or.inr (Or.inr (Or.inr (Or.inl (Int32.toInt_inj.mp (q.trans (by decide)))))))))))))
  · exact Or.inr (Or.inr (Or.inr (Or.inr (Or.inr (Or.inr (Or.inr (Or.inr (Or.inr (Or.inr (Or.inr (Or.inl (Int32.toInt_inj.mp (q.trans (by decide))))))))))))))
  · exact Or.inr (Or.inr (Or.inr (Or.inr (Or.inr (Or.inr (Or.inr (Or.inr (Or.inr (Or.inr (Or.inr (Or.inr (Or.inl (Int32.toInt_inj.mp (q.trans (by decide)))))))))))))))
  · exact Or.inr (Or.inr (Or.inr (Or.inr (Or.inr (Or.inr (Or.inr (Or.inr (Or.inr (Or.inr (Or.inr (Or.inr (Or.inr (Or.inl (Int32.toInt_inj.mp (q.trans (by decide))))))))))))))))
  · exact Or.inr (Or.inr (Or.inr (Or.inr (Or.inr (Or.inr (Or.inr (Or.inr (Or.inr (Or.inr (Or.inr (Or.inr (Or.inr (Or.inr (Or.inl (Int32.toInt_inj.mp (q.trans (by decide)))))))))))))))))
  · exact Or.inr (Or.inr (Or.inr (Or.inr (Or.inr (Or.inr (Or.inr (Or.inr (Or.inr (Or.inr (Or.inr (Or.inr (Or.inr (Or.inr (Or.inr (Or.inl (Int32.toInt_inj.mp (q.trans (by decide))))))))))))))))))
  · exact Or.inr (Or.inr (Or.inr (Or.inr (Or.inr (Or.inr (Or.inr (Or.inr (Or.inr (Or.inr (Or.inr (Or.inr (Or.inr (Or.inr (Or.inr (Or.inr (Or.inl (Int32.toInt_inj.mp (q.trans (by decide)))))))))))))))))))
  · exact Or.inr (Or.inr (Or.inr (Or.inr (Or.inr (Or.inr (Or.inr (Or.inr (Or.inr (Or.inr (Or.inr (Or.inr (Or.inr (Or.inr (Or.inr (Or.inr (Or.inr (Or.inl (Int32.toInt_inj.mp (q.trans (by decide))))))))))))))))))))
  · exact Or.inr (Or.inr (Or.inr (Or.inr (Or.inr (Or.inr (Or.inr (Or.inr (Or.inr (Or.inr (Or.inr (Or.inr (Or.inr (Or.inr (Or.inr (Or.inr (Or.inr (Or.inr (Or.inl (Int32.toInt_inj.mp (q.trans (by decide)))))))))))))))))))))
  · exact Or.inr (Or.inr (Or.inr (Or.inr (Or.inr (Or.inr (Or.inr (Or.inr (Or.inr (Or.inr (Or.inr (Or.inr (Or.inr (Or.inr (Or.inr (Or.inr (Or.inr (Or.inr (Or.inr (Or.inl (Int32.toInt_inj.mp (q.trans (by decide))))))))))))))))))))))
  · exact Or.inr (Or.inr (Or.inr (Or.inr (Or.inr (Or.inr (Or.inr (Or.inr (Or.inr (Or.inr (Or.inr (Or.inr (Or.inr (Or.inr (Or.inr (Or.inr (Or.inr (Or.inr (Or.inr (Or.inr (Or.inl (Int32.toInt_inj.mp (q.trans (by decide)))))))))))))))))))))))
  · exact Or.inr (Or.inr (Or.inr (Or.inr (Or.inr (Or.inr (Or.inr (Or.inr (Or.inr (Or.inr (Or.inr (Or.inr (Or.inr (Or.inr (Or.inr (Or.inr (Or.inr (Or.inr (Or.inr (Or.inr (Or.inr (Or.inl (Int32.toInt_inj.mp (q.trans (by decide))))))))))))))))))))))))
  · exact Or.inr (Or.inr (Or.inr (Or.inr (Or.inr (Or.inr (Or.inr (Or.inr (Or.inr (Or.inr (Or.inr (Or.inr (Or.inr (Or.inr (Or.inr (Or.inr (Or.inr (Or.inr (Or.inr (Or.inr (Or.inr (Or.inr (Or.inl (Int32.toInt_inj.mp (q.trans (by decide)))))))))))))))))))))))))
  · exact Or.inr (Or.inr (Or.inr (Or.inr (Or.inr (Or.inr (Or.inr (Or.inr (Or.inr (Or.inr (Or.inr (Or.inr (Or.inr (Or.inr (Or.inr (Or.inr (Or.inr (Or.inr (Or.inr (Or.inr (Or.inr (Or.inr (Or.inr (Or.inl (Int32.toInt_inj.mp (q.trans (by decide))))))))))))))))))))))))))
  · exact Or.inr (Or.inr (Or.inr (Or.inr (Or.inr (Or.inr (Or.inr (Or.inr (Or.inr (Or.inr (Or.inr (Or.inr (Or.inr (Or.inr (Or.inr (Or.inr (Or.inr (Or.inr (Or.inr (Or.inr (Or.inr (Or.inr (Or.inr (Or.inr (Or.inl (Int32.toInt_inj.mp (q.trans (by decide)))))))))))))))))))))))))))
  · exact Or.inr (Or.inr (Or.inr (Or.inr (Or.inr (Or.inr (Or.inr (Or.inr (Or.inr (Or.inr (Or.inr (Or.inr (Or.inr (Or.inr (Or.inr (Or.inr (Or.inr (Or.inr (Or.inr (Or.inr (Or.inr (Or.inr (Or.inr (Or.inr (Or.inr (Int32.toInt_inj.mp (q.trans (by decide)))))))))))))))))))))))))))
theorem xn_irem0 : ¬ (nI 5 : Int32) = 0 := by decide
theorem su_self {σ : XM} {o : Nat} : σ = su σ o (σ o) := by
  funext q
  by_cases h : q = o
  · subst h; rw [su_s]
  · rw [su_n h]
theorem sw_su {σ : XM} {o k : Nat} {g : Nat → Int32} {x : Int32} : sw (su σ o g) o k x = su σ o (upd g k x) := by
  funext q
  by_cases h : q = o
  · subst h; rw [su_s]; unfold sw; rw [su_s, su_s]
  · rw [su_n h, sw_n h, su_n h]
theorem su_of {σ τ : XM} {o : Nat} (h : ∀ q, q ≠ o → τ q = σ q) : τ = su σ o (τ o) := by
  funext q
  by_cases hq : q = o
  · subst hq; rw [su_s]
  · rw [su_n hq]; exact h q hq
theorem upd_s {f : Nat → Int32} {k : Nat} {x : Int32} : upd f k x k = x := if_pos rfl
theorem upd_n {f : Nat → Int32} {k j : Nat} {x : Int32} (h : j ≠ k) : upd f k x j = f j := if_neg h
theorem upd_all {P : Nat → Int32 → Prop} {g : Nat → Int32} {j : Nat} {x : Int32} (h : ∀ k, k < j → P k (g k)) (hx : P j x) : ∀ k, k < j + 1 → P k (upd g j x k) := by
  intro k hk
  by_cases q : k = j
  · subst q; rw [upd_s]; exact hx
  · rw [upd_n q]; exact h k (by omega)
/-- each number is at most the other's, in the first n places -/
def vle (n : Nat) (f g : Nat → Int32) : Prop := ∀ k, k < n → f k ≤ g k
theorem vle_s {n : Nat} {f g : Nat → Int32} : vle (n + 1) f g ↔ vle n f g ∧ f n ≤ g n := by
  constructor
  · intro h; exact ⟨fun k hk => h k (by omega), h n (by omega)⟩
  · rintro ⟨h, h2⟩ k hk
    rcases Nat.lt_or_ge k n with q | q
    · exact h k q
    · rw [show k = n by omega]; exact h2
theorem vle_congr {n : Nat} {f g f' g' : Nat → Int32} (hf : ∀ k, k < n → f k = f' k) (hg : ∀ k, k < n → g k = g' k) : vle n f g ↔ vle n f' g' :=
  ⟨fun h k hk => by rw [← hf k hk, ← hg k hk]; exact h k hk, fun h k hk => by rw [hf k hk, hg k hk]; exact h k hk⟩
theorem i_le_refl (x : Int32) : x ≤ x := Int32.le_refl x
theorem i_not_lt {x y : Int32} : ¬ x < y ↔ y ≤ x := Int32.not_lt
theorem i_not_le {x y : Int32} : ¬ x ≤ y ↔ y < x := Int32.not_le
theorem vle_refl {n : Nat} {f : Nat → Int32} : vle n f f := fun k _ => Int32.le_refl _
theorem vle_trans {n : Nat} {f g h : Nat → Int32} (h1 : vle n f g) (h2 : vle n g h) : vle n f h := fun k hk => Int32.le_trans (h1 k hk) (h2 k hk)
/-- 0: equal, -1: at most, 1: at least, 2: incomparable -/
noncomputable def rel (n : Nat) (f g : Nat → Int32) : Int32 := @ite _ (vle n f g) (Classical.propDecidable _) (@ite _ (vle n g f) (Classical.propDecidable _) 0 (-1)) (@ite _ (vle n g f) (Classical.propDecidable _) 1 2)
theorem rel_00 {n : Nat} {f g : Nat → Int32} (h : vle n f g) (h2 : vle n g f) : rel n f g = 0 := by unfold rel; rw [if_pos h, if_pos h2]
theorem rel_01 {n : Nat} {f g : Nat → Int32} (h : vle n f g) (h2 : ¬ vle n g f) : rel n f g = -1 := by unfold rel; rw [if_pos h, if_neg h2]
theorem rel_10 {n : Nat} {f g : Nat → Int32} (h : ¬ vle n f g) (h2 : vle n g f) : rel n f g = 1 := by unfold rel; rw [if_neg h, if_pos h2]
theorem rel_11 {n : Nat} {f g : Nat → Int32} (h : ¬ vle n f g) (h2 : ¬ vle n g f) : rel n f g = 2 := by unfold rel; rw [if_neg h, if_neg h2]
theorem rel_2 {n : Nat} {f g : Nat → Int32} : rel n f g = 2 ↔ ¬ vle n f g ∧ ¬ vle n g f := by
  by_cases h : vle n f g <;> by_cases h2 : vle n g f
  · rw [rel_00 h h2]; exact ⟨fun q => absurd q (by decide), fun q => absurd h q.1⟩
  · rw [rel_01 h h2]; exact ⟨fun q => absurd q (by decide), fun q => absurd h q.1⟩
  · rw [rel_10 h h2]; exact ⟨fun q => absurd q (by decide), fun q => absurd h2 q.2⟩
  · rw [rel_11 h h2]; exact ⟨fun _ => ⟨h, h2⟩, fun _ => rfl⟩
theorem rel_0 {n : Nat} {f g : Nat → Int32} : rel n f g = 0 ↔ vle n f g ∧ vle n g f := by
  by_cases h : vle n f g <;> by_cases h2 : vle n g f
  · rw [rel_00 h h2]; exact ⟨fun _ => ⟨h, h2⟩, fun _ => rfl⟩
  · rw [rel_01 h h2]; exact ⟨fun q => absurd q (by decide), fun q => absurd q.2 h2⟩
  · rw [rel_10 h h2]; exact ⟨fun q => absurd q (by decide), fun q => absurd q.1 h⟩
  · rw [rel_11 h h2]; exact ⟨fun q => absurd q (by decide), fun q => absurd q.1 h⟩
theorem rel_congr {n : Nat} {f g f' g' : Nat → Int32} (hf : ∀ k, k < n → f k = f' k) (hg : ∀ k, k < n → g k = g' k) : rel n f g = rel n f' g' := by
  unfold rel
  rw [propext (vle_congr hf hg), propext (vle_congr hg hf)]
theorem bI_ex1 {P : Nat → Prop} {j : Nat} (h : P j) : nI 1 = bI (∃ k, k < j + 1 ∧ P k) := (bI_t ⟨j, by omega, h⟩).symm
theorem bI_ex0 {P : Nat → Prop} {j : Nat} (h : ¬ P j) : bI (∃ k, k < j ∧ P k) = bI (∃ k, k < j + 1 ∧ P k) := bI_congr ⟨fun ⟨k, q, r⟩ => ⟨k, by omega, r⟩, fun ⟨k, q, r⟩ => ⟨k, by rcases Nat.lt_or_ge k j with z | z; exact z; exact absurd (show k = j by omega) (fun e => h (e ▸ r)), r⟩⟩
def xsum (f : Nat → Int32) : Nat → Int32
  | 0 => 0
  | k + 1 => xsum f k + f k
theorem xsum_congr {f g : Nat → Int32} : ∀ {n : Nat}, (∀ k, k < n → f k = g k) → xsum f n = xsum g n
  | 0, _ => rfl
  | n + 1, h => by
    show xsum f n + f n = xsum g n + g n
    rw [xsum_congr (fun k hk => h k (by omega)), h n (by omega)]
noncomputable def xcnt (P : Nat → Prop) : Nat → Nat
  | 0 => 0
  | k + 1 => xcnt P k + @ite _ (P k) (Classical.propDecidable _) 1 0
theorem xcnt_t {P : Nat → Prop} {k : Nat} (h : P k) : xcnt P (k + 1) = xcnt P k + 1 := by show xcnt P k + _ = _; rw [if_pos h]
theorem xcnt_f {P : Nat → Prop} {k : Nat} (h : ¬ P k) : xcnt P (k + 1) = xcnt P k := by show xcnt P k + _ = _; rw [if_neg h]; rfl
theorem xcnt_le (P : Nat → Prop) : ∀ n, xcnt P n ≤ n
  | 0 => Nat.le_refl _
  | n + 1 => by
    have := xcnt_le P n
    by_cases h : P n
    · rw [xcnt_t h]; omega
    · rw [xcnt_f h]; omega
theorem xcnt_congr {P Q : Nat → Prop} : ∀ {n : Nat}, (∀ k, k < n → (P k ↔ Q k)) → xcnt P n = xcnt Q n
  | 0, _ => rfl
  | n + 1, h => by
    have h1 := xcnt_congr (n := n) (fun k hk => h k (by omega))
    by_cases q : P n
    · rw [xcnt_t q, xcnt_t ((h n (by omega)).mp q), h1]
    · rw [xcnt_f q, xcnt_f (fun z => q ((h n (by omega)).mpr z)), h1]
/-- the place of the greatest: each next one that is at least the one so far takes its place -/
noncomputable def gix (le : Nat → Nat → Prop) : Nat → Nat
  | 0 => 0
  | k + 1 => @ite _ (le (gix le k) (k + 1)) (Classical.propDecidable _) (k + 1) (gix le k)
theorem gix_t {le : Nat → Nat → Prop} {k : Nat} (h : le (gix le k) (k + 1)) : gix le (k + 1) = k + 1 := if_pos h
theorem gix_f {le : Nat → Nat → Prop} {k : Nat} (h : ¬ le (gix le k) (k + 1)) : gix le (k + 1) = gix le k := if_neg h
theorem gix_le (le : Nat → Nat → Prop) : ∀ n, gix le n ≤ n
  | 0 => Nat.le_refl _
  | n + 1 => by
    have := gix_le le n
    by_cases h : le (gix le n) (n + 1)
    · rw [gix_t h]; exact Nat.le_refl _
    · rw [gix_f h]; omega
/-- what becomes of a proof that may be kept -/
def xKeep (σ : XM) (o : Nat) (d : Int32) (f1 f2 : Nat → Int32) (τ : XM) : Prop :=
  (σ o 2 ≠ 0 ∧ τ = σ) ∨ (σ o 2 = 0 ∧ ∃ g1 g2 : Nat → Int32, (∀ k, k < 5 → g1 k = f1 k) ∧ (∀ k, k < 5 → g2 k = f2 k) ∧ τ = sw (sw (su (su σ (oNum (oFst o)) g1) (oNum (oSnd o)) g2) o 3 d) o 2 (nI 1))
end
section
/-! ===== VersionVector ===== -/
set_option maxRecDepth 100000 in
set_option maxHeartbeats 4000000 in
theorem c_X5_clear (l : Launch) (D : XD) (b n : Nat) {σ : XM} {o1 : Nat} (h1 : kd o1 = 5) : xM l yX5_clear cX5_clear 2 none 0 0 0 0 D b n [.ref (b + o1)] (xH D b σ) n (fun v h' => v = none ∧ ∃ g : Nat → Int32, (∀ k, k < 5 → g k = 0) ∧ h' = xH D b (su σ (oNum o1) g)) := by
  refine xM.of (lv := [some (.ref (b + o1)), none]) (by decide +kernel) rfl (List.forall_mem_cons.mpr ⟨rfl, fun _ h => absurd h List.not_mem_nil⟩) (Nat.le_of_ble_eq_true rfl) rfl ?_
  intro p e s m args below meth c hC hr hnm
  refine xi_iconst (v := nI 0) hC dX5_clear_0 (pc' := 1) rfl (by decide +kernel) ?_
  refine xi_istore_n (lv' := [some (.ref (b + o1)), some (.int (nI 0))]) hC dX5_clear_1 (pc' := 2) rfl rfl (by decide) rfl ?_
  refine xstate (su_self (o := (oNum o1))) ?_
  have L2 : ∀ (d : Nat) (j : Nat) (g : Nat → Int32), 5 - j < d → (j ≤ 5) → (∀ k, k < j → g k = 0) → xV p l e (xR 0 0 0 0) s m args below meth c D b 2 0 0 (MQ below (xQ D b n (fun v h' => v = none ∧ ∃ g : Nat → Int32, (∀ k, k < 5 → g k = 0) ∧ h' = xH D b (su σ (oNum o1) g))) args s 0 0 (fun q => b ≤ q)) n (xH D b (su σ (oNum o1) g)) 2 [some (.ref (b + o1)), some (.int (nI j))] [] := by
    intro d
    induction d with
    | zero => intro j g h; exact absurd h (Nat.not_lt_zero _)
    | succ d ih2 =>
      intro j g hd2 hj hg
      refine xi_iload_n hC dX5_clear_2 (pc' := 3) rfl rfl rfl ?_
      refine xi_iconst (v := nI 5) hC dX5_clear_3 (pc' := 4) rfl (by decide +kernel) ?_
      refine xn_icmpge (tgt := 20) hC dX5_clear_4 (pc' := 7) rfl (by decide) (by omega) (by omega) (fun zc4 => ?_) (fun zc4 => ?_)
      · skip
        refine xi_return hC dX5_clear_20 hr rfl ?_
        exact ⟨rfl, g, fun k hk => hg k (by omega), rfl⟩
      · skip
        refine xi_aload_n hC dX5_clear_7 (pc' := 8) rfl rfl rfl ?_
        refine xg5_numbers hC dX5_clear_8 (pc' := 11) rfl xw_f_X5_9 h1 ?_
        refine xi_iload_n hC dX5_clear_11 (pc' := 12) rfl rfl rfl ?_
        refine xi_iconst (v := nI 0) hC dX5_clear_12 (pc' := 13) rfl (by decide +kernel) ?_
        refine xs_i hC dX5_clear_13 (pc' := 14) rfl (N := 5) (kd_oNum h1) (by decide) rfl (by omega) ?_
        refine xstate sw_su ?_
        refine xn_iinc (lv' := [some (.ref (b + o1)), some (.int (nI (j + 1)))]) hC dX5_clear_14 (pc' := 17) rfl rfl (by decide) rfl ?_
        refine xi_goto (tgt := 2) hC dX5_clear_17 (by decide) ?_
        refine ih2 _ _ (by omega) ?_ ?_
        · omega
        · exact upd_all (P := fun _ x => x = 0) hg (by decide)
  refine L2 _ _ _ (Nat.lt_succ_self _) ?_ ?_
  · omega
  · intro k hk; omega

set_option maxRecDepth 100000 in
set_option maxHeartbeats 4000000 in
theorem c_X5_copyFrom (l : Launch) (D : XD) (b n : Nat) {σ : XM} {o1 o2 : Nat} (h1 : kd o1 = 5) (h2 : kd o2 = 5) (hne : o2 ≠ o1) : xM l yX5_copyFrom cX5_copyFrom 3 none 0 0 0 0 D b n [.ref (b + o1), .ref (b + o2)] (xH D b σ) n (fun v h' => v = none ∧ ∃ g : Nat → Int32, (∀ k, k < 5 → g k = σ (oNum o2) k) ∧ h' = xH D b (su σ (oNum o1) g)) := by
  refine xM.of (lv := [some (.ref (b + o1)), some (.ref (b + o2)), none]) (by decide +kernel) rfl (List.forall_mem_cons.mpr ⟨rfl, List.forall_mem_cons.mpr ⟨rfl, fun _ h => absurd h List.not_mem_nil⟩⟩) (Nat.le_of_ble_eq_true rfl) rfl ?_
  intro p e s m args below meth c hC hr hnm
  refine xi_iconst (v := nI 0) hC dX5_copyFrom_0 (pc' := 1) rfl (by decide +kernel) ?_
  refine xi_istore_n (lv' := [some (.ref (b + o1)), some (.ref (b + o2)), some (.int (nI 0))]) hC dX5_copyFrom_1 (pc' := 2) rfl rfl (by decide) rfl ?_
  refine xstate (su_self (o := (oNum o1))) ?_
  have L2 : ∀ (d : Nat) (j : Nat) (g : Nat → Int32), 5 - j < d → (j ≤ 5) → (∀ k, k < j → g k = σ (oNum o2) k) → xV p l e (xR 0 0 0 0) s m args below meth c D b 3 0 0 (MQ below (xQ D b n (fun v h' => v = none ∧ ∃ g : Nat → Int32, (∀ k, k < 5 → g k = σ (oNum o2) k) ∧ h' = xH D b (su σ (oNum o1) g))) args s 0 0 (fun q => b ≤ q)) n (xH D b (su σ (oNum o1) g)) 2 [some (.ref (b + o1)), some (.ref (b + o2)), some (.int (nI j))] [] := by
    intro d
    induction d with
    | zero => intro j g h; exact absurd h (Nat.not_lt_zero _)
    | succ d ih2 =>
      intro j g hd2 hj hg
      refine xi_iload_n hC dX5_copyFrom_2 (pc' := 3) rfl rfl rfl ?_
      refine xi_iconst (v := nI 5) hC dX5_copyFrom_3 (pc' := 4) rfl (by decide +kernel) ?_
      refine xn_icmpge (tgt := 25) hC dX5_copyFrom_4 (pc' := 7) rfl (by decide) (by omega) (by omega) (fun zc4 => ?_) (fun zc4 => ?_)
      · skip
        refine xi_return hC dX5_copyFrom_25 hr rfl ?_
        exact ⟨rfl, g, fun k hk => hg k (by omega), rfl⟩
      · skip
        refine xi_aload_n hC dX5_copyFrom_7 (pc' := 8) rfl rfl rfl ?_
        refine xg5_numbers hC dX5_copyFrom_8 (pc' := 11) rfl xw_f_X5_9 h1 ?_
        refine xi_iload_n hC dX5_copyFrom_11 (pc' := 12) rfl rfl rfl ?_
        refine xi_aload_n hC dX5_copyFrom_12 (pc' := 13) rfl rfl rfl ?_
        refine xg5_numbers hC dX5_copyFrom_13 (pc' := 16) rfl xw_f_X5_9 h2 ?_
        refine xi_iload_n hC dX5_copyFrom_16 (pc' := 17) rfl rfl rfl ?_
        refine xl_i hC dX5_copyFrom_17 (pc' := 18) rfl (N := 5) (kd_oNum h2) (by decide) rfl (by omega) ?_
        refine xtop (y := (σ (oNum o2) j)) (by rw [su_n (q := (oNum o2)) (o := (oNum o1)) (by first | (simp only [oMs, oVws, oScr, oSgn, oMod, oMem, oSig, oKno, oPro, oBox, oFst, oSnd, oLts, oLet, oNum, oVw, oEnt, oBef, oBk, oVs, oCon, oVec, m_row, m_keptOf, m_keptRow, m_viewOf, m_alarmOf, m_hasProof, m_depthOf, m_proofOf, m_signedOf, m_knownOf, m_doneOf, m_shownTo, m_sentBy, m_hasRead, m_readOf, m_lettersOf, m_letter, m_hand, m_text] <;> omega) | decide | omega | (simp only [oMs, oVws, oScr, oSgn, oMod, oMem, oSig, oKno, oPro, oBox, oFst, oSnd, oLts, oLet, oNum, oVw, oEnt, oBef, oBk, oVs, oCon, oVec, m_row, m_keptOf, m_keptRow, m_viewOf, m_alarmOf, m_hasProof, m_depthOf, m_proofOf, m_signedOf, m_knownOf, m_doneOf, m_shownTo, m_sentBy, m_hasRead, m_readOf, m_lettersOf, m_letter, m_hand, m_text] at * <;> omega))]) ?_
        refine xs_i hC dX5_copyFrom_18 (pc' := 19) rfl (N := 5) (kd_oNum h1) (by decide) rfl (by omega) ?_
        refine xstate sw_su ?_
        refine xn_iinc (lv' := [some (.ref (b + o1)), some (.ref (b + o2)), some (.int (nI (j + 1)))]) hC dX5_copyFrom_19 (pc' := 22) rfl rfl (by decide) rfl ?_
        refine xi_goto (tgt := 2) hC dX5_copyFrom_22 (by decide) ?_
        refine ih2 _ _ (by omega) ?_ ?_
        · omega
        · exact upd_all (P := fun k x => x = σ (oNum o2) k) hg rfl
  refine L2 _ _ _ (Nat.lt_succ_self _) ?_ ?_
  · omega
  · intro k hk; omega

set_option maxRecDepth 100000 in
set_option maxHeartbeats 4000000 in
theorem c_X5_isAtMost (l : Launch) (D : XD) (b n : Nat) {σ : XM} {o1 o2 : Nat} (h1 : kd o1 = 5) (h2 : kd o2 = 5) : xM l yX5_isAtMost cX5_isAtMost 3 (some .boolean) 0 0 0 0 D b n [.ref (b + o1), .ref (b + o2)] (xH D b σ) n (fun v h' => v = some (.int (bI (vle 5 (σ (oNum o1)) (σ (oNum o2))))) ∧ h' = xH D b σ) := by
  refine xM.of (lv := [some (.ref (b + o1)), some (.ref (b + o2)), none]) (by decide +kernel) rfl (List.forall_mem_cons.mpr ⟨rfl, List.forall_mem_cons.mpr ⟨rfl, fun _ h => absurd h List.not_mem_nil⟩⟩) (Nat.le_of_ble_eq_true rfl) rfl ?_
  intro p e s m args below meth c hC hr hnm
  refine xi_iconst (v := nI 0) hC dX5_isAtMost_0 (pc' := 1) rfl (by decide +kernel) ?_
  refine xi_istore_n (lv' := [some (.ref (b + o1)), some (.ref (b + o2)), some (.int (nI 0))]) hC dX5_isAtMost_1 (pc' := 2) rfl rfl (by decide) rfl ?_
  have L2 : ∀ (d : Nat) (j : Nat), 5 - j < d → (j ≤ 5) → (vle j (σ (oNum o1)) (σ (oNum o2))) → xV p l e (xR 0 0 0 0) s m args below meth c D b 3 0 0 (MQ below (xQ D b n (fun v h' => v = some (.int (bI (vle 5 (σ (oNum o1)) (σ (oNum o2))))) ∧ h' = xH D b σ)) args s 0 0 (fun q => b ≤ q)) n (xH D b σ) 2 [some (.ref (b + o1)), some (.ref (b + o2)), some (.int (nI j))] [] := by
    intro d
    induction d with
    | zero => intro j h; exact absurd h (Nat.not_lt_zero _)
    | succ d ih2 =>
      intro j hd2 hj hg
      refine xi_iload_n hC dX5_isAtMost_2 (pc' := 3) rfl rfl rfl ?_
      refine xi_iconst (v := nI 5) hC dX5_isAtMost_3 (pc' := 4) rfl (by decide +kernel) ?_
      refine xn_icmpge (tgt := 30) hC dX5_isAtMost_4 (pc' := 7) rfl (by decide) (by omega) (by omega) (fun zc4 => ?_) (fun zc4 => ?_)
      · skip
        refine xi_iconst (v := nI 1) hC dX5_isAtMost_30 (pc' := 31) rfl (by decide +kernel) ?_
        refine xb_ireturn hC dX5_isAtMost_31 hr (by decide) rfl ?_
        exact ⟨by rw [bI_t (show vle 5 _ _ from fun k hk => hg k (by omega))], rfl⟩
      · skip
        refine xi_aload_n hC dX5_isAtMost_7 (pc' := 8) rfl rfl rfl ?_
        refine xg5_numbers hC dX5_isAtMost_8 (pc' := 11) rfl xw_f_X5_9 h1 ?_
        refine xi_iload_n hC dX5_isAtMost_11 (pc' := 12) rfl rfl rfl ?_
        refine xl_i hC dX5_isAtMost_12 (pc' := 13) rfl (N := 5) (kd_oNum h1) (by decide) rfl (by omega) ?_
        refine xi_aload_n hC dX5_isAtMost_13 (pc' := 14) rfl rfl rfl ?_
        refine xg5_numbers hC dX5_isAtMost_14 (pc' := 17) rfl xw_f_X5_9 h2 ?_
        refine xi_iload_n hC dX5_isAtMost_17 (pc' := 18) rfl rfl rfl ?_
        refine xl_i hC dX5_isAtMost_18 (pc' := 19) rfl (N := 5) (kd_oNum h2) (by decide) rfl (by omega) ?_
        refine xi_icmple (tgt := 24) hC dX5_isAtMost_19 (pc' := 22) rfl (by decide) (fun zc19 => ?_) (fun zc19 => ?_)
        · skip
          refine xn_iinc (lv' := [some (.ref (b + o1)), some (.ref (b + o2)), some (.int (nI (j + 1)))]) hC dX5_isAtMost_24 (pc' := 27) rfl rfl (by decide) rfl ?_
          refine xi_goto (tgt := 2) hC dX5_isAtMost_27 (by decide) ?_
          refine ih2 _ (by omega) ?_ ?_
          · omega
          · exact vle_s.mpr ⟨hg, zc19⟩
        · skip
          refine xi_iconst (v := nI 0) hC dX5_isAtMost_22 (pc' := 23) rfl (by decide +kernel) ?_
          refine xb_ireturn hC dX5_isAtMost_23 hr (by decide) rfl ?_
          exact ⟨by rw [bI_f (show ¬ vle 5 _ _ from fun z => absurd (z j (by omega)) zc19)], rfl⟩
  refine L2 _ _ (Nat.lt_succ_self _) ?_ ?_
  · omega
  · intro k hk; omega

set_option maxRecDepth 100000 in
set_option maxHeartbeats 4000000 in
theorem c_X5_relationTo (l : Launch) (D : XD) (b n : Nat) {σ : XM} {o1 o2 : Nat} (h1 : kd o1 = 5) (h2 : kd o2 = 5) : xM l yX5_relationTo cX5_relationTo 5 (some .int) 0 0 0 0 D b n [.ref (b + o1), .ref (b + o2)] (xH D b σ) n (fun v h' => v = some (.int (rel 5 (σ (oNum o1)) (σ (oNum o2)))) ∧ h' = xH D b σ) := by
  refine xM.of (lv := [some (.ref (b + o1)), some (.ref (b + o2)), none, none, none]) (by decide +kernel) rfl (List.forall_mem_cons.mpr ⟨rfl, List.forall_mem_cons.mpr ⟨rfl, fun _ h => absurd h List.not_mem_nil⟩⟩) (Nat.le_of_ble_eq_true rfl) rfl ?_
  intro p e s m args below meth c hC hr hnm
  refine xi_iconst (v := nI 0) hC dX5_relationTo_0 (pc' := 1) rfl (by decide +kernel) ?_
  refine xi_istore_n (lv' := [some (.ref (b + o1)), some (.ref (b + o2)), some (.int (nI 0)), none, none]) hC dX5_relationTo_1 (pc' := 2) rfl rfl (by decide) rfl ?_
  refine xi_iconst (v := nI 0) hC dX5_relationTo_2 (pc' := 3) rfl (by decide +kernel) ?_
  refine xi_istore_n (lv' := [some (.ref (b + o1)), some (.ref (b + o2)), some (.int (nI 0)), some (.int (nI 0)), none]) hC dX5_relationTo_3 (pc' := 4) rfl rfl (by decide) rfl ?_
  refine xi_iconst (v := nI 0) hC dX5_relationTo_4 (pc' := 5) rfl (by decide +kernel) ?_
  refine xi_istore (lv' := [some (.ref (b + o1)), some (.ref (b + o2)), some (.int (nI 0)), some (.int (nI 0)), some (.int (nI 0))]) hC dX5_relationTo_5 (pc' := 7) rfl (by decide) rfl ?_
  have L7 : ∀ (d : Nat) (j : Nat) (x2 : Int32) (x3 : Int32), 5 - j < d → (j ≤ 5) → (x2 = bI (∃ k, k < j ∧ (σ (oNum o1)) k < (σ (oNum o2)) k)) → (x3 = bI (∃ k, k < j ∧ (σ (oNum o2)) k < (σ (oNum o1)) k)) → xV p l e (xR 0 0 0 0) s m args below meth c D b 5 0 0 (MQ below (xQ D b n (fun v h' => v = some (.int (rel 5 (σ (oNum o1)) (σ (oNum o2)))) ∧ h' = xH D b σ)) args s 0 0 (fun q => b ≤ q)) n (xH D b σ) 7 [some (.ref (b + o1)), some (.ref (b + o2)), some (.int x2), some (.int x3), some (.int (nI j))] [] := by
    intro d
    induction d with
    | zero => intro j x2 x3 h; exact absurd h (Nat.not_lt_zero _)
    | succ d ih7 =>
      intro j x2 x3 hd7 hj e2 e3
      refine xi_iload hC dX5_relationTo_7 (pc' := 9) rfl rfl ?_
      refine xi_iconst (v := nI 5) hC dX5_relationTo_9 (pc' := 10) rfl (by decide +kernel) ?_
      refine xn_icmpge (tgt := 57) hC dX5_relationTo_10 (pc' := 13) rfl (by decide) (by omega) (by omega) (fun zc10 => ?_) (fun zc10 => ?_)
      · skip
        obtain rfl : j = 5 := by omega
        have k2 : x2 = 0 ↔ vle 5 (σ (oNum o2)) (σ (oNum o1)) := by rw [e2, bI_eq0]; exact ⟨fun z k hk => i_not_lt.mp (fun q => z ⟨k, hk, q⟩), fun z ⟨k, hk, q⟩ => absurd (z k hk) (i_not_le.mpr q)⟩
        have k3 : x3 = 0 ↔ vle 5 (σ (oNum o1)) (σ (oNum o2)) := by rw [e3, bI_eq0]; exact ⟨fun z k hk => i_not_lt.mp (fun q => z ⟨k, hk, q⟩), fun z ⟨k, hk, q⟩ => absurd (z k hk) (i_not_le.mpr q)⟩
        refine xi_iload_n hC dX5_relationTo_57 (pc' := 58) rfl rfl rfl ?_
        refine xi_ifeq (tgt := 71) hC dX5_relationTo_58 (pc' := 61) rfl (by decide) (fun zc58 => ?_) (fun zc58 => ?_)
        · skip
          refine xi_iload_n hC dX5_relationTo_71 (pc' := 72) rfl rfl rfl ?_
          refine xi_ifeq (tgt := 79) hC dX5_relationTo_72 (pc' := 75) rfl (by decide) (fun zc72 => ?_) (fun zc72 => ?_)
          · skip
            refine xi_iconst (v := nI 0) hC dX5_relationTo_79 (pc' := 80) rfl (by decide +kernel) ?_
            refine xi_ireturn hC dX5_relationTo_80 hr rfl ?_
            first | exact ⟨by rw [rel_11 (fun z => zc62 (k3.mpr z)) (fun z => zc58 (k2.mpr z))]; rfl, rfl⟩ | exact ⟨by rw [rel_01 (k3.mp zc62) (fun z => zc58 (k2.mpr z))], rfl⟩ | exact ⟨by rw [rel_10 (fun z => zc72 (k3.mpr z)) (k2.mp zc58)]; rfl, rfl⟩ | exact ⟨by rw [rel_00 (k3.mp zc72) (k2.mp zc58)]; rfl, rfl⟩
          · skip
            refine xi_iconst (v := nI 1) hC dX5_relationTo_75 (pc' := 76) rfl (by decide +kernel) ?_
            refine xi_goto (tgt := 80) hC dX5_relationTo_76 (by decide) ?_
            refine xi_ireturn hC dX5_relationTo_80 hr rfl ?_
            first | exact ⟨by rw [rel_11 (fun z => zc62 (k3.mpr z)) (fun z => zc58 (k2.mpr z))]; rfl, rfl⟩ | exact ⟨by rw [rel_01 (k3.mp zc62) (fun z => zc58 (k2.mpr z))], rfl⟩ | exact ⟨by rw [rel_10 (fun z => zc72 (k3.mpr z)) (k2.mp zc58)]; rfl, rfl⟩ | exact ⟨by rw [rel_00 (k3.mp zc72) (k2.mp zc58)]; rfl, rfl⟩
        · skip
          refine xi_iload_n hC dX5_relationTo_61 (pc' := 62) rfl rfl rfl ?_
          refine xi_ifeq (tgt := 69) hC dX5_relationTo_62 (pc' := 65) rfl (by decide) (fun zc62 => ?_) (fun zc62 => ?_)
          · skip
            refine xi_iconst (v := -1) hC dX5_relationTo_69 (pc' := 70) rfl (by decide +kernel) ?_
            refine xi_ireturn hC dX5_relationTo_70 hr rfl ?_
            first | exact ⟨by rw [rel_11 (fun z => zc62 (k3.mpr z)) (fun z => zc58 (k2.mpr z))]; rfl, rfl⟩ | exact ⟨by rw [rel_01 (k3.mp zc62) (fun z => zc58 (k2.mpr z))], rfl⟩ | exact ⟨by rw [rel_10 (fun z => zc72 (k3.mpr z)) (k2.mp zc58)]; rfl, rfl⟩ | exact ⟨by rw [rel_00 (k3.mp zc72) (k2.mp zc58)]; rfl, rfl⟩
          · skip
            refine xi_iconst (v := nI 2) hC dX5_relationTo_65 (pc' := 66) rfl (by decide +kernel) ?_
            refine xi_goto (tgt := 70) hC dX5_relationTo_66 (by decide) ?_
            refine xi_ireturn hC dX5_relationTo_70 hr rfl ?_
            first | exact ⟨by rw [rel_11 (fun z => zc62 (k3.mpr z)) (fun z => zc58 (k2.mpr z))]; rfl, rfl⟩ | exact ⟨by rw [rel_01 (k3.mp zc62) (fun z => zc58 (k2.mpr z))], rfl⟩ | exact ⟨by rw [rel_10 (fun z => zc72 (k3.mpr z)) (k2.mp zc58)]; rfl, rfl⟩ | exact ⟨by rw [rel_00 (k3.mp zc72) (k2.mp zc58)]; rfl, rfl⟩
      · skip
        refine xi_aload_n hC dX5_relationTo_13 (pc' := 14) rfl rfl rfl ?_
        refine xg5_numbers hC dX5_relationTo_14 (pc' := 17) rfl xw_f_X5_9 h1 ?_
        refine xi_iload hC dX5_relationTo_17 (pc' := 19) rfl rfl ?_
        refine xl_i hC dX5_relationTo_19 (pc' := 20) rfl (N := 5) (kd_oNum h1) (by decide) rfl (by omega) ?_
        refine xi_aload_n hC dX5_relationTo_20 (pc' := 21) rfl rfl rfl ?_
        refine xg5_numbers hC dX5_relationTo_21 (pc' := 24) rfl xw_f_X5_9 h2 ?_
        refine xi_iload hC dX5_relationTo_24 (pc' := 26) rfl rfl ?_
        refine xl_i hC dX5_relationTo_26 (pc' := 27) rfl (N := 5) (kd_oNum h2) (by decide) rfl (by omega) ?_
        refine xi_icmpge (tgt := 32) hC dX5_relationTo_27 (pc' := 30) rfl (by decide) (fun zc27 => ?_) (fun zc27 => ?_)
        · skip
          refine xi_aload_n hC dX5_relationTo_32 (pc' := 33) rfl rfl rfl ?_
          refine xg5_numbers hC dX5_relationTo_33 (pc' := 36) rfl xw_f_X5_9 h1 ?_
          refine xi_iload hC dX5_relationTo_36 (pc' := 38) rfl rfl ?_
          refine xl_i hC dX5_relationTo_38 (pc' := 39) rfl (N := 5) (kd_oNum h1) (by decide) rfl (by omega) ?_
          refine xi_aload_n hC dX5_relationTo_39 (pc' := 40) rfl rfl rfl ?_
          refine xg5_numbers hC dX5_relationTo_40 (pc' := 43) rfl xw_f_X5_9 h2 ?_
          refine xi_iload hC dX5_relationTo_43 (pc' := 45) rfl rfl ?_
          refine xl_i hC dX5_relationTo_45 (pc' := 46) rfl (N := 5) (kd_oNum h2) (by decide) rfl (by omega) ?_
          refine xi_icmple (tgt := 51) hC dX5_relationTo_46 (pc' := 49) rfl (by decide) (fun zc46 => ?_) (fun zc46 => ?_)
          · skip
            refine xn_iinc (lv' := [some (.ref (b + o1)), some (.ref (b + o2)), some (.int x2), some (.int x3), some (.int (nI (j + 1)))]) hC dX5_relationTo_51 (pc' := 54) rfl rfl (by decide) rfl ?_
            refine xi_goto (tgt := 7) hC dX5_relationTo_54 (by decide) ?_
            refine ih7 _ _ _ (by omega) ?_ ?_ ?_
            · omega
            · first | exact e2.trans (bI_ex0 (i_not_lt.mpr zc27)) | exact bI_ex1 (P := fun k => (σ (oNum o1)) k < (σ (oNum o2)) k) (i_not_le.mp zc27)
            · first | exact e3.trans (bI_ex0 (i_not_lt.mpr zc46)) | exact bI_ex1 (P := fun k => (σ (oNum o2)) k < (σ (oNum o1)) k) (i_not_le.mp zc46)
          · skip
            refine xi_iconst (v := nI 1) hC dX5_relationTo_49 (pc' := 50) rfl (by decide +kernel) ?_
            refine xi_istore_n (lv' := [some (.ref (b + o1)), some (.ref (b + o2)), some (.int x2), some (.int (nI 1)), some (.int (nI j))]) hC dX5_relationTo_50 (pc' := 51) rfl rfl (by decide) rfl ?_
            refine xn_iinc (lv' := [some (.ref (b + o1)), some (.ref (b + o2)), some (.int x2), some (.int (nI 1)), some (.int (nI (j + 1)))]) hC dX5_relationTo_51 (pc' := 54) rfl rfl (by decide) rfl ?_
            refine xi_goto (tgt := 7) hC dX5_relationTo_54 (by decide) ?_
            refine ih7 _ _ _ (by omega) ?_ ?_ ?_
            · omega
            · first | exact e2.trans (bI_ex0 (i_not_lt.mpr zc27)) | exact bI_ex1 (P := fun k => (σ (oNum o1)) k < (σ (oNum o2)) k) (i_not_le.mp zc27)
            · first | exact e3.trans (bI_ex0 (i_not_lt.mpr zc46)) | exact bI_ex1 (P := fun k => (σ (oNum o2)) k < (σ (oNum o1)) k) (i_not_le.mp zc46)
        · skip
          refine xi_iconst (v := nI 1) hC dX5_relationTo_30 (pc' := 31) rfl (by decide +kernel) ?_
          refine xi_istore_n (lv' := [some (.ref (b + o1)), some (.ref (b + o2)), some (.int (nI 1)), some (.int x3), some (.int (nI j))]) hC dX5_relationTo_31 (pc' := 32) rfl rfl (by decide) rfl ?_
          refine xi_aload_n hC dX5_relationTo_32 (pc' := 33) rfl rfl rfl ?_
          refine xg5_numbers hC dX5_relationTo_33 (pc' := 36) rfl xw_f_X5_9 h1 ?_
          refine xi_iload hC dX5_relationTo_36 (pc' := 38) rfl rfl ?_
          refine xl_i hC dX5_relationTo_38 (pc' := 39) rfl (N := 5) (kd_oNum h1) (by decide) rfl (by omega) ?_
          refine xi_aload_n hC dX5_relationTo_39 (pc' := 40) rfl rfl rfl ?_
          refine xg5_numbers hC dX5_relationTo_40 (pc' := 43) rfl xw_f_X5_9 h2 ?_
          refine xi_iload hC dX5_relationTo_43 (pc' := 45) rfl rfl ?_
          refine xl_i hC dX5_relationTo_45 (pc' := 46) rfl (N := 5) (kd_oNum h2) (by decide) rfl (by omega) ?_
          refine xi_icmple (tgt := 51) hC dX5_relationTo_46 (pc' := 49) rfl (by decide) (fun zc46 => ?_) (fun zc46 => ?_)
          · skip
            refine xn_iinc (lv' := [some (.ref (b + o1)), some (.ref (b + o2)), some (.int (nI 1)), some (.int x3), some (.int (nI (j + 1)))]) hC dX5_relationTo_51 (pc' := 54) rfl rfl (by decide) rfl ?_
            refine xi_goto (tgt := 7) hC dX5_relationTo_54 (by decide) ?_
            refine ih7 _ _ _ (by omega) ?_ ?_ ?_
            · omega
            · first | exact e2.trans (bI_ex0 (i_not_lt.mpr zc27)) | exact bI_ex1 (P := fun k => (σ (oNum o1)) k < (σ (oNum o2)) k) (i_not_le.mp zc27)
            · first | exact e3.trans (bI_ex0 (i_not_lt.mpr zc46)) | exact bI_ex1 (P := fun k => (σ (oNum o2)) k < (σ (oNum o1)) k) (i_not_le.mp zc46)
          · skip
            refine xi_iconst (v := nI 1) hC dX5_relationTo_49 (pc' := 50) rfl (by decide +kernel) ?_
            refine xi_istore_n (lv' := [some (.ref (b + o1)), some (.ref (b + o2)), some (.int (nI 1)), some (.int (nI 1)), some (.int (nI j))]) hC dX5_relationTo_50 (pc' := 51) rfl rfl (by decide) rfl ?_
            refine xn_iinc (lv' := [some (.ref (b + o1)), some (.ref (b + o2)), some (.int (nI 1)), some (.int (nI 1)), some (.int (nI (j + 1)))]) hC dX5_relationTo_51 (pc' := 54) rfl rfl (by decide) rfl ?_
            refine xi_goto (tgt := 7) hC dX5_relationTo_54 (by decide) ?_
            refine ih7 _ _ _ (by omega) ?_ ?_ ?_
            · omega
            · first | exact e2.trans (bI_ex0 (i_not_lt.mpr zc27)) | exact bI_ex1 (P := fun k => (σ (oNum o1)) k < (σ (oNum o2)) k) (i_not_le.mp zc27)
            · first | exact e3.trans (bI_ex0 (i_not_lt.mpr zc46)) | exact bI_ex1 (P := fun k => (σ (oNum o2)) k < (σ (oNum o1)) k) (i_not_le.mp zc46)
  refine L7 _ _ _ _ (Nat.lt_succ_self _) ?_ ?_ ?_
  · omega
  · exact (bI_f (fun ⟨k, q, _⟩ => absurd q (Nat.not_lt_zero k))).symm
  · exact (bI_f (fun ⟨k, q, _⟩ => absurd q (Nat.not_lt_zero k))).symm

set_option maxRecDepth 100000 in
set_option maxHeartbeats 4000000 in
theorem c_X5_sum (l : Launch) (D : XD) (b n : Nat) {σ : XM} {o1 : Nat} (h1 : kd o1 = 5) : xM l yX5_sum cX5_sum 3 (some .int) 0 0 0 0 D b n [.ref (b + o1)] (xH D b σ) n (fun v h' => v = some (.int (xsum (σ (oNum o1)) 5)) ∧ h' = xH D b σ) := by
  refine xM.of (lv := [some (.ref (b + o1)), none, none]) (by decide +kernel) rfl (List.forall_mem_cons.mpr ⟨rfl, fun _ h => absurd h List.not_mem_nil⟩) (Nat.le_of_ble_eq_true rfl) rfl ?_
  intro p e s m args below meth c hC hr hnm
  refine xi_iconst (v := nI 0) hC dX5_sum_0 (pc' := 1) rfl (by decide +kernel) ?_
  refine xi_istore_n (lv' := [some (.ref (b + o1)), some (.int (nI 0)), none]) hC dX5_sum_1 (pc' := 2) rfl rfl (by decide) rfl ?_
  refine xi_iconst (v := nI 0) hC dX5_sum_2 (pc' := 3) rfl (by decide +kernel) ?_
  refine xi_istore_n (lv' := [some (.ref (b + o1)), some (.int (nI 0)), some (.int (nI 0))]) hC dX5_sum_3 (pc' := 4) rfl rfl (by decide) rfl ?_
  have L4 : ∀ (d : Nat) (j : Nat) (x : Int32), 5 - j < d → (j ≤ 5) → (x = xsum (σ (oNum o1)) j) → xV p l e (xR 0 0 0 0) s m args below meth c D b 3 0 0 (MQ below (xQ D b n (fun v h' => v = some (.int (xsum (σ (oNum o1)) 5)) ∧ h' = xH D b σ)) args s 0 0 (fun q => b ≤ q)) n (xH D b σ) 4 [some (.ref (b + o1)), some (.int x), some (.int (nI j))] [] := by
    intro d
    induction d with
    | zero => intro j x h; exact absurd h (Nat.not_lt_zero _)
    | succ d ih4 =>
      intro j x hd4 hj ex
      refine xi_iload_n hC dX5_sum_4 (pc' := 5) rfl rfl rfl ?_
      refine xi_iconst (v := nI 5) hC dX5_sum_5 (pc' := 6) rfl (by decide +kernel) ?_
      refine xn_icmpge (tgt := 24) hC dX5_sum_6 (pc' := 9) rfl (by decide) (by omega) (by omega) (fun zc6 => ?_) (fun zc6 => ?_)
      · skip
        refine xi_iload_n hC dX5_sum_24 (pc' := 25) rfl rfl rfl ?_
        refine xi_ireturn hC dX5_sum_25 hr rfl ?_
        obtain rfl : j = 5 := by omega
        exact ⟨by rw [ex], rfl⟩
      · skip
        refine xi_iload_n hC dX5_sum_9 (pc' := 10) rfl rfl rfl ?_
        refine xi_aload_n hC dX5_sum_10 (pc' := 11) rfl rfl rfl ?_
        refine xg5_numbers hC dX5_sum_11 (pc' := 14) rfl xw_f_X5_9 h1 ?_
        refine xi_iload_n hC dX5_sum_14 (pc' := 15) rfl rfl rfl ?_
        refine xl_i hC dX5_sum_15 (pc' := 16) rfl (N := 5) (kd_oNum h1) (by decide) rfl (by omega) ?_
        refine xi_iadd hC dX5_sum_16 (pc' := 17) rfl ?_
        refine xi_istore_n (lv' := [some (.ref (b + o1)), some (.int (x + (σ (oNum o1) j))), some (.int (nI j))]) hC dX5_sum_17 (pc' := 18) rfl rfl (by decide) rfl ?_
        refine xn_iinc (lv' := [some (.ref (b + o1)), some (.int (x + (σ (oNum o1) j))), some (.int (nI (j + 1)))]) hC dX5_sum_18 (pc' := 21) rfl rfl (by decide) rfl ?_
        refine xi_goto (tgt := 4) hC dX5_sum_21 (by decide) ?_
        refine ih4 _ _ (by omega) ?_ ?_
        · omega
        · rw [ex]; rfl
  refine L4 _ _ _ (Nat.lt_succ_self _) ?_ ?_
  · omega
  · rfl
end
section
/-! ===== Entries, Proof ===== -/
/-- the entries at e1 in τ are those at e2 in σ -/
def EqE (τ : XM) (e1 : Nat) (σ : XM) (e2 : Nat) : Prop := ∀ i, i < 5 → (∀ k, k < 5 → τ (oNum (oVec (oVs e1) i)) k = σ (oNum (oVec (oVs e2) i)) k) ∧ τ (oCon e1) i = σ (oCon e2) i
/-- nothing but the block of w cells from e on has changed -/
def OutE (τ σ : XM) (e w : Nat) : Prop := ∀ q, (q < e ∨ e + w ≤ q) → τ q = σ q
theorem EqE.of {τ τ' σ σ' : XM} {e1 e2 : Nat} (h : EqE τ e1 σ e2) (h1 : ∀ q, e1 ≤ q → q < e1 + 13 → τ' q = τ q) (h2 : ∀ q, e2 ≤ q → q < e2 + 13 → σ' q = σ q) : EqE τ' e1 σ' e2 := by
  intro i hi
  refine ⟨fun k hk => ?_, ?_⟩
  · rw [h1 _ (by simp only [oNum, oVec, oVs]; omega) (by simp only [oNum, oVec, oVs]; omega), h2 _ (by simp only [oNum, oVec, oVs]; omega) (by simp only [oNum, oVec, oVs]; omega)]
    exact (h i hi).1 k hk
  · rw [h1 _ (by simp only [oCon]; omega) (by simp only [oCon]; omega), h2 _ (by simp only [oCon]; omega) (by simp only [oCon]; omega)]
    exact (h i hi).2
/-- some two of the first n vectors are incomparable in the first w places -/
def fkd (n w : Nat) (v : Nat → Nat → Int32) : Prop := ∃ i j, i < j ∧ j < n ∧ rel w (v i) (v j) = 2
/-- the first such two, the lower first -/
def fstP (n w : Nat) (v : Nat → Nat → Int32) (i j : Nat) : Prop := i < j ∧ j < n ∧ rel w (v i) (v j) = 2 ∧ ∀ i' j', i' < j' → j' < n → rel w (v i') (v j') = 2 → i < i' ∨ (i = i' ∧ j ≤ j')
/-- the vectors of the entries at e -/
def xve (σ : XM) (e : Nat) : Nat → Nat → Int32 := fun i => σ (oNum (oVec (oVs e) i))
set_option maxRecDepth 100000 in
set_option maxHeartbeats 4000000 in
theorem c_X1_clear (l : Launch) (D : XD) (b n : Nat) {σ : XM} {o1 : Nat} (h1 : kd o1 = 1) : xM l yX1_clear cX1_clear 2 none 1 21 0 0 D b n [.ref (b + o1)] (xH D b σ) n (fun v h' => v = none ∧ ∃ τ : XM, (∀ i, i < 5 → (∀ k, k < 5 → τ (oNum (oVec (oVs o1) i)) k = 0) ∧ τ (oCon o1) i = 0) ∧ OutE τ σ o1 13 ∧ h' = xH D b τ) := by
  refine xM.of (lv := [some (.ref (b + o1)), none]) (by decide +kernel) rfl (List.forall_mem_cons.mpr ⟨rfl, fun _ h => absurd h List.not_mem_nil⟩) (Nat.le_of_ble_eq_true rfl) rfl ?_
  intro p e s m args below meth c hC hr hnm
  refine xi_iconst (v := nI 0) hC dX1_clear_0 (pc' := 1) rfl (by decide +kernel) ?_
  refine xi_istore_n (lv' := [some (.ref (b + o1)), some (.int (nI 0))]) hC dX1_clear_1 (pc' := 2) rfl rfl (by decide) rfl ?_
  have L2 : ∀ (d : Nat) (j : Nat) (τ : XM), 5 - j < d → (j ≤ 5) → (∀ i, i < j → (∀ k, k < 5 → τ (oNum (oVec (oVs o1) i)) k = 0) ∧ τ (oCon o1) i = 0) → (OutE τ σ o1 13) → xV p l e (xR 1 21 0 0) s m args below meth c D b 2 0 0 (MQ below (xQ D b n (fun v h' => v = none ∧ ∃ τ : XM, (∀ i, i < 5 → (∀ k, k < 5 → τ (oNum (oVec (oVs o1) i)) k = 0) ∧ τ (oCon o1) i = 0) ∧ OutE τ σ o1 13 ∧ h' = xH D b τ)) args s 0 0 (fun q => b ≤ q)) n (xH D b τ) 2 [some (.ref (b + o1)), some (.int (nI j))] [] := by
    intro d
    induction d with
    | zero => intro j τ h; exact absurd h (Nat.not_lt_zero _)
    | succ d ih2 =>
      intro j τ hd2 hj hA hF
      refine xi_iload_n hC dX1_clear_2 (pc' := 3) rfl rfl rfl ?_
      refine xi_iconst (v := nI 5) hC dX1_clear_3 (pc' := 4) rfl (by decide +kernel) ?_
      refine xn_icmpge (tgt := 29) hC dX1_clear_4 (pc' := 7) rfl (by decide) (by omega) (by omega) (fun zc4 => ?_) (fun zc4 => ?_)
      · skip
        refine xi_return hC dX1_clear_29 hr rfl ?_
        exact ⟨rfl, τ, fun i hi => hA i (by omega), hF, rfl⟩
      · skip
        refine xi_aload_n hC dX1_clear_7 (pc' := 8) rfl rfl rfl ?_
        refine xg1_vectors hC dX1_clear_8 (pc' := 11) rfl xw_f_X1_11 h1 ?_
        refine xi_iload_n hC dX1_clear_11 (pc' := 12) rfl rfl rfl ?_
        refine xa_vectors hC dX1_clear_12 (pc' := 13) rfl (kd_oVs h1) rfl (by omega) ?_
        refine xi_callV (As := []) (rest := []) (c_X5_clear l D b n (σ := τ) (kd_oVec (kd_oVs h1) (by omega))) hC dX1_clear_13 (pc' := 16) rfl xw_m_X1_22 xw_c_X5_clear xw_ins_X5_clear xw_sel_X5_clear xw_ini_X5 xd_X5_clear (xH_at.trans (xsh_5 (kd_oVec (kd_oVs h1) (by omega)))) rfl ⟨Nat.le_of_ble_eq_true rfl, Nat.le_of_ble_eq_true rfl⟩ rfl (Nat.le_of_ble_eq_true rfl) ⟨Nat.le_of_ble_eq_true rfl, Nat.le_of_ble_eq_true rfl⟩ ?_
        rintro _ _ ⟨rfl, g_1, hg_2, rfl⟩
        show xV _ _ _ _ _ _ _ _ _ _ _ _ _ _ _ _ _ (xH D b (su τ (oNum (oVec (oVs o1) j)) g_1)) _ _ []
        refine xi_aload_n hC dX1_clear_16 (pc' := 17) rfl rfl rfl ?_
        refine xg1_contents hC dX1_clear_17 (pc' := 20) rfl xw_f_X1_17 h1 ?_
        refine xi_iload_n hC dX1_clear_20 (pc' := 21) rfl rfl rfl ?_
        refine xi_iconst (v := nI 0) hC dX1_clear_21 (pc' := 22) rfl (by decide +kernel) ?_
        refine xs_i hC dX1_clear_22 (pc' := 23) rfl (N := 5) (kd_oCon h1) (by decide) rfl (by omega) ?_
        refine xn_iinc (lv' := [some (.ref (b + o1)), some (.int (nI (j + 1)))]) hC dX1_clear_23 (pc' := 26) rfl rfl (by decide) rfl ?_
        refine xi_goto (tgt := 2) hC dX1_clear_26 (by decide) ?_
        refine ih2 _ _ (by omega) ?_ ?_ ?_
        · omega
        · intro i hi
          by_cases hij : i = j
          · subst hij
            refine ⟨fun k hk => ?_, ?_⟩
            · rw [sw_n (by first | (simp only [oMs, oVws, oScr, oSgn, oMod, oMem, oSig, oKno, oPro, oBox, oFst, oSnd, oLts, oLet, oNum, oVw, oEnt, oBef, oBk, oVs, oCon, oVec, m_row, m_keptOf, m_keptRow, m_viewOf, m_alarmOf, m_hasProof, m_depthOf, m_proofOf, m_signedOf, m_knownOf, m_doneOf, m_shownTo, m_sentBy, m_hasRead, m_readOf, m_lettersOf, m_letter, m_hand, m_text] <;> omega) | decide | omega | (simp only [oMs, oVws, oScr, oSgn, oMod, oMem, oSig, oKno, oPro, oBox, oFst, oSnd, oLts, oLet, oNum, oVw, oEnt, oBef, oBk, oVs, oCon, oVec, m_row, m_keptOf, m_keptRow, m_viewOf, m_alarmOf, m_hasProof, m_depthOf, m_proofOf, m_signedOf, m_knownOf, m_doneOf, m_shownTo, m_sentBy, m_hasRead, m_readOf, m_lettersOf, m_letter, m_hand, m_text] at * <;> omega)), su_s]; exact hg_2 k hk
            · rw [sw_s]; decide
          · refine ⟨fun k hk => ?_, ?_⟩
            · rw [sw_n (by first | (simp only [oMs, oVws, oScr, oSgn, oMod, oMem, oSig, oKno, oPro, oBox, oFst, oSnd, oLts, oLet, oNum, oVw, oEnt, oBef, oBk, oVs, oCon, oVec, m_row, m_keptOf, m_keptRow, m_viewOf, m_alarmOf, m_hasProof, m_depthOf, m_proofOf, m_signedOf, m_knownOf, m_doneOf, m_shownTo, m_sentBy, m_hasRead, m_readOf, m_lettersOf, m_letter, m_hand, m_text] <;> omega) | decide | omega | (simp only [oMs, oVws, oScr, oSgn, oMod, oMem, oSig, oKno, oPro, oBox, oFst, oSnd, oLts, oLet, oNum, oVw, oEnt, oBef, oBk, oVs, oCon, oVec, m_row, m_keptOf, m_keptRow, m_viewOf, m_alarmOf, m_hasProof, m_depthOf, m_proofOf, m_signedOf, m_knownOf, m_doneOf, m_shownTo, m_sentBy, m_hasRead, m_readOf, m_lettersOf, m_letter, m_hand, m_text] at * <;> omega)), su_n (by first | (simp only [oMs, oVws, oScr, oSgn, oMod, oMem, oSig, oKno, oPro, oBox, oFst, oSnd, oLts, oLet, oNum, oVw, oEnt, oBef, oBk, oVs, oCon, oVec, m_row, m_keptOf, m_keptRow, m_viewOf, m_alarmOf, m_hasProof, m_depthOf, m_proofOf, m_signedOf, m_knownOf, m_doneOf, m_shownTo, m_sentBy, m_hasRead, m_readOf, m_lettersOf, m_letter, m_hand, m_text] <;> omega) | decide | omega | (simp only [oMs, oVws, oScr, oSgn, oMod, oMem, oSig, oKno, oPro, oBox, oFst, oSnd, oLts, oLet, oNum, oVw, oEnt, oBef, oBk, oVs, oCon, oVec, m_row, m_keptOf, m_keptRow, m_viewOf, m_alarmOf, m_hasProof, m_depthOf, m_proofOf, m_signedOf, m_knownOf, m_doneOf, m_shownTo, m_sentBy, m_hasRead, m_readOf, m_lettersOf, m_letter, m_hand, m_text] at * <;> omega))]; exact (hA i (by omega)).1 k hk
            · rw [sw_k hij, su_n (by first | (simp only [oMs, oVws, oScr, oSgn, oMod, oMem, oSig, oKno, oPro, oBox, oFst, oSnd, oLts, oLet, oNum, oVw, oEnt, oBef, oBk, oVs, oCon, oVec, m_row, m_keptOf, m_keptRow, m_viewOf, m_alarmOf, m_hasProof, m_depthOf, m_proofOf, m_signedOf, m_knownOf, m_doneOf, m_shownTo, m_sentBy, m_hasRead, m_readOf, m_lettersOf, m_letter, m_hand, m_text] <;> omega) | decide | omega | (simp only [oMs, oVws, oScr, oSgn, oMod, oMem, oSig, oKno, oPro, oBox, oFst, oSnd, oLts, oLet, oNum, oVw, oEnt, oBef, oBk, oVs, oCon, oVec, m_row, m_keptOf, m_keptRow, m_viewOf, m_alarmOf, m_hasProof, m_depthOf, m_proofOf, m_signedOf, m_knownOf, m_doneOf, m_shownTo, m_sentBy, m_hasRead, m_readOf, m_lettersOf, m_letter, m_hand, m_text] at * <;> omega))]; exact (hA i (by omega)).2
        · intro q hq
          rw [sw_n (by first | (simp only [oMs, oVws, oScr, oSgn, oMod, oMem, oSig, oKno, oPro, oBox, oFst, oSnd, oLts, oLet, oNum, oVw, oEnt, oBef, oBk, oVs, oCon, oVec, m_row, m_keptOf, m_keptRow, m_viewOf, m_alarmOf, m_hasProof, m_depthOf, m_proofOf, m_signedOf, m_knownOf, m_doneOf, m_shownTo, m_sentBy, m_hasRead, m_readOf, m_lettersOf, m_letter, m_hand, m_text] <;> omega) | decide | omega | (simp only [oMs, oVws, oScr, oSgn, oMod, oMem, oSig, oKno, oPro, oBox, oFst, oSnd, oLts, oLet, oNum, oVw, oEnt, oBef, oBk, oVs, oCon, oVec, m_row, m_keptOf, m_keptRow, m_viewOf, m_alarmOf, m_hasProof, m_depthOf, m_proofOf, m_signedOf, m_knownOf, m_doneOf, m_shownTo, m_sentBy, m_hasRead, m_readOf, m_lettersOf, m_letter, m_hand, m_text] at * <;> omega)), su_n (by first | (simp only [oMs, oVws, oScr, oSgn, oMod, oMem, oSig, oKno, oPro, oBox, oFst, oSnd, oLts, oLet, oNum, oVw, oEnt, oBef, oBk, oVs, oCon, oVec, m_row, m_keptOf, m_keptRow, m_viewOf, m_alarmOf, m_hasProof, m_depthOf, m_proofOf, m_signedOf, m_knownOf, m_doneOf, m_shownTo, m_sentBy, m_hasRead, m_readOf, m_lettersOf, m_letter, m_hand, m_text] <;> omega) | decide | omega | (simp only [oMs, oVws, oScr, oSgn, oMod, oMem, oSig, oKno, oPro, oBox, oFst, oSnd, oLts, oLet, oNum, oVw, oEnt, oBef, oBk, oVs, oCon, oVec, m_row, m_keptOf, m_keptRow, m_viewOf, m_alarmOf, m_hasProof, m_depthOf, m_proofOf, m_signedOf, m_knownOf, m_doneOf, m_shownTo, m_sentBy, m_hasRead, m_readOf, m_lettersOf, m_letter, m_hand, m_text] at * <;> omega))]
          exact hF q hq
  refine L2 _ _ _ (Nat.lt_succ_self _) ?_ ?_ ?_
  · omega
  · intro i hi; omega
  · exact fun q _ => rfl

set_option maxRecDepth 100000 in
set_option maxHeartbeats 4000000 in
theorem c_X1_copyFrom (l : Launch) (D : XD) (b n : Nat) {σ : XM} {o1 o2 : Nat} (h1 : kd o1 = 1) (h2 : kd o2 = 1) (hd : o1 + 13 ≤ o2 ∨ o2 + 13 ≤ o1) : xM l yX1_copyFrom cX1_copyFrom 3 none 1 22 0 0 D b n [.ref (b + o1), .ref (b + o2)] (xH D b σ) n (fun v h' => v = none ∧ ∃ τ : XM, EqE τ o1 σ o2 ∧ OutE τ σ o1 13 ∧ h' = xH D b τ) := by
  refine xM.of (lv := [some (.ref (b + o1)), some (.ref (b + o2)), none]) (by decide +kernel) rfl (List.forall_mem_cons.mpr ⟨rfl, List.forall_mem_cons.mpr ⟨rfl, fun _ h => absurd h List.not_mem_nil⟩⟩) (Nat.le_of_ble_eq_true rfl) rfl ?_
  intro p e s m args below meth c hC hr hnm
  refine xi_iconst (v := nI 0) hC dX1_copyFrom_0 (pc' := 1) rfl (by decide +kernel) ?_
  refine xi_istore_n (lv' := [some (.ref (b + o1)), some (.ref (b + o2)), some (.int (nI 0))]) hC dX1_copyFrom_1 (pc' := 2) rfl rfl (by decide) rfl ?_
  have L2 : ∀ (d : Nat) (j : Nat) (τ : XM), 5 - j < d → (j ≤ 5) → (∀ i, i < j → (∀ k, k < 5 → τ (oNum (oVec (oVs o1) i)) k = σ (oNum (oVec (oVs o2) i)) k) ∧ τ (oCon o1) i = σ (oCon o2) i) → (OutE τ σ o1 13) → xV p l e (xR 1 22 0 0) s m args below meth c D b 3 0 0 (MQ below (xQ D b n (fun v h' => v = none ∧ ∃ τ : XM, EqE τ o1 σ o2 ∧ OutE τ σ o1 13 ∧ h' = xH D b τ)) args s 0 0 (fun q => b ≤ q)) n (xH D b τ) 2 [some (.ref (b + o1)), some (.ref (b + o2)), some (.int (nI j))] [] := by
    intro d
    induction d with
    | zero => intro j τ h; exact absurd h (Nat.not_lt_zero _)
    | succ d ih2 =>
      intro j τ hd2 hj hA hF
      refine xi_iload_n hC dX1_copyFrom_2 (pc' := 3) rfl rfl rfl ?_
      refine xi_iconst (v := nI 5) hC dX1_copyFrom_3 (pc' := 4) rfl (by decide +kernel) ?_
      refine xn_icmpge (tgt := 40) hC dX1_copyFrom_4 (pc' := 7) rfl (by decide) (by omega) (by omega) (fun zc4 => ?_) (fun zc4 => ?_)
      · skip
        refine xi_return hC dX1_copyFrom_40 hr rfl ?_
        exact ⟨rfl, τ, fun i hi => hA i (by omega), hF, rfl⟩
      · skip
        refine xi_aload_n hC dX1_copyFrom_7 (pc' := 8) rfl rfl rfl ?_
        refine xg1_vectors hC dX1_copyFrom_8 (pc' := 11) rfl xw_f_X1_11 h1 ?_
        refine xi_iload_n hC dX1_copyFrom_11 (pc' := 12) rfl rfl rfl ?_
        refine xa_vectors hC dX1_copyFrom_12 (pc' := 13) rfl (kd_oVs h1) rfl (by omega) ?_
        refine xi_aload_n hC dX1_copyFrom_13 (pc' := 14) rfl rfl rfl ?_
        refine xg1_vectors hC dX1_copyFrom_14 (pc' := 17) rfl xw_f_X1_11 h2 ?_
        refine xi_iload_n hC dX1_copyFrom_17 (pc' := 18) rfl rfl rfl ?_
        refine xa_vectors hC dX1_copyFrom_18 (pc' := 19) rfl (kd_oVs h2) rfl (by omega) ?_
        refine xi_callV (As := [.ref (b + (oVec (oVs o2) j))]) (rest := []) (c_X5_copyFrom l D b n (σ := τ) (kd_oVec (kd_oVs h1) (by omega)) (kd_oVec (kd_oVs h2) (by omega)) (by first | (simp only [oMs, oVws, oScr, oSgn, oMod, oMem, oSig, oKno, oPro, oBox, oFst, oSnd, oLts, oLet, oNum, oVw, oEnt, oBef, oBk, oVs, oCon, oVec, m_row, m_keptOf, m_keptRow, m_viewOf, m_alarmOf, m_hasProof, m_depthOf, m_proofOf, m_signedOf, m_knownOf, m_doneOf, m_shownTo, m_sentBy, m_hasRead, m_readOf, m_lettersOf, m_letter, m_hand, m_text] <;> omega) | decide | omega | (simp only [oMs, oVws, oScr, oSgn, oMod, oMem, oSig, oKno, oPro, oBox, oFst, oSnd, oLts, oLet, oNum, oVw, oEnt, oBef, oBk, oVs, oCon, oVec, m_row, m_keptOf, m_keptRow, m_viewOf, m_alarmOf, m_hasProof, m_depthOf, m_proofOf, m_signedOf, m_knownOf, m_doneOf, m_shownTo, m_sentBy, m_hasRead, m_readOf, m_lettersOf, m_letter, m_hand, m_text] at * <;> omega))) hC dX1_copyFrom_19 (pc' := 22) rfl xw_m_X1_25 xw_c_X5_copyFrom xw_ins_X5_copyFrom xw_sel_X5_copyFrom xw_ini_X5 xd_X5_copyFrom (xH_at.trans (xsh_5 (kd_oVec (kd_oVs h1) (by omega)))) rfl ⟨Nat.le_of_ble_eq_true rfl, Nat.le_of_ble_eq_true rfl⟩ rfl (Nat.le_of_ble_eq_true rfl) ⟨Nat.le_of_ble_eq_true rfl, Nat.le_of_ble_eq_true rfl⟩ ?_
        rintro _ _ ⟨rfl, g_1, hg_2, rfl⟩
        show xV _ _ _ _ _ _ _ _ _ _ _ _ _ _ _ _ _ (xH D b (su τ (oNum (oVec (oVs o1) j)) g_1)) _ _ []
        refine xi_aload_n hC dX1_copyFrom_22 (pc' := 23) rfl rfl rfl ?_
        refine xg1_contents hC dX1_copyFrom_23 (pc' := 26) rfl xw_f_X1_17 h1 ?_
        refine xi_iload_n hC dX1_copyFrom_26 (pc' := 27) rfl rfl rfl ?_
        refine xi_aload_n hC dX1_copyFrom_27 (pc' := 28) rfl rfl rfl ?_
        refine xg1_contents hC dX1_copyFrom_28 (pc' := 31) rfl xw_f_X1_17 h2 ?_
        refine xi_iload_n hC dX1_copyFrom_31 (pc' := 32) rfl rfl rfl ?_
        refine xl_i hC dX1_copyFrom_32 (pc' := 33) rfl (N := 5) (kd_oCon h2) (by decide) rfl (by omega) ?_
        refine xtop (y := (τ (oCon o2) j)) (by rw [su_n (q := (oCon o2)) (o := (oNum (oVec (oVs o1) j))) (by first | (simp only [oMs, oVws, oScr, oSgn, oMod, oMem, oSig, oKno, oPro, oBox, oFst, oSnd, oLts, oLet, oNum, oVw, oEnt, oBef, oBk, oVs, oCon, oVec, m_row, m_keptOf, m_keptRow, m_viewOf, m_alarmOf, m_hasProof, m_depthOf, m_proofOf, m_signedOf, m_knownOf, m_doneOf, m_shownTo, m_sentBy, m_hasRead, m_readOf, m_lettersOf, m_letter, m_hand, m_text] <;> omega) | decide | omega | (simp only [oMs, oVws, oScr, oSgn, oMod, oMem, oSig, oKno, oPro, oBox, oFst, oSnd, oLts, oLet, oNum, oVw, oEnt, oBef, oBk, oVs, oCon, oVec, m_row, m_keptOf, m_keptRow, m_viewOf, m_alarmOf, m_hasProof, m_depthOf, m_proofOf, m_signedOf, m_knownOf, m_doneOf, m_shownTo, m_sentBy, m_hasRead, m_readOf, m_lettersOf, m_letter, m_hand, m_text] at * <;> omega))]) ?_
        refine xs_i hC dX1_copyFrom_33 (pc' := 34) rfl (N := 5) (kd_oCon h1) (by decide) rfl (by omega) ?_
        refine xn_iinc (lv' := [some (.ref (b + o1)), some (.ref (b + o2)), some (.int (nI (j + 1)))]) hC dX1_copyFrom_34 (pc' := 37) rfl rfl (by decide) rfl ?_
        refine xi_goto (tgt := 2) hC dX1_copyFrom_37 (by decide) ?_
        refine ih2 _ _ (by omega) ?_ ?_ ?_
        · omega
        · intro i hi
          by_cases hij : i = j
          · subst hij
            refine ⟨fun k hk => ?_, ?_⟩
            · rw [sw_n (by first | (simp only [oMs, oVws, oScr, oSgn, oMod, oMem, oSig, oKno, oPro, oBox, oFst, oSnd, oLts, oLet, oNum, oVw, oEnt, oBef, oBk, oVs, oCon, oVec, m_row, m_keptOf, m_keptRow, m_viewOf, m_alarmOf, m_hasProof, m_depthOf, m_proofOf, m_signedOf, m_knownOf, m_doneOf, m_shownTo, m_sentBy, m_hasRead, m_readOf, m_lettersOf, m_letter, m_hand, m_text] <;> omega) | decide | omega | (simp only [oMs, oVws, oScr, oSgn, oMod, oMem, oSig, oKno, oPro, oBox, oFst, oSnd, oLts, oLet, oNum, oVw, oEnt, oBef, oBk, oVs, oCon, oVec, m_row, m_keptOf, m_keptRow, m_viewOf, m_alarmOf, m_hasProof, m_depthOf, m_proofOf, m_signedOf, m_knownOf, m_doneOf, m_shownTo, m_sentBy, m_hasRead, m_readOf, m_lettersOf, m_letter, m_hand, m_text] at * <;> omega)), su_s, hg_2 k hk, hF _ (by first | (simp only [oMs, oVws, oScr, oSgn, oMod, oMem, oSig, oKno, oPro, oBox, oFst, oSnd, oLts, oLet, oNum, oVw, oEnt, oBef, oBk, oVs, oCon, oVec, m_row, m_keptOf, m_keptRow, m_viewOf, m_alarmOf, m_hasProof, m_depthOf, m_proofOf, m_signedOf, m_knownOf, m_doneOf, m_shownTo, m_sentBy, m_hasRead, m_readOf, m_lettersOf, m_letter, m_hand, m_text] <;> omega) | decide | omega | (simp only [oMs, oVws, oScr, oSgn, oMod, oMem, oSig, oKno, oPro, oBox, oFst, oSnd, oLts, oLet, oNum, oVw, oEnt, oBef, oBk, oVs, oCon, oVec, m_row, m_keptOf, m_keptRow, m_viewOf, m_alarmOf, m_hasProof, m_depthOf, m_proofOf, m_signedOf, m_knownOf, m_doneOf, m_shownTo, m_sentBy, m_hasRead, m_readOf, m_lettersOf, m_letter, m_hand, m_text] at * <;> omega))]
            · rw [sw_s, hF _ (by first | (simp only [oMs, oVws, oScr, oSgn, oMod, oMem, oSig, oKno, oPro, oBox, oFst, oSnd, oLts, oLet, oNum, oVw, oEnt, oBef, oBk, oVs, oCon, oVec, m_row, m_keptOf, m_keptRow, m_viewOf, m_alarmOf, m_hasProof, m_depthOf, m_proofOf, m_signedOf, m_knownOf, m_doneOf, m_shownTo, m_sentBy, m_hasRead, m_readOf, m_lettersOf, m_letter, m_hand, m_text] <;> omega) | decide | omega | (simp only [oMs, oVws, oScr, oSgn, oMod, oMem, oSig, oKno, oPro, oBox, oFst, oSnd, oLts, oLet, oNum, oVw, oEnt, oBef, oBk, oVs, oCon, oVec, m_row, m_keptOf, m_keptRow, m_viewOf, m_alarmOf, m_hasProof, m_depthOf, m_proofOf, m_signedOf, m_knownOf, m_doneOf, m_shownTo, m_sentBy, m_hasRead, m_readOf, m_lettersOf, m_letter, m_hand, m_text] at * <;> omega))]
          · refine ⟨fun k hk => ?_, ?_⟩
            · rw [sw_n (by first | (simp only [oMs, oVws, oScr, oSgn, oMod, oMem, oSig, oKno, oPro, oBox, oFst, oSnd, oLts, oLet, oNum, oVw, oEnt, oBef, oBk, oVs, oCon, oVec, m_row, m_keptOf, m_keptRow, m_viewOf, m_alarmOf, m_hasProof, m_depthOf, m_proofOf, m_signedOf, m_knownOf, m_doneOf, m_shownTo, m_sentBy, m_hasRead, m_readOf, m_lettersOf, m_letter, m_hand, m_text] <;> omega) | decide | omega | (simp only [oMs, oVws, oScr, oSgn, oMod, oMem, oSig, oKno, oPro, oBox, oFst, oSnd, oLts, oLet, oNum, oVw, oEnt, oBef, oBk, oVs, oCon, oVec, m_row, m_keptOf, m_keptRow, m_viewOf, m_alarmOf, m_hasProof, m_depthOf, m_proofOf, m_signedOf, m_knownOf, m_doneOf, m_shownTo, m_sentBy, m_hasRead, m_readOf, m_lettersOf, m_letter, m_hand, m_text] at * <;> omega)), su_n (by first | (simp only [oMs, oVws, oScr, oSgn, oMod, oMem, oSig, oKno, oPro, oBox, oFst, oSnd, oLts, oLet, oNum, oVw, oEnt, oBef, oBk, oVs, oCon, oVec, m_row, m_keptOf, m_keptRow, m_viewOf, m_alarmOf, m_hasProof, m_depthOf, m_proofOf, m_signedOf, m_knownOf, m_doneOf, m_shownTo, m_sentBy, m_hasRead, m_readOf, m_lettersOf, m_letter, m_hand, m_text] <;> omega) | decide | omega | (simp only [oMs, oVws, oScr, oSgn, oMod, oMem, oSig, oKno, oPro, oBox, oFst, oSnd, oLts, oLet, oNum, oVw, oEnt, oBef, oBk, oVs, oCon, oVec, m_row, m_keptOf, m_keptRow, m_viewOf, m_alarmOf, m_hasProof, m_depthOf, m_proofOf, m_signedOf, m_knownOf, m_doneOf, m_shownTo, m_sentBy, m_hasRead, m_readOf, m_lettersOf, m_letter, m_hand, m_text] at * <;> omega))]; exact (hA i (by omega)).1 k hk
            · rw [sw_k hij, su_n (by first | (simp only [oMs, oVws, oScr, oSgn, oMod, oMem, oSig, oKno, oPro, oBox, oFst, oSnd, oLts, oLet, oNum, oVw, oEnt, oBef, oBk, oVs, oCon, oVec, m_row, m_keptOf, m_keptRow, m_viewOf, m_alarmOf, m_hasProof, m_depthOf, m_proofOf, m_signedOf, m_knownOf, m_doneOf, m_shownTo, m_sentBy, m_hasRead, m_readOf, m_lettersOf, m_letter, m_hand, m_text] <;> omega) | decide | omega | (simp only [oMs, oVws, oScr, oSgn, oMod, oMem, oSig, oKno, oPro, oBox, oFst, oSnd, oLts, oLet, oNum, oVw, oEnt, oBef, oBk, oVs, oCon, oVec, m_row, m_keptOf, m_keptRow, m_viewOf, m_alarmOf, m_hasProof, m_depthOf, m_proofOf, m_signedOf, m_knownOf, m_doneOf, m_shownTo, m_sentBy, m_hasRead, m_readOf, m_lettersOf, m_letter, m_hand, m_text] at * <;> omega))]; exact (hA i (by omega)).2
        · intro q hq
          rw [sw_n (by first | (simp only [oMs, oVws, oScr, oSgn, oMod, oMem, oSig, oKno, oPro, oBox, oFst, oSnd, oLts, oLet, oNum, oVw, oEnt, oBef, oBk, oVs, oCon, oVec, m_row, m_keptOf, m_keptRow, m_viewOf, m_alarmOf, m_hasProof, m_depthOf, m_proofOf, m_signedOf, m_knownOf, m_doneOf, m_shownTo, m_sentBy, m_hasRead, m_readOf, m_lettersOf, m_letter, m_hand, m_text] <;> omega) | decide | omega | (simp only [oMs, oVws, oScr, oSgn, oMod, oMem, oSig, oKno, oPro, oBox, oFst, oSnd, oLts, oLet, oNum, oVw, oEnt, oBef, oBk, oVs, oCon, oVec, m_row, m_keptOf, m_keptRow, m_viewOf, m_alarmOf, m_hasProof, m_depthOf, m_proofOf, m_signedOf, m_knownOf, m_doneOf, m_shownTo, m_sentBy, m_hasRead, m_readOf, m_lettersOf, m_letter, m_hand, m_text] at * <;> omega)), su_n (by first | (simp only [oMs, oVws, oScr, oSgn, oMod, oMem, oSig, oKno, oPro, oBox, oFst, oSnd, oLts, oLet, oNum, oVw, oEnt, oBef, oBk, oVs, oCon, oVec, m_row, m_keptOf, m_keptRow, m_viewOf, m_alarmOf, m_hasProof, m_depthOf, m_proofOf, m_signedOf, m_knownOf, m_doneOf, m_shownTo, m_sentBy, m_hasRead, m_readOf, m_lettersOf, m_letter, m_hand, m_text] <;> omega) | decide | omega | (simp only [oMs, oVws, oScr, oSgn, oMod, oMem, oSig, oKno, oPro, oBox, oFst, oSnd, oLts, oLet, oNum, oVw, oEnt, oBef, oBk, oVs, oCon, oVec, m_row, m_keptOf, m_keptRow, m_viewOf, m_alarmOf, m_hasProof, m_depthOf, m_proofOf, m_signedOf, m_knownOf, m_doneOf, m_shownTo, m_sentBy, m_hasRead, m_readOf, m_lettersOf, m_letter, m_hand, m_text] at * <;> omega))]
          exact hF q hq
  refine L2 _ _ _ (Nat.lt_succ_self _) ?_ ?_ ?_
  · omega
  · intro i hi; omega
  · exact fun q _ => rfl

set_option maxRecDepth 100000 in
set_option maxHeartbeats 4000000 in
theorem c_X1_replaceByLater (l : Launch) (D : XD) (b n : Nat) {σ : XM} {o1 o2 : Nat} (h1 : kd o1 = 1) (h2 : kd o2 = 1) (hd : o1 + 13 ≤ o2 ∨ o2 + 13 ≤ o1) : xM l yX1_replaceByLater cX1_replaceByLater 4 (some .int) 1 22 0 0 D b n [.ref (b + o1), .ref (b + o2)] (xH D b σ) n (fun v h' => v = some (.int (nI (xcnt (fun i => σ (oNum (oVec (oVs o1) i)) i < σ (oNum (oVec (oVs o2) i)) i) 5))) ∧ ∃ τ : XM, (∀ i, i < 5 → (σ (oNum (oVec (oVs o1) i)) i < σ (oNum (oVec (oVs o2) i)) i → (∀ k, k < 5 → τ (oNum (oVec (oVs o1) i)) k = σ (oNum (oVec (oVs o2) i)) k) ∧ τ (oCon o1) i = σ (oCon o2) i) ∧ (¬ σ (oNum (oVec (oVs o1) i)) i < σ (oNum (oVec (oVs o2) i)) i → τ (oNum (oVec (oVs o1) i)) = σ (oNum (oVec (oVs o1) i)) ∧ τ (oCon o1) i = σ (oCon o1) i)) ∧ OutE τ σ o1 13 ∧ h' = xH D b τ) := by
  refine xM.of (lv := [some (.ref (b + o1)), some (.ref (b + o2)), none, none]) (by decide +kernel) rfl (List.forall_mem_cons.mpr ⟨rfl, List.forall_mem_cons.mpr ⟨rfl, fun _ h => absurd h List.not_mem_nil⟩⟩) (Nat.le_of_ble_eq_true rfl) rfl ?_
  intro p e s m args below meth c hC hr hnm
  refine xi_iconst (v := nI 0) hC dX1_replaceByLater_0 (pc' := 1) rfl (by decide +kernel) ?_
  refine xi_istore_n (lv' := [some (.ref (b + o1)), some (.ref (b + o2)), some (.int (nI 0)), none]) hC dX1_replaceByLater_1 (pc' := 2) rfl rfl (by decide) rfl ?_
  refine xi_iconst (v := nI 0) hC dX1_replaceByLater_2 (pc' := 3) rfl (by decide +kernel) ?_
  refine xi_istore_n (lv' := [some (.ref (b + o1)), some (.ref (b + o2)), some (.int (nI 0)), some (.int (nI 0))]) hC dX1_replaceByLater_3 (pc' := 4) rfl rfl (by decide) rfl ?_
  have L4 : ∀ (d : Nat) (j : Nat) (z : Nat) (τ : XM), 5 - j < d → (j ≤ 5) → (z = xcnt (fun i => σ (oNum (oVec (oVs o1) i)) i < σ (oNum (oVec (oVs o2) i)) i) j) → (∀ i, i < j → (σ (oNum (oVec (oVs o1) i)) i < σ (oNum (oVec (oVs o2) i)) i → (∀ k, k < 5 → τ (oNum (oVec (oVs o1) i)) k = σ (oNum (oVec (oVs o2) i)) k) ∧ τ (oCon o1) i = σ (oCon o2) i) ∧ (¬ σ (oNum (oVec (oVs o1) i)) i < σ (oNum (oVec (oVs o2) i)) i → τ (oNum (oVec (oVs o1) i)) = σ (oNum (oVec (oVs o1) i)) ∧ τ (oCon o1) i = σ (oCon o1) i)) → (∀ i, j ≤ i → i < 5 → τ (oNum (oVec (oVs o1) i)) = σ (oNum (oVec (oVs o1) i)) ∧ τ (oCon o1) i = σ (oCon o1) i) → (OutE τ σ o1 13) → xV p l e (xR 1 22 0 0) s m args below meth c D b 4 0 0 (MQ below (xQ D b n (fun v h' => v = some (.int (nI (xcnt (fun i => σ (oNum (oVec (oVs o1) i)) i < σ (oNum (oVec (oVs o2) i)) i) 5))) ∧ ∃ τ : XM, (∀ i, i < 5 → (σ (oNum (oVec (oVs o1) i)) i < σ (oNum (oVec (oVs o2) i)) i → (∀ k, k < 5 → τ (oNum (oVec (oVs o1) i)) k = σ (oNum (oVec (oVs o2) i)) k) ∧ τ (oCon o1) i = σ (oCon o2) i) ∧ (¬ σ (oNum (oVec (oVs o1) i)) i < σ (oNum (oVec (oVs o2) i)) i → τ (oNum (oVec (oVs o1) i)) = σ (oNum (oVec (oVs o1) i)) ∧ τ (oCon o1) i = σ (oCon o1) i)) ∧ OutE τ σ o1 13 ∧ h' = xH D b τ)) args s 0 0 (fun q => b ≤ q)) n (xH D b τ) 4 [some (.ref (b + o1)), some (.ref (b + o2)), some (.int (nI z)), some (.int (nI j))] [] := by
    intro d
    induction d with
    | zero => intro j z τ h; exact absurd h (Nat.not_lt_zero _)
    | succ d ih4 =>
      intro j z τ hd4 hj hz hA hB hF
      refine xi_iload_n hC dX1_replaceByLater_4 (pc' := 5) rfl rfl rfl ?_
      refine xi_iconst (v := nI 5) hC dX1_replaceByLater_5 (pc' := 6) rfl (by decide +kernel) ?_
      refine xn_icmpge (tgt := 70) hC dX1_replaceByLater_6 (pc' := 9) rfl (by decide) (by omega) (by omega) (fun zc6 => ?_) (fun zc6 => ?_)
      · skip
        refine xi_iload_n hC dX1_replaceByLater_70 (pc' := 71) rfl rfl rfl ?_
        refine xi_ireturn hC dX1_replaceByLater_71 hr rfl ?_
        obtain rfl : j = 5 := by omega
        exact ⟨by rw [hz], τ, hA, hF, rfl⟩
      · skip
        refine xi_aload_n hC dX1_replaceByLater_9 (pc' := 10) rfl rfl rfl ?_
        refine xg1_vectors hC dX1_replaceByLater_10 (pc' := 13) rfl xw_f_X1_11 h2 ?_
        refine xi_iload_n hC dX1_replaceByLater_13 (pc' := 14) rfl rfl rfl ?_
        refine xa_vectors hC dX1_replaceByLater_14 (pc' := 15) rfl (kd_oVs h2) rfl (by omega) ?_
        refine xg5_numbers hC dX1_replaceByLater_15 (pc' := 18) rfl xw_f_X1_29 (kd_oVec (kd_oVs h2) (by omega)) ?_
        refine xi_iload_n hC dX1_replaceByLater_18 (pc' := 19) rfl rfl rfl ?_
        refine xl_i hC dX1_replaceByLater_19 (pc' := 20) rfl (N := 5) (kd_oNum (kd_oVec (kd_oVs h2) (by omega))) (by decide) rfl (by omega) ?_
        refine xi_aload_n hC dX1_replaceByLater_20 (pc' := 21) rfl rfl rfl ?_
        refine xg1_vectors hC dX1_replaceByLater_21 (pc' := 24) rfl xw_f_X1_11 h1 ?_
        refine xi_iload_n hC dX1_replaceByLater_24 (pc' := 25) rfl rfl rfl ?_
        refine xa_vectors hC dX1_replaceByLater_25 (pc' := 26) rfl (kd_oVs h1) rfl (by omega) ?_
        refine xg5_numbers hC dX1_replaceByLater_26 (pc' := 29) rfl xw_f_X1_29 (kd_oVec (kd_oVs h1) (by omega)) ?_
        refine xi_iload_n hC dX1_replaceByLater_29 (pc' := 30) rfl rfl rfl ?_
        refine xl_i hC dX1_replaceByLater_30 (pc' := 31) rfl (N := 5) (kd_oNum (kd_oVec (kd_oVs h1) (by omega))) (by decide) rfl (by omega) ?_
        refine xi_icmple (tgt := 64) hC dX1_replaceByLater_31 (pc' := 34) rfl (by decide) (fun zc31 => ?_) (fun zc31 => ?_)
        · skip
          have hc := zc31
          rw [hF _ (by first | (simp only [oMs, oVws, oScr, oSgn, oMod, oMem, oSig, oKno, oPro, oBox, oFst, oSnd, oLts, oLet, oNum, oVw, oEnt, oBef, oBk, oVs, oCon, oVec, m_row, m_keptOf, m_keptRow, m_viewOf, m_alarmOf, m_hasProof, m_depthOf, m_proofOf, m_signedOf, m_knownOf, m_doneOf, m_shownTo, m_sentBy, m_hasRead, m_readOf, m_lettersOf, m_letter, m_hand, m_text] <;> omega) | decide | omega | (simp only [oMs, oVws, oScr, oSgn, oMod, oMem, oSig, oKno, oPro, oBox, oFst, oSnd, oLts, oLet, oNum, oVw, oEnt, oBef, oBk, oVs, oCon, oVec, m_row, m_keptOf, m_keptRow, m_viewOf, m_alarmOf, m_hasProof, m_depthOf, m_proofOf, m_signedOf, m_knownOf, m_doneOf, m_shownTo, m_sentBy, m_hasRead, m_readOf, m_lettersOf, m_letter, m_hand, m_text] at * <;> omega)), (hB j (Nat.le_refl _) (by omega)).1] at hc
          refine xn_iinc (lv' := [some (.ref (b + o1)), some (.ref (b + o2)), some (.int (nI z)), some (.int (nI (j + 1)))]) hC dX1_replaceByLater_64 (pc' := 67) rfl rfl (by decide) rfl ?_
          refine xi_goto (tgt := 4) hC dX1_replaceByLater_67 (by decide) ?_
          refine ih4 _ _ _ (by omega) ?_ ?_ ?_ ?_ ?_
          · omega
          · first
              | exact (by rw [hz, xcnt_t (i_not_le.mp hc)])
              | exact (by rw [hz, xcnt_f (i_not_lt.mpr hc)])
          · intro i hi
            by_cases hij : i = j
            · subst hij
              first
                | (refine ⟨fun _ => ⟨fun k hk => ?_, ?_⟩, fun q => absurd (i_not_le.mp hc) q⟩
                   · rw [sw_n (by first | (simp only [oMs, oVws, oScr, oSgn, oMod, oMem, oSig, oKno, oPro, oBox, oFst, oSnd, oLts, oLet, oNum, oVw, oEnt, oBef, oBk, oVs, oCon, oVec, m_row, m_keptOf, m_keptRow, m_viewOf, m_alarmOf, m_hasProof, m_depthOf, m_proofOf, m_signedOf, m_knownOf, m_doneOf, m_shownTo, m_sentBy, m_hasRead, m_readOf, m_lettersOf, m_letter, m_hand, m_text] <;> omega) | decide | omega | (simp only [oMs, oVws, oScr, oSgn, oMod, oMem, oSig, oKno, oPro, oBox, oFst, oSnd, oLts, oLet, oNum, oVw, oEnt, oBef, oBk, oVs, oCon, oVec, m_row, m_keptOf, m_keptRow, m_viewOf, m_alarmOf, m_hasProof, m_depthOf, m_proofOf, m_signedOf, m_knownOf, m_doneOf, m_shownTo, m_sentBy, m_hasRead, m_readOf, m_lettersOf, m_letter, m_hand, m_text] at * <;> omega)), su_s, hg_2 k hk, hF _ (by first | (simp only [oMs, oVws, oScr, oSgn, oMod, oMem, oSig, oKno, oPro, oBox, oFst, oSnd, oLts, oLet, oNum, oVw, oEnt, oBef, oBk, oVs, oCon, oVec, m_row, m_keptOf, m_keptRow, m_viewOf, m_alarmOf, m_hasProof, m_depthOf, m_proofOf, m_signedOf, m_knownOf, m_doneOf, m_shownTo, m_sentBy, m_hasRead, m_readOf, m_lettersOf, m_letter, m_hand, m_text] <;> omega) | decide | omega | (simp only [oMs, oVws, oScr, oSgn, oMod, oMem, oSig, oKno, oPro, oBox, oFst, oSnd, oLts, oLet, oNum, oVw, oEnt, oBef, oBk, oVs, oCon, oVec, m_row, m_keptOf, m_keptRow, m_viewOf, m_alarmOf, m_hasProof, m_depthOf, m_proofOf, m_signedOf, m_knownOf, m_doneOf, m_shownTo, m_sentBy, m_hasRead, m_readOf, m_lettersOf, m_letter, m_hand, m_text] at * <;> omega))]
                   · rw [sw_s, hF _ (by first | (simp only [oMs, oVws, oScr, oSgn, oMod, oMem, oSig, oKno, oPro, oBox, oFst, oSnd, oLts, oLet, oNum, oVw, oEnt, oBef, oBk, oVs, oCon, oVec, m_row, m_keptOf, m_keptRow, m_viewOf, m_alarmOf, m_hasProof, m_depthOf, m_proofOf, m_signedOf, m_knownOf, m_doneOf, m_shownTo, m_sentBy, m_hasRead, m_readOf, m_lettersOf, m_letter, m_hand, m_text] <;> omega) | decide | omega | (simp only [oMs, oVws, oScr, oSgn, oMod, oMem, oSig, oKno, oPro, oBox, oFst, oSnd, oLts, oLet, oNum, oVw, oEnt, oBef, oBk, oVs, oCon, oVec, m_row, m_keptOf, m_keptRow, m_viewOf, m_alarmOf, m_hasProof, m_depthOf, m_proofOf, m_signedOf, m_knownOf, m_doneOf, m_shownTo, m_sentBy, m_hasRead, m_readOf, m_lettersOf, m_letter, m_hand, m_text] at * <;> omega))])
                | exact ⟨fun q => absurd q (i_not_lt.mpr hc), fun _ => hB i (Nat.le_refl _) (by omega)⟩
            · first
                | (rw [sw_n (q := oNum (oVec (oVs o1) i)) (by first | (simp only [oMs, oVws, oScr, oSgn, oMod, oMem, oSig, oKno, oPro, oBox, oFst, oSnd, oLts, oLet, oNum, oVw, oEnt, oBef, oBk, oVs, oCon, oVec, m_row, m_keptOf, m_keptRow, m_viewOf, m_alarmOf, m_hasProof, m_depthOf, m_proofOf, m_signedOf, m_knownOf, m_doneOf, m_shownTo, m_sentBy, m_hasRead, m_readOf, m_lettersOf, m_letter, m_hand, m_text] <;> omega) | decide | omega | (simp only [oMs, oVws, oScr, oSgn, oMod, oMem, oSig, oKno, oPro, oBox, oFst, oSnd, oLts, oLet, oNum, oVw, oEnt, oBef, oBk, oVs, oCon, oVec, m_row, m_keptOf, m_keptRow, m_viewOf, m_alarmOf, m_hasProof, m_depthOf, m_proofOf, m_signedOf, m_knownOf, m_doneOf, m_shownTo, m_sentBy, m_hasRead, m_readOf, m_lettersOf, m_letter, m_hand, m_text] at * <;> omega)), su_n (q := oNum (oVec (oVs o1) i)) (by first | (simp only [oMs, oVws, oScr, oSgn, oMod, oMem, oSig, oKno, oPro, oBox, oFst, oSnd, oLts, oLet, oNum, oVw, oEnt, oBef, oBk, oVs, oCon, oVec, m_row, m_keptOf, m_keptRow, m_viewOf, m_alarmOf, m_hasProof, m_depthOf, m_proofOf, m_signedOf, m_knownOf, m_doneOf, m_shownTo, m_sentBy, m_hasRead, m_readOf, m_lettersOf, m_letter, m_hand, m_text] <;> omega) | decide | omega | (simp only [oMs, oVws, oScr, oSgn, oMod, oMem, oSig, oKno, oPro, oBox, oFst, oSnd, oLts, oLet, oNum, oVw, oEnt, oBef, oBk, oVs, oCon, oVec, m_row, m_keptOf, m_keptRow, m_viewOf, m_alarmOf, m_hasProof, m_depthOf, m_proofOf, m_signedOf, m_knownOf, m_doneOf, m_shownTo, m_sentBy, m_hasRead, m_readOf, m_lettersOf, m_letter, m_hand, m_text] at * <;> omega)), sw_k hij, su_n (q := oCon o1) (by first | (simp only [oMs, oVws, oScr, oSgn, oMod, oMem, oSig, oKno, oPro, oBox, oFst, oSnd, oLts, oLet, oNum, oVw, oEnt, oBef, oBk, oVs, oCon, oVec, m_row, m_keptOf, m_keptRow, m_viewOf, m_alarmOf, m_hasProof, m_depthOf, m_proofOf, m_signedOf, m_knownOf, m_doneOf, m_shownTo, m_sentBy, m_hasRead, m_readOf, m_lettersOf, m_letter, m_hand, m_text] <;> omega) | decide | omega | (simp only [oMs, oVws, oScr, oSgn, oMod, oMem, oSig, oKno, oPro, oBox, oFst, oSnd, oLts, oLet, oNum, oVw, oEnt, oBef, oBk, oVs, oCon, oVec, m_row, m_keptOf, m_keptRow, m_viewOf, m_alarmOf, m_hasProof, m_depthOf, m_proofOf, m_signedOf, m_knownOf, m_doneOf, m_shownTo, m_sentBy, m_hasRead, m_readOf, m_lettersOf, m_letter, m_hand, m_text] at * <;> omega))]; exact hA i (by omega))
                | exact hA i (by omega)
          · intro i hi h5
            first
              | (rw [sw_n (q := oNum (oVec (oVs o1) i)) (by first | (simp only [oMs, oVws, oScr, oSgn, oMod, oMem, oSig, oKno, oPro, oBox, oFst, oSnd, oLts, oLet, oNum, oVw, oEnt, oBef, oBk, oVs, oCon, oVec, m_row, m_keptOf, m_keptRow, m_viewOf, m_alarmOf, m_hasProof, m_depthOf, m_proofOf, m_signedOf, m_knownOf, m_doneOf, m_shownTo, m_sentBy, m_hasRead, m_readOf, m_lettersOf, m_letter, m_hand, m_text] <;> omega) | decide | omega | (simp only [oMs, oVws, oScr, oSgn, oMod, oMem, oSig, oKno, oPro, oBox, oFst, oSnd, oLts, oLet, oNum, oVw, oEnt, oBef, oBk, oVs, oCon, oVec, m_row, m_keptOf, m_keptRow, m_viewOf, m_alarmOf, m_hasProof, m_depthOf, m_proofOf, m_signedOf, m_knownOf, m_doneOf, m_shownTo, m_sentBy, m_hasRead, m_readOf, m_lettersOf, m_letter, m_hand, m_text] at * <;> omega)), su_n (q := oNum (oVec (oVs o1) i)) (by first | (simp only [oMs, oVws, oScr, oSgn, oMod, oMem, oSig, oKno, oPro, oBox, oFst, oSnd, oLts, oLet, oNum, oVw, oEnt, oBef, oBk, oVs, oCon, oVec, m_row, m_keptOf, m_keptRow, m_viewOf, m_alarmOf, m_hasProof, m_depthOf, m_proofOf, m_signedOf, m_knownOf, m_doneOf, m_shownTo, m_sentBy, m_hasRead, m_readOf, m_lettersOf, m_letter, m_hand, m_text] <;> omega) | decide | omega | (simp only [oMs, oVws, oScr, oSgn, oMod, oMem, oSig, oKno, oPro, oBox, oFst, oSnd, oLts, oLet, oNum, oVw, oEnt, oBef, oBk, oVs, oCon, oVec, m_row, m_keptOf, m_keptRow, m_viewOf, m_alarmOf, m_hasProof, m_depthOf, m_proofOf, m_signedOf, m_knownOf, m_doneOf, m_shownTo, m_sentBy, m_hasRead, m_readOf, m_lettersOf, m_letter, m_hand, m_text] at * <;> omega)), sw_k (show i ≠ j by omega), su_n (q := oCon o1) (by first | (simp only [oMs, oVws, oScr, oSgn, oMod, oMem, oSig, oKno, oPro, oBox, oFst, oSnd, oLts, oLet, oNum, oVw, oEnt, oBef, oBk, oVs, oCon, oVec, m_row, m_keptOf, m_keptRow, m_viewOf, m_alarmOf, m_hasProof, m_depthOf, m_proofOf, m_signedOf, m_knownOf, m_doneOf, m_shownTo, m_sentBy, m_hasRead, m_readOf, m_lettersOf, m_letter, m_hand, m_text] <;> omega) | decide | omega | (simp only [oMs, oVws, oScr, oSgn, oMod, oMem, oSig, oKno, oPro, oBox, oFst, oSnd, oLts, oLet, oNum, oVw, oEnt, oBef, oBk, oVs, oCon, oVec, m_row, m_keptOf, m_keptRow, m_viewOf, m_alarmOf, m_hasProof, m_depthOf, m_proofOf, m_signedOf, m_knownOf, m_doneOf, m_shownTo, m_sentBy, m_hasRead, m_readOf, m_lettersOf, m_letter, m_hand, m_text] at * <;> omega))]; exact hB i (by omega) h5)
              | exact hB i (by omega) h5
          · intro q hq
            first
              | (rw [sw_n (by first | (simp only [oMs, oVws, oScr, oSgn, oMod, oMem, oSig, oKno, oPro, oBox, oFst, oSnd, oLts, oLet, oNum, oVw, oEnt, oBef, oBk, oVs, oCon, oVec, m_row, m_keptOf, m_keptRow, m_viewOf, m_alarmOf, m_hasProof, m_depthOf, m_proofOf, m_signedOf, m_knownOf, m_doneOf, m_shownTo, m_sentBy, m_hasRead, m_readOf, m_lettersOf, m_letter, m_hand, m_text] <;> omega) | decide | omega | (simp only [oMs, oVws, oScr, oSgn, oMod, oMem, oSig, oKno, oPro, oBox, oFst, oSnd, oLts, oLet, oNum, oVw, oEnt, oBef, oBk, oVs, oCon, oVec, m_row, m_keptOf, m_keptRow, m_viewOf, m_alarmOf, m_hasProof, m_depthOf, m_proofOf, m_signedOf, m_knownOf, m_doneOf, m_shownTo, m_sentBy, m_hasRead, m_readOf, m_lettersOf, m_letter, m_hand, m_text] at * <;> omega)), su_n (by first | (simp only [oMs, oVws, oScr, oSgn, oMod, oMem, oSig, oKno, oPro, oBox, oFst, oSnd, oLts, oLet, oNum, oVw, oEnt, oBef, oBk, oVs, oCon, oVec, m_row, m_keptOf, m_keptRow, m_viewOf, m_alarmOf, m_hasProof, m_depthOf, m_proofOf, m_signedOf, m_knownOf, m_doneOf, m_shownTo, m_sentBy, m_hasRead, m_readOf, m_lettersOf, m_letter, m_hand, m_text] <;> omega) | decide | omega | (simp only [oMs, oVws, oScr, oSgn, oMod, oMem, oSig, oKno, oPro, oBox, oFst, oSnd, oLts, oLet, oNum, oVw, oEnt, oBef, oBk, oVs, oCon, oVec, m_row, m_keptOf, m_keptRow, m_viewOf, m_alarmOf, m_hasProof, m_depthOf, m_proofOf, m_signedOf, m_knownOf, m_doneOf, m_shownTo, m_sentBy, m_hasRead, m_readOf, m_lettersOf, m_letter, m_hand, m_text] at * <;> omega))]; exact hF q hq)
              | exact hF q hq
        · skip
          have hc := zc31
          rw [hF _ (by first | (simp only [oMs, oVws, oScr, oSgn, oMod, oMem, oSig, oKno, oPro, oBox, oFst, oSnd, oLts, oLet, oNum, oVw, oEnt, oBef, oBk, oVs, oCon, oVec, m_row, m_keptOf, m_keptRow, m_viewOf, m_alarmOf, m_hasProof, m_depthOf, m_proofOf, m_signedOf, m_knownOf, m_doneOf, m_shownTo, m_sentBy, m_hasRead, m_readOf, m_lettersOf, m_letter, m_hand, m_text] <;> omega) | decide | omega | (simp only [oMs, oVws, oScr, oSgn, oMod, oMem, oSig, oKno, oPro, oBox, oFst, oSnd, oLts, oLet, oNum, oVw, oEnt, oBef, oBk, oVs, oCon, oVec, m_row, m_keptOf, m_keptRow, m_viewOf, m_alarmOf, m_hasProof, m_depthOf, m_proofOf, m_signedOf, m_knownOf, m_doneOf, m_shownTo, m_sentBy, m_hasRead, m_readOf, m_lettersOf, m_letter, m_hand, m_text] at * <;> omega)), (hB j (Nat.le_refl _) (by omega)).1] at hc
          refine xi_aload_n hC dX1_replaceByLater_34 (pc' := 35) rfl rfl rfl ?_
          refine xg1_vectors hC dX1_replaceByLater_35 (pc' := 38) rfl xw_f_X1_11 h1 ?_
          refine xi_iload_n hC dX1_replaceByLater_38 (pc' := 39) rfl rfl rfl ?_
          refine xa_vectors hC dX1_replaceByLater_39 (pc' := 40) rfl (kd_oVs h1) rfl (by omega) ?_
          refine xi_aload_n hC dX1_replaceByLater_40 (pc' := 41) rfl rfl rfl ?_
          refine xg1_vectors hC dX1_replaceByLater_41 (pc' := 44) rfl xw_f_X1_11 h2 ?_
          refine xi_iload_n hC dX1_replaceByLater_44 (pc' := 45) rfl rfl rfl ?_
          refine xa_vectors hC dX1_replaceByLater_45 (pc' := 46) rfl (kd_oVs h2) rfl (by omega) ?_
          refine xi_callV (As := [.ref (b + (oVec (oVs o2) j))]) (rest := []) (c_X5_copyFrom l D b n (σ := τ) (kd_oVec (kd_oVs h1) (by omega)) (kd_oVec (kd_oVs h2) (by omega)) (by first | (simp only [oMs, oVws, oScr, oSgn, oMod, oMem, oSig, oKno, oPro, oBox, oFst, oSnd, oLts, oLet, oNum, oVw, oEnt, oBef, oBk, oVs, oCon, oVec, m_row, m_keptOf, m_keptRow, m_viewOf, m_alarmOf, m_hasProof, m_depthOf, m_proofOf, m_signedOf, m_knownOf, m_doneOf, m_shownTo, m_sentBy, m_hasRead, m_readOf, m_lettersOf, m_letter, m_hand, m_text] <;> omega) | decide | omega | (simp only [oMs, oVws, oScr, oSgn, oMod, oMem, oSig, oKno, oPro, oBox, oFst, oSnd, oLts, oLet, oNum, oVw, oEnt, oBef, oBk, oVs, oCon, oVec, m_row, m_keptOf, m_keptRow, m_viewOf, m_alarmOf, m_hasProof, m_depthOf, m_proofOf, m_signedOf, m_knownOf, m_doneOf, m_shownTo, m_sentBy, m_hasRead, m_readOf, m_lettersOf, m_letter, m_hand, m_text] at * <;> omega))) hC dX1_replaceByLater_46 (pc' := 49) rfl xw_m_X1_25 xw_c_X5_copyFrom xw_ins_X5_copyFrom xw_sel_X5_copyFrom xw_ini_X5 xd_X5_copyFrom (xH_at.trans (xsh_5 (kd_oVec (kd_oVs h1) (by omega)))) rfl ⟨Nat.le_of_ble_eq_true rfl, Nat.le_of_ble_eq_true rfl⟩ rfl (Nat.le_of_ble_eq_true rfl) ⟨Nat.le_of_ble_eq_true rfl, Nat.le_of_ble_eq_true rfl⟩ ?_
          rintro _ _ ⟨rfl, g_1, hg_2, rfl⟩
          show xV _ _ _ _ _ _ _ _ _ _ _ _ _ _ _ _ _ (xH D b (su τ (oNum (oVec (oVs o1) j)) g_1)) _ _ []
          refine xi_aload_n hC dX1_replaceByLater_49 (pc' := 50) rfl rfl rfl ?_
          refine xg1_contents hC dX1_replaceByLater_50 (pc' := 53) rfl xw_f_X1_17 h1 ?_
          refine xi_iload_n hC dX1_replaceByLater_53 (pc' := 54) rfl rfl rfl ?_
          refine xi_aload_n hC dX1_replaceByLater_54 (pc' := 55) rfl rfl rfl ?_
          refine xg1_contents hC dX1_replaceByLater_55 (pc' := 58) rfl xw_f_X1_17 h2 ?_
          refine xi_iload_n hC dX1_replaceByLater_58 (pc' := 59) rfl rfl rfl ?_
          refine xl_i hC dX1_replaceByLater_59 (pc' := 60) rfl (N := 5) (kd_oCon h2) (by decide) rfl (by omega) ?_
          refine xtop (y := (τ (oCon o2) j)) (by rw [su_n (q := (oCon o2)) (o := (oNum (oVec (oVs o1) j))) (by first | (simp only [oMs, oVws, oScr, oSgn, oMod, oMem, oSig, oKno, oPro, oBox, oFst, oSnd, oLts, oLet, oNum, oVw, oEnt, oBef, oBk, oVs, oCon, oVec, m_row, m_keptOf, m_keptRow, m_viewOf, m_alarmOf, m_hasProof, m_depthOf, m_proofOf, m_signedOf, m_knownOf, m_doneOf, m_shownTo, m_sentBy, m_hasRead, m_readOf, m_lettersOf, m_letter, m_hand, m_text] <;> omega) | decide | omega | (simp only [oMs, oVws, oScr, oSgn, oMod, oMem, oSig, oKno, oPro, oBox, oFst, oSnd, oLts, oLet, oNum, oVw, oEnt, oBef, oBk, oVs, oCon, oVec, m_row, m_keptOf, m_keptRow, m_viewOf, m_alarmOf, m_hasProof, m_depthOf, m_proofOf, m_signedOf, m_knownOf, m_doneOf, m_shownTo, m_sentBy, m_hasRead, m_readOf, m_lettersOf, m_letter, m_hand, m_text] at * <;> omega))]) ?_
          refine xs_i hC dX1_replaceByLater_60 (pc' := 61) rfl (N := 5) (kd_oCon h1) (by decide) rfl (by omega) ?_
          refine xn_iinc (lv' := [some (.ref (b + o1)), some (.ref (b + o2)), some (.int (nI (z + 1))), some (.int (nI j))]) hC dX1_replaceByLater_61 (pc' := 64) rfl rfl (by decide) rfl ?_
          refine xn_iinc (lv' := [some (.ref (b + o1)), some (.ref (b + o2)), some (.int (nI (z + 1))), some (.int (nI (j + 1)))]) hC dX1_replaceByLater_64 (pc' := 67) rfl rfl (by decide) rfl ?_
          refine xi_goto (tgt := 4) hC dX1_replaceByLater_67 (by decide) ?_
          refine ih4 _ _ _ (by omega) ?_ ?_ ?_ ?_ ?_
          · omega
          · first
              | exact (by rw [hz, xcnt_t (i_not_le.mp hc)])
              | exact (by rw [hz, xcnt_f (i_not_lt.mpr hc)])
          · intro i hi
            by_cases hij : i = j
            · subst hij
              first
                | (refine ⟨fun _ => ⟨fun k hk => ?_, ?_⟩, fun q => absurd (i_not_le.mp hc) q⟩
                   · rw [sw_n (by first | (simp only [oMs, oVws, oScr, oSgn, oMod, oMem, oSig, oKno, oPro, oBox, oFst, oSnd, oLts, oLet, oNum, oVw, oEnt, oBef, oBk, oVs, oCon, oVec, m_row, m_keptOf, m_keptRow, m_viewOf, m_alarmOf, m_hasProof, m_depthOf, m_proofOf, m_signedOf, m_knownOf, m_doneOf, m_shownTo, m_sentBy, m_hasRead, m_readOf, m_lettersOf, m_letter, m_hand, m_text] <;> omega) | decide | omega | (simp only [oMs, oVws, oScr, oSgn, oMod, oMem, oSig, oKno, oPro, oBox, oFst, oSnd, oLts, oLet, oNum, oVw, oEnt, oBef, oBk, oVs, oCon, oVec, m_row, m_keptOf, m_keptRow, m_viewOf, m_alarmOf, m_hasProof, m_depthOf, m_proofOf, m_signedOf, m_knownOf, m_doneOf, m_shownTo, m_sentBy, m_hasRead, m_readOf, m_lettersOf, m_letter, m_hand, m_text] at * <;> omega)), su_s, hg_2 k hk, hF _ (by first | (simp only [oMs, oVws, oScr, oSgn, oMod, oMem, oSig, oKno, oPro, oBox, oFst, oSnd, oLts, oLet, oNum, oVw, oEnt, oBef, oBk, oVs, oCon, oVec, m_row, m_keptOf, m_keptRow, m_viewOf, m_alarmOf, m_hasProof, m_depthOf, m_proofOf, m_signedOf, m_knownOf, m_doneOf, m_shownTo, m_sentBy, m_hasRead, m_readOf, m_lettersOf, m_letter, m_hand, m_text] <;> omega) | decide | omega | (simp only [oMs, oVws, oScr, oSgn, oMod, oMem, oSig, oKno, oPro, oBox, oFst, oSnd, oLts, oLet, oNum, oVw, oEnt, oBef, oBk, oVs, oCon, oVec, m_row, m_keptOf, m_keptRow, m_viewOf, m_alarmOf, m_hasProof, m_depthOf, m_proofOf, m_signedOf, m_knownOf, m_doneOf, m_shownTo, m_sentBy, m_hasRead, m_readOf, m_lettersOf, m_letter, m_hand, m_text] at * <;> omega))]
                   · rw [sw_s, hF _ (by first | (simp only [oMs, oVws, oScr, oSgn, oMod, oMem, oSig, oKno, oPro, oBox, oFst, oSnd, oLts, oLet, oNum, oVw, oEnt, oBef, oBk, oVs, oCon, oVec, m_row, m_keptOf, m_keptRow, m_viewOf, m_alarmOf, m_hasProof, m_depthOf, m_proofOf, m_signedOf, m_knownOf, m_doneOf, m_shownTo, m_sentBy, m_hasRead, m_readOf, m_lettersOf, m_letter, m_hand, m_text] <;> omega) | decide | omega | (simp only [oMs, oVws, oScr, oSgn, oMod, oMem, oSig, oKno, oPro, oBox, oFst, oSnd, oLts, oLet, oNum, oVw, oEnt, oBef, oBk, oVs, oCon, oVec, m_row, m_keptOf, m_keptRow, m_viewOf, m_alarmOf, m_hasProof, m_depthOf, m_proofOf, m_signedOf, m_knownOf, m_doneOf, m_shownTo, m_sentBy, m_hasRead, m_readOf, m_lettersOf, m_letter, m_hand, m_text] at * <;> omega))])
                | exact ⟨fun q => absurd q (i_not_lt.mpr hc), fun _ => hB i (Nat.le_refl _) (by omega)⟩
            · first
                | (rw [sw_n (q := oNum (oVec (oVs o1) i)) (by first | (simp only [oMs, oVws, oScr, oSgn, oMod, oMem, oSig, oKno, oPro, oBox, oFst, oSnd, oLts, oLet, oNum, oVw, oEnt, oBef, oBk, oVs, oCon, oVec, m_row, m_keptOf, m_keptRow, m_viewOf, m_alarmOf, m_hasProof, m_depthOf, m_proofOf, m_signedOf, m_knownOf, m_doneOf, m_shownTo, m_sentBy, m_hasRead, m_readOf, m_lettersOf, m_letter, m_hand, m_text] <;> omega) | decide | omega | (simp only [oMs, oVws, oScr, oSgn, oMod, oMem, oSig, oKno, oPro, oBox, oFst, oSnd, oLts, oLet, oNum, oVw, oEnt, oBef, oBk, oVs, oCon, oVec, m_row, m_keptOf, m_keptRow, m_viewOf, m_alarmOf, m_hasProof, m_depthOf, m_proofOf, m_signedOf, m_knownOf, m_doneOf, m_shownTo, m_sentBy, m_hasRead, m_readOf, m_lettersOf, m_letter, m_hand, m_text] at * <;> omega)), su_n (q := oNum (oVec (oVs o1) i)) (by first | (simp only [oMs, oVws, oScr, oSgn, oMod, oMem, oSig, oKno, oPro, oBox, oFst, oSnd, oLts, oLet, oNum, oVw, oEnt, oBef, oBk, oVs, oCon, oVec, m_row, m_keptOf, m_keptRow, m_viewOf, m_alarmOf, m_hasProof, m_depthOf, m_proofOf, m_signedOf, m_knownOf, m_doneOf, m_shownTo, m_sentBy, m_hasRead, m_readOf, m_lettersOf, m_letter, m_hand, m_text] <;> omega) | decide | omega | (simp only [oMs, oVws, oScr, oSgn, oMod, oMem, oSig, oKno, oPro, oBox, oFst, oSnd, oLts, oLet, oNum, oVw, oEnt, oBef, oBk, oVs, oCon, oVec, m_row, m_keptOf, m_keptRow, m_viewOf, m_alarmOf, m_hasProof, m_depthOf, m_proofOf, m_signedOf, m_knownOf, m_doneOf, m_shownTo, m_sentBy, m_hasRead, m_readOf, m_lettersOf, m_letter, m_hand, m_text] at * <;> omega)), sw_k hij, su_n (q := oCon o1) (by first | (simp only [oMs, oVws, oScr, oSgn, oMod, oMem, oSig, oKno, oPro, oBox, oFst, oSnd, oLts, oLet, oNum, oVw, oEnt, oBef, oBk, oVs, oCon, oVec, m_row, m_keptOf, m_keptRow, m_viewOf, m_alarmOf, m_hasProof, m_depthOf, m_proofOf, m_signedOf, m_knownOf, m_doneOf, m_shownTo, m_sentBy, m_hasRead, m_readOf, m_lettersOf, m_letter, m_hand, m_text] <;> omega) | decide | omega | (simp only [oMs, oVws, oScr, oSgn, oMod, oMem, oSig, oKno, oPro, oBox, oFst, oSnd, oLts, oLet, oNum, oVw, oEnt, oBef, oBk, oVs, oCon, oVec, m_row, m_keptOf, m_keptRow, m_viewOf, m_alarmOf, m_hasProof, m_depthOf, m_proofOf, m_signedOf, m_knownOf, m_doneOf, m_shownTo, m_sentBy, m_hasRead, m_readOf, m_lettersOf, m_letter, m_hand, m_text] at * <;> omega))]; exact hA i (by omega))
                | exact hA i (by omega)
          · intro i hi h5
            first
              | (rw [sw_n (q := oNum (oVec (oVs o1) i)) (by first | (simp only [oMs, oVws, oScr, oSgn, oMod, oMem, oSig, oKno, oPro, oBox, oFst, oSnd, oLts, oLet, oNum, oVw, oEnt, oBef, oBk, oVs, oCon, oVec, m_row, m_keptOf, m_keptRow, m_viewOf, m_alarmOf, m_hasProof, m_depthOf, m_proofOf, m_signedOf, m_knownOf, m_doneOf, m_shownTo, m_sentBy, m_hasRead, m_readOf, m_lettersOf, m_letter, m_hand, m_text] <;> omega) | decide | omega | (simp only [oMs, oVws, oScr, oSgn, oMod, oMem, oSig, oKno, oPro, oBox, oFst, oSnd, oLts, oLet, oNum, oVw, oEnt, oBef, oBk, oVs, oCon, oVec, m_row, m_keptOf, m_keptRow, m_viewOf, m_alarmOf, m_hasProof, m_depthOf, m_proofOf, m_signedOf, m_knownOf, m_doneOf, m_shownTo, m_sentBy, m_hasRead, m_readOf, m_lettersOf, m_letter, m_hand, m_text] at * <;> omega)), su_n (q := oNum (oVec (oVs o1) i)) (by first | (simp only [oMs, oVws, oScr, oSgn, oMod, oMem, oSig, oKno, oPro, oBox, oFst, oSnd, oLts, oLet, oNum, oVw, oEnt, oBef, oBk, oVs, oCon, oVec, m_row, m_keptOf, m_keptRow, m_viewOf, m_alarmOf, m_hasProof, m_depthOf, m_proofOf, m_signedOf, m_knownOf, m_doneOf, m_shownTo, m_sentBy, m_hasRead, m_readOf, m_lettersOf, m_letter, m_hand, m_text] <;> omega) | decide | omega | (simp only [oMs, oVws, oScr, oSgn, oMod, oMem, oSig, oKno, oPro, oBox, oFst, oSnd, oLts, oLet, oNum, oVw, oEnt, oBef, oBk, oVs, oCon, oVec, m_row, m_keptOf, m_keptRow, m_viewOf, m_alarmOf, m_hasProof, m_depthOf, m_proofOf, m_signedOf, m_knownOf, m_doneOf, m_shownTo, m_sentBy, m_hasRead, m_readOf, m_lettersOf, m_letter, m_hand, m_text] at * <;> omega)), sw_k (show i ≠ j by omega), su_n (q := oCon o1) (by first | (simp only [oMs, oVws, oScr, oSgn, oMod, oMem, oSig, oKno, oPro, oBox, oFst, oSnd, oLts, oLet, oNum, oVw, oEnt, oBef, oBk, oVs, oCon, oVec, m_row, m_keptOf, m_keptRow, m_viewOf, m_alarmOf, m_hasProof, m_depthOf, m_proofOf, m_signedOf, m_knownOf, m_doneOf, m_shownTo, m_sentBy, m_hasRead, m_readOf, m_lettersOf, m_letter, m_hand, m_text] <;> omega) | decide | omega | (simp only [oMs, oVws, oScr, oSgn, oMod, oMem, oSig, oKno, oPro, oBox, oFst, oSnd, oLts, oLet, oNum, oVw, oEnt, oBef, oBk, oVs, oCon, oVec, m_row, m_keptOf, m_keptRow, m_viewOf, m_alarmOf, m_hasProof, m_depthOf, m_proofOf, m_signedOf, m_knownOf, m_doneOf, m_shownTo, m_sentBy, m_hasRead, m_readOf, m_lettersOf, m_letter, m_hand, m_text] at * <;> omega))]; exact hB i (by omega) h5)
              | exact hB i (by omega) h5
          · intro q hq
            first
              | (rw [sw_n (by first | (simp only [oMs, oVws, oScr, oSgn, oMod, oMem, oSig, oKno, oPro, oBox, oFst, oSnd, oLts, oLet, oNum, oVw, oEnt, oBef, oBk, oVs, oCon, oVec, m_row, m_keptOf, m_keptRow, m_viewOf, m_alarmOf, m_hasProof, m_depthOf, m_proofOf, m_signedOf, m_knownOf, m_doneOf, m_shownTo, m_sentBy, m_hasRead, m_readOf, m_lettersOf, m_letter, m_hand, m_text] <;> omega) | decide | omega | (simp only [oMs, oVws, oScr, oSgn, oMod, oMem, oSig, oKno, oPro, oBox, oFst, oSnd, oLts, oLet, oNum, oVw, oEnt, oBef, oBk, oVs, oCon, oVec, m_row, m_keptOf, m_keptRow, m_viewOf, m_alarmOf, m_hasProof, m_depthOf, m_proofOf, m_signedOf, m_knownOf, m_doneOf, m_shownTo, m_sentBy, m_hasRead, m_readOf, m_lettersOf, m_letter, m_hand, m_text] at * <;> omega)), su_n (by first | (simp only [oMs, oVws, oScr, oSgn, oMod, oMem, oSig, oKno, oPro, oBox, oFst, oSnd, oLts, oLet, oNum, oVw, oEnt, oBef, oBk, oVs, oCon, oVec, m_row, m_keptOf, m_keptRow, m_viewOf, m_alarmOf, m_hasProof, m_depthOf, m_proofOf, m_signedOf, m_knownOf, m_doneOf, m_shownTo, m_sentBy, m_hasRead, m_readOf, m_lettersOf, m_letter, m_hand, m_text] <;> omega) | decide | omega | (simp only [oMs, oVws, oScr, oSgn, oMod, oMem, oSig, oKno, oPro, oBox, oFst, oSnd, oLts, oLet, oNum, oVw, oEnt, oBef, oBk, oVs, oCon, oVec, m_row, m_keptOf, m_keptRow, m_viewOf, m_alarmOf, m_hasProof, m_depthOf, m_proofOf, m_signedOf, m_knownOf, m_doneOf, m_shownTo, m_sentBy, m_hasRead, m_readOf, m_lettersOf, m_letter, m_hand, m_text] at * <;> omega))]; exact hF q hq)
              | exact hF q hq
  refine L4 _ _ _ _ (Nat.lt_succ_self _) ?_ ?_ ?_ ?_ ?_
  · omega
  · rfl
  · intro i hi; omega
  · exact fun i _ _ => ⟨rfl, rfl⟩
  · exact fun q _ => rfl

set_option maxRecDepth 100000 in
set_option maxHeartbeats 4000000 in
theorem c_X1_areForked (l : Launch) (D : XD) (b n : Nat) {σ : XM} {o1 : Nat} (h1 : kd o1 = 1) : xM l yX1_areForked cX1_areForked 3 (some .boolean) 1 24 0 0 D b n [.ref (b + o1)] (xH D b σ) n (fun v h' => v = some (.int (bI (fkd 5 5 (xve σ o1)))) ∧ h' = xH D b σ) := by
  refine xM.of (lv := [some (.ref (b + o1)), none, none]) (by decide +kernel) rfl (List.forall_mem_cons.mpr ⟨rfl, fun _ h => absurd h List.not_mem_nil⟩) (Nat.le_of_ble_eq_true rfl) rfl ?_
  intro p e s m args below meth c hC hr hnm
  refine xi_iconst (v := nI 0) hC dX1_areForked_0 (pc' := 1) rfl (by decide +kernel) ?_
  refine xi_istore_n (lv' := [some (.ref (b + o1)), some (.int (nI 0)), none]) hC dX1_areForked_1 (pc' := 2) rfl rfl (by decide) rfl ?_
  have L2 : ∀ (d : Nat) (x : Nat) (v2 : Option Value), 5 - x < d → (x ≤ 5) → (∀ i j, i < x → i < j → j < 5 → ¬ rel 5 (xve σ o1 i) (xve σ o1 j) = 2) → xV p l e (xR 1 24 0 0) s m args below meth c D b 3 0 0 (MQ below (xQ D b n (fun v h' => v = some (.int (bI (fkd 5 5 (xve σ o1)))) ∧ h' = xH D b σ)) args s 0 0 (fun q => b ≤ q)) n (xH D b σ) 2 [some (.ref (b + o1)), some (.int (nI x)), v2] [] := by
    intro d
    induction d with
    | zero => intro x v2 h; exact absurd h (Nat.not_lt_zero _)
    | succ d ih2 =>
      intro x v2 hd2 hx hA
      refine xi_iload_n hC dX1_areForked_2 (pc' := 3) rfl rfl rfl ?_
      refine xi_iconst (v := nI 5) hC dX1_areForked_3 (pc' := 4) rfl (by decide +kernel) ?_
      refine xn_icmpge (tgt := 49) hC dX1_areForked_4 (pc' := 7) rfl (by decide) (by omega) (by omega) (fun zc4 => ?_) (fun zc4 => ?_)
      · skip
        refine xi_iconst (v := nI 0) hC dX1_areForked_49 (pc' := 50) rfl (by decide +kernel) ?_
        refine xb_ireturn hC dX1_areForked_50 hr (by decide) rfl ?_
        exact ⟨by rw [bI_f (show ¬ fkd 5 5 _ from fun ⟨i, j, q1, q2, q3⟩ => hA i j (by omega) q1 q2 q3)], rfl⟩
      · skip
        refine xi_iload_n hC dX1_areForked_7 (pc' := 8) rfl rfl rfl ?_
        refine xi_iconst (v := nI 1) hC dX1_areForked_8 (pc' := 9) rfl (by decide +kernel) ?_
        refine xn_iadd hC dX1_areForked_9 (pc' := 10) rfl ?_
        refine xi_istore_n (lv' := [some (.ref (b + o1)), some (.int (nI x)), some (.int (nI (x + 1)))]) hC dX1_areForked_10 (pc' := 11) rfl rfl (by decide) rfl ?_
        have L11 : ∀ (d : Nat) (y : Nat), 5 - y < d → (x < y ∧ y ≤ 5) → (∀ j, x < j → j < y → ¬ rel 5 (xve σ o1 x) (xve σ o1 j) = 2) → xV p l e (xR 1 24 0 0) s m args below meth c D b 3 0 0 (MQ below (xQ D b n (fun v h' => v = some (.int (bI (fkd 5 5 (xve σ o1)))) ∧ h' = xH D b σ)) args s 0 0 (fun q => b ≤ q)) n (xH D b σ) 11 [some (.ref (b + o1)), some (.int (nI x)), some (.int (nI y))] [] := by
          intro d
          induction d with
          | zero => intro y h; exact absurd h (Nat.not_lt_zero _)
          | succ d ih11 =>
            intro y hd11 hy hB
            refine xi_iload_n hC dX1_areForked_11 (pc' := 12) rfl rfl rfl ?_
            refine xi_iconst (v := nI 5) hC dX1_areForked_12 (pc' := 13) rfl (by decide +kernel) ?_
            refine xn_icmpge (tgt := 43) hC dX1_areForked_13 (pc' := 16) rfl (by decide) (by omega) (by omega) (fun zc13 => ?_) (fun zc13 => ?_)
            · skip
              refine xn_iinc (lv' := [some (.ref (b + o1)), some (.int (nI (x + 1))), some (.int (nI y))]) hC dX1_areForked_43 (pc' := 46) rfl rfl (by decide) rfl ?_
              refine xi_goto (tgt := 2) hC dX1_areForked_46 (by decide) ?_
              refine ih2 _ _ (by omega) ?_ ?_
              · omega
              · intro i j q1 q2 q3
                rcases Nat.lt_or_ge i x with z | z
                · exact hA i j z q2 q3
                · obtain rfl : i = x := by omega
                  exact hB j q2 (by omega)
            · skip
              refine xi_aload_n hC dX1_areForked_16 (pc' := 17) rfl rfl rfl ?_
              refine xg1_vectors hC dX1_areForked_17 (pc' := 20) rfl xw_f_X1_11 h1 ?_
              refine xi_iload_n hC dX1_areForked_20 (pc' := 21) rfl rfl rfl ?_
              refine xa_vectors hC dX1_areForked_21 (pc' := 22) rfl (kd_oVs h1) rfl (by omega) ?_
              refine xi_aload_n hC dX1_areForked_22 (pc' := 23) rfl rfl rfl ?_
              refine xg1_vectors hC dX1_areForked_23 (pc' := 26) rfl xw_f_X1_11 h1 ?_
              refine xi_iload_n hC dX1_areForked_26 (pc' := 27) rfl rfl rfl ?_
              refine xa_vectors hC dX1_areForked_27 (pc' := 28) rfl (kd_oVs h1) rfl (by omega) ?_
              refine xi_callV (As := [.ref (b + (oVec (oVs o1) y))]) (rest := []) (c_X5_relationTo l D b n (σ := σ) (kd_oVec (kd_oVs h1) (by omega)) (kd_oVec (kd_oVs h1) (by omega))) hC dX1_areForked_28 (pc' := 31) rfl xw_m_X1_32 xw_c_X5_relationTo xw_ins_X5_relationTo xw_sel_X5_relationTo xw_ini_X5 xd_X5_relationTo (xH_at.trans (xsh_5 (kd_oVec (kd_oVs h1) (by omega)))) rfl ⟨Nat.le_of_ble_eq_true rfl, Nat.le_of_ble_eq_true rfl⟩ rfl (Nat.le_of_ble_eq_true rfl) ⟨Nat.le_of_ble_eq_true rfl, Nat.le_of_ble_eq_true rfl⟩ ?_
              rintro _ _ ⟨rfl, rfl⟩
              show xV _ _ _ _ _ _ _ _ _ _ _ _ _ _ _ _ _ (xH D b σ) _ _ [.int (rel 5 (σ (oNum (oVec (oVs o1) x))) (σ (oNum (oVec (oVs o1) y))))]
              refine xi_iconst (v := nI 2) hC dX1_areForked_31 (pc' := 32) rfl (by decide +kernel) ?_
              refine xi_icmpne (tgt := 37) hC dX1_areForked_32 (pc' := 35) rfl (by decide) (fun zc32 => ?_) (fun zc32 => ?_)
              · skip
                refine xn_iinc (lv' := [some (.ref (b + o1)), some (.int (nI x)), some (.int (nI (y + 1)))]) hC dX1_areForked_37 (pc' := 40) rfl rfl (by decide) rfl ?_
                refine xi_goto (tgt := 11) hC dX1_areForked_40 (by decide) ?_
                refine ih11 _ (by omega) ?_ ?_
                · omega
                · intro j q1 q2
                  rcases Nat.lt_or_ge j y with z | z
                  · exact hB j q1 z
                  · obtain rfl : j = y := by omega
                    exact fun z => zc32 (z.trans (by decide))
              · skip
                refine xi_iconst (v := nI 1) hC dX1_areForked_35 (pc' := 36) rfl (by decide +kernel) ?_
                refine xb_ireturn hC dX1_areForked_36 hr (by decide) rfl ?_
                exact ⟨by rw [bI_t (show fkd 5 5 _ from ⟨x, y, hy.1, by omega, zc32.trans (by decide)⟩)], rfl⟩
        refine L11 _ _ (Nat.lt_succ_self _) ?_ ?_
        · omega
        · intro j q1 q2; omega
  refine L2 _ _ _ (Nat.lt_succ_self _) ?_ ?_
  · omega
  · intro i j q; omega

set_option maxRecDepth 100000 in
set_option maxHeartbeats 4000000 in
theorem c_X1_greatest (l : Launch) (D : XD) (b n : Nat) {σ : XM} {o1 : Nat} (h1 : kd o1 = 1) : xM l yX1_greatest cX1_greatest 3 (some (.object "ForkedStore$VersionVector")) 1 22 0 0 D b n [.ref (b + o1)] (xH D b σ) n (fun v h' => ∃ g, g < 5 ∧ g = gix (fun a c => vle 5 (xve σ o1 a) (xve σ o1 c)) 4 ∧ v = some (.ref (b + oVec (oVs o1) g)) ∧ h' = xH D b σ) := by
  refine xM.of (lv := [some (.ref (b + o1)), none, none]) (by decide +kernel) rfl (List.forall_mem_cons.mpr ⟨rfl, fun _ h => absurd h List.not_mem_nil⟩) (Nat.le_of_ble_eq_true rfl) rfl ?_
  intro p e s m args below meth c hC hr hnm
  refine xi_aload_n hC dX1_greatest_0 (pc' := 1) rfl rfl rfl ?_
  refine xg1_vectors hC dX1_greatest_1 (pc' := 4) rfl xw_f_X1_11 h1 ?_
  refine xi_iconst (v := nI 0) hC dX1_greatest_4 (pc' := 5) rfl (by decide +kernel) ?_
  refine xa_vectors hC dX1_greatest_5 (pc' := 6) rfl (kd_oVs h1) rfl (by omega) ?_
  refine xi_astore_n (lv' := [some (.ref (b + o1)), some (.ref (b + (oVec (oVs o1) 0))), none]) hC dX1_greatest_6 (pc' := 7) rfl rfl (by decide) rfl ?_
  refine xi_iconst (v := nI 1) hC dX1_greatest_7 (pc' := 8) rfl (by decide +kernel) ?_
  refine xi_istore_n (lv' := [some (.ref (b + o1)), some (.ref (b + (oVec (oVs o1) 0))), some (.int (nI 1))]) hC dX1_greatest_8 (pc' := 9) rfl rfl (by decide) rfl ?_
  have L9 : ∀ (d : Nat) (j : Nat) (g : Nat), 4 - j < d → (j ≤ 4) → (g < 5) → (g = gix (fun a c => vle 5 (xve σ o1 a) (xve σ o1 c)) j) → xV p l e (xR 1 22 0 0) s m args below meth c D b 3 0 0 (MQ below (xQ D b n (fun v h' => ∃ g, g < 5 ∧ g = gix (fun a c => vle 5 (xve σ o1 a) (xve σ o1 c)) 4 ∧ v = some (.ref (b + oVec (oVs o1) g)) ∧ h' = xH D b σ)) args s 0 0 (fun q => b ≤ q)) n (xH D b σ) 9 [some (.ref (b + o1)), some (.ref (b + (oVec (oVs o1) g))), some (.int (nI (j + 1)))] [] := by
    intro d
    induction d with
    | zero => intro j g h; exact absurd h (Nat.not_lt_zero _)
    | succ d ih9 =>
      intro j g hd9 hj hg eg
      refine xi_iload_n hC dX1_greatest_9 (pc' := 10) rfl rfl rfl ?_
      refine xi_iconst (v := nI 5) hC dX1_greatest_10 (pc' := 11) rfl (by decide +kernel) ?_
      refine xn_icmpge (tgt := 40) hC dX1_greatest_11 (pc' := 14) rfl (by decide) (by omega) (by omega) (fun zc11 => ?_) (fun zc11 => ?_)
      · skip
        refine xi_aload_n hC dX1_greatest_40 (pc' := 41) rfl rfl rfl ?_
        refine xi_areturn hC dX1_greatest_41 hr rfl ?_
        obtain rfl : j = 4 := by omega
        exact ⟨g, hg, eg, rfl, rfl⟩
      · skip
        refine xi_aload_n hC dX1_greatest_14 (pc' := 15) rfl rfl rfl ?_
        refine xi_aload_n hC dX1_greatest_15 (pc' := 16) rfl rfl rfl ?_
        refine xg1_vectors hC dX1_greatest_16 (pc' := 19) rfl xw_f_X1_11 h1 ?_
        refine xi_iload_n hC dX1_greatest_19 (pc' := 20) rfl rfl rfl ?_
        refine xa_vectors hC dX1_greatest_20 (pc' := 21) rfl (kd_oVs h1) rfl (by omega) ?_
        refine xi_callV (As := [.ref (b + (oVec (oVs o1) (j + 1)))]) (rest := []) (c_X5_isAtMost l D b n (σ := σ) (kd_oVec (kd_oVs h1) hg) (kd_oVec (kd_oVs h1) (by omega))) hC dX1_greatest_21 (pc' := 24) rfl xw_m_X1_36 xw_c_X5_isAtMost xw_ins_X5_isAtMost xw_sel_X5_isAtMost xw_ini_X5 xd_X5_isAtMost (xH_at.trans (xsh_5 (kd_oVec (kd_oVs h1) hg))) rfl ⟨Nat.le_of_ble_eq_true rfl, Nat.le_of_ble_eq_true rfl⟩ rfl (Nat.le_of_ble_eq_true rfl) ⟨Nat.le_of_ble_eq_true rfl, Nat.le_of_ble_eq_true rfl⟩ ?_
        rintro _ _ ⟨rfl, rfl⟩
        show xV _ _ _ _ _ _ _ _ _ _ _ _ _ _ _ _ _ (xH D b σ) _ _ [.int (bI (vle 5 (σ (oNum (oVec (oVs o1) g))) (σ (oNum (oVec (oVs o1) (j + 1))))))]
        refine xb_ifeq (tgt := 34) hC dX1_greatest_24 (pc' := 27) rfl (by decide) (fun zc24 => ?_) (fun zc24 => ?_)
        · skip
          refine xn_iinc (lv' := [some (.ref (b + o1)), some (.ref (b + (oVec (oVs o1) g))), some (.int (nI (j + 1 + 1)))]) hC dX1_greatest_34 (pc' := 37) rfl rfl (by decide) rfl ?_
          refine xi_goto (tgt := 9) hC dX1_greatest_37 (by decide) ?_
          refine ih9 _ _ (by omega) ?_ ?_ ?_
          · omega
          · omega
          · first | (rw [gix_t (by rw [← eg]; exact zc24)]) | (rw [gix_f (by rw [← eg]; exact zc24)]; exact eg)
        · skip
          refine xi_aload_n hC dX1_greatest_27 (pc' := 28) rfl rfl rfl ?_
          refine xg1_vectors hC dX1_greatest_28 (pc' := 31) rfl xw_f_X1_11 h1 ?_
          refine xi_iload_n hC dX1_greatest_31 (pc' := 32) rfl rfl rfl ?_
          refine xa_vectors hC dX1_greatest_32 (pc' := 33) rfl (kd_oVs h1) rfl (by omega) ?_
          refine xi_astore_n (lv' := [some (.ref (b + o1)), some (.ref (b + (oVec (oVs o1) (j + 1)))), some (.int (nI (j + 1)))]) hC dX1_greatest_33 (pc' := 34) rfl rfl (by decide) rfl ?_
          refine xn_iinc (lv' := [some (.ref (b + o1)), some (.ref (b + (oVec (oVs o1) (j + 1)))), some (.int (nI (j + 1 + 1)))]) hC dX1_greatest_34 (pc' := 37) rfl rfl (by decide) rfl ?_
          refine xi_goto (tgt := 9) hC dX1_greatest_37 (by decide) ?_
          refine ih9 _ _ (by omega) ?_ ?_ ?_
          · omega
          · omega
          · first | (rw [gix_t (by rw [← eg]; exact zc24)]) | (rw [gix_f (by rw [← eg]; exact zc24)]; exact eg)
  refine L9 _ _ _ (Nat.lt_succ_self _) ?_ ?_ ?_
  · omega
  · omega
  · rfl

set_option maxRecDepth 100000 in
set_option maxHeartbeats 4000000 in
theorem c_X3_clear (l : Launch) (D : XD) (b n : Nat) {σ : XM} {o1 : Nat} (h1 : kd o1 = 3) : xM l yX3_clear cX3_clear 1 none 0 0 0 0 D b n [.ref (b + o1)] (xH D b σ) n (fun v h' => v = none ∧ h' = xH D b (sw σ o1 2 (nI 0))) := by
  refine xM.of (lv := [some (.ref (b + o1))]) (by decide +kernel) rfl (List.forall_mem_cons.mpr ⟨rfl, fun _ h => absurd h List.not_mem_nil⟩) (Nat.le_of_ble_eq_true rfl) rfl ?_
  intro p e s m args below meth c hC hr hnm
  refine xi_aload_n hC dX3_clear_0 (pc' := 1) rfl rfl rfl ?_
  refine xi_iconst (v := nI 0) hC dX3_clear_1 (pc' := 2) rfl (by decide +kernel) ?_
  refine xp3_isHeld hC dX3_clear_2 (pc' := 5) rfl xw_f_X3_19 h1 (by decide) ?_
  refine xi_return hC dX3_clear_5 hr rfl ?_
  exact ⟨rfl, rfl⟩

set_option maxRecDepth 100000 in
set_option maxHeartbeats 4000000 in
theorem c_X3_keepFirst (l : Launch) (D : XD) (b n : Nat) {σ : XM} {o1 q1 q2 : Nat} {x : Int32} (h1 : kd o1 = 3) (h2 : kd q1 = 5) (h3 : kd q2 = 5) (hne : q1 ≠ oFst o1 ∧ q2 ≠ oSnd o1 ∧ q2 ≠ oFst o1) : xM l yX3_keepFirst cX3_keepFirst 4 none 1 22 0 0 D b n [.ref (b + o1), .ref (b + q1), .ref (b + q2), .int x] (xH D b σ) n (fun v h' => v = none ∧ ∃ τ : XM, xKeep σ o1 x (σ (oNum q1)) (σ (oNum q2)) τ ∧ h' = xH D b τ) := by
  refine xM.of (lv := [some (.ref (b + o1)), some (.ref (b + q1)), some (.ref (b + q2)), some (.int x)]) (by decide +kernel) rfl (List.forall_mem_cons.mpr ⟨rfl, List.forall_mem_cons.mpr ⟨rfl, List.forall_mem_cons.mpr ⟨rfl, List.forall_mem_cons.mpr ⟨rfl, fun _ h => absurd h List.not_mem_nil⟩⟩⟩⟩) (Nat.le_of_ble_eq_true rfl) rfl ?_
  intro p e s m args below meth c hC hr hnm
  refine xi_aload_n hC dX3_keepFirst_0 (pc' := 1) rfl rfl rfl ?_
  refine xg3_isHeld hC dX3_keepFirst_1 (pc' := 4) rfl xw_f_X3_19 h1 ?_
  refine xi_ifeq (tgt := 8) hC dX3_keepFirst_4 (pc' := 7) rfl (by decide) (fun zc4 => ?_) (fun zc4 => ?_)
  · skip
    refine xi_aload_n hC dX3_keepFirst_8 (pc' := 9) rfl rfl rfl ?_
    refine xg3_first hC dX3_keepFirst_9 (pc' := 12) rfl xw_f_X3_10 h1 ?_
    refine xi_aload_n hC dX3_keepFirst_12 (pc' := 13) rfl rfl rfl ?_
    refine xi_callV (As := [.ref (b + q1)]) (rest := []) (c_X5_copyFrom l D b n (σ := σ) (kd_oFst h1) h2 (by first | (simp only [oMs, oVws, oScr, oSgn, oMod, oMem, oSig, oKno, oPro, oBox, oFst, oSnd, oLts, oLet, oNum, oVw, oEnt, oBef, oBk, oVs, oCon, oVec, m_row, m_keptOf, m_keptRow, m_viewOf, m_alarmOf, m_hasProof, m_depthOf, m_proofOf, m_signedOf, m_knownOf, m_doneOf, m_shownTo, m_sentBy, m_hasRead, m_readOf, m_lettersOf, m_letter, m_hand, m_text] <;> omega) | decide | omega | (simp only [oMs, oVws, oScr, oSgn, oMod, oMem, oSig, oKno, oPro, oBox, oFst, oSnd, oLts, oLet, oNum, oVw, oEnt, oBef, oBk, oVs, oCon, oVec, m_row, m_keptOf, m_keptRow, m_viewOf, m_alarmOf, m_hasProof, m_depthOf, m_proofOf, m_signedOf, m_knownOf, m_doneOf, m_shownTo, m_sentBy, m_hasRead, m_readOf, m_lettersOf, m_letter, m_hand, m_text] at * <;> omega))) hC dX3_keepFirst_13 (pc' := 16) rfl xw_m_X3_23 xw_c_X5_copyFrom xw_ins_X5_copyFrom xw_sel_X5_copyFrom xw_ini_X5 xd_X5_copyFrom (xH_at.trans (xsh_5 (kd_oFst h1))) rfl ⟨Nat.le_of_ble_eq_true rfl, Nat.le_of_ble_eq_true rfl⟩ rfl (Nat.le_of_ble_eq_true rfl) ⟨Nat.le_of_ble_eq_true rfl, Nat.le_of_ble_eq_true rfl⟩ ?_
    rintro _ _ ⟨rfl, g_1, hg_2, rfl⟩
    show xV _ _ _ _ _ _ _ _ _ _ _ _ _ _ _ _ _ (xH D b (su σ (oNum (oFst o1)) g_1)) _ _ []
    refine xi_aload_n hC dX3_keepFirst_16 (pc' := 17) rfl rfl rfl ?_
    refine xg3_second hC dX3_keepFirst_17 (pc' := 20) rfl xw_f_X3_16 h1 ?_
    refine xi_aload_n hC dX3_keepFirst_20 (pc' := 21) rfl rfl rfl ?_
    refine xi_callV (As := [.ref (b + q2)]) (rest := []) (c_X5_copyFrom l D b n (σ := (su σ (oNum (oFst o1)) g_1)) (kd_oSnd h1) h3 (by first | (simp only [oMs, oVws, oScr, oSgn, oMod, oMem, oSig, oKno, oPro, oBox, oFst, oSnd, oLts, oLet, oNum, oVw, oEnt, oBef, oBk, oVs, oCon, oVec, m_row, m_keptOf, m_keptRow, m_viewOf, m_alarmOf, m_hasProof, m_depthOf, m_proofOf, m_signedOf, m_knownOf, m_doneOf, m_shownTo, m_sentBy, m_hasRead, m_readOf, m_lettersOf, m_letter, m_hand, m_text] <;> omega) | decide | omega | (simp only [oMs, oVws, oScr, oSgn, oMod, oMem, oSig, oKno, oPro, oBox, oFst, oSnd, oLts, oLet, oNum, oVw, oEnt, oBef, oBk, oVs, oCon, oVec, m_row, m_keptOf, m_keptRow, m_viewOf, m_alarmOf, m_hasProof, m_depthOf, m_proofOf, m_signedOf, m_knownOf, m_doneOf, m_shownTo, m_sentBy, m_hasRead, m_readOf, m_lettersOf, m_letter, m_hand, m_text] at * <;> omega))) hC dX3_keepFirst_21 (pc' := 24) rfl xw_m_X3_23 xw_c_X5_copyFrom xw_ins_X5_copyFrom xw_sel_X5_copyFrom xw_ini_X5 xd_X5_copyFrom (xH_at.trans (xsh_5 (kd_oSnd h1))) rfl ⟨Nat.le_of_ble_eq_true rfl, Nat.le_of_ble_eq_true rfl⟩ rfl (Nat.le_of_ble_eq_true rfl) ⟨Nat.le_of_ble_eq_true rfl, Nat.le_of_ble_eq_true rfl⟩ ?_
    rintro _ _ ⟨rfl, g_3, hg_4, rfl⟩
    show xV _ _ _ _ _ _ _ _ _ _ _ _ _ _ _ _ _ (xH D b (su (su σ (oNum (oFst o1)) g_1) (oNum (oSnd o1)) g_3)) _ _ []
    refine xi_aload_n hC dX3_keepFirst_24 (pc' := 25) rfl rfl rfl ?_
    refine xi_iload_n hC dX3_keepFirst_25 (pc' := 26) rfl rfl rfl ?_
    refine xp3_depth hC dX3_keepFirst_26 (pc' := 29) rfl xw_f_X3_27 h1 ?_
    refine xi_aload_n hC dX3_keepFirst_29 (pc' := 30) rfl rfl rfl ?_
    refine xi_iconst (v := nI 1) hC dX3_keepFirst_30 (pc' := 31) rfl (by decide +kernel) ?_
    refine xp3_isHeld hC dX3_keepFirst_31 (pc' := 34) rfl xw_f_X3_19 h1 (by decide) ?_
    refine xi_return hC dX3_keepFirst_34 hr rfl ?_
    exact ⟨rfl, _, Or.inr ⟨zc4, _, _, hg_2, fun k hk => by rw [hg_4 k hk, su_n (by first | (simp only [oMs, oVws, oScr, oSgn, oMod, oMem, oSig, oKno, oPro, oBox, oFst, oSnd, oLts, oLet, oNum, oVw, oEnt, oBef, oBk, oVs, oCon, oVec, m_row, m_keptOf, m_keptRow, m_viewOf, m_alarmOf, m_hasProof, m_depthOf, m_proofOf, m_signedOf, m_knownOf, m_doneOf, m_shownTo, m_sentBy, m_hasRead, m_readOf, m_lettersOf, m_letter, m_hand, m_text] <;> omega) | decide | omega | (simp only [oMs, oVws, oScr, oSgn, oMod, oMem, oSig, oKno, oPro, oBox, oFst, oSnd, oLts, oLet, oNum, oVw, oEnt, oBef, oBk, oVs, oCon, oVec, m_row, m_keptOf, m_keptRow, m_viewOf, m_alarmOf, m_hasProof, m_depthOf, m_proofOf, m_signedOf, m_knownOf, m_doneOf, m_shownTo, m_sentBy, m_hasRead, m_readOf, m_lettersOf, m_letter, m_hand, m_text] at * <;> omega))], rfl⟩, rfl⟩
  · skip
    refine xi_return hC dX3_keepFirst_7 hr rfl ?_
    exact ⟨rfl, σ, Or.inl ⟨zc4, rfl⟩, rfl⟩

set_option maxRecDepth 100000 in
set_option maxHeartbeats 4000000 in
theorem c_X1_prove (l : Launch) (D : XD) (b n : Nat) {σ : XM} {o1 q : Nat} (h1 : kd o1 = 1) (h2 : kd q = 3) (hd : ∀ i, i < 5 → oVec (oVs o1) i ≠ oFst q ∧ oVec (oVs o1) i ≠ oSnd q) : xM l yX1_prove cX1_prove 4 none 2 45 0 0 D b n [.ref (b + o1), .ref (b + q)] (xH D b σ) n (fun v h' => v = none ∧ ∃ τ : XM, ((∃ i j, fstP 5 5 (xve σ o1) i j ∧ xKeep σ q (nI 0) (xve σ o1 i) (xve σ o1 j) τ) ∨ (¬ fkd 5 5 (xve σ o1) ∧ τ = σ)) ∧ h' = xH D b τ) := by
  refine xM.of (lv := [some (.ref (b + o1)), some (.ref (b + q)), none, none]) (by decide +kernel) rfl (List.forall_mem_cons.mpr ⟨rfl, List.forall_mem_cons.mpr ⟨rfl, fun _ h => absurd h List.not_mem_nil⟩⟩) (Nat.le_of_ble_eq_true rfl) rfl ?_
  intro p e s m args below meth c hC hr hnm
  refine xi_iconst (v := nI 0) hC dX1_prove_0 (pc' := 1) rfl (by decide +kernel) ?_
  refine xi_istore_n (lv' := [some (.ref (b + o1)), some (.ref (b + q)), some (.int (nI 0)), none]) hC dX1_prove_1 (pc' := 2) rfl rfl (by decide) rfl ?_
  have L2 : ∀ (d : Nat) (x : Nat) (v3 : Option Value), 5 - x < d → (x ≤ 5) → (∀ i j, i < x → i < j → j < 5 → ¬ rel 5 (xve σ o1 i) (xve σ o1 j) = 2) → xV p l e (xR 2 45 0 0) s m args below meth c D b 4 0 0 (MQ below (xQ D b n (fun v h' => v = none ∧ ∃ τ : XM, ((∃ i j, fstP 5 5 (xve σ o1) i j ∧ xKeep σ q (nI 0) (xve σ o1 i) (xve σ o1 j) τ) ∨ (¬ fkd 5 5 (xve σ o1) ∧ τ = σ)) ∧ h' = xH D b τ)) args s 0 0 (fun q => b ≤ q)) n (xH D b σ) 2 [some (.ref (b + o1)), some (.ref (b + q)), some (.int (nI x)), v3] [] := by
    intro d
    induction d with
    | zero => intro x v3 h; exact absurd h (Nat.not_lt_zero _)
    | succ d ih2 =>
      intro x v3 hd2 hx hA
      refine xi_iload_n hC dX1_prove_2 (pc' := 3) rfl rfl rfl ?_
      refine xi_iconst (v := nI 5) hC dX1_prove_3 (pc' := 4) rfl (by decide +kernel) ?_
      refine xn_icmpge (tgt := 65) hC dX1_prove_4 (pc' := 7) rfl (by decide) (by omega) (by omega) (fun zc4 => ?_) (fun zc4 => ?_)
      · skip
        refine xi_return hC dX1_prove_65 hr rfl ?_
        exact ⟨rfl, σ, Or.inr ⟨fun ⟨i, j, q1, q2, q3⟩ => hA i j (by omega) q1 q2 q3, rfl⟩, rfl⟩
      · skip
        refine xi_iload_n hC dX1_prove_7 (pc' := 8) rfl rfl rfl ?_
        refine xi_iconst (v := nI 1) hC dX1_prove_8 (pc' := 9) rfl (by decide +kernel) ?_
        refine xn_iadd hC dX1_prove_9 (pc' := 10) rfl ?_
        refine xi_istore_n (lv' := [some (.ref (b + o1)), some (.ref (b + q)), some (.int (nI x)), some (.int (nI (x + 1)))]) hC dX1_prove_10 (pc' := 11) rfl rfl (by decide) rfl ?_
        have L11 : ∀ (d : Nat) (y : Nat), 5 - y < d → (x < y ∧ y ≤ 5) → (∀ j, x < j → j < y → ¬ rel 5 (xve σ o1 x) (xve σ o1 j) = 2) → xV p l e (xR 2 45 0 0) s m args below meth c D b 4 0 0 (MQ below (xQ D b n (fun v h' => v = none ∧ ∃ τ : XM, ((∃ i j, fstP 5 5 (xve σ o1) i j ∧ xKeep σ q (nI 0) (xve σ o1 i) (xve σ o1 j) τ) ∨ (¬ fkd 5 5 (xve σ o1) ∧ τ = σ)) ∧ h' = xH D b τ)) args s 0 0 (fun q => b ≤ q)) n (xH D b σ) 11 [some (.ref (b + o1)), some (.ref (b + q)), some (.int (nI x)), some (.int (nI y))] [] := by
          intro d
          induction d with
          | zero => intro y h; exact absurd h (Nat.not_lt_zero _)
          | succ d ih11 =>
            intro y hd11 hy hB
            refine xi_iload_n hC dX1_prove_11 (pc' := 12) rfl rfl rfl ?_
            refine xi_iconst (v := nI 5) hC dX1_prove_12 (pc' := 13) rfl (by decide +kernel) ?_
            refine xn_icmpge (tgt := 59) hC dX1_prove_13 (pc' := 16) rfl (by decide) (by omega) (by omega) (fun zc13 => ?_) (fun zc13 => ?_)
            · skip
              refine xn_iinc (lv' := [some (.ref (b + o1)), some (.ref (b + q)), some (.int (nI (x + 1))), some (.int (nI y))]) hC dX1_prove_59 (pc' := 62) rfl rfl (by decide) rfl ?_
              refine xi_goto (tgt := 2) hC dX1_prove_62 (by decide) ?_
              refine ih2 _ _ (by omega) ?_ ?_
              · omega
              · intro i j q1 q2 q3
                rcases Nat.lt_or_ge i x with z | z
                · exact hA i j z q2 q3
                · obtain rfl : i = x := by omega
                  exact hB j q2 (by omega)
            · skip
              refine xi_aload_n hC dX1_prove_16 (pc' := 17) rfl rfl rfl ?_
              refine xg1_vectors hC dX1_prove_17 (pc' := 20) rfl xw_f_X1_11 h1 ?_
              refine xi_iload_n hC dX1_prove_20 (pc' := 21) rfl rfl rfl ?_
              refine xa_vectors hC dX1_prove_21 (pc' := 22) rfl (kd_oVs h1) rfl (by omega) ?_
              refine xi_aload_n hC dX1_prove_22 (pc' := 23) rfl rfl rfl ?_
              refine xg1_vectors hC dX1_prove_23 (pc' := 26) rfl xw_f_X1_11 h1 ?_
              refine xi_iload_n hC dX1_prove_26 (pc' := 27) rfl rfl rfl ?_
              refine xa_vectors hC dX1_prove_27 (pc' := 28) rfl (kd_oVs h1) rfl (by omega) ?_
              refine xi_callV (As := [.ref (b + (oVec (oVs o1) y))]) (rest := []) (c_X5_relationTo l D b n (σ := σ) (kd_oVec (kd_oVs h1) (by omega)) (kd_oVec (kd_oVs h1) (by omega))) hC dX1_prove_28 (pc' := 31) rfl xw_m_X1_32 xw_c_X5_relationTo xw_ins_X5_relationTo xw_sel_X5_relationTo xw_ini_X5 xd_X5_relationTo (xH_at.trans (xsh_5 (kd_oVec (kd_oVs h1) (by omega)))) rfl ⟨Nat.le_of_ble_eq_true rfl, Nat.le_of_ble_eq_true rfl⟩ rfl (Nat.le_of_ble_eq_true rfl) ⟨Nat.le_of_ble_eq_true rfl, Nat.le_of_ble_eq_true rfl⟩ ?_
              rintro _ _ ⟨rfl, rfl⟩
              show xV _ _ _ _ _ _ _ _ _ _ _ _ _ _ _ _ _ (xH D b σ) _ _ [.int (rel 5 (σ (oNum (oVec (oVs o1) x))) (σ (oNum (oVec (oVs o1) y))))]
              refine xi_iconst (v := nI 2) hC dX1_prove_31 (pc' := 32) rfl (by decide +kernel) ?_
              refine xi_icmpne (tgt := 53) hC dX1_prove_32 (pc' := 35) rfl (by decide) (fun zc32 => ?_) (fun zc32 => ?_)
              · skip
                refine xn_iinc (lv' := [some (.ref (b + o1)), some (.ref (b + q)), some (.int (nI x)), some (.int (nI (y + 1)))]) hC dX1_prove_53 (pc' := 56) rfl rfl (by decide) rfl ?_
                refine xi_goto (tgt := 11) hC dX1_prove_56 (by decide) ?_
                refine ih11 _ (by omega) ?_ ?_
                · omega
                · intro j q1 q2
                  rcases Nat.lt_or_ge j y with z | z
                  · exact hB j q1 z
                  · obtain rfl : j = y := by omega
                    exact fun z => zc32 (z.trans (by decide))
              · skip
                refine xi_aload_n hC dX1_prove_35 (pc' := 36) rfl rfl rfl ?_
                refine xi_aload_n hC dX1_prove_36 (pc' := 37) rfl rfl rfl ?_
                refine xg1_vectors hC dX1_prove_37 (pc' := 40) rfl xw_f_X1_11 h1 ?_
                refine xi_iload_n hC dX1_prove_40 (pc' := 41) rfl rfl rfl ?_
                refine xa_vectors hC dX1_prove_41 (pc' := 42) rfl (kd_oVs h1) rfl (by omega) ?_
                refine xi_aload_n hC dX1_prove_42 (pc' := 43) rfl rfl rfl ?_
                refine xg1_vectors hC dX1_prove_43 (pc' := 46) rfl xw_f_X1_11 h1 ?_
                refine xi_iload_n hC dX1_prove_46 (pc' := 47) rfl rfl rfl ?_
                refine xa_vectors hC dX1_prove_47 (pc' := 48) rfl (kd_oVs h1) rfl (by omega) ?_
                refine xi_iconst (v := nI 0) hC dX1_prove_48 (pc' := 49) rfl (by decide +kernel) ?_
                refine xi_callV (As := [.ref (b + (oVec (oVs o1) x)), .ref (b + (oVec (oVs o1) y)), .int (nI 0)]) (rest := []) (c_X3_keepFirst l D b n (σ := σ) (x := (nI 0)) h2 (kd_oVec (kd_oVs h1) (by omega)) (kd_oVec (kd_oVs h1) (by omega)) ⟨(hd x (by omega)).1, (hd y (by omega)).2, (hd y (by omega)).1⟩) hC dX1_prove_49 (pc' := 52) rfl xw_m_X1_40 xw_c_X3_keepFirst xw_ins_X3_keepFirst xw_sel_X3_keepFirst xw_ini_X3 xd_X3_keepFirst (xH_at.trans (xsh_3 h2)) rfl ⟨Nat.le_of_ble_eq_true rfl, Nat.le_of_ble_eq_true rfl⟩ rfl (Nat.le_of_ble_eq_true rfl) ⟨Nat.le_of_ble_eq_true rfl, Nat.le_of_ble_eq_true rfl⟩ ?_
                rintro _ _ ⟨rfl, τ_1, hK_2, rfl⟩
                show xV _ _ _ _ _ _ _ _ _ _ _ _ _ _ _ _ _ (xH D b τ_1) _ _ []
                refine xi_return hC dX1_prove_52 hr rfl ?_
                refine ⟨rfl, _, Or.inl ⟨x, y, ⟨hy.1, by omega, zc32.trans (by decide), fun i j q1 q2 q3 => ?_⟩, hK_2⟩, rfl⟩
                rcases Nat.lt_or_ge i x with z | z
                · exact absurd q3 (hA i j z q1 q2)
                · rcases Nat.lt_or_ge x i with z2 | z2
                  · exact Or.inl z2
                  · obtain rfl : i = x := by omega
                    refine Or.inr ⟨rfl, ?_⟩
                    rcases Nat.lt_or_ge j y with z3 | z3
                    · exact absurd q3 (hB j q1 z3)
                    · exact z3
        refine L11 _ _ (Nat.lt_succ_self _) ?_ ?_
        · omega
        · intro j q1 q2; omega
  refine L2 _ _ _ (Nat.lt_succ_self _) ?_ ?_
  · omega
  · intro i j q; omega
end
section
/-! ===== Box, View ===== -/
set_option maxRecDepth 100000 in
set_option maxHeartbeats 4000000 in
theorem c_X0_put (l : Launch) (D : XD) (b n : Nat) {σ : XM} {o1 q z : Nat} (h1 : kd o1 = 0) (h2 : kd q = 5) (hz : σ o1 1 = nI z) (hz4 : z < 4) (hne : q ≠ oLet (oLts o1) z) : xM l yX0_put cX0_put 2 none 1 22 0 0 D b n [.ref (b + o1), .ref (b + q)] (xH D b σ) n (fun v h' => v = none ∧ ∃ g : Nat → Int32, (∀ k, k < 5 → g k = σ (oNum q) k) ∧ h' = xH D b (sw (su σ (oNum (oLet (oLts o1) z)) g) o1 1 (nI (z + 1)))) := by
  refine xM.of (lv := [some (.ref (b + o1)), some (.ref (b + q))]) (by decide +kernel) rfl (List.forall_mem_cons.mpr ⟨rfl, List.forall_mem_cons.mpr ⟨rfl, fun _ h => absurd h List.not_mem_nil⟩⟩) (Nat.le_of_ble_eq_true rfl) rfl ?_
  intro p e s m args below meth c hC hr hnm
  refine xi_aload_n hC dX0_put_0 (pc' := 1) rfl rfl rfl ?_
  refine xg0_size hC dX0_put_1 (pc' := 4) rfl xw_f_X0_18 h1 ?_
  refine xtop (y := (nI z)) (hz) ?_
  refine xi_iconst (v := nI 4) hC dX0_put_4 (pc' := 5) rfl (by decide +kernel) ?_
  refine xn_icmpge (tgt := 31) hC dX0_put_5 (pc' := 8) rfl (by decide) (by omega) (by omega) (fun zc5 => ?_) (fun zc5 => ?_)
  · omega
  · skip
    refine xi_aload_n hC dX0_put_8 (pc' := 9) rfl rfl rfl ?_
    refine xg0_letters hC dX0_put_9 (pc' := 12) rfl xw_f_X0_11 h1 ?_
    refine xi_aload_n hC dX0_put_12 (pc' := 13) rfl rfl rfl ?_
    refine xg0_size hC dX0_put_13 (pc' := 16) rfl xw_f_X0_18 h1 ?_
    refine xtop (y := (nI z)) (hz) ?_
    refine xa_letters hC dX0_put_16 (pc' := 17) rfl (kd_oLts h1) rfl (by omega) ?_
    refine xi_aload_n hC dX0_put_17 (pc' := 18) rfl rfl rfl ?_
    refine xi_callV (As := [.ref (b + q)]) (rest := []) (c_X5_copyFrom l D b n (σ := σ) (kd_oLet (kd_oLts h1) (by omega)) h2 (by first | (simp only [oMs, oVws, oScr, oSgn, oMod, oMem, oSig, oKno, oPro, oBox, oFst, oSnd, oLts, oLet, oNum, oVw, oEnt, oBef, oBk, oVs, oCon, oVec, m_row, m_keptOf, m_keptRow, m_viewOf, m_alarmOf, m_hasProof, m_depthOf, m_proofOf, m_signedOf, m_knownOf, m_doneOf, m_shownTo, m_sentBy, m_hasRead, m_readOf, m_lettersOf, m_letter, m_hand, m_text] <;> omega) | decide | omega | (simp only [oMs, oVws, oScr, oSgn, oMod, oMem, oSig, oKno, oPro, oBox, oFst, oSnd, oLts, oLet, oNum, oVw, oEnt, oBef, oBk, oVs, oCon, oVec, m_row, m_keptOf, m_keptRow, m_viewOf, m_alarmOf, m_hasProof, m_depthOf, m_proofOf, m_signedOf, m_knownOf, m_doneOf, m_shownTo, m_sentBy, m_hasRead, m_readOf, m_lettersOf, m_letter, m_hand, m_text] at * <;> omega))) hC dX0_put_18 (pc' := 21) rfl xw_m_X0_22 xw_c_X5_copyFrom xw_ins_X5_copyFrom xw_sel_X5_copyFrom xw_ini_X5 xd_X5_copyFrom (xH_at.trans (xsh_5 (kd_oLet (kd_oLts h1) (by omega)))) rfl ⟨Nat.le_of_ble_eq_true rfl, Nat.le_of_ble_eq_true rfl⟩ rfl (Nat.le_of_ble_eq_true rfl) ⟨Nat.le_of_ble_eq_true rfl, Nat.le_of_ble_eq_true rfl⟩ ?_
    rintro _ _ ⟨rfl, g_1, hg_2, rfl⟩
    show xV _ _ _ _ _ _ _ _ _ _ _ _ _ _ _ _ _ (xH D b (su σ (oNum (oLet (oLts o1) z)) g_1)) _ _ []
    refine xi_aload_n hC dX0_put_21 (pc' := 22) rfl rfl rfl ?_
    refine xi_dup hC dX0_put_22 (pc' := 23) rfl rfl ?_
    refine xg0_size hC dX0_put_23 (pc' := 26) rfl xw_f_X0_18 h1 ?_
    refine xtop (y := (σ o1 1)) (by rw [su_n (q := o1) (o := (oNum (oLet (oLts o1) z))) (by first | (simp only [oMs, oVws, oScr, oSgn, oMod, oMem, oSig, oKno, oPro, oBox, oFst, oSnd, oLts, oLet, oNum, oVw, oEnt, oBef, oBk, oVs, oCon, oVec, m_row, m_keptOf, m_keptRow, m_viewOf, m_alarmOf, m_hasProof, m_depthOf, m_proofOf, m_signedOf, m_knownOf, m_doneOf, m_shownTo, m_sentBy, m_hasRead, m_readOf, m_lettersOf, m_letter, m_hand, m_text] <;> omega) | decide | omega | (simp only [oMs, oVws, oScr, oSgn, oMod, oMem, oSig, oKno, oPro, oBox, oFst, oSnd, oLts, oLet, oNum, oVw, oEnt, oBef, oBk, oVs, oCon, oVec, m_row, m_keptOf, m_keptRow, m_viewOf, m_alarmOf, m_hasProof, m_depthOf, m_proofOf, m_signedOf, m_knownOf, m_doneOf, m_shownTo, m_sentBy, m_hasRead, m_readOf, m_lettersOf, m_letter, m_hand, m_text] at * <;> omega))]) ?_
    refine xtop (y := (nI z)) (hz) ?_
    refine xi_iconst (v := nI 1) hC dX0_put_26 (pc' := 27) rfl (by decide +kernel) ?_
    refine xn_iadd hC dX0_put_27 (pc' := 28) rfl ?_
    refine xp0_size hC dX0_put_28 (pc' := 31) rfl xw_f_X0_18 h1 ?_
    refine xi_return hC dX0_put_31 hr rfl ?_
    exact ⟨rfl, _, hg_2, rfl⟩

set_option maxRecDepth 100000 in
set_option maxHeartbeats 4000000 in
theorem c_X0_dropFirst (l : Launch) (D : XD) (b n : Nat) {σ : XM} {o1 z : Nat} (h1 : kd o1 = 0) (hz : σ o1 1 = nI (z + 1)) (hz4 : z < 4) : xM l yX0_dropFirst cX0_dropFirst 2 none 1 22 0 0 D b n [.ref (b + o1)] (xH D b σ) n (fun v h' => v = none ∧ ∃ τ : XM, τ o1 1 = nI z ∧ (∀ j, j < z → ∀ k, k < 5 → τ (oNum (oLet (oLts o1) j)) k = σ (oNum (oLet (oLts o1) (j + 1))) k) ∧ (∀ q, q ≠ o1 → (∀ j, j < 4 → q ≠ oNum (oLet (oLts o1) j)) → τ q = σ q) ∧ h' = xH D b τ) := by
  refine xM.of (lv := [some (.ref (b + o1)), none]) (by decide +kernel) rfl (List.forall_mem_cons.mpr ⟨rfl, fun _ h => absurd h List.not_mem_nil⟩) (Nat.le_of_ble_eq_true rfl) rfl ?_
  intro p e s m args below meth c hC hr hnm
  refine xi_iconst (v := nI 1) hC dX0_dropFirst_0 (pc' := 1) rfl (by decide +kernel) ?_
  refine xi_istore_n (lv' := [some (.ref (b + o1)), some (.int (nI 1))]) hC dX0_dropFirst_1 (pc' := 2) rfl rfl (by decide) rfl ?_
  have L2 : ∀ (d : Nat) (i : Nat) (τ : XM), z - i < d → (i ≤ z) → (τ o1 = σ o1) → (∀ j, j < i → ∀ k, k < 5 → τ (oNum (oLet (oLts o1) j)) k = σ (oNum (oLet (oLts o1) (j + 1))) k) → (∀ j, i ≤ j → j < 4 → τ (oNum (oLet (oLts o1) j)) = σ (oNum (oLet (oLts o1) j))) → (∀ q, q ≠ o1 → (∀ j, j < 4 → q ≠ oNum (oLet (oLts o1) j)) → τ q = σ q) → xV p l e (xR 1 22 0 0) s m args below meth c D b 2 0 0 (MQ below (xQ D b n (fun v h' => v = none ∧ ∃ τ : XM, τ o1 1 = nI z ∧ (∀ j, j < z → ∀ k, k < 5 → τ (oNum (oLet (oLts o1) j)) k = σ (oNum (oLet (oLts o1) (j + 1))) k) ∧ (∀ q, q ≠ o1 → (∀ j, j < 4 → q ≠ oNum (oLet (oLts o1) j)) → τ q = σ q) ∧ h' = xH D b τ)) args s 0 0 (fun q => b ≤ q)) n (xH D b τ) 2 [some (.ref (b + o1)), some (.int (nI (i + 1)))] [] := by
    intro d
    induction d with
    | zero => intro i τ h; exact absurd h (Nat.not_lt_zero _)
    | succ d ih2 =>
      intro i τ hd2 hi e1 hA hB hF
      refine xi_iload_n hC dX0_dropFirst_2 (pc' := 3) rfl rfl rfl ?_
      refine xi_aload_n hC dX0_dropFirst_3 (pc' := 4) rfl rfl rfl ?_
      refine xg0_size hC dX0_dropFirst_4 (pc' := 7) rfl xw_f_X0_18 h1 ?_
      refine xtop (y := (nI (z + 1))) (by rw [e1]; exact hz) ?_
      refine xn_icmpge (tgt := 33) hC dX0_dropFirst_7 (pc' := 10) rfl (by decide) (by omega) (by omega) (fun zc7 => ?_) (fun zc7 => ?_)
      · skip
        refine xi_aload_n hC dX0_dropFirst_33 (pc' := 34) rfl rfl rfl ?_
        refine xg0_size hC dX0_dropFirst_34 (pc' := 37) rfl xw_f_X0_18 h1 ?_
        refine xtop (y := (nI (z + 1))) (by rw [e1]; exact hz) ?_
        refine xn_ifle (tgt := 50) hC dX0_dropFirst_37 (pc' := 40) rfl (by decide) (by omega) (fun zc37 => ?_) (fun zc37 => ?_)
        · omega
        · skip
          refine xi_aload_n hC dX0_dropFirst_40 (pc' := 41) rfl rfl rfl ?_
          refine xi_dup hC dX0_dropFirst_41 (pc' := 42) rfl rfl ?_
          refine xg0_size hC dX0_dropFirst_42 (pc' := 45) rfl xw_f_X0_18 h1 ?_
          refine xtop (y := (nI (z + 1))) (by rw [e1]; exact hz) ?_
          refine xi_iconst (v := nI 1) hC dX0_dropFirst_45 (pc' := 46) rfl (by decide +kernel) ?_
          refine xn_isub hC dX0_dropFirst_46 (pc' := 47) rfl (by omega) ?_
          refine xtop (y := nI z) (by rw [Nat.add_sub_cancel]) ?_
          refine xp0_size hC dX0_dropFirst_47 (pc' := 50) rfl xw_f_X0_18 h1 ?_
          refine xi_return hC dX0_dropFirst_50 hr rfl ?_
          obtain rfl : i = z := by omega
          refine ⟨rfl, _, sw_s, fun j hj k hk => ?_, fun q' hq1 hq2 => ?_, rfl⟩
          · rw [sw_n (by first | (simp only [oMs, oVws, oScr, oSgn, oMod, oMem, oSig, oKno, oPro, oBox, oFst, oSnd, oLts, oLet, oNum, oVw, oEnt, oBef, oBk, oVs, oCon, oVec, m_row, m_keptOf, m_keptRow, m_viewOf, m_alarmOf, m_hasProof, m_depthOf, m_proofOf, m_signedOf, m_knownOf, m_doneOf, m_shownTo, m_sentBy, m_hasRead, m_readOf, m_lettersOf, m_letter, m_hand, m_text] <;> omega) | decide | omega | (simp only [oMs, oVws, oScr, oSgn, oMod, oMem, oSig, oKno, oPro, oBox, oFst, oSnd, oLts, oLet, oNum, oVw, oEnt, oBef, oBk, oVs, oCon, oVec, m_row, m_keptOf, m_keptRow, m_viewOf, m_alarmOf, m_hasProof, m_depthOf, m_proofOf, m_signedOf, m_knownOf, m_doneOf, m_shownTo, m_sentBy, m_hasRead, m_readOf, m_lettersOf, m_letter, m_hand, m_text] at * <;> omega))]; exact hA j hj k hk
          · rw [sw_n hq1]; exact hF q' hq1 hq2
      · skip
        refine xi_aload_n hC dX0_dropFirst_10 (pc' := 11) rfl rfl rfl ?_
        refine xg0_letters hC dX0_dropFirst_11 (pc' := 14) rfl xw_f_X0_11 h1 ?_
        refine xi_iload_n hC dX0_dropFirst_14 (pc' := 15) rfl rfl rfl ?_
        refine xi_iconst (v := nI 1) hC dX0_dropFirst_15 (pc' := 16) rfl (by decide +kernel) ?_
        refine xn_isub hC dX0_dropFirst_16 (pc' := 17) rfl (by omega) ?_
        refine xtop (y := nI i) (by rw [Nat.add_sub_cancel]) ?_
        refine xa_letters hC dX0_dropFirst_17 (pc' := 18) rfl (kd_oLts h1) rfl (by omega) ?_
        refine xi_aload_n hC dX0_dropFirst_18 (pc' := 19) rfl rfl rfl ?_
        refine xg0_letters hC dX0_dropFirst_19 (pc' := 22) rfl xw_f_X0_11 h1 ?_
        refine xi_iload_n hC dX0_dropFirst_22 (pc' := 23) rfl rfl rfl ?_
        refine xa_letters hC dX0_dropFirst_23 (pc' := 24) rfl (kd_oLts h1) rfl (by omega) ?_
        refine xi_callV (As := [.ref (b + (oLet (oLts o1) (i + 1)))]) (rest := []) (c_X5_copyFrom l D b n (σ := τ) (kd_oLet (kd_oLts h1) (by omega)) (kd_oLet (kd_oLts h1) (by omega)) (by first | (simp only [oMs, oVws, oScr, oSgn, oMod, oMem, oSig, oKno, oPro, oBox, oFst, oSnd, oLts, oLet, oNum, oVw, oEnt, oBef, oBk, oVs, oCon, oVec, m_row, m_keptOf, m_keptRow, m_viewOf, m_alarmOf, m_hasProof, m_depthOf, m_proofOf, m_signedOf, m_knownOf, m_doneOf, m_shownTo, m_sentBy, m_hasRead, m_readOf, m_lettersOf, m_letter, m_hand, m_text] <;> omega) | decide | omega | (simp only [oMs, oVws, oScr, oSgn, oMod, oMem, oSig, oKno, oPro, oBox, oFst, oSnd, oLts, oLet, oNum, oVw, oEnt, oBef, oBk, oVs, oCon, oVec, m_row, m_keptOf, m_keptRow, m_viewOf, m_alarmOf, m_hasProof, m_depthOf, m_proofOf, m_signedOf, m_knownOf, m_doneOf, m_shownTo, m_sentBy, m_hasRead, m_readOf, m_lettersOf, m_letter, m_hand, m_text] at * <;> omega))) hC dX0_dropFirst_24 (pc' := 27) rfl xw_m_X0_22 xw_c_X5_copyFrom xw_ins_X5_copyFrom xw_sel_X5_copyFrom xw_ini_X5 xd_X5_copyFrom (xH_at.trans (xsh_5 (kd_oLet (kd_oLts h1) (by omega)))) rfl ⟨Nat.le_of_ble_eq_true rfl, Nat.le_of_ble_eq_true rfl⟩ rfl (Nat.le_of_ble_eq_true rfl) ⟨Nat.le_of_ble_eq_true rfl, Nat.le_of_ble_eq_true rfl⟩ ?_
        rintro _ _ ⟨rfl, g_1, hg_2, rfl⟩
        show xV _ _ _ _ _ _ _ _ _ _ _ _ _ _ _ _ _ (xH D b (su τ (oNum (oLet (oLts o1) i)) g_1)) _ _ []
        refine xn_iinc (lv' := [some (.ref (b + o1)), some (.int (nI (i + 1 + 1)))]) hC dX0_dropFirst_27 (pc' := 30) rfl rfl (by decide) rfl ?_
        refine xi_goto (tgt := 2) hC dX0_dropFirst_30 (by decide) ?_
        refine ih2 _ _ (by omega) ?_ ?_ ?_ ?_ ?_
        · omega
        · exact (su_n (by first | (simp only [oMs, oVws, oScr, oSgn, oMod, oMem, oSig, oKno, oPro, oBox, oFst, oSnd, oLts, oLet, oNum, oVw, oEnt, oBef, oBk, oVs, oCon, oVec, m_row, m_keptOf, m_keptRow, m_viewOf, m_alarmOf, m_hasProof, m_depthOf, m_proofOf, m_signedOf, m_knownOf, m_doneOf, m_shownTo, m_sentBy, m_hasRead, m_readOf, m_lettersOf, m_letter, m_hand, m_text] <;> omega) | decide | omega | (simp only [oMs, oVws, oScr, oSgn, oMod, oMem, oSig, oKno, oPro, oBox, oFst, oSnd, oLts, oLet, oNum, oVw, oEnt, oBef, oBk, oVs, oCon, oVec, m_row, m_keptOf, m_keptRow, m_viewOf, m_alarmOf, m_hasProof, m_depthOf, m_proofOf, m_signedOf, m_knownOf, m_doneOf, m_shownTo, m_sentBy, m_hasRead, m_readOf, m_lettersOf, m_letter, m_hand, m_text] at * <;> omega))).trans e1
        · intro j hj k hk
          by_cases hij : j = i
          · subst hij
            rw [su_s, hg_2 k hk]
            exact congrFun (hB (j + 1) (by omega) (by omega)) k
          · rw [su_n (by first | (simp only [oMs, oVws, oScr, oSgn, oMod, oMem, oSig, oKno, oPro, oBox, oFst, oSnd, oLts, oLet, oNum, oVw, oEnt, oBef, oBk, oVs, oCon, oVec, m_row, m_keptOf, m_keptRow, m_viewOf, m_alarmOf, m_hasProof, m_depthOf, m_proofOf, m_signedOf, m_knownOf, m_doneOf, m_shownTo, m_sentBy, m_hasRead, m_readOf, m_lettersOf, m_letter, m_hand, m_text] <;> omega) | decide | omega | (simp only [oMs, oVws, oScr, oSgn, oMod, oMem, oSig, oKno, oPro, oBox, oFst, oSnd, oLts, oLet, oNum, oVw, oEnt, oBef, oBk, oVs, oCon, oVec, m_row, m_keptOf, m_keptRow, m_viewOf, m_alarmOf, m_hasProof, m_depthOf, m_proofOf, m_signedOf, m_knownOf, m_doneOf, m_shownTo, m_sentBy, m_hasRead, m_readOf, m_lettersOf, m_letter, m_hand, m_text] at * <;> omega))]; exact hA j (by omega) k hk
        · intro j h1' h4
          rw [su_n (by first | (simp only [oMs, oVws, oScr, oSgn, oMod, oMem, oSig, oKno, oPro, oBox, oFst, oSnd, oLts, oLet, oNum, oVw, oEnt, oBef, oBk, oVs, oCon, oVec, m_row, m_keptOf, m_keptRow, m_viewOf, m_alarmOf, m_hasProof, m_depthOf, m_proofOf, m_signedOf, m_knownOf, m_doneOf, m_shownTo, m_sentBy, m_hasRead, m_readOf, m_lettersOf, m_letter, m_hand, m_text] <;> omega) | decide | omega | (simp only [oMs, oVws, oScr, oSgn, oMod, oMem, oSig, oKno, oPro, oBox, oFst, oSnd, oLts, oLet, oNum, oVw, oEnt, oBef, oBk, oVs, oCon, oVec, m_row, m_keptOf, m_keptRow, m_viewOf, m_alarmOf, m_hasProof, m_depthOf, m_proofOf, m_signedOf, m_knownOf, m_doneOf, m_shownTo, m_sentBy, m_hasRead, m_readOf, m_lettersOf, m_letter, m_hand, m_text] at * <;> omega))]; exact hB j (by omega) h4
        · intro q' hq1 hq2
          rw [su_n (by have := hq2 i (by omega); simpa using this)]; exact hF q' hq1 hq2
  refine L2 _ _ _ (Nat.lt_succ_self _) ?_ ?_ ?_ ?_ ?_
  · omega
  · rfl
  · intro j hj; omega
  · exact fun _ _ _ => rfl
  · exact fun _ _ _ => rfl

set_option maxRecDepth 100000 in
set_option maxHeartbeats 4000000 in
theorem c_X6_forget (l : Launch) (D : XD) (b n : Nat) {σ : XM} {o1 : Nat} (h1 : kd o1 = 6) : xM l yX6_forget cX6_forget 1 none 0 0 0 0 D b n [.ref (b + o1)] (xH D b σ) n (fun v h' => v = none ∧ h' = xH D b (sw (sw σ o1 2 (nI 0)) o1 3 (nI 0))) := by
  refine xM.of (lv := [some (.ref (b + o1))]) (by decide +kernel) rfl (List.forall_mem_cons.mpr ⟨rfl, fun _ h => absurd h List.not_mem_nil⟩) (Nat.le_of_ble_eq_true rfl) rfl ?_
  intro p e s m args below meth c hC hr hnm
  refine xi_aload_n hC dX6_forget_0 (pc' := 1) rfl rfl rfl ?_
  refine xi_iconst (v := nI 0) hC dX6_forget_1 (pc' := 2) rfl (by decide +kernel) ?_
  refine xp6_remembered hC dX6_forget_2 (pc' := 5) rfl xw_f_X6_28 h1 ?_
  refine xi_aload_n hC dX6_forget_5 (pc' := 6) rfl rfl rfl ?_
  refine xi_iconst (v := nI 0) hC dX6_forget_6 (pc' := 7) rfl (by decide +kernel) ?_
  refine xp6_next hC dX6_forget_7 (pc' := 10) rfl xw_f_X6_32 h1 ?_
  refine xi_return hC dX6_forget_10 hr rfl ?_
  exact ⟨rfl, rfl⟩

set_option maxRecDepth 100000 in
set_option maxHeartbeats 4000000 in
theorem c_X6_clear (l : Launch) (D : XD) (b n : Nat) {σ : XM} {o1 : Nat} (h1 : kd o1 = 6) : xM l yX6_clear cX6_clear 1 none 2 42 0 0 D b n [.ref (b + o1)] (xH D b σ) n (fun v h' => v = none ∧ ∃ τ : XM, (∀ i, i < 5 → (∀ k, k < 5 → τ (oNum (oVec (oVs (oEnt o1)) i)) k = 0) ∧ τ (oCon (oEnt o1)) i = 0) ∧ τ o1 2 = nI 0 ∧ τ o1 3 = nI 0 ∧ OutE τ σ o1 14 ∧ h' = xH D b τ) := by
  refine xM.of (lv := [some (.ref (b + o1))]) (by decide +kernel) rfl (List.forall_mem_cons.mpr ⟨rfl, fun _ h => absurd h List.not_mem_nil⟩) (Nat.le_of_ble_eq_true rfl) rfl ?_
  intro p e s m args below meth c hC hr hnm
  refine xi_aload_n hC dX6_clear_0 (pc' := 1) rfl rfl rfl ?_
  refine xg6_entries hC dX6_clear_1 (pc' := 4) rfl xw_f_X6_12 h1 ?_
  refine xi_callV (As := []) (rest := []) (c_X1_clear l D b n (σ := σ) (kd_oEnt h1)) hC dX6_clear_4 (pc' := 7) rfl xw_m_X6_22 xw_c_X1_clear xw_ins_X1_clear xw_sel_X1_clear xw_ini_X1 xd_X1_clear (xH_at.trans (xsh_1 (kd_oEnt h1))) rfl ⟨Nat.le_of_ble_eq_true rfl, Nat.le_of_ble_eq_true rfl⟩ rfl (Nat.le_of_ble_eq_true rfl) ⟨Nat.le_of_ble_eq_true rfl, Nat.le_of_ble_eq_true rfl⟩ ?_
  rintro _ _ ⟨rfl, τ_1, hA_2, hF_3, rfl⟩
  show xV _ _ _ _ _ _ _ _ _ _ _ _ _ _ _ _ _ (xH D b τ_1) _ _ []
  refine xi_aload_n hC dX6_clear_7 (pc' := 8) rfl rfl rfl ?_
  refine xi_callV (As := []) (rest := []) (c_X6_forget l D b n (σ := τ_1) h1) hC dX6_clear_8 (pc' := 11) rfl xw_m_X6_25 xw_c_X6_forget xw_ins_X6_forget xw_sel_X6_forget xw_ini_X6 xd_X6_forget (xH_at.trans (xsh_6 h1)) rfl ⟨Nat.le_of_ble_eq_true rfl, Nat.le_of_ble_eq_true rfl⟩ rfl (Nat.le_of_ble_eq_true rfl) ⟨Nat.le_of_ble_eq_true rfl, Nat.le_of_ble_eq_true rfl⟩ ?_
  rintro _ _ ⟨rfl, rfl⟩
  show xV _ _ _ _ _ _ _ _ _ _ _ _ _ _ _ _ _ (xH D b (sw (sw τ_1 o1 2 (nI 0)) o1 3 (nI 0))) _ _ []
  refine xi_return hC dX6_clear_11 hr rfl ?_
  refine ⟨rfl, _, fun i hi => ⟨fun k hk => ?_, ?_⟩, ?_, sw_s, fun q hq => ?_, rfl⟩
  · rw [sw_n (by first | (simp only [oMs, oVws, oScr, oSgn, oMod, oMem, oSig, oKno, oPro, oBox, oFst, oSnd, oLts, oLet, oNum, oVw, oEnt, oBef, oBk, oVs, oCon, oVec, m_row, m_keptOf, m_keptRow, m_viewOf, m_alarmOf, m_hasProof, m_depthOf, m_proofOf, m_signedOf, m_knownOf, m_doneOf, m_shownTo, m_sentBy, m_hasRead, m_readOf, m_lettersOf, m_letter, m_hand, m_text] <;> omega) | decide | omega | (simp only [oMs, oVws, oScr, oSgn, oMod, oMem, oSig, oKno, oPro, oBox, oFst, oSnd, oLts, oLet, oNum, oVw, oEnt, oBef, oBk, oVs, oCon, oVec, m_row, m_keptOf, m_keptRow, m_viewOf, m_alarmOf, m_hasProof, m_depthOf, m_proofOf, m_signedOf, m_knownOf, m_doneOf, m_shownTo, m_sentBy, m_hasRead, m_readOf, m_lettersOf, m_letter, m_hand, m_text] at * <;> omega)), sw_n (by first | (simp only [oMs, oVws, oScr, oSgn, oMod, oMem, oSig, oKno, oPro, oBox, oFst, oSnd, oLts, oLet, oNum, oVw, oEnt, oBef, oBk, oVs, oCon, oVec, m_row, m_keptOf, m_keptRow, m_viewOf, m_alarmOf, m_hasProof, m_depthOf, m_proofOf, m_signedOf, m_knownOf, m_doneOf, m_shownTo, m_sentBy, m_hasRead, m_readOf, m_lettersOf, m_letter, m_hand, m_text] <;> omega) | decide | omega | (simp only [oMs, oVws, oScr, oSgn, oMod, oMem, oSig, oKno, oPro, oBox, oFst, oSnd, oLts, oLet, oNum, oVw, oEnt, oBef, oBk, oVs, oCon, oVec, m_row, m_keptOf, m_keptRow, m_viewOf, m_alarmOf, m_hasProof, m_depthOf, m_proofOf, m_signedOf, m_knownOf, m_doneOf, m_shownTo, m_sentBy, m_hasRead, m_readOf, m_lettersOf, m_letter, m_hand, m_text] at * <;> omega))]; exact (hA_2 i hi).1 k hk
  · rw [sw_n (by first | (simp only [oMs, oVws, oScr, oSgn, oMod, oMem, oSig, oKno, oPro, oBox, oFst, oSnd, oLts, oLet, oNum, oVw, oEnt, oBef, oBk, oVs, oCon, oVec, m_row, m_keptOf, m_keptRow, m_viewOf, m_alarmOf, m_hasProof, m_depthOf, m_proofOf, m_signedOf, m_knownOf, m_doneOf, m_shownTo, m_sentBy, m_hasRead, m_readOf, m_lettersOf, m_letter, m_hand, m_text] <;> omega) | decide | omega | (simp only [oMs, oVws, oScr, oSgn, oMod, oMem, oSig, oKno, oPro, oBox, oFst, oSnd, oLts, oLet, oNum, oVw, oEnt, oBef, oBk, oVs, oCon, oVec, m_row, m_keptOf, m_keptRow, m_viewOf, m_alarmOf, m_hasProof, m_depthOf, m_proofOf, m_signedOf, m_knownOf, m_doneOf, m_shownTo, m_sentBy, m_hasRead, m_readOf, m_lettersOf, m_letter, m_hand, m_text] at * <;> omega)), sw_n (by first | (simp only [oMs, oVws, oScr, oSgn, oMod, oMem, oSig, oKno, oPro, oBox, oFst, oSnd, oLts, oLet, oNum, oVw, oEnt, oBef, oBk, oVs, oCon, oVec, m_row, m_keptOf, m_keptRow, m_viewOf, m_alarmOf, m_hasProof, m_depthOf, m_proofOf, m_signedOf, m_knownOf, m_doneOf, m_shownTo, m_sentBy, m_hasRead, m_readOf, m_lettersOf, m_letter, m_hand, m_text] <;> omega) | decide | omega | (simp only [oMs, oVws, oScr, oSgn, oMod, oMem, oSig, oKno, oPro, oBox, oFst, oSnd, oLts, oLet, oNum, oVw, oEnt, oBef, oBk, oVs, oCon, oVec, m_row, m_keptOf, m_keptRow, m_viewOf, m_alarmOf, m_hasProof, m_depthOf, m_proofOf, m_signedOf, m_knownOf, m_doneOf, m_shownTo, m_sentBy, m_hasRead, m_readOf, m_lettersOf, m_letter, m_hand, m_text] at * <;> omega))]; exact (hA_2 i hi).2
  · rw [sw_k (by decide), sw_s]
  · rw [sw_n (by first | (simp only [oMs, oVws, oScr, oSgn, oMod, oMem, oSig, oKno, oPro, oBox, oFst, oSnd, oLts, oLet, oNum, oVw, oEnt, oBef, oBk, oVs, oCon, oVec, m_row, m_keptOf, m_keptRow, m_viewOf, m_alarmOf, m_hasProof, m_depthOf, m_proofOf, m_signedOf, m_knownOf, m_doneOf, m_shownTo, m_sentBy, m_hasRead, m_readOf, m_lettersOf, m_letter, m_hand, m_text] <;> omega) | decide | omega | (simp only [oMs, oVws, oScr, oSgn, oMod, oMem, oSig, oKno, oPro, oBox, oFst, oSnd, oLts, oLet, oNum, oVw, oEnt, oBef, oBk, oVs, oCon, oVec, m_row, m_keptOf, m_keptRow, m_viewOf, m_alarmOf, m_hasProof, m_depthOf, m_proofOf, m_signedOf, m_knownOf, m_doneOf, m_shownTo, m_sentBy, m_hasRead, m_readOf, m_lettersOf, m_letter, m_hand, m_text] at * <;> omega)), sw_n (by first | (simp only [oMs, oVws, oScr, oSgn, oMod, oMem, oSig, oKno, oPro, oBox, oFst, oSnd, oLts, oLet, oNum, oVw, oEnt, oBef, oBk, oVs, oCon, oVec, m_row, m_keptOf, m_keptRow, m_viewOf, m_alarmOf, m_hasProof, m_depthOf, m_proofOf, m_signedOf, m_knownOf, m_doneOf, m_shownTo, m_sentBy, m_hasRead, m_readOf, m_lettersOf, m_letter, m_hand, m_text] <;> omega) | decide | omega | (simp only [oMs, oVws, oScr, oSgn, oMod, oMem, oSig, oKno, oPro, oBox, oFst, oSnd, oLts, oLet, oNum, oVw, oEnt, oBef, oBk, oVs, oCon, oVec, m_row, m_keptOf, m_keptRow, m_viewOf, m_alarmOf, m_hasProof, m_depthOf, m_proofOf, m_signedOf, m_knownOf, m_doneOf, m_shownTo, m_sentBy, m_hasRead, m_readOf, m_lettersOf, m_letter, m_hand, m_text] at * <;> omega)), hF_3 q (by first | (simp only [oMs, oVws, oScr, oSgn, oMod, oMem, oSig, oKno, oPro, oBox, oFst, oSnd, oLts, oLet, oNum, oVw, oEnt, oBef, oBk, oVs, oCon, oVec, m_row, m_keptOf, m_keptRow, m_viewOf, m_alarmOf, m_hasProof, m_depthOf, m_proofOf, m_signedOf, m_knownOf, m_doneOf, m_shownTo, m_sentBy, m_hasRead, m_readOf, m_lettersOf, m_letter, m_hand, m_text] <;> omega) | decide | omega | (simp only [oMs, oVws, oScr, oSgn, oMod, oMem, oSig, oKno, oPro, oBox, oFst, oSnd, oLts, oLet, oNum, oVw, oEnt, oBef, oBk, oVs, oCon, oVec, m_row, m_keptOf, m_keptRow, m_viewOf, m_alarmOf, m_hasProof, m_depthOf, m_proofOf, m_signedOf, m_knownOf, m_doneOf, m_shownTo, m_sentBy, m_hasRead, m_readOf, m_lettersOf, m_letter, m_hand, m_text] at * <;> omega))]

set_option maxRecDepth 100000 in
set_option maxHeartbeats 4000000 in
theorem c_X6_copyFrom (l : Launch) (D : XD) (b n : Nat) {σ : XM} {o1 o2 : Nat} (h1 : kd o1 = 6) (h2 : kd o2 = 6) (hd : o1 + 80 ≤ o2 ∨ o2 + 80 ≤ o1) : xM l yX6_copyFrom cX6_copyFrom 3 none 2 44 0 0 D b n [.ref (b + o1), .ref (b + o2)] (xH D b σ) n (fun v h' => v = none ∧ ∃ τ : XM, EqE τ (oEnt o1) σ (oEnt o2) ∧ (∀ j, j < 5 → EqE τ (oBk (oBef o1) j) σ (oBk (oBef o2) j)) ∧ τ o1 2 = σ o2 2 ∧ τ o1 3 = σ o2 3 ∧ OutE τ σ o1 80 ∧ h' = xH D b τ) := by
  refine xM.of (lv := [some (.ref (b + o1)), some (.ref (b + o2)), none]) (by decide +kernel) rfl (List.forall_mem_cons.mpr ⟨rfl, List.forall_mem_cons.mpr ⟨rfl, fun _ h => absurd h List.not_mem_nil⟩⟩) (Nat.le_of_ble_eq_true rfl) rfl ?_
  intro p e s m args below meth c hC hr hnm
  refine xi_aload_n hC dX6_copyFrom_0 (pc' := 1) rfl rfl rfl ?_
  refine xg6_entries hC dX6_copyFrom_1 (pc' := 4) rfl xw_f_X6_12 h1 ?_
  refine xi_aload_n hC dX6_copyFrom_4 (pc' := 5) rfl rfl rfl ?_
  refine xg6_entries hC dX6_copyFrom_5 (pc' := 8) rfl xw_f_X6_12 h2 ?_
  refine xi_callV (As := [.ref (b + (oEnt o2))]) (rest := []) (c_X1_copyFrom l D b n (σ := σ) (kd_oEnt h1) (kd_oEnt h2) (by first | (simp only [oMs, oVws, oScr, oSgn, oMod, oMem, oSig, oKno, oPro, oBox, oFst, oSnd, oLts, oLet, oNum, oVw, oEnt, oBef, oBk, oVs, oCon, oVec, m_row, m_keptOf, m_keptRow, m_viewOf, m_alarmOf, m_hasProof, m_depthOf, m_proofOf, m_signedOf, m_knownOf, m_doneOf, m_shownTo, m_sentBy, m_hasRead, m_readOf, m_lettersOf, m_letter, m_hand, m_text] <;> omega) | decide | omega | (simp only [oMs, oVws, oScr, oSgn, oMod, oMem, oSig, oKno, oPro, oBox, oFst, oSnd, oLts, oLet, oNum, oVw, oEnt, oBef, oBk, oVs, oCon, oVec, m_row, m_keptOf, m_keptRow, m_viewOf, m_alarmOf, m_hasProof, m_depthOf, m_proofOf, m_signedOf, m_knownOf, m_doneOf, m_shownTo, m_sentBy, m_hasRead, m_readOf, m_lettersOf, m_letter, m_hand, m_text] at * <;> omega))) hC dX6_copyFrom_8 (pc' := 11) rfl xw_m_X6_35 xw_c_X1_copyFrom xw_ins_X1_copyFrom xw_sel_X1_copyFrom xw_ini_X1 xd_X1_copyFrom (xH_at.trans (xsh_1 (kd_oEnt h1))) rfl ⟨Nat.le_of_ble_eq_true rfl, Nat.le_of_ble_eq_true rfl⟩ rfl (Nat.le_of_ble_eq_true rfl) ⟨Nat.le_of_ble_eq_true rfl, Nat.le_of_ble_eq_true rfl⟩ ?_
  rintro _ _ ⟨rfl, τ_1, hA_2, hF_3, rfl⟩
  show xV _ _ _ _ _ _ _ _ _ _ _ _ _ _ _ _ _ (xH D b τ_1) _ _ []
  refine xi_iconst (v := nI 0) hC dX6_copyFrom_11 (pc' := 12) rfl (by decide +kernel) ?_
  refine xi_istore_n (lv' := [some (.ref (b + o1)), some (.ref (b + o2)), some (.int (nI 0))]) hC dX6_copyFrom_12 (pc' := 13) rfl rfl (by decide) rfl ?_
  have L13 : ∀ (d : Nat) (j : Nat) (τ : XM), 5 - j < d → (j ≤ 5) → (EqE τ (oEnt o1) σ (oEnt o2)) → (∀ i, i < j → EqE τ (oBk (oBef o1) i) σ (oBk (oBef o2) i)) → (OutE τ σ o1 80) → xV p l e (xR 2 44 0 0) s m args below meth c D b 3 0 0 (MQ below (xQ D b n (fun v h' => v = none ∧ ∃ τ : XM, EqE τ (oEnt o1) σ (oEnt o2) ∧ (∀ j, j < 5 → EqE τ (oBk (oBef o1) j) σ (oBk (oBef o2) j)) ∧ τ o1 2 = σ o2 2 ∧ τ o1 3 = σ o2 3 ∧ OutE τ σ o1 80 ∧ h' = xH D b τ)) args s 0 0 (fun q => b ≤ q)) n (xH D b τ) 13 [some (.ref (b + o1)), some (.ref (b + o2)), some (.int (nI j))] [] := by
    intro d
    induction d with
    | zero => intro j τ h; exact absurd h (Nat.not_lt_zero _)
    | succ d ih13 =>
      intro j τ hd13 hj hE hB hF
      refine xi_iload_n hC dX6_copyFrom_13 (pc' := 14) rfl rfl rfl ?_
      refine xi_iconst (v := nI 5) hC dX6_copyFrom_14 (pc' := 15) rfl (by decide +kernel) ?_
      refine xn_icmpge (tgt := 39) hC dX6_copyFrom_15 (pc' := 18) rfl (by decide) (by omega) (by omega) (fun zc15 => ?_) (fun zc15 => ?_)
      · skip
        refine xi_aload_n hC dX6_copyFrom_39 (pc' := 40) rfl rfl rfl ?_
        refine xi_aload_n hC dX6_copyFrom_40 (pc' := 41) rfl rfl rfl ?_
        refine xg6_remembered hC dX6_copyFrom_41 (pc' := 44) rfl xw_f_X6_28 h2 ?_
        refine xp6_remembered hC dX6_copyFrom_44 (pc' := 47) rfl xw_f_X6_28 h1 ?_
        refine xi_aload_n hC dX6_copyFrom_47 (pc' := 48) rfl rfl rfl ?_
        refine xi_aload_n hC dX6_copyFrom_48 (pc' := 49) rfl rfl rfl ?_
        refine xg6_next hC dX6_copyFrom_49 (pc' := 52) rfl xw_f_X6_32 h2 ?_
        refine xtop (y := (τ o2 3)) (by rw [sw_n (q := o2) (o := o1) (by first | (simp only [oMs, oVws, oScr, oSgn, oMod, oMem, oSig, oKno, oPro, oBox, oFst, oSnd, oLts, oLet, oNum, oVw, oEnt, oBef, oBk, oVs, oCon, oVec, m_row, m_keptOf, m_keptRow, m_viewOf, m_alarmOf, m_hasProof, m_depthOf, m_proofOf, m_signedOf, m_knownOf, m_doneOf, m_shownTo, m_sentBy, m_hasRead, m_readOf, m_lettersOf, m_letter, m_hand, m_text] <;> omega) | decide | omega | (simp only [oMs, oVws, oScr, oSgn, oMod, oMem, oSig, oKno, oPro, oBox, oFst, oSnd, oLts, oLet, oNum, oVw, oEnt, oBef, oBk, oVs, oCon, oVec, m_row, m_keptOf, m_keptRow, m_viewOf, m_alarmOf, m_hasProof, m_depthOf, m_proofOf, m_signedOf, m_knownOf, m_doneOf, m_shownTo, m_sentBy, m_hasRead, m_readOf, m_lettersOf, m_letter, m_hand, m_text] at * <;> omega))]) ?_
        refine xp6_next hC dX6_copyFrom_52 (pc' := 55) rfl xw_f_X6_32 h1 ?_
        refine xi_return hC dX6_copyFrom_55 hr rfl ?_
        obtain rfl : j = 5 := by omega
        refine ⟨rfl, _, hE.of (fun q q1 q2 => ?_) (fun _ _ _ => rfl), fun i hi => (hB i hi).of (fun q q1 q2 => ?_) (fun _ _ _ => rfl), ?_, ?_, fun q hq => ?_, rfl⟩
        · rw [sw_n (by first | (simp only [oMs, oVws, oScr, oSgn, oMod, oMem, oSig, oKno, oPro, oBox, oFst, oSnd, oLts, oLet, oNum, oVw, oEnt, oBef, oBk, oVs, oCon, oVec, m_row, m_keptOf, m_keptRow, m_viewOf, m_alarmOf, m_hasProof, m_depthOf, m_proofOf, m_signedOf, m_knownOf, m_doneOf, m_shownTo, m_sentBy, m_hasRead, m_readOf, m_lettersOf, m_letter, m_hand, m_text] <;> omega) | decide | omega | (simp only [oMs, oVws, oScr, oSgn, oMod, oMem, oSig, oKno, oPro, oBox, oFst, oSnd, oLts, oLet, oNum, oVw, oEnt, oBef, oBk, oVs, oCon, oVec, m_row, m_keptOf, m_keptRow, m_viewOf, m_alarmOf, m_hasProof, m_depthOf, m_proofOf, m_signedOf, m_knownOf, m_doneOf, m_shownTo, m_sentBy, m_hasRead, m_readOf, m_lettersOf, m_letter, m_hand, m_text] at * <;> omega)), sw_n (by first | (simp only [oMs, oVws, oScr, oSgn, oMod, oMem, oSig, oKno, oPro, oBox, oFst, oSnd, oLts, oLet, oNum, oVw, oEnt, oBef, oBk, oVs, oCon, oVec, m_row, m_keptOf, m_keptRow, m_viewOf, m_alarmOf, m_hasProof, m_depthOf, m_proofOf, m_signedOf, m_knownOf, m_doneOf, m_shownTo, m_sentBy, m_hasRead, m_readOf, m_lettersOf, m_letter, m_hand, m_text] <;> omega) | decide | omega | (simp only [oMs, oVws, oScr, oSgn, oMod, oMem, oSig, oKno, oPro, oBox, oFst, oSnd, oLts, oLet, oNum, oVw, oEnt, oBef, oBk, oVs, oCon, oVec, m_row, m_keptOf, m_keptRow, m_viewOf, m_alarmOf, m_hasProof, m_depthOf, m_proofOf, m_signedOf, m_knownOf, m_doneOf, m_shownTo, m_sentBy, m_hasRead, m_readOf, m_lettersOf, m_letter, m_hand, m_text] at * <;> omega))]
        · rw [sw_n (by first | (simp only [oMs, oVws, oScr, oSgn, oMod, oMem, oSig, oKno, oPro, oBox, oFst, oSnd, oLts, oLet, oNum, oVw, oEnt, oBef, oBk, oVs, oCon, oVec, m_row, m_keptOf, m_keptRow, m_viewOf, m_alarmOf, m_hasProof, m_depthOf, m_proofOf, m_signedOf, m_knownOf, m_doneOf, m_shownTo, m_sentBy, m_hasRead, m_readOf, m_lettersOf, m_letter, m_hand, m_text] <;> omega) | decide | omega | (simp only [oMs, oVws, oScr, oSgn, oMod, oMem, oSig, oKno, oPro, oBox, oFst, oSnd, oLts, oLet, oNum, oVw, oEnt, oBef, oBk, oVs, oCon, oVec, m_row, m_keptOf, m_keptRow, m_viewOf, m_alarmOf, m_hasProof, m_depthOf, m_proofOf, m_signedOf, m_knownOf, m_doneOf, m_shownTo, m_sentBy, m_hasRead, m_readOf, m_lettersOf, m_letter, m_hand, m_text] at * <;> omega)), sw_n (by first | (simp only [oMs, oVws, oScr, oSgn, oMod, oMem, oSig, oKno, oPro, oBox, oFst, oSnd, oLts, oLet, oNum, oVw, oEnt, oBef, oBk, oVs, oCon, oVec, m_row, m_keptOf, m_keptRow, m_viewOf, m_alarmOf, m_hasProof, m_depthOf, m_proofOf, m_signedOf, m_knownOf, m_doneOf, m_shownTo, m_sentBy, m_hasRead, m_readOf, m_lettersOf, m_letter, m_hand, m_text] <;> omega) | decide | omega | (simp only [oMs, oVws, oScr, oSgn, oMod, oMem, oSig, oKno, oPro, oBox, oFst, oSnd, oLts, oLet, oNum, oVw, oEnt, oBef, oBk, oVs, oCon, oVec, m_row, m_keptOf, m_keptRow, m_viewOf, m_alarmOf, m_hasProof, m_depthOf, m_proofOf, m_signedOf, m_knownOf, m_doneOf, m_shownTo, m_sentBy, m_hasRead, m_readOf, m_lettersOf, m_letter, m_hand, m_text] at * <;> omega))]
        · rw [sw_k (by decide), sw_s, hF _ (by first | (simp only [oMs, oVws, oScr, oSgn, oMod, oMem, oSig, oKno, oPro, oBox, oFst, oSnd, oLts, oLet, oNum, oVw, oEnt, oBef, oBk, oVs, oCon, oVec, m_row, m_keptOf, m_keptRow, m_viewOf, m_alarmOf, m_hasProof, m_depthOf, m_proofOf, m_signedOf, m_knownOf, m_doneOf, m_shownTo, m_sentBy, m_hasRead, m_readOf, m_lettersOf, m_letter, m_hand, m_text] <;> omega) | decide | omega | (simp only [oMs, oVws, oScr, oSgn, oMod, oMem, oSig, oKno, oPro, oBox, oFst, oSnd, oLts, oLet, oNum, oVw, oEnt, oBef, oBk, oVs, oCon, oVec, m_row, m_keptOf, m_keptRow, m_viewOf, m_alarmOf, m_hasProof, m_depthOf, m_proofOf, m_signedOf, m_knownOf, m_doneOf, m_shownTo, m_sentBy, m_hasRead, m_readOf, m_lettersOf, m_letter, m_hand, m_text] at * <;> omega))]
        · rw [sw_s, hF _ (by first | (simp only [oMs, oVws, oScr, oSgn, oMod, oMem, oSig, oKno, oPro, oBox, oFst, oSnd, oLts, oLet, oNum, oVw, oEnt, oBef, oBk, oVs, oCon, oVec, m_row, m_keptOf, m_keptRow, m_viewOf, m_alarmOf, m_hasProof, m_depthOf, m_proofOf, m_signedOf, m_knownOf, m_doneOf, m_shownTo, m_sentBy, m_hasRead, m_readOf, m_lettersOf, m_letter, m_hand, m_text] <;> omega) | decide | omega | (simp only [oMs, oVws, oScr, oSgn, oMod, oMem, oSig, oKno, oPro, oBox, oFst, oSnd, oLts, oLet, oNum, oVw, oEnt, oBef, oBk, oVs, oCon, oVec, m_row, m_keptOf, m_keptRow, m_viewOf, m_alarmOf, m_hasProof, m_depthOf, m_proofOf, m_signedOf, m_knownOf, m_doneOf, m_shownTo, m_sentBy, m_hasRead, m_readOf, m_lettersOf, m_letter, m_hand, m_text] at * <;> omega))]
        · rw [sw_n (by first | (simp only [oMs, oVws, oScr, oSgn, oMod, oMem, oSig, oKno, oPro, oBox, oFst, oSnd, oLts, oLet, oNum, oVw, oEnt, oBef, oBk, oVs, oCon, oVec, m_row, m_keptOf, m_keptRow, m_viewOf, m_alarmOf, m_hasProof, m_depthOf, m_proofOf, m_signedOf, m_knownOf, m_doneOf, m_shownTo, m_sentBy, m_hasRead, m_readOf, m_lettersOf, m_letter, m_hand, m_text] <;> omega) | decide | omega | (simp only [oMs, oVws, oScr, oSgn, oMod, oMem, oSig, oKno, oPro, oBox, oFst, oSnd, oLts, oLet, oNum, oVw, oEnt, oBef, oBk, oVs, oCon, oVec, m_row, m_keptOf, m_keptRow, m_viewOf, m_alarmOf, m_hasProof, m_depthOf, m_proofOf, m_signedOf, m_knownOf, m_doneOf, m_shownTo, m_sentBy, m_hasRead, m_readOf, m_lettersOf, m_letter, m_hand, m_text] at * <;> omega)), sw_n (by first | (simp only [oMs, oVws, oScr, oSgn, oMod, oMem, oSig, oKno, oPro, oBox, oFst, oSnd, oLts, oLet, oNum, oVw, oEnt, oBef, oBk, oVs, oCon, oVec, m_row, m_keptOf, m_keptRow, m_viewOf, m_alarmOf, m_hasProof, m_depthOf, m_proofOf, m_signedOf, m_knownOf, m_doneOf, m_shownTo, m_sentBy, m_hasRead, m_readOf, m_lettersOf, m_letter, m_hand, m_text] <;> omega) | decide | omega | (simp only [oMs, oVws, oScr, oSgn, oMod, oMem, oSig, oKno, oPro, oBox, oFst, oSnd, oLts, oLet, oNum, oVw, oEnt, oBef, oBk, oVs, oCon, oVec, m_row, m_keptOf, m_keptRow, m_viewOf, m_alarmOf, m_hasProof, m_depthOf, m_proofOf, m_signedOf, m_knownOf, m_doneOf, m_shownTo, m_sentBy, m_hasRead, m_readOf, m_lettersOf, m_letter, m_hand, m_text] at * <;> omega))]; exact hF q hq
      · skip
        refine xi_aload_n hC dX6_copyFrom_18 (pc' := 19) rfl rfl rfl ?_
        refine xg6_before hC dX6_copyFrom_19 (pc' := 22) rfl xw_f_X6_18 h1 ?_
        refine xi_iload_n hC dX6_copyFrom_22 (pc' := 23) rfl rfl rfl ?_
        refine xa_before hC dX6_copyFrom_23 (pc' := 24) rfl (kd_oBef h1) rfl (by omega) ?_
        refine xi_aload_n hC dX6_copyFrom_24 (pc' := 25) rfl rfl rfl ?_
        refine xg6_before hC dX6_copyFrom_25 (pc' := 28) rfl xw_f_X6_18 h2 ?_
        refine xi_iload_n hC dX6_copyFrom_28 (pc' := 29) rfl rfl rfl ?_
        refine xa_before hC dX6_copyFrom_29 (pc' := 30) rfl (kd_oBef h2) rfl (by omega) ?_
        refine xi_callV (As := [.ref (b + (oBk (oBef o2) j))]) (rest := []) (c_X1_copyFrom l D b n (σ := τ) (kd_oBk (kd_oBef h1) (by omega)) (kd_oBk (kd_oBef h2) (by omega)) (by first | (simp only [oMs, oVws, oScr, oSgn, oMod, oMem, oSig, oKno, oPro, oBox, oFst, oSnd, oLts, oLet, oNum, oVw, oEnt, oBef, oBk, oVs, oCon, oVec, m_row, m_keptOf, m_keptRow, m_viewOf, m_alarmOf, m_hasProof, m_depthOf, m_proofOf, m_signedOf, m_knownOf, m_doneOf, m_shownTo, m_sentBy, m_hasRead, m_readOf, m_lettersOf, m_letter, m_hand, m_text] <;> omega) | decide | omega | (simp only [oMs, oVws, oScr, oSgn, oMod, oMem, oSig, oKno, oPro, oBox, oFst, oSnd, oLts, oLet, oNum, oVw, oEnt, oBef, oBk, oVs, oCon, oVec, m_row, m_keptOf, m_keptRow, m_viewOf, m_alarmOf, m_hasProof, m_depthOf, m_proofOf, m_signedOf, m_knownOf, m_doneOf, m_shownTo, m_sentBy, m_hasRead, m_readOf, m_lettersOf, m_letter, m_hand, m_text] at * <;> omega))) hC dX6_copyFrom_30 (pc' := 33) rfl xw_m_X6_35 xw_c_X1_copyFrom xw_ins_X1_copyFrom xw_sel_X1_copyFrom xw_ini_X1 xd_X1_copyFrom (xH_at.trans (xsh_1 (kd_oBk (kd_oBef h1) (by omega)))) rfl ⟨Nat.le_of_ble_eq_true rfl, Nat.le_of_ble_eq_true rfl⟩ rfl (Nat.le_of_ble_eq_true rfl) ⟨Nat.le_of_ble_eq_true rfl, Nat.le_of_ble_eq_true rfl⟩ ?_
        rintro _ _ ⟨rfl, τ_4, hA_5, hF_6, rfl⟩
        show xV _ _ _ _ _ _ _ _ _ _ _ _ _ _ _ _ _ (xH D b τ_4) _ _ []
        refine xn_iinc (lv' := [some (.ref (b + o1)), some (.ref (b + o2)), some (.int (nI (j + 1)))]) hC dX6_copyFrom_33 (pc' := 36) rfl rfl (by decide) rfl ?_
        refine xi_goto (tgt := 13) hC dX6_copyFrom_36 (by decide) ?_
        refine ih13 _ _ (by omega) ?_ ?_ ?_ ?_
        · omega
        · exact hE.of (fun q q1 q2 => hF_6 q (by first | (simp only [oMs, oVws, oScr, oSgn, oMod, oMem, oSig, oKno, oPro, oBox, oFst, oSnd, oLts, oLet, oNum, oVw, oEnt, oBef, oBk, oVs, oCon, oVec, m_row, m_keptOf, m_keptRow, m_viewOf, m_alarmOf, m_hasProof, m_depthOf, m_proofOf, m_signedOf, m_knownOf, m_doneOf, m_shownTo, m_sentBy, m_hasRead, m_readOf, m_lettersOf, m_letter, m_hand, m_text] <;> omega) | decide | omega | (simp only [oMs, oVws, oScr, oSgn, oMod, oMem, oSig, oKno, oPro, oBox, oFst, oSnd, oLts, oLet, oNum, oVw, oEnt, oBef, oBk, oVs, oCon, oVec, m_row, m_keptOf, m_keptRow, m_viewOf, m_alarmOf, m_hasProof, m_depthOf, m_proofOf, m_signedOf, m_knownOf, m_doneOf, m_shownTo, m_sentBy, m_hasRead, m_readOf, m_lettersOf, m_letter, m_hand, m_text] at * <;> omega))) (fun _ _ _ => rfl)
        · intro i hi
          by_cases hij : i = j
          · subst hij
            exact hA_5.of (fun _ _ _ => rfl) (fun q q1 q2 => (hF q (by first | (simp only [oMs, oVws, oScr, oSgn, oMod, oMem, oSig, oKno, oPro, oBox, oFst, oSnd, oLts, oLet, oNum, oVw, oEnt, oBef, oBk, oVs, oCon, oVec, m_row, m_keptOf, m_keptRow, m_viewOf, m_alarmOf, m_hasProof, m_depthOf, m_proofOf, m_signedOf, m_knownOf, m_doneOf, m_shownTo, m_sentBy, m_hasRead, m_readOf, m_lettersOf, m_letter, m_hand, m_text] <;> omega) | decide | omega | (simp only [oMs, oVws, oScr, oSgn, oMod, oMem, oSig, oKno, oPro, oBox, oFst, oSnd, oLts, oLet, oNum, oVw, oEnt, oBef, oBk, oVs, oCon, oVec, m_row, m_keptOf, m_keptRow, m_viewOf, m_alarmOf, m_hasProof, m_depthOf, m_proofOf, m_signedOf, m_knownOf, m_doneOf, m_shownTo, m_sentBy, m_hasRead, m_readOf, m_lettersOf, m_letter, m_hand, m_text] at * <;> omega))).symm)
          · exact (hB i (by omega)).of (fun q q1 q2 => hF_6 q (by first | (simp only [oMs, oVws, oScr, oSgn, oMod, oMem, oSig, oKno, oPro, oBox, oFst, oSnd, oLts, oLet, oNum, oVw, oEnt, oBef, oBk, oVs, oCon, oVec, m_row, m_keptOf, m_keptRow, m_viewOf, m_alarmOf, m_hasProof, m_depthOf, m_proofOf, m_signedOf, m_knownOf, m_doneOf, m_shownTo, m_sentBy, m_hasRead, m_readOf, m_lettersOf, m_letter, m_hand, m_text] <;> omega) | decide | omega | (simp only [oMs, oVws, oScr, oSgn, oMod, oMem, oSig, oKno, oPro, oBox, oFst, oSnd, oLts, oLet, oNum, oVw, oEnt, oBef, oBk, oVs, oCon, oVec, m_row, m_keptOf, m_keptRow, m_viewOf, m_alarmOf, m_hasProof, m_depthOf, m_proofOf, m_signedOf, m_knownOf, m_doneOf, m_shownTo, m_sentBy, m_hasRead, m_readOf, m_lettersOf, m_letter, m_hand, m_text] at * <;> omega))) (fun _ _ _ => rfl)
        · intro q hq; rw [hF_6 q (by first | (simp only [oMs, oVws, oScr, oSgn, oMod, oMem, oSig, oKno, oPro, oBox, oFst, oSnd, oLts, oLet, oNum, oVw, oEnt, oBef, oBk, oVs, oCon, oVec, m_row, m_keptOf, m_keptRow, m_viewOf, m_alarmOf, m_hasProof, m_depthOf, m_proofOf, m_signedOf, m_knownOf, m_doneOf, m_shownTo, m_sentBy, m_hasRead, m_readOf, m_lettersOf, m_letter, m_hand, m_text] <;> omega) | decide | omega | (simp only [oMs, oVws, oScr, oSgn, oMod, oMem, oSig, oKno, oPro, oBox, oFst, oSnd, oLts, oLet, oNum, oVw, oEnt, oBef, oBk, oVs, oCon, oVec, m_row, m_keptOf, m_keptRow, m_viewOf, m_alarmOf, m_hasProof, m_depthOf, m_proofOf, m_signedOf, m_knownOf, m_doneOf, m_shownTo, m_sentBy, m_hasRead, m_readOf, m_lettersOf, m_letter, m_hand, m_text] at * <;> omega))]; exact hF q hq
  refine L13 _ _ _ (Nat.lt_succ_self _) ?_ ?_ ?_ ?_
  · omega
  · exact hA_2
  · intro i hi; omega
  · intro q hq; exact hF_3 q (by first | (simp only [oMs, oVws, oScr, oSgn, oMod, oMem, oSig, oKno, oPro, oBox, oFst, oSnd, oLts, oLet, oNum, oVw, oEnt, oBef, oBk, oVs, oCon, oVec, m_row, m_keptOf, m_keptRow, m_viewOf, m_alarmOf, m_hasProof, m_depthOf, m_proofOf, m_signedOf, m_knownOf, m_doneOf, m_shownTo, m_sentBy, m_hasRead, m_readOf, m_lettersOf, m_letter, m_hand, m_text] <;> omega) | decide | omega | (simp only [oMs, oVws, oScr, oSgn, oMod, oMem, oSig, oKno, oPro, oBox, oFst, oSnd, oLts, oLet, oNum, oVw, oEnt, oBef, oBk, oVs, oCon, oVec, m_row, m_keptOf, m_keptRow, m_viewOf, m_alarmOf, m_hasProof, m_depthOf, m_proofOf, m_signedOf, m_knownOf, m_doneOf, m_shownTo, m_sentBy, m_hasRead, m_readOf, m_lettersOf, m_letter, m_hand, m_text] at * <;> omega))

set_option maxRecDepth 100000 in
set_option maxHeartbeats 4000000 in
theorem c_X6_remember (l : Launch) (D : XD) (b n : Nat) {σ : XM} {o1 x r : Nat} (h1 : kd o1 = 6) (hx : σ o1 3 = nI x) (hx5 : x < 5) (hr0 : σ o1 2 = nI r) (hr5 : r ≤ 5) : xM l yX6_remember cX6_remember 1 none 2 44 0 0 D b n [.ref (b + o1)] (xH D b σ) n (fun v h' => v = none ∧ ∃ τ : XM, EqE τ (oBk (oBef o1) x) σ (oEnt o1) ∧ τ o1 2 = nI (min (r + 1) 5) ∧ τ o1 3 = nI ((x + 1) % 5) ∧ (∀ q, q ≠ o1 → (q < oBk (oBef o1) x ∨ oBk (oBef o1) x + 13 ≤ q) → τ q = σ q) ∧ h' = xH D b τ) := by
  refine xM.of (lv := [some (.ref (b + o1))]) (by decide +kernel) rfl (List.forall_mem_cons.mpr ⟨rfl, fun _ h => absurd h List.not_mem_nil⟩) (Nat.le_of_ble_eq_true rfl) rfl ?_
  intro p e s m args below meth c hC hr hnm
  refine xi_aload_n hC dX6_remember_0 (pc' := 1) rfl rfl rfl ?_
  refine xg6_before hC dX6_remember_1 (pc' := 4) rfl xw_f_X6_18 h1 ?_
  refine xi_aload_n hC dX6_remember_4 (pc' := 5) rfl rfl rfl ?_
  refine xg6_next hC dX6_remember_5 (pc' := 8) rfl xw_f_X6_32 h1 ?_
  refine xtop (y := (nI x)) (hx) ?_
  refine xa_before hC dX6_remember_8 (pc' := 9) rfl (kd_oBef h1) rfl (by omega) ?_
  refine xi_aload_n hC dX6_remember_9 (pc' := 10) rfl rfl rfl ?_
  refine xg6_entries hC dX6_remember_10 (pc' := 13) rfl xw_f_X6_12 h1 ?_
  refine xi_callV (As := [.ref (b + (oEnt o1))]) (rest := []) (c_X1_copyFrom l D b n (σ := σ) (kd_oBk (kd_oBef h1) (by omega)) (kd_oEnt h1) (by first | (simp only [oMs, oVws, oScr, oSgn, oMod, oMem, oSig, oKno, oPro, oBox, oFst, oSnd, oLts, oLet, oNum, oVw, oEnt, oBef, oBk, oVs, oCon, oVec, m_row, m_keptOf, m_keptRow, m_viewOf, m_alarmOf, m_hasProof, m_depthOf, m_proofOf, m_signedOf, m_knownOf, m_doneOf, m_shownTo, m_sentBy, m_hasRead, m_readOf, m_lettersOf, m_letter, m_hand, m_text] <;> omega) | decide | omega | (simp only [oMs, oVws, oScr, oSgn, oMod, oMem, oSig, oKno, oPro, oBox, oFst, oSnd, oLts, oLet, oNum, oVw, oEnt, oBef, oBk, oVs, oCon, oVec, m_row, m_keptOf, m_keptRow, m_viewOf, m_alarmOf, m_hasProof, m_depthOf, m_proofOf, m_signedOf, m_knownOf, m_doneOf, m_shownTo, m_sentBy, m_hasRead, m_readOf, m_lettersOf, m_letter, m_hand, m_text] at * <;> omega))) hC dX6_remember_13 (pc' := 16) rfl xw_m_X6_35 xw_c_X1_copyFrom xw_ins_X1_copyFrom xw_sel_X1_copyFrom xw_ini_X1 xd_X1_copyFrom (xH_at.trans (xsh_1 (kd_oBk (kd_oBef h1) (by omega)))) rfl ⟨Nat.le_of_ble_eq_true rfl, Nat.le_of_ble_eq_true rfl⟩ rfl (Nat.le_of_ble_eq_true rfl) ⟨Nat.le_of_ble_eq_true rfl, Nat.le_of_ble_eq_true rfl⟩ ?_
  rintro _ _ ⟨rfl, τ_1, hA_2, hF_3, rfl⟩
  show xV _ _ _ _ _ _ _ _ _ _ _ _ _ _ _ _ _ (xH D b τ_1) _ _ []
  refine xi_aload_n hC dX6_remember_16 (pc' := 17) rfl rfl rfl ?_
  refine xi_aload_n hC dX6_remember_17 (pc' := 18) rfl rfl rfl ?_
  refine xg6_next hC dX6_remember_18 (pc' := 21) rfl xw_f_X6_32 h1 ?_
  refine xtop (y := (σ o1 3)) (by rw [hF_3 o1 (by first | (simp only [oMs, oVws, oScr, oSgn, oMod, oMem, oSig, oKno, oPro, oBox, oFst, oSnd, oLts, oLet, oNum, oVw, oEnt, oBef, oBk, oVs, oCon, oVec, m_row, m_keptOf, m_keptRow, m_viewOf, m_alarmOf, m_hasProof, m_depthOf, m_proofOf, m_signedOf, m_knownOf, m_doneOf, m_shownTo, m_sentBy, m_hasRead, m_readOf, m_lettersOf, m_letter, m_hand, m_text] <;> omega) | decide | omega | (simp only [oMs, oVws, oScr, oSgn, oMod, oMem, oSig, oKno, oPro, oBox, oFst, oSnd, oLts, oLet, oNum, oVw, oEnt, oBef, oBk, oVs, oCon, oVec, m_row, m_keptOf, m_keptRow, m_viewOf, m_alarmOf, m_hasProof, m_depthOf, m_proofOf, m_signedOf, m_knownOf, m_doneOf, m_shownTo, m_sentBy, m_hasRead, m_readOf, m_lettersOf, m_letter, m_hand, m_text] at * <;> omega))]) ?_
  refine xtop (y := (nI x)) (hx) ?_
  refine xi_iconst (v := nI 1) hC dX6_remember_21 (pc' := 22) rfl (by decide +kernel) ?_
  refine xn_iadd hC dX6_remember_22 (pc' := 23) rfl ?_
  refine xi_iconst (v := nI 5) hC dX6_remember_23 (pc' := 24) rfl (by decide +kernel) ?_
  refine xi_irem hC dX6_remember_24 (pc' := 25) rfl (by decide) ?_
  refine xtop (y := nI ((x + 1) % 5)) (pk_rem (by omega) (by decide) (by decide)) ?_
  refine xp6_next hC dX6_remember_25 (pc' := 28) rfl xw_f_X6_32 h1 ?_
  refine xi_aload_n hC dX6_remember_28 (pc' := 29) rfl rfl rfl ?_
  refine xg6_remembered hC dX6_remember_29 (pc' := 32) rfl xw_f_X6_28 h1 ?_
  refine xtop (y := (σ o1 2)) (by rw [sw_k (j := 2) (k := 3) (by first | (simp only [oMs, oVws, oScr, oSgn, oMod, oMem, oSig, oKno, oPro, oBox, oFst, oSnd, oLts, oLet, oNum, oVw, oEnt, oBef, oBk, oVs, oCon, oVec, m_row, m_keptOf, m_keptRow, m_viewOf, m_alarmOf, m_hasProof, m_depthOf, m_proofOf, m_signedOf, m_knownOf, m_doneOf, m_shownTo, m_sentBy, m_hasRead, m_readOf, m_lettersOf, m_letter, m_hand, m_text] <;> omega) | decide | omega | (simp only [oMs, oVws, oScr, oSgn, oMod, oMem, oSig, oKno, oPro, oBox, oFst, oSnd, oLts, oLet, oNum, oVw, oEnt, oBef, oBk, oVs, oCon, oVec, m_row, m_keptOf, m_keptRow, m_viewOf, m_alarmOf, m_hasProof, m_depthOf, m_proofOf, m_signedOf, m_knownOf, m_doneOf, m_shownTo, m_sentBy, m_hasRead, m_readOf, m_lettersOf, m_letter, m_hand, m_text] at * <;> omega)), hF_3 o1 (by first | (simp only [oMs, oVws, oScr, oSgn, oMod, oMem, oSig, oKno, oPro, oBox, oFst, oSnd, oLts, oLet, oNum, oVw, oEnt, oBef, oBk, oVs, oCon, oVec, m_row, m_keptOf, m_keptRow, m_viewOf, m_alarmOf, m_hasProof, m_depthOf, m_proofOf, m_signedOf, m_knownOf, m_doneOf, m_shownTo, m_sentBy, m_hasRead, m_readOf, m_lettersOf, m_letter, m_hand, m_text] <;> omega) | decide | omega | (simp only [oMs, oVws, oScr, oSgn, oMod, oMem, oSig, oKno, oPro, oBox, oFst, oSnd, oLts, oLet, oNum, oVw, oEnt, oBef, oBk, oVs, oCon, oVec, m_row, m_keptOf, m_keptRow, m_viewOf, m_alarmOf, m_hasProof, m_depthOf, m_proofOf, m_signedOf, m_knownOf, m_doneOf, m_shownTo, m_sentBy, m_hasRead, m_readOf, m_lettersOf, m_letter, m_hand, m_text] at * <;> omega))]) ?_
  refine xtop (y := (nI r)) (hr0) ?_
  refine xi_iconst (v := nI 5) hC dX6_remember_32 (pc' := 33) rfl (by decide +kernel) ?_
  refine xn_icmpge (tgt := 46) hC dX6_remember_33 (pc' := 36) rfl (by decide) (by omega) (by omega) (fun zc33 => ?_) (fun zc33 => ?_)
  · skip
    refine xi_return hC dX6_remember_46 hr rfl ?_
    refine ⟨rfl, _, hA_2.of (fun q q1 q2 => ?_) (fun _ _ _ => rfl), ?_, ?_, fun q q1 q2 => ?_, rfl⟩
    · rw [sw_n (by first | (simp only [oMs, oVws, oScr, oSgn, oMod, oMem, oSig, oKno, oPro, oBox, oFst, oSnd, oLts, oLet, oNum, oVw, oEnt, oBef, oBk, oVs, oCon, oVec, m_row, m_keptOf, m_keptRow, m_viewOf, m_alarmOf, m_hasProof, m_depthOf, m_proofOf, m_signedOf, m_knownOf, m_doneOf, m_shownTo, m_sentBy, m_hasRead, m_readOf, m_lettersOf, m_letter, m_hand, m_text] <;> omega) | decide | omega | (simp only [oMs, oVws, oScr, oSgn, oMod, oMem, oSig, oKno, oPro, oBox, oFst, oSnd, oLts, oLet, oNum, oVw, oEnt, oBef, oBk, oVs, oCon, oVec, m_row, m_keptOf, m_keptRow, m_viewOf, m_alarmOf, m_hasProof, m_depthOf, m_proofOf, m_signedOf, m_knownOf, m_doneOf, m_shownTo, m_sentBy, m_hasRead, m_readOf, m_lettersOf, m_letter, m_hand, m_text] at * <;> omega))]
    · rw [sw_k (by decide), hF_3 _ (by first | (simp only [oMs, oVws, oScr, oSgn, oMod, oMem, oSig, oKno, oPro, oBox, oFst, oSnd, oLts, oLet, oNum, oVw, oEnt, oBef, oBk, oVs, oCon, oVec, m_row, m_keptOf, m_keptRow, m_viewOf, m_alarmOf, m_hasProof, m_depthOf, m_proofOf, m_signedOf, m_knownOf, m_doneOf, m_shownTo, m_sentBy, m_hasRead, m_readOf, m_lettersOf, m_letter, m_hand, m_text] <;> omega) | decide | omega | (simp only [oMs, oVws, oScr, oSgn, oMod, oMem, oSig, oKno, oPro, oBox, oFst, oSnd, oLts, oLet, oNum, oVw, oEnt, oBef, oBk, oVs, oCon, oVec, m_row, m_keptOf, m_keptRow, m_viewOf, m_alarmOf, m_hasProof, m_depthOf, m_proofOf, m_signedOf, m_knownOf, m_doneOf, m_shownTo, m_sentBy, m_hasRead, m_readOf, m_lettersOf, m_letter, m_hand, m_text] at * <;> omega)), hr0, show min (r + 1) 5 = r by omega]
    · rw [sw_s]
    · rw [sw_n q1]; exact hF_3 q q2
  · skip
    refine xi_aload_n hC dX6_remember_36 (pc' := 37) rfl rfl rfl ?_
    refine xi_dup hC dX6_remember_37 (pc' := 38) rfl rfl ?_
    refine xg6_remembered hC dX6_remember_38 (pc' := 41) rfl xw_f_X6_28 h1 ?_
    refine xtop (y := (σ o1 2)) (by rw [sw_k (j := 2) (k := 3) (by first | (simp only [oMs, oVws, oScr, oSgn, oMod, oMem, oSig, oKno, oPro, oBox, oFst, oSnd, oLts, oLet, oNum, oVw, oEnt, oBef, oBk, oVs, oCon, oVec, m_row, m_keptOf, m_keptRow, m_viewOf, m_alarmOf, m_hasProof, m_depthOf, m_proofOf, m_signedOf, m_knownOf, m_doneOf, m_shownTo, m_sentBy, m_hasRead, m_readOf, m_lettersOf, m_letter, m_hand, m_text] <;> omega) | decide | omega | (simp only [oMs, oVws, oScr, oSgn, oMod, oMem, oSig, oKno, oPro, oBox, oFst, oSnd, oLts, oLet, oNum, oVw, oEnt, oBef, oBk, oVs, oCon, oVec, m_row, m_keptOf, m_keptRow, m_viewOf, m_alarmOf, m_hasProof, m_depthOf, m_proofOf, m_signedOf, m_knownOf, m_doneOf, m_shownTo, m_sentBy, m_hasRead, m_readOf, m_lettersOf, m_letter, m_hand, m_text] at * <;> omega)), hF_3 o1 (by first | (simp only [oMs, oVws, oScr, oSgn, oMod, oMem, oSig, oKno, oPro, oBox, oFst, oSnd, oLts, oLet, oNum, oVw, oEnt, oBef, oBk, oVs, oCon, oVec, m_row, m_keptOf, m_keptRow, m_viewOf, m_alarmOf, m_hasProof, m_depthOf, m_proofOf, m_signedOf, m_knownOf, m_doneOf, m_shownTo, m_sentBy, m_hasRead, m_readOf, m_lettersOf, m_letter, m_hand, m_text] <;> omega) | decide | omega | (simp only [oMs, oVws, oScr, oSgn, oMod, oMem, oSig, oKno, oPro, oBox, oFst, oSnd, oLts, oLet, oNum, oVw, oEnt, oBef, oBk, oVs, oCon, oVec, m_row, m_keptOf, m_keptRow, m_viewOf, m_alarmOf, m_hasProof, m_depthOf, m_proofOf, m_signedOf, m_knownOf, m_doneOf, m_shownTo, m_sentBy, m_hasRead, m_readOf, m_lettersOf, m_letter, m_hand, m_text] at * <;> omega))]) ?_
    refine xtop (y := (nI r)) (hr0) ?_
    refine xi_iconst (v := nI 1) hC dX6_remember_41 (pc' := 42) rfl (by decide +kernel) ?_
    refine xn_iadd hC dX6_remember_42 (pc' := 43) rfl ?_
    refine xp6_remembered hC dX6_remember_43 (pc' := 46) rfl xw_f_X6_28 h1 ?_
    refine xi_return hC dX6_remember_46 hr rfl ?_
    refine ⟨rfl, _, hA_2.of (fun q q1 q2 => ?_) (fun _ _ _ => rfl), ?_, ?_, fun q q1 q2 => ?_, rfl⟩
    · rw [sw_n (by first | (simp only [oMs, oVws, oScr, oSgn, oMod, oMem, oSig, oKno, oPro, oBox, oFst, oSnd, oLts, oLet, oNum, oVw, oEnt, oBef, oBk, oVs, oCon, oVec, m_row, m_keptOf, m_keptRow, m_viewOf, m_alarmOf, m_hasProof, m_depthOf, m_proofOf, m_signedOf, m_knownOf, m_doneOf, m_shownTo, m_sentBy, m_hasRead, m_readOf, m_lettersOf, m_letter, m_hand, m_text] <;> omega) | decide | omega | (simp only [oMs, oVws, oScr, oSgn, oMod, oMem, oSig, oKno, oPro, oBox, oFst, oSnd, oLts, oLet, oNum, oVw, oEnt, oBef, oBk, oVs, oCon, oVec, m_row, m_keptOf, m_keptRow, m_viewOf, m_alarmOf, m_hasProof, m_depthOf, m_proofOf, m_signedOf, m_knownOf, m_doneOf, m_shownTo, m_sentBy, m_hasRead, m_readOf, m_lettersOf, m_letter, m_hand, m_text] at * <;> omega)), sw_n (by first | (simp only [oMs, oVws, oScr, oSgn, oMod, oMem, oSig, oKno, oPro, oBox, oFst, oSnd, oLts, oLet, oNum, oVw, oEnt, oBef, oBk, oVs, oCon, oVec, m_row, m_keptOf, m_keptRow, m_viewOf, m_alarmOf, m_hasProof, m_depthOf, m_proofOf, m_signedOf, m_knownOf, m_doneOf, m_shownTo, m_sentBy, m_hasRead, m_readOf, m_lettersOf, m_letter, m_hand, m_text] <;> omega) | decide | omega | (simp only [oMs, oVws, oScr, oSgn, oMod, oMem, oSig, oKno, oPro, oBox, oFst, oSnd, oLts, oLet, oNum, oVw, oEnt, oBef, oBk, oVs, oCon, oVec, m_row, m_keptOf, m_keptRow, m_viewOf, m_alarmOf, m_hasProof, m_depthOf, m_proofOf, m_signedOf, m_knownOf, m_doneOf, m_shownTo, m_sentBy, m_hasRead, m_readOf, m_lettersOf, m_letter, m_hand, m_text] at * <;> omega))]
    · rw [sw_s, Nat.min_eq_left (by omega)]
    · rw [sw_k (by decide), sw_s]
    · rw [sw_n q1, sw_n q1]; exact hF_3 q q2

set_option maxRecDepth 100000 in
set_option maxHeartbeats 4000000 in
theorem c_X6_takeBack (l : Launch) (D : XD) (b n : Nat) {σ : XM} {o1 x r z : Nat} (h1 : kd o1 = 6) (hx : σ o1 3 = nI x) (hx5 : x < 5) (hr0 : σ o1 2 = nI r) (hr5 : r ≤ 5) (hz : z ≤ r) : xM l yX6_takeBack cX6_takeBack 2 none 2 44 0 0 D b n [.ref (b + o1), .int (nI z)] (xH D b σ) n (fun v h' => v = none ∧ ∃ τ : XM, EqE τ (oEnt o1) σ (oBk (oBef o1) ((x + 5 - z) % 5)) ∧ τ o1 2 = nI (r - z) ∧ τ o1 3 = nI ((x + 5 - z) % 5) ∧ (∀ q, q ≠ o1 → (q < oEnt o1 ∨ oEnt o1 + 13 ≤ q) → τ q = σ q) ∧ h' = xH D b τ) := by
  refine xM.of (lv := [some (.ref (b + o1)), some (.int (nI z))]) (by decide +kernel) rfl (List.forall_mem_cons.mpr ⟨rfl, List.forall_mem_cons.mpr ⟨rfl, fun _ h => absurd h List.not_mem_nil⟩⟩) (Nat.le_of_ble_eq_true rfl) rfl ?_
  intro p e s m args below meth c hC hr hnm
  refine xi_aload_n hC dX6_takeBack_0 (pc' := 1) rfl rfl rfl ?_
  refine xi_aload_n hC dX6_takeBack_1 (pc' := 2) rfl rfl rfl ?_
  refine xg6_next hC dX6_takeBack_2 (pc' := 5) rfl xw_f_X6_32 h1 ?_
  refine xtop (y := (nI x)) (hx) ?_
  refine xi_iconst (v := nI 5) hC dX6_takeBack_5 (pc' := 6) rfl (by decide +kernel) ?_
  refine xn_iadd hC dX6_takeBack_6 (pc' := 7) rfl ?_
  refine xi_iload_n hC dX6_takeBack_7 (pc' := 8) rfl rfl rfl ?_
  refine xn_isub hC dX6_takeBack_8 (pc' := 9) rfl (by omega) ?_
  refine xi_iconst (v := nI 5) hC dX6_takeBack_9 (pc' := 10) rfl (by decide +kernel) ?_
  refine xi_irem hC dX6_takeBack_10 (pc' := 11) rfl (by decide) ?_
  refine xtop (y := nI (((x + 5) - z) % 5)) (pk_rem (by omega) (by decide) (by decide)) ?_
  refine xp6_next hC dX6_takeBack_11 (pc' := 14) rfl xw_f_X6_32 h1 ?_
  refine xi_aload_n hC dX6_takeBack_14 (pc' := 15) rfl rfl rfl ?_
  refine xg6_entries hC dX6_takeBack_15 (pc' := 18) rfl xw_f_X6_12 h1 ?_
  refine xi_aload_n hC dX6_takeBack_18 (pc' := 19) rfl rfl rfl ?_
  refine xg6_before hC dX6_takeBack_19 (pc' := 22) rfl xw_f_X6_18 h1 ?_
  refine xi_aload_n hC dX6_takeBack_22 (pc' := 23) rfl rfl rfl ?_
  refine xg6_next hC dX6_takeBack_23 (pc' := 26) rfl xw_f_X6_32 h1 ?_
  refine xtop (y := (nI (((x + 5) - z) % 5))) (by rw [sw_s]) ?_
  refine xa_before hC dX6_takeBack_26 (pc' := 27) rfl (kd_oBef h1) rfl (by omega) ?_
  refine xi_callV (As := [.ref (b + (oBk (oBef o1) (((x + 5) - z) % 5)))]) (rest := []) (c_X1_copyFrom l D b n (σ := (sw σ o1 3 (nI (((x + 5) - z) % 5)))) (kd_oEnt h1) (kd_oBk (kd_oBef h1) (by omega)) (by first | (simp only [oMs, oVws, oScr, oSgn, oMod, oMem, oSig, oKno, oPro, oBox, oFst, oSnd, oLts, oLet, oNum, oVw, oEnt, oBef, oBk, oVs, oCon, oVec, m_row, m_keptOf, m_keptRow, m_viewOf, m_alarmOf, m_hasProof, m_depthOf, m_proofOf, m_signedOf, m_knownOf, m_doneOf, m_shownTo, m_sentBy, m_hasRead, m_readOf, m_lettersOf, m_letter, m_hand, m_text] <;> omega) | decide | omega | (simp only [oMs, oVws, oScr, oSgn, oMod, oMem, oSig, oKno, oPro, oBox, oFst, oSnd, oLts, oLet, oNum, oVw, oEnt, oBef, oBk, oVs, oCon, oVec, m_row, m_keptOf, m_keptRow, m_viewOf, m_alarmOf, m_hasProof, m_depthOf, m_proofOf, m_signedOf, m_knownOf, m_doneOf, m_shownTo, m_sentBy, m_hasRead, m_readOf, m_lettersOf, m_letter, m_hand, m_text] at * <;> omega))) hC dX6_takeBack_27 (pc' := 30) rfl xw_m_X6_35 xw_c_X1_copyFrom xw_ins_X1_copyFrom xw_sel_X1_copyFrom xw_ini_X1 xd_X1_copyFrom (xH_at.trans (xsh_1 (kd_oEnt h1))) rfl ⟨Nat.le_of_ble_eq_true rfl, Nat.le_of_ble_eq_true rfl⟩ rfl (Nat.le_of_ble_eq_true rfl) ⟨Nat.le_of_ble_eq_true rfl, Nat.le_of_ble_eq_true rfl⟩ ?_
  rintro _ _ ⟨rfl, τ_1, hA_2, hF_3, rfl⟩
  show xV _ _ _ _ _ _ _ _ _ _ _ _ _ _ _ _ _ (xH D b τ_1) _ _ []
  refine xi_aload_n hC dX6_takeBack_30 (pc' := 31) rfl rfl rfl ?_
  refine xi_dup hC dX6_takeBack_31 (pc' := 32) rfl rfl ?_
  refine xg6_remembered hC dX6_takeBack_32 (pc' := 35) rfl xw_f_X6_28 h1 ?_
  refine xtop (y := (σ o1 2)) (by rw [hF_3 o1 (by first | (simp only [oMs, oVws, oScr, oSgn, oMod, oMem, oSig, oKno, oPro, oBox, oFst, oSnd, oLts, oLet, oNum, oVw, oEnt, oBef, oBk, oVs, oCon, oVec, m_row, m_keptOf, m_keptRow, m_viewOf, m_alarmOf, m_hasProof, m_depthOf, m_proofOf, m_signedOf, m_knownOf, m_doneOf, m_shownTo, m_sentBy, m_hasRead, m_readOf, m_lettersOf, m_letter, m_hand, m_text] <;> omega) | decide | omega | (simp only [oMs, oVws, oScr, oSgn, oMod, oMem, oSig, oKno, oPro, oBox, oFst, oSnd, oLts, oLet, oNum, oVw, oEnt, oBef, oBk, oVs, oCon, oVec, m_row, m_keptOf, m_keptRow, m_viewOf, m_alarmOf, m_hasProof, m_depthOf, m_proofOf, m_signedOf, m_knownOf, m_doneOf, m_shownTo, m_sentBy, m_hasRead, m_readOf, m_lettersOf, m_letter, m_hand, m_text] at * <;> omega)), sw_k (j := 2) (k := 3) (by first | (simp only [oMs, oVws, oScr, oSgn, oMod, oMem, oSig, oKno, oPro, oBox, oFst, oSnd, oLts, oLet, oNum, oVw, oEnt, oBef, oBk, oVs, oCon, oVec, m_row, m_keptOf, m_keptRow, m_viewOf, m_alarmOf, m_hasProof, m_depthOf, m_proofOf, m_signedOf, m_knownOf, m_doneOf, m_shownTo, m_sentBy, m_hasRead, m_readOf, m_lettersOf, m_letter, m_hand, m_text] <;> omega) | decide | omega | (simp only [oMs, oVws, oScr, oSgn, oMod, oMem, oSig, oKno, oPro, oBox, oFst, oSnd, oLts, oLet, oNum, oVw, oEnt, oBef, oBk, oVs, oCon, oVec, m_row, m_keptOf, m_keptRow, m_viewOf, m_alarmOf, m_hasProof, m_depthOf, m_proofOf, m_signedOf, m_knownOf, m_doneOf, m_shownTo, m_sentBy, m_hasRead, m_readOf, m_lettersOf, m_letter, m_hand, m_text] at * <;> omega))]) ?_
  refine xtop (y := (nI r)) (hr0) ?_
  refine xi_iload_n hC dX6_takeBack_35 (pc' := 36) rfl rfl rfl ?_
  refine xn_isub hC dX6_takeBack_36 (pc' := 37) rfl (by omega) ?_
  refine xp6_remembered hC dX6_takeBack_37 (pc' := 40) rfl xw_f_X6_28 h1 ?_
  refine xi_return hC dX6_takeBack_40 hr rfl ?_
  refine ⟨rfl, _, hA_2.of (fun q q1 q2 => ?_) (fun q q1 q2 => ?_), sw_s, ?_, fun q q1 q2 => ?_, rfl⟩
  · rw [sw_n (by first | (simp only [oMs, oVws, oScr, oSgn, oMod, oMem, oSig, oKno, oPro, oBox, oFst, oSnd, oLts, oLet, oNum, oVw, oEnt, oBef, oBk, oVs, oCon, oVec, m_row, m_keptOf, m_keptRow, m_viewOf, m_alarmOf, m_hasProof, m_depthOf, m_proofOf, m_signedOf, m_knownOf, m_doneOf, m_shownTo, m_sentBy, m_hasRead, m_readOf, m_lettersOf, m_letter, m_hand, m_text] <;> omega) | decide | omega | (simp only [oMs, oVws, oScr, oSgn, oMod, oMem, oSig, oKno, oPro, oBox, oFst, oSnd, oLts, oLet, oNum, oVw, oEnt, oBef, oBk, oVs, oCon, oVec, m_row, m_keptOf, m_keptRow, m_viewOf, m_alarmOf, m_hasProof, m_depthOf, m_proofOf, m_signedOf, m_knownOf, m_doneOf, m_shownTo, m_sentBy, m_hasRead, m_readOf, m_lettersOf, m_letter, m_hand, m_text] at * <;> omega))]
  · rw [sw_n (by first | (simp only [oMs, oVws, oScr, oSgn, oMod, oMem, oSig, oKno, oPro, oBox, oFst, oSnd, oLts, oLet, oNum, oVw, oEnt, oBef, oBk, oVs, oCon, oVec, m_row, m_keptOf, m_keptRow, m_viewOf, m_alarmOf, m_hasProof, m_depthOf, m_proofOf, m_signedOf, m_knownOf, m_doneOf, m_shownTo, m_sentBy, m_hasRead, m_readOf, m_lettersOf, m_letter, m_hand, m_text] <;> omega) | decide | omega | (simp only [oMs, oVws, oScr, oSgn, oMod, oMem, oSig, oKno, oPro, oBox, oFst, oSnd, oLts, oLet, oNum, oVw, oEnt, oBef, oBk, oVs, oCon, oVec, m_row, m_keptOf, m_keptRow, m_viewOf, m_alarmOf, m_hasProof, m_depthOf, m_proofOf, m_signedOf, m_knownOf, m_doneOf, m_shownTo, m_sentBy, m_hasRead, m_readOf, m_lettersOf, m_letter, m_hand, m_text] at * <;> omega))]
  · rw [sw_k (by decide), hF_3 _ (by first | (simp only [oMs, oVws, oScr, oSgn, oMod, oMem, oSig, oKno, oPro, oBox, oFst, oSnd, oLts, oLet, oNum, oVw, oEnt, oBef, oBk, oVs, oCon, oVec, m_row, m_keptOf, m_keptRow, m_viewOf, m_alarmOf, m_hasProof, m_depthOf, m_proofOf, m_signedOf, m_knownOf, m_doneOf, m_shownTo, m_sentBy, m_hasRead, m_readOf, m_lettersOf, m_letter, m_hand, m_text] <;> omega) | decide | omega | (simp only [oMs, oVws, oScr, oSgn, oMod, oMem, oSig, oKno, oPro, oBox, oFst, oSnd, oLts, oLet, oNum, oVw, oEnt, oBef, oBk, oVs, oCon, oVec, m_row, m_keptOf, m_keptRow, m_viewOf, m_alarmOf, m_hasProof, m_depthOf, m_proofOf, m_signedOf, m_knownOf, m_doneOf, m_shownTo, m_sentBy, m_hasRead, m_readOf, m_lettersOf, m_letter, m_hand, m_text] at * <;> omega)), sw_s]
  · rw [sw_n q1, hF_3 q q2, sw_n q1]
end
section
theorem xx_dummy2 : True := trivial
end
