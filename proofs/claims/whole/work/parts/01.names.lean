def lw_okq (q : MethodName × Nat) : Prop := (q.1.cls ≠ "java/lang/invoke/MethodHandle" ∧ q.1.cls ≠ "java/lang/invoke/VarHandle") ∧ Cond.instantiable q.1.cls q.2 ∈ tables_1 ∧ Cond.privateMethod q.1 ∈ tables_1 ∧ Cond.instanceMethod q.1 ∈ tables_1
theorem lw_p0 : lw_okq (⟨"MergeVault", "commitAt", "(I)LMergeVault$Commit;"⟩, 10) := ⟨⟨by decide +kernel, by decide +kernel⟩, List.mem_of_getElem? (i := 11) (by decide +kernel), List.mem_of_getElem? (i := 152) (by decide +kernel), List.mem_of_getElem? (i := 153) (by decide +kernel)⟩
theorem lw_p1 : lw_okq (⟨"MergeVault", "isCommit", "(I)Z"⟩, 10) := ⟨⟨by decide +kernel, by decide +kernel⟩, List.mem_of_getElem? (i := 11) (by decide +kernel), List.mem_of_getElem? (i := 156) (by decide +kernel), List.mem_of_getElem? (i := 157) (by decide +kernel)⟩
theorem lw_p2 : lw_okq (⟨"MergeVault", "commitDraft", "(ILMergeVault$Commit;LMergeVault$Commit;)I"⟩, 10) := ⟨⟨by decide +kernel, by decide +kernel⟩, List.mem_of_getElem? (i := 11) (by decide +kernel), List.mem_of_getElem? (i := 194) (by decide +kernel), List.mem_of_getElem? (i := 195) (by decide +kernel)⟩
theorem lw_p3 : lw_okq (⟨"MergeVault", "moveHead", "(II)V"⟩, 10) := ⟨⟨by decide +kernel, by decide +kernel⟩, List.mem_of_getElem? (i := 11) (by decide +kernel), List.mem_of_getElem? (i := 252) (by decide +kernel), List.mem_of_getElem? (i := 253) (by decide +kernel)⟩
theorem lw_p4 : lw_okq (⟨"MergeVault", "draftMerging", "(LMergeVault$Commit;LMergeVault$Commit;)I"⟩, 10) := ⟨⟨by decide +kernel, by decide +kernel⟩, List.mem_of_getElem? (i := 11) (by decide +kernel), List.mem_of_getElem? (i := 273) (by decide +kernel), List.mem_of_getElem? (i := 274) (by decide +kernel)⟩
theorem lw_p5 : lw_okq (⟨"MergeVault", "layBase", "(LMergeVault$Commit;LMergeVault$Commit;I)I"⟩, 10) := ⟨⟨by decide +kernel, by decide +kernel⟩, List.mem_of_getElem? (i := 11) (by decide +kernel), List.mem_of_getElem? (i := 277) (by decide +kernel), List.mem_of_getElem? (i := 278) (by decide +kernel)⟩
theorem lw_p6 : lw_okq (⟨"MergeVault", "meetsOf", "(LMergeVault$Commit;LMergeVault$Commit;)J"⟩, 10) := ⟨⟨by decide +kernel, by decide +kernel⟩, List.mem_of_getElem? (i := 11) (by decide +kernel), List.mem_of_getElem? (i := 281) (by decide +kernel), List.mem_of_getElem? (i := 282) (by decide +kernel)⟩
theorem lw_p7 : lw_okq (⟨"MergeVault$Merger", "mergedQueue", "(JJJ)J"⟩, 1) := ⟨⟨by decide +kernel, by decide +kernel⟩, List.mem_of_getElem? (i := 98) (by decide +kernel), List.mem_of_getElem? (i := 314) (by decide +kernel), List.mem_of_getElem? (i := 315) (by decide +kernel)⟩
theorem lw_p8 : lw_okq (⟨"MergeVault$Merger", "leastFree", "(I)I"⟩, 1) := ⟨⟨by decide +kernel, by decide +kernel⟩, List.mem_of_getElem? (i := 98) (by decide +kernel), List.mem_of_getElem? (i := 330) (by decide +kernel), List.mem_of_getElem? (i := 331) (by decide +kernel)⟩
theorem lw_p9 : lw_okq (⟨"MergeVaultModel", "unfit", "(IIJ)Z"⟩, 23) := ⟨⟨by decide +kernel, by decide +kernel⟩, List.mem_of_getElem? (i := 395) (by decide +kernel), List.mem_of_getElem? (i := 481) (by decide +kernel), List.mem_of_getElem? (i := 482) (by decide +kernel)⟩
theorem lw_p10 : lw_okq (⟨"MergeVaultModel", "placeOf", "(II)I"⟩, 23) := ⟨⟨by decide +kernel, by decide +kernel⟩, List.mem_of_getElem? (i := 395) (by decide +kernel), List.mem_of_getElem? (i := 485) (by decide +kernel), List.mem_of_getElem? (i := 486) (by decide +kernel)⟩
theorem lw_p11 : lw_okq (⟨"MergeVaultModel", "copy", "(II)V"⟩, 23) := ⟨⟨by decide +kernel, by decide +kernel⟩, List.mem_of_getElem? (i := 395) (by decide +kernel), List.mem_of_getElem? (i := 489) (by decide +kernel), List.mem_of_getElem? (i := 490) (by decide +kernel)⟩
theorem lw_p12 : lw_okq (⟨"MergeVaultModel", "apply", "(IJ)V"⟩, 23) := ⟨⟨by decide +kernel, by decide +kernel⟩, List.mem_of_getElem? (i := 395) (by decide +kernel), List.mem_of_getElem? (i := 493) (by decide +kernel), List.mem_of_getElem? (i := 494) (by decide +kernel)⟩
theorem lw_p13 : lw_okq (⟨"MergeVaultModel", "commit", "(II)I"⟩, 23) := ⟨⟨by decide +kernel, by decide +kernel⟩, List.mem_of_getElem? (i := 395) (by decide +kernel), List.mem_of_getElem? (i := 497) (by decide +kernel), List.mem_of_getElem? (i := 498) (by decide +kernel)⟩
theorem lw_p14 : lw_okq (⟨"MergeVaultModel", "hashOf", "(I)J"⟩, 23) := ⟨⟨by decide +kernel, by decide +kernel⟩, List.mem_of_getElem? (i := 395) (by decide +kernel), List.mem_of_getElem? (i := 501) (by decide +kernel), List.mem_of_getElem? (i := 502) (by decide +kernel)⟩
theorem lw_p15 : lw_okq (⟨"MergeVaultModel", "move", "(II)V"⟩, 23) := ⟨⟨by decide +kernel, by decide +kernel⟩, List.mem_of_getElem? (i := 395) (by decide +kernel), List.mem_of_getElem? (i := 512) (by decide +kernel), List.mem_of_getElem? (i := 513) (by decide +kernel)⟩
def lw_privs_1 : List (MethodName × Nat) := [(⟨"MergeVault", "commitAt", "(I)LMergeVault$Commit;"⟩, 10), (⟨"MergeVault", "isCommit", "(I)Z"⟩, 10), (⟨"MergeVault", "commitDraft", "(ILMergeVault$Commit;LMergeVault$Commit;)I"⟩, 10), (⟨"MergeVault", "moveHead", "(II)V"⟩, 10), (⟨"MergeVault", "draftMerging", "(LMergeVault$Commit;LMergeVault$Commit;)I"⟩, 10), (⟨"MergeVault", "layBase", "(LMergeVault$Commit;LMergeVault$Commit;I)I"⟩, 10), (⟨"MergeVault", "meetsOf", "(LMergeVault$Commit;LMergeVault$Commit;)J"⟩, 10), (⟨"MergeVault$Merger", "mergedQueue", "(JJJ)J"⟩, 1), (⟨"MergeVault$Merger", "leastFree", "(I)I"⟩, 1), (⟨"MergeVaultModel", "unfit", "(IIJ)Z"⟩, 23), (⟨"MergeVaultModel", "placeOf", "(II)I"⟩, 23), (⟨"MergeVaultModel", "copy", "(II)V"⟩, 23), (⟨"MergeVaultModel", "apply", "(IJ)V"⟩, 23), (⟨"MergeVaultModel", "commit", "(II)I"⟩, 23), (⟨"MergeVaultModel", "hashOf", "(I)J"⟩, 23), (⟨"MergeVaultModel", "move", "(II)V"⟩, 23)]
theorem lw_r1 : ∀ q ∈ lw_privs_1, lw_okq q := List.forall_mem_cons.mpr ⟨lw_p0, List.forall_mem_cons.mpr ⟨lw_p1, List.forall_mem_cons.mpr ⟨lw_p2, List.forall_mem_cons.mpr ⟨lw_p3, List.forall_mem_cons.mpr ⟨lw_p4, List.forall_mem_cons.mpr ⟨lw_p5, List.forall_mem_cons.mpr ⟨lw_p6, List.forall_mem_cons.mpr ⟨lw_p7, List.forall_mem_cons.mpr ⟨lw_p8, List.forall_mem_cons.mpr ⟨lw_p9, List.forall_mem_cons.mpr ⟨lw_p10, List.forall_mem_cons.mpr ⟨lw_p11, List.forall_mem_cons.mpr ⟨lw_p12, List.forall_mem_cons.mpr ⟨lw_p13, List.forall_mem_cons.mpr ⟨lw_p14, List.forall_mem_cons.mpr ⟨lw_p15, fun _ h => absurd h List.not_mem_nil⟩⟩⟩⟩⟩⟩⟩⟩⟩⟩⟩⟩⟩⟩⟩⟩
theorem lw_p16 : lw_okq (⟨"MergeVaultModel", "isCommit", "(I)Z"⟩, 23) := ⟨⟨by decide +kernel, by decide +kernel⟩, List.mem_of_getElem? (i := 395) (by decide +kernel), List.mem_of_getElem? (i := 524) (by decide +kernel), List.mem_of_getElem? (i := 525) (by decide +kernel)⟩
theorem lw_p17 : lw_okq (⟨"MergeVaultModel", "isAbove", "(II)Z"⟩, 23) := ⟨⟨by decide +kernel, by decide +kernel⟩, List.mem_of_getElem? (i := 395) (by decide +kernel), List.mem_of_getElem? (i := 532) (by decide +kernel), List.mem_of_getElem? (i := 533) (by decide +kernel)⟩
theorem lw_p18 : lw_okq (⟨"MergeVaultModel", "base", "(II)I"⟩, 23) := ⟨⟨by decide +kernel, by decide +kernel⟩, List.mem_of_getElem? (i := 395) (by decide +kernel), List.mem_of_getElem? (i := 536) (by decide +kernel), List.mem_of_getElem? (i := 537) (by decide +kernel)⟩
theorem lw_p19 : lw_okq (⟨"MergeVaultModel", "enter", "(III)V"⟩, 23) := ⟨⟨by decide +kernel, by decide +kernel⟩, List.mem_of_getElem? (i := 395) (by decide +kernel), List.mem_of_getElem? (i := 540) (by decide +kernel), List.mem_of_getElem? (i := 541) (by decide +kernel)⟩
theorem lw_p20 : lw_okq (⟨"MergeVaultModel", "meetOf", "(III)I"⟩, 23) := ⟨⟨by decide +kernel, by decide +kernel⟩, List.mem_of_getElem? (i := 395) (by decide +kernel), List.mem_of_getElem? (i := 544) (by decide +kernel), List.mem_of_getElem? (i := 545) (by decide +kernel)⟩
theorem lw_p21 : lw_okq (⟨"MergeVaultModel", "mergeTrees", "(III)I"⟩, 23) := ⟨⟨by decide +kernel, by decide +kernel⟩, List.mem_of_getElem? (i := 395) (by decide +kernel), List.mem_of_getElem? (i := 548) (by decide +kernel), List.mem_of_getElem? (i := 549) (by decide +kernel)⟩
theorem lw_p22 : lw_okq (⟨"MergeVaultModel", "mergeQueues", "(III)Z"⟩, 23) := ⟨⟨by decide +kernel, by decide +kernel⟩, List.mem_of_getElem? (i := 395) (by decide +kernel), List.mem_of_getElem? (i := 559) (by decide +kernel), List.mem_of_getElem? (i := 560) (by decide +kernel)⟩
theorem lw_p23 : lw_okq (⟨"MergeVaultModel", "member", "(IIII)Z"⟩, 23) := ⟨⟨by decide +kernel, by decide +kernel⟩, List.mem_of_getElem? (i := 395) (by decide +kernel), List.mem_of_getElem? (i := 563) (by decide +kernel), List.mem_of_getElem? (i := 564) (by decide +kernel)⟩
theorem lw_p24 : lw_okq (⟨"MergeVaultModel", "goesBefore", "(IIIII)Z"⟩, 23) := ⟨⟨by decide +kernel, by decide +kernel⟩, List.mem_of_getElem? (i := 395) (by decide +kernel), List.mem_of_getElem? (i := 567) (by decide +kernel), List.mem_of_getElem? (i := 568) (by decide +kernel)⟩
theorem lw_p25 : lw_okq (⟨"MergeVaultModel", "before", "(III)Z"⟩, 23) := ⟨⟨by decide +kernel, by decide +kernel⟩, List.mem_of_getElem? (i := 395) (by decide +kernel), List.mem_of_getElem? (i := 571) (by decide +kernel), List.mem_of_getElem? (i := 572) (by decide +kernel)⟩
theorem lw_p26 : lw_okq (⟨"MergeVaultModel", "optionTorn", "(III)Z"⟩, 23) := ⟨⟨by decide +kernel, by decide +kernel⟩, List.mem_of_getElem? (i := 395) (by decide +kernel), List.mem_of_getElem? (i := 575) (by decide +kernel), List.mem_of_getElem? (i := 576) (by decide +kernel)⟩
theorem lw_p27 : lw_okq (⟨"MergeVaultModel", "mergeOptions", "(III)V"⟩, 23) := ⟨⟨by decide +kernel, by decide +kernel⟩, List.mem_of_getElem? (i := 395) (by decide +kernel), List.mem_of_getElem? (i := 579) (by decide +kernel), List.mem_of_getElem? (i := 580) (by decide +kernel)⟩
def lw_privs_2 : List (MethodName × Nat) := [(⟨"MergeVaultModel", "isCommit", "(I)Z"⟩, 23), (⟨"MergeVaultModel", "isAbove", "(II)Z"⟩, 23), (⟨"MergeVaultModel", "base", "(II)I"⟩, 23), (⟨"MergeVaultModel", "enter", "(III)V"⟩, 23), (⟨"MergeVaultModel", "meetOf", "(III)I"⟩, 23), (⟨"MergeVaultModel", "mergeTrees", "(III)I"⟩, 23), (⟨"MergeVaultModel", "mergeQueues", "(III)Z"⟩, 23), (⟨"MergeVaultModel", "member", "(IIII)Z"⟩, 23), (⟨"MergeVaultModel", "goesBefore", "(IIIII)Z"⟩, 23), (⟨"MergeVaultModel", "before", "(III)Z"⟩, 23), (⟨"MergeVaultModel", "optionTorn", "(III)Z"⟩, 23), (⟨"MergeVaultModel", "mergeOptions", "(III)V"⟩, 23)]
theorem lw_r2 : ∀ q ∈ lw_privs_2, lw_okq q := List.forall_mem_cons.mpr ⟨lw_p16, List.forall_mem_cons.mpr ⟨lw_p17, List.forall_mem_cons.mpr ⟨lw_p18, List.forall_mem_cons.mpr ⟨lw_p19, List.forall_mem_cons.mpr ⟨lw_p20, List.forall_mem_cons.mpr ⟨lw_p21, List.forall_mem_cons.mpr ⟨lw_p22, List.forall_mem_cons.mpr ⟨lw_p23, List.forall_mem_cons.mpr ⟨lw_p24, List.forall_mem_cons.mpr ⟨lw_p25, List.forall_mem_cons.mpr ⟨lw_p26, List.forall_mem_cons.mpr ⟨lw_p27, fun _ h => absurd h List.not_mem_nil⟩⟩⟩⟩⟩⟩⟩⟩⟩⟩⟩⟩
def lw_privs : List (MethodName × Nat) := lw_privs_1 ++ (lw_privs_2)
def lw_tbl : List Cond := k2_sels lw_privs ++ tables_1
theorem lw_privs_ok : ∀ q ∈ lw_privs, lw_okq q := by
  show ∀ q ∈ lw_privs_1 ++ (lw_privs_2), lw_okq q
  exact List.forall_mem_append.mpr ⟨lw_r1, lw_r2⟩

def R_V : String := "MergeVault"
def R_T : String := "MergeVault$Tree"
def R_C : String := "MergeVault$Commit"
def R_M : String := "MergeVault$Merger"
def R_Q : String := "MergeVault$Queue"
def R_H : String := "MergeVault$Change"
def R_R : String := "MergeVaultModel"
def R_L : String := "MergeVaultLaw"
def R_JI : String := "java/lang/Integer"
def R_JL : String := "java/lang/Long"
def R_O : String := "java/lang/Object"
def T_T : u_T := fun k => match k with
  | 0 => ("MergeVault$Tree", "counter", "J", false)
  | 1 => ("MergeVault$Tree", "latest", "I", false)
  | 2 => ("MergeVault$Tree", "stamp", "I", false)
  | 3 => ("MergeVault$Tree", "plain", "I", false)
  | 4 => ("MergeVault$Tree", "set", "I", false)
  | 5 => ("MergeVault$Tree", "queue", "J", false)
  | 6 => ("MergeVault$Tree", "hasOption", "Z", false)
  | 7 => ("MergeVault$Tree", "option", "J", false)
  | 8 => ("MergeVault$Tree", "pairLong", "J", false)
  | _ => ("MergeVault$Tree", "pairInt", "I", false)
def ty_T : Nat → FieldType := fun k => match k with
  | 0 => .long
  | 1 => .int
  | 2 => .int
  | 3 => .int
  | 4 => .int
  | 5 => .long
  | 6 => .boolean
  | 7 => .long
  | 8 => .long
  | _ => .int
theorem nm_T : ∀ a, a < 10 → ∀ b, b < 10 → a ≠ b → (T_T a).2.1 ≠ (T_T b).2.1 := by decide +kernel
theorem ok_T : ∀ k, k < 10 → parseFieldDescriptor (T_T k).2.2.1 = some (ty_T k) := by decide +kernel
def T_C : u_T := fun k => match k with
  | 0 => ("MergeVault$Commit", "number", "I", true)
  | 1 => ("MergeVault$Commit", "time", "I", true)
  | 2 => ("MergeVault$Commit", "first", "LMergeVault$Commit;", true)
  | 3 => ("MergeVault$Commit", "second", "LMergeVault$Commit;", true)
  | 4 => ("MergeVault$Commit", "tree", "LMergeVault$Tree;", true)
  | 5 => ("MergeVault$Commit", "past", "J", true)
  | _ => ("MergeVault$Commit", "hash", "J", true)
def ty_C : Nat → FieldType := fun k => match k with
  | 0 => .int
  | 1 => .int
  | 2 => (.object "MergeVault$Commit")
  | 3 => (.object "MergeVault$Commit")
  | 4 => (.object "MergeVault$Tree")
  | 5 => .long
  | _ => .long
theorem nm_C : ∀ a, a < 7 → ∀ b, b < 7 → a ≠ b → (T_C a).2.1 ≠ (T_C b).2.1 := by decide +kernel
theorem ok_C : ∀ k, k < 7 → parseFieldDescriptor (T_C k).2.2.1 = some (ty_C k) := by decide +kernel
def T_M : u_T := fun k => match k with
  | _ => ("MergeVault$Merger", "before", "[I", true)
def ty_M : Nat → FieldType := fun k => match k with
  | _ => (.array .int)
theorem nm_M : ∀ a, a < 1 → ∀ b, b < 1 → a ≠ b → (T_M a).2.1 ≠ (T_M b).2.1 := by decide +kernel
theorem ok_M : ∀ k, k < 1 → parseFieldDescriptor (T_M k).2.2.1 = some (ty_M k) := by decide +kernel
def T_V : u_T := fun k => match k with
  | 0 => ("MergeVault", "made", "[LMergeVault$Commit;", true)
  | 1 => ("MergeVault", "madeCount", "I", false)
  | 2 => ("MergeVault", "heads", "[I", true)
  | 3 => ("MergeVault", "watching", "[Z", true)
  | 4 => ("MergeVault", "log", "[I", true)
  | 5 => ("MergeVault", "logged", "I", false)
  | 6 => ("MergeVault", "empty", "LMergeVault$Tree;", true)
  | 7 => ("MergeVault", "merger", "LMergeVault$Merger;", true)
  | 8 => ("MergeVault", "draft", "LMergeVault$Tree;", true)
  | _ => ("MergeVault", "bases", "[LMergeVault$Tree;", true)
def ty_V : Nat → FieldType := fun k => match k with
  | 0 => (.array (.object "MergeVault$Commit"))
  | 1 => .int
  | 2 => (.array .int)
  | 3 => (.array .boolean)
  | 4 => (.array .int)
  | 5 => .int
  | 6 => (.object "MergeVault$Tree")
  | 7 => (.object "MergeVault$Merger")
  | 8 => (.object "MergeVault$Tree")
  | _ => (.array (.object "MergeVault$Tree"))
theorem nm_V : ∀ a, a < 10 → ∀ b, b < 10 → a ≠ b → (T_V a).2.1 ≠ (T_V b).2.1 := by decide +kernel
theorem ok_V : ∀ k, k < 10 → parseFieldDescriptor (T_V k).2.2.1 = some (ty_V k) := by decide +kernel
def T_R : u_T := fun k => match k with
  | 0 => ("MergeVaultModel", "counter", "[J", true)
  | 1 => ("MergeVaultModel", "latest", "[I", true)
  | 2 => ("MergeVaultModel", "stamp", "[I", true)
  | 3 => ("MergeVaultModel", "plain", "[I", true)
  | 4 => ("MergeVaultModel", "set", "[J", true)
  | 5 => ("MergeVaultModel", "size", "[I", true)
  | 6 => ("MergeVaultModel", "queue", "[I", true)
  | 7 => ("MergeVaultModel", "there", "[Z", true)
  | 8 => ("MergeVaultModel", "option", "[J", true)
  | 9 => ("MergeVaultModel", "pairLong", "[J", true)
  | 10 => ("MergeVaultModel", "pairInt", "[I", true)
  | 11 => ("MergeVaultModel", "commits", "I", false)
  | 12 => ("MergeVaultModel", "first", "[I", true)
  | 13 => ("MergeVaultModel", "second", "[I", true)
  | 14 => ("MergeVaultModel", "above", "[J", true)
  | 15 => ("MergeVaultModel", "hashes", "[J", true)
  | 16 => ("MergeVaultModel", "heads", "[I", true)
  | 17 => ("MergeVaultModel", "watched", "[Z", true)
  | 18 => ("MergeVaultModel", "events", "I", false)
  | 19 => ("MergeVaultModel", "log", "[I", true)
  | 20 => ("MergeVaultModel", "left", "[I", true)
  | 21 => ("MergeVaultModel", "right", "[I", true)
  | _ => ("MergeVaultModel", "next", "[I", true)
def ty_R : Nat → FieldType := fun k => match k with
  | 0 => (.array .long)
  | 1 => (.array .int)
  | 2 => (.array .int)
  | 3 => (.array .int)
  | 4 => (.array .long)
  | 5 => (.array .int)
  | 6 => (.array .int)
  | 7 => (.array .boolean)
  | 8 => (.array .long)
  | 9 => (.array .long)
  | 10 => (.array .int)
  | 11 => .int
  | 12 => (.array .int)
  | 13 => (.array .int)
  | 14 => (.array .long)
  | 15 => (.array .long)
  | 16 => (.array .int)
  | 17 => (.array .boolean)
  | 18 => .int
  | 19 => (.array .int)
  | 20 => (.array .int)
  | 21 => (.array .int)
  | _ => (.array .int)
theorem nm_R : ∀ a, a < 23 → ∀ b, b < 23 → a ≠ b → (T_R a).2.1 ≠ (T_R b).2.1 := by decide +kernel
theorem ok_R : ∀ k, k < 23 → parseFieldDescriptor (T_R k).2.2.1 = some (ty_R k) := by decide +kernel
abbrev vwCl : List vw_C := [(R_T, T_T, 10), (R_C, T_C, 7), (R_M, T_M, 1), (R_V, T_V, 10), (R_R, T_R, 23)]
/-- the words of the tables that every method takes along -/
def zt : List Cond := lw_tbl.filter goodWord
theorem zm {w : Cond} (h : w ∈ lw_tbl) (g : goodWord w = true) : w ∈ zt := List.mem_filter.mpr ⟨h, g⟩
theorem zg_c {y : MethodName} {c : ByteArray} {n : Nat} {r : Option FieldType} (h : Cond.code y c n r ∈ zt) : GoodIn zt (Cond.code y c n r :: zt) := fun w hw => (List.mem_cons.mp hw).elim (fun e => by subst e; exact ⟨h, good_of_word (List.mem_filter.mp h).2⟩) (fun h => ⟨h, good_of_word (List.mem_filter.mp h).2⟩)
theorem zg_l {a ws : List Cond} (ha : ∀ w ∈ a, w ∈ zt) (h : GoodIn zt ws) : GoodIn zt (a ++ ws) := fun w hw => (List.mem_append.mp hw).elim (fun e => ⟨ha w e, good_of_word (List.mem_filter.mp (ha w e)).2⟩) (fun e => h w e)
theorem zg_S {own : String} {i : Nat} {y : MethodName} {ws : List Cond} (h1 : Cond.methodLink own i y ∈ zt) (h2 : Cond.static y ∈ zt) (h3 : Cond.initialized y.cls ∈ zt) (h : GoodIn zt ws) : GoodIn zt (va_wsS own i y ws) := zg_l (List.forall_mem_cons.mpr ⟨h1, List.forall_mem_cons.mpr ⟨h2, List.forall_mem_cons.mpr ⟨h3, fun _ h => absurd h List.not_mem_nil⟩⟩⟩) h
theorem zg_V {own C : String} {i : Nat} {y : MethodName} {ws : List Cond} (h1 : Cond.methodLink own i y ∈ zt) (h2 : Cond.instanceMethod y ∈ zt) (h3 : Cond.selects C y y ∈ zt) (h4 : Cond.initialized C ∈ zt) (h : GoodIn zt ws) : GoodIn zt (wsV own i C y ws) := zg_l (List.forall_mem_cons.mpr ⟨h1, List.forall_mem_cons.mpr ⟨h2, List.forall_mem_cons.mpr ⟨h3, List.forall_mem_cons.mpr ⟨h4, fun _ h => absurd h List.not_mem_nil⟩⟩⟩⟩) h
theorem zt_good : ∀ w ∈ zt, goodWord w = true := fun w h => (List.mem_filter.mp h).2
abbrev b_V_init : ByteArray := prog_1_method_1_code
def y_V_init : MethodName := ⟨R_V, "<init>", "()V"⟩
def w_V_init : List Cond := Cond.code y_V_init b_V_init 2 none :: zt
abbrev b_T_init : ByteArray := prog_6_method_1_code
def y_T_init : MethodName := ⟨R_T, "<init>", "()V"⟩
def w_T_init : List Cond := Cond.code y_T_init b_T_init 1 none :: zt
abbrev b_M_init : ByteArray := prog_4_method_1_code
def y_M_init : MethodName := ⟨R_M, "<init>", "()V"⟩
def w_M_init : List Cond := Cond.code y_M_init b_M_init 1 none :: zt
abbrev b_V_change : ByteArray := prog_1_method_2_code
def y_V_change : MethodName := ⟨R_V, "change", "(IIJ)I"⟩
def w_V_change : List Cond := Cond.code y_V_change b_V_change 7 (some .int) :: zt
abbrev b_V_isBranch : ByteArray := prog_1_method_18_code
def y_V_isBranch : MethodName := ⟨R_V, "isBranch", "(I)Z"⟩
def w_V_isBranch : List Cond := Cond.code y_V_isBranch b_V_isBranch 1 (some .boolean) :: zt
abbrev b_H_isInBounds : ByteArray := prog_2_method_2_code
def y_H_isInBounds : MethodName := ⟨R_H, "isInBounds", "(IJ)Z"⟩
def w_H_isInBounds : List Cond := Cond.code y_H_isInBounds b_H_isInBounds 3 (some .boolean) :: zt
abbrev b_V_commitAt : ByteArray := prog_1_method_20_code
def y_V_commitAt : MethodName := ⟨R_V, "commitAt", "(I)LMergeVault$Commit;"⟩
def w_V_commitAt : List Cond := Cond.code y_V_commitAt b_V_commitAt 2 (some (.object "MergeVault$Commit")) :: zt
abbrev b_V_isCommit : ByteArray := prog_1_method_19_code
def y_V_isCommit : MethodName := ⟨R_V, "isCommit", "(I)Z"⟩
def w_V_isCommit : List Cond := Cond.code y_V_isCommit b_V_isCommit 2 (some .boolean) :: zt
abbrev b_H_fits : ByteArray := prog_2_method_3_code
def y_H_fits : MethodName := ⟨R_H, "fits", "(LMergeVault$Tree;IJ)Z"⟩
def w_H_fits : List Cond := Cond.code y_H_fits b_H_fits 4 (some .boolean) :: zt
abbrev b_T_setAsSum : ByteArray := prog_6_method_3_code
def y_T_setAsSum : MethodName := ⟨R_T, "setAsSum", "()J"⟩
def w_T_setAsSum : List Cond := Cond.code y_T_setAsSum b_T_setAsSum 1 (some .long) :: zt
abbrev b_V_isIn : ByteArray := prog_1_method_26_code
def y_V_isIn : MethodName := ⟨R_V, "isIn", "(JI)Z"⟩
def w_V_isIn : List Cond := Cond.code y_V_isIn b_V_isIn 3 (some .boolean) :: zt
abbrev b_Q_members : ByteArray := prog_5_method_6_code
def y_Q_members : MethodName := ⟨R_Q, "members", "(J)I"⟩
def w_Q_members : List Cond := Cond.code y_Q_members b_Q_members 5 (some .int) :: zt
abbrev b_Q_elementAt : ByteArray := prog_5_method_2_code
def y_Q_elementAt : MethodName := ⟨R_Q, "elementAt", "(JI)I"⟩
def w_Q_elementAt : List Cond := Cond.code y_Q_elementAt b_Q_elementAt 3 (some .int) :: zt
abbrev b_Q_length : ByteArray := prog_5_method_3_code
def y_Q_length : MethodName := ⟨R_Q, "length", "(J)I"⟩
def w_Q_length : List Cond := Cond.code y_Q_length b_Q_length 3 (some .int) :: zt
abbrev b_T_become : ByteArray := prog_6_method_2_code
def y_T_become : MethodName := ⟨R_T, "become", "(LMergeVault$Tree;)V"⟩
def w_T_become : List Cond := Cond.code y_T_become b_T_become 2 none :: zt
abbrev b_H_apply : ByteArray := prog_2_method_4_code
def y_H_apply : MethodName := ⟨R_H, "apply", "(LMergeVault$Tree;IJI)V"⟩
def w_H_apply : List Cond := Cond.code y_H_apply b_H_apply 5 none :: zt
abbrev b_Q_withElement : ByteArray := prog_5_method_4_code
def y_Q_withElement : MethodName := ⟨R_Q, "withElement", "(JII)J"⟩
def w_Q_withElement : List Cond := Cond.code y_Q_withElement b_Q_withElement 4 (some .long) :: zt
abbrev b_Q_withoutFirst : ByteArray := prog_5_method_5_code
def y_Q_withoutFirst : MethodName := ⟨R_Q, "withoutFirst", "(J)J"⟩
def w_Q_withoutFirst : List Cond := Cond.code y_Q_withoutFirst b_Q_withoutFirst 2 (some .long) :: zt
abbrev b_V_commitDraft : ByteArray := prog_1_method_21_code
def y_V_commitDraft : MethodName := ⟨R_V, "commitDraft", "(ILMergeVault$Commit;LMergeVault$Commit;)I"⟩
def w_V_commitDraft : List Cond := Cond.code y_V_commitDraft b_V_commitDraft 5 (some .int) :: zt
abbrev b_C_init : ByteArray := prog_3_method_1_code
def y_C_init : MethodName := ⟨R_C, "<init>", "(ILMergeVault$Commit;LMergeVault$Commit;LMergeVault$Tree;)V"⟩
def w_C_init : List Cond := Cond.code y_C_init b_C_init 5 none :: zt
abbrev b_C_pastOf : ByteArray := prog_3_method_2_code
def y_C_pastOf : MethodName := ⟨R_C, "pastOf", "(LMergeVault$Commit;)J"⟩
def w_C_pastOf : List Cond := Cond.code y_C_pastOf b_C_pastOf 1 (some .long) :: zt
abbrev b_C_hashOfParents : ByteArray := prog_3_method_5_code
def y_C_hashOfParents : MethodName := ⟨R_C, "hashOfParents", "(LMergeVault$Commit;LMergeVault$Commit;)J"⟩
def w_C_hashOfParents : List Cond := Cond.code y_C_hashOfParents b_C_hashOfParents 2 (some .long) :: zt
abbrev b_C_mixed : ByteArray := prog_3_method_7_code
def y_C_mixed : MethodName := ⟨R_C, "mixed", "(JJ)J"⟩
def w_C_mixed : List Cond := Cond.code y_C_mixed b_C_mixed 7 (some .long) :: zt
abbrev b_C_hashWithTree : ByteArray := prog_3_method_6_code
def y_C_hashWithTree : MethodName := ⟨R_C, "hashWithTree", "(JLMergeVault$Tree;)J"⟩
def w_C_hashWithTree : List Cond := Cond.code y_C_hashWithTree b_C_hashWithTree 5 (some .long) :: zt
abbrev b_V_moveHead : ByteArray := prog_1_method_22_code
def y_V_moveHead : MethodName := ⟨R_V, "moveHead", "(II)V"⟩
def w_V_moveHead : List Cond := Cond.code y_V_moveHead b_V_moveHead 3 none :: zt
abbrev b_V_fork : ByteArray := prog_1_method_3_code
def y_V_fork : MethodName := ⟨R_V, "fork", "(II)Z"⟩
def w_V_fork : List Cond := Cond.code y_V_fork b_V_fork 3 (some .boolean) :: zt
abbrev b_V_swap : ByteArray := prog_1_method_4_code
def y_V_swap : MethodName := ⟨R_V, "swap", "(III)Z"⟩
def w_V_swap : List Cond := Cond.code y_V_swap b_V_swap 4 (some .boolean) :: zt
abbrev b_V_merge : ByteArray := prog_1_method_5_code
def y_V_merge : MethodName := ⟨R_V, "merge", "(II)I"⟩
def w_V_merge : List Cond := Cond.code y_V_merge b_V_merge 6 (some .int) :: zt
abbrev b_C_descendsFrom : ByteArray := prog_3_method_3_code
def y_C_descendsFrom : MethodName := ⟨R_C, "descendsFrom", "(LMergeVault$Commit;)Z"⟩
def w_C_descendsFrom : List Cond := Cond.code y_C_descendsFrom b_C_descendsFrom 2 (some .boolean) :: zt
abbrev b_V_draftMerging : ByteArray := prog_1_method_23_code
def y_V_draftMerging : MethodName := ⟨R_V, "draftMerging", "(LMergeVault$Commit;LMergeVault$Commit;)I"⟩
def w_V_draftMerging : List Cond := Cond.code y_V_draftMerging b_V_draftMerging 4 (some .int) :: zt
abbrev b_V_layBase : ByteArray := prog_1_method_24_code
def y_V_layBase : MethodName := ⟨R_V, "layBase", "(LMergeVault$Commit;LMergeVault$Commit;I)I"⟩
def w_V_layBase : List Cond := Cond.code y_V_layBase b_V_layBase 10 (some .int) :: zt
abbrev b_V_meetsOf : ByteArray := prog_1_method_25_code
def y_V_meetsOf : MethodName := ⟨R_V, "meetsOf", "(LMergeVault$Commit;LMergeVault$Commit;)J"⟩
def w_V_meetsOf : List Cond := Cond.code y_V_meetsOf b_V_meetsOf 8 (some .long) :: zt
abbrev b_C_properPast : ByteArray := prog_3_method_4_code
def y_C_properPast : MethodName := ⟨R_C, "properPast", "()J"⟩
def w_C_properPast : List Cond := Cond.code y_C_properPast b_C_properPast 1 (some .long) :: zt
abbrev b_V_nextIn : ByteArray := prog_1_method_27_code
def y_V_nextIn : MethodName := ⟨R_V, "nextIn", "(JI)I"⟩
def w_V_nextIn : List Cond := Cond.code y_V_nextIn b_V_nextIn 4 (some .int) :: zt
abbrev b_M_mergeInto : ByteArray := prog_4_method_2_code
def y_M_mergeInto : MethodName := ⟨R_M, "mergeInto", "(LMergeVault$Tree;LMergeVault$Tree;LMergeVault$Tree;)I"⟩
def w_M_mergeInto : List Cond := Cond.code y_M_mergeInto b_M_mergeInto 4 (some .int) :: zt
abbrev b_M_mergedLong : ByteArray := prog_4_method_3_code
def y_M_mergedLong : MethodName := ⟨R_M, "mergedLong", "(JJJ)J"⟩
def w_M_mergedLong : List Cond := Cond.code y_M_mergedLong b_M_mergedLong 6 (some .long) :: zt
abbrev b_M_mergeLatest : ByteArray := prog_4_method_7_code
def y_M_mergeLatest : MethodName := ⟨R_M, "mergeLatest", "(LMergeVault$Tree;LMergeVault$Tree;)V"⟩
def w_M_mergeLatest : List Cond := Cond.code y_M_mergeLatest b_M_mergeLatest 2 none :: zt
abbrev b_M_clash : ByteArray := prog_4_method_4_code
def y_M_clash : MethodName := ⟨R_M, "clash", "(III)Z"⟩
def w_M_clash : List Cond := Cond.code y_M_clash b_M_clash 3 (some .boolean) :: zt
abbrev b_M_mergedInt : ByteArray := prog_4_method_5_code
def y_M_mergedInt : MethodName := ⟨R_M, "mergedInt", "(III)I"⟩
def w_M_mergedInt : List Cond := Cond.code y_M_mergedInt b_M_mergedInt 3 (some .int) :: zt
abbrev b_M_mergedSet : ByteArray := prog_4_method_6_code
def y_M_mergedSet : MethodName := ⟨R_M, "mergedSet", "(III)I"⟩
def w_M_mergedSet : List Cond := Cond.code y_M_mergedSet b_M_mergedSet 3 (some .int) :: zt
abbrev b_M_mergedQueue : ByteArray := prog_4_method_9_code
def y_M_mergedQueue : MethodName := ⟨R_M, "mergedQueue", "(JJJ)J"⟩
def w_M_mergedQueue : List Cond := Cond.code y_M_mergedQueue b_M_mergedQueue 13 (some .long) :: zt
abbrev b_JI_bitCount : ByteArray := prog_9_method_49_code
def y_JI_bitCount : MethodName := ⟨R_JI, "bitCount", "(I)I"⟩
def w_JI_bitCount : List Cond := Cond.code y_JI_bitCount b_JI_bitCount 1 (some .int) :: zt
abbrev b_Q_standingBefore : ByteArray := prog_5_method_7_code
def y_Q_standingBefore : MethodName := ⟨R_Q, "standingBefore", "(JI)I"⟩
def w_Q_standingBefore : List Cond := Cond.code y_Q_standingBefore b_Q_standingBefore 6 (some .int) :: zt
abbrev b_M_leastFree : ByteArray := prog_4_method_10_code
def y_M_leastFree : MethodName := ⟨R_M, "leastFree", "(I)I"⟩
def w_M_leastFree : List Cond := Cond.code y_M_leastFree b_M_leastFree 3 (some .int) :: zt
abbrev b_M_mergeOption : ByteArray := prog_4_method_8_code
def y_M_mergeOption : MethodName := ⟨R_M, "mergeOption", "(LMergeVault$Tree;LMergeVault$Tree;LMergeVault$Tree;)Z"⟩
def w_M_mergeOption : List Cond := Cond.code y_M_mergeOption b_M_mergeOption 5 (some .boolean) :: zt
abbrev b_V_watch : ByteArray := prog_1_method_6_code
def y_V_watch : MethodName := ⟨R_V, "watch", "(IZ)Z"⟩
def w_V_watch : List Cond := Cond.code y_V_watch b_V_watch 3 (some .boolean) :: zt
abbrev b_V_head : ByteArray := prog_1_method_7_code
def y_V_head : MethodName := ⟨R_V, "head", "(I)I"⟩
def w_V_head : List Cond := Cond.code y_V_head b_V_head 2 (some .int) :: zt
abbrev b_V_commits : ByteArray := prog_1_method_8_code
def y_V_commits : MethodName := ⟨R_V, "commits", "()I"⟩
def w_V_commits : List Cond := Cond.code y_V_commits b_V_commits 1 (some .int) :: zt
abbrev b_V_parent : ByteArray := prog_1_method_9_code
def y_V_parent : MethodName := ⟨R_V, "parent", "(II)I"⟩
def w_V_parent : List Cond := Cond.code y_V_parent b_V_parent 5 (some .int) :: zt
abbrev b_V_ancestors : ByteArray := prog_1_method_10_code
def y_V_ancestors : MethodName := ⟨R_V, "ancestors", "(I)I"⟩
def w_V_ancestors : List Cond := Cond.code y_V_ancestors b_V_ancestors 3 (some .int) :: zt
abbrev b_JL_bitCount : ByteArray := prog_10_method_50_code
def y_JL_bitCount : MethodName := ⟨R_JL, "bitCount", "(J)I"⟩
def w_JL_bitCount : List Cond := Cond.code y_JL_bitCount b_JL_bitCount 2 (some .int) :: zt
abbrev b_V_meet : ByteArray := prog_1_method_11_code
def y_V_meet : MethodName := ⟨R_V, "meet", "(III)I"⟩
def w_V_meet : List Cond := Cond.code y_V_meet b_V_meet 10 (some .int) :: zt
abbrev b_V_value : ByteArray := prog_1_method_12_code
def y_V_value : MethodName := ⟨R_V, "value", "(II)J"⟩
def w_V_value : List Cond := Cond.code y_V_value b_V_value 5 (some .long) :: zt
abbrev b_V_queued : ByteArray := prog_1_method_13_code
def y_V_queued : MethodName := ⟨R_V, "queued", "(II)I"⟩
def w_V_queued : List Cond := Cond.code y_V_queued b_V_queued 4 (some .int) :: zt
abbrev b_V_time : ByteArray := prog_1_method_14_code
def y_V_time : MethodName := ⟨R_V, "time", "(I)I"⟩
def w_V_time : List Cond := Cond.code y_V_time b_V_time 3 (some .int) :: zt
abbrev b_V_hash : ByteArray := prog_1_method_15_code
def y_V_hash : MethodName := ⟨R_V, "hash", "(I)J"⟩
def w_V_hash : List Cond := Cond.code y_V_hash b_V_hash 3 (some .long) :: zt
abbrev b_V_events : ByteArray := prog_1_method_16_code
def y_V_events : MethodName := ⟨R_V, "events", "()I"⟩
def w_V_events : List Cond := Cond.code y_V_events b_V_events 1 (some .int) :: zt
abbrev b_V_event : ByteArray := prog_1_method_17_code
def y_V_event : MethodName := ⟨R_V, "event", "(I)I"⟩
def w_V_event : List Cond := Cond.code y_V_event b_V_event 2 (some .int) :: zt
abbrev b_R_init : ByteArray := prog_8_method_1_code
def y_R_init : MethodName := ⟨R_R, "<init>", "()V"⟩
def w_R_init : List Cond := Cond.code y_R_init b_R_init 2 none :: zt
abbrev b_R_change : ByteArray := prog_8_method_24_code
def y_R_change : MethodName := ⟨R_R, "change", "(IIJ)I"⟩
def w_R_change : List Cond := Cond.code y_R_change b_R_change 8 (some .int) :: zt
abbrev b_R_isBranch : ByteArray := prog_8_method_2_code
def y_R_isBranch : MethodName := ⟨R_R, "isBranch", "(I)Z"⟩
def w_R_isBranch : List Cond := Cond.code y_R_isBranch b_R_isBranch 1 (some .boolean) :: zt
abbrev b_R_unfit : ByteArray := prog_8_method_22_code
def y_R_unfit : MethodName := ⟨R_R, "unfit", "(IIJ)Z"⟩
def w_R_unfit : List Cond := Cond.code y_R_unfit b_R_unfit 6 (some .boolean) :: zt
abbrev b_R_placeOf : ByteArray := prog_8_method_5_code
def y_R_placeOf : MethodName := ⟨R_R, "placeOf", "(II)I"⟩
def w_R_placeOf : List Cond := Cond.code y_R_placeOf b_R_placeOf 4 (some .int) :: zt
abbrev b_R_copy : ByteArray := prog_8_method_4_code
def y_R_copy : MethodName := ⟨R_R, "copy", "(II)V"⟩
def w_R_copy : List Cond := Cond.code y_R_copy b_R_copy 4 none :: zt
abbrev b_R_apply : ByteArray := prog_8_method_23_code
def y_R_apply : MethodName := ⟨R_R, "apply", "(IJ)V"⟩
def w_R_apply : List Cond := Cond.code y_R_apply b_R_apply 6 none :: zt
abbrev b_R_commit : ByteArray := prog_8_method_20_code
def y_R_commit : MethodName := ⟨R_R, "commit", "(II)I"⟩
def w_R_commit : List Cond := Cond.code y_R_commit b_R_commit 4 (some .int) :: zt
abbrev b_R_hashOf : ByteArray := prog_8_method_19_code
def y_R_hashOf : MethodName := ⟨R_R, "hashOf", "(I)J"⟩
def w_R_hashOf : List Cond := Cond.code y_R_hashOf b_R_hashOf 7 (some .long) :: zt
abbrev b_R_mix : ByteArray := prog_8_method_18_code
def y_R_mix : MethodName := ⟨R_R, "mix", "(JJ)J"⟩
def w_R_mix : List Cond := Cond.code y_R_mix b_R_mix 7 (some .long) :: zt
abbrev b_R_move : ByteArray := prog_8_method_21_code
def y_R_move : MethodName := ⟨R_R, "move", "(II)V"⟩
def w_R_move : List Cond := Cond.code y_R_move b_R_move 3 none :: zt
abbrev b_R_fork : ByteArray := prog_8_method_25_code
def y_R_fork : MethodName := ⟨R_R, "fork", "(II)Z"⟩
def w_R_fork : List Cond := Cond.code y_R_fork b_R_fork 3 (some .boolean) :: zt
abbrev b_R_swap : ByteArray := prog_8_method_26_code
def y_R_swap : MethodName := ⟨R_R, "swap", "(III)Z"⟩
def w_R_swap : List Cond := Cond.code y_R_swap b_R_swap 4 (some .boolean) :: zt
abbrev b_R_isCommit : ByteArray := prog_8_method_3_code
def y_R_isCommit : MethodName := ⟨R_R, "isCommit", "(I)Z"⟩
def w_R_isCommit : List Cond := Cond.code y_R_isCommit b_R_isCommit 2 (some .boolean) :: zt
abbrev b_R_merge : ByteArray := prog_8_method_28_code
def y_R_merge : MethodName := ⟨R_R, "merge", "(II)I"⟩
def w_R_merge : List Cond := Cond.code y_R_merge b_R_merge 7 (some .int) :: zt
abbrev b_R_isAbove : ByteArray := prog_8_method_27_code
def y_R_isAbove : MethodName := ⟨R_R, "isAbove", "(II)Z"⟩
def w_R_isAbove : List Cond := Cond.code y_R_isAbove b_R_isAbove 3 (some .boolean) :: zt
abbrev b_R_base : ByteArray := prog_8_method_17_code
def y_R_base : MethodName := ⟨R_R, "base", "(II)I"⟩
def w_R_base : List Cond := Cond.code y_R_base b_R_base 8 (some .int) :: zt
abbrev b_R_enter : ByteArray := prog_8_method_16_code
def y_R_enter : MethodName := ⟨R_R, "enter", "(III)V"⟩
def w_R_enter : List Cond := Cond.code y_R_enter b_R_enter 5 none :: zt
abbrev b_R_meetOf : ByteArray := prog_8_method_15_code
def y_R_meetOf : MethodName := ⟨R_R, "meetOf", "(III)I"⟩
def w_R_meetOf : List Cond := Cond.code y_R_meetOf b_R_meetOf 10 (some .int) :: zt
abbrev b_R_mergeTrees : ByteArray := prog_8_method_14_code
def y_R_mergeTrees : MethodName := ⟨R_R, "mergeTrees", "(III)I"⟩
def w_R_mergeTrees : List Cond := Cond.code y_R_mergeTrees b_R_mergeTrees 5 (some .int) :: zt
abbrev b_R_torn : ByteArray := prog_8_method_10_code
def y_R_torn : MethodName := ⟨R_R, "torn", "(III)Z"⟩
def w_R_torn : List Cond := Cond.code y_R_torn b_R_torn 3 (some .boolean) :: zt
abbrev b_R_chosen : ByteArray := prog_8_method_11_code
def y_R_chosen : MethodName := ⟨R_R, "chosen", "(III)I"⟩
def w_R_chosen : List Cond := Cond.code y_R_chosen b_R_chosen 3 (some .int) :: zt
abbrev b_R_mergeQueues : ByteArray := prog_8_method_9_code
def y_R_mergeQueues : MethodName := ⟨R_R, "mergeQueues", "(III)Z"⟩
def w_R_mergeQueues : List Cond := Cond.code y_R_mergeQueues b_R_mergeQueues 11 (some .boolean) :: zt
abbrev b_R_member : ByteArray := prog_8_method_8_code
def y_R_member : MethodName := ⟨R_R, "member", "(IIII)Z"⟩
def w_R_member : List Cond := Cond.code y_R_member b_R_member 8 (some .boolean) :: zt
abbrev b_R_goesBefore : ByteArray := prog_8_method_7_code
def y_R_goesBefore : MethodName := ⟨R_R, "goesBefore", "(IIIII)Z"⟩
def w_R_goesBefore : List Cond := Cond.code y_R_goesBefore b_R_goesBefore 9 (some .boolean) :: zt
abbrev b_R_before : ByteArray := prog_8_method_6_code
def y_R_before : MethodName := ⟨R_R, "before", "(III)Z"⟩
def w_R_before : List Cond := Cond.code y_R_before b_R_before 5 (some .boolean) :: zt
abbrev b_R_optionTorn : ByteArray := prog_8_method_12_code
def y_R_optionTorn : MethodName := ⟨R_R, "optionTorn", "(III)Z"⟩
def w_R_optionTorn : List Cond := Cond.code y_R_optionTorn b_R_optionTorn 4 (some .boolean) :: zt
abbrev b_R_mergeOptions : ByteArray := prog_8_method_13_code
def y_R_mergeOptions : MethodName := ⟨R_R, "mergeOptions", "(III)V"⟩
def w_R_mergeOptions : List Cond := Cond.code y_R_mergeOptions b_R_mergeOptions 9 none :: zt
abbrev b_R_watch : ByteArray := prog_8_method_29_code
def y_R_watch : MethodName := ⟨R_R, "watch", "(IZ)Z"⟩
def w_R_watch : List Cond := Cond.code y_R_watch b_R_watch 3 (some .boolean) :: zt
abbrev b_R_head : ByteArray := prog_8_method_30_code
def y_R_head : MethodName := ⟨R_R, "head", "(I)I"⟩
def w_R_head : List Cond := Cond.code y_R_head b_R_head 2 (some .int) :: zt
abbrev b_R_commits : ByteArray := prog_8_method_31_code
def y_R_commits : MethodName := ⟨R_R, "commits", "()I"⟩
def w_R_commits : List Cond := Cond.code y_R_commits b_R_commits 1 (some .int) :: zt
abbrev b_R_parent : ByteArray := prog_8_method_32_code
def y_R_parent : MethodName := ⟨R_R, "parent", "(II)I"⟩
def w_R_parent : List Cond := Cond.code y_R_parent b_R_parent 4 (some .int) :: zt
abbrev b_R_ancestors : ByteArray := prog_8_method_33_code
def y_R_ancestors : MethodName := ⟨R_R, "ancestors", "(I)I"⟩
def w_R_ancestors : List Cond := Cond.code y_R_ancestors b_R_ancestors 4 (some .int) :: zt
abbrev b_R_meet : ByteArray := prog_8_method_34_code
def y_R_meet : MethodName := ⟨R_R, "meet", "(III)I"⟩
def w_R_meet : List Cond := Cond.code y_R_meet b_R_meet 5 (some .int) :: zt
abbrev b_R_value : ByteArray := prog_8_method_35_code
def y_R_value : MethodName := ⟨R_R, "value", "(II)J"⟩
def w_R_value : List Cond := Cond.code y_R_value b_R_value 3 (some .long) :: zt
abbrev b_R_queued : ByteArray := prog_8_method_36_code
def y_R_queued : MethodName := ⟨R_R, "queued", "(II)I"⟩
def w_R_queued : List Cond := Cond.code y_R_queued b_R_queued 3 (some .int) :: zt
abbrev b_R_time : ByteArray := prog_8_method_37_code
def y_R_time : MethodName := ⟨R_R, "time", "(I)I"⟩
def w_R_time : List Cond := Cond.code y_R_time b_R_time 2 (some .int) :: zt
abbrev b_R_hash : ByteArray := prog_8_method_38_code
def y_R_hash : MethodName := ⟨R_R, "hash", "(I)J"⟩
def w_R_hash : List Cond := Cond.code y_R_hash b_R_hash 2 (some .long) :: zt
abbrev b_R_events : ByteArray := prog_8_method_39_code
def y_R_events : MethodName := ⟨R_R, "events", "()I"⟩
def w_R_events : List Cond := Cond.code y_R_events b_R_events 1 (some .int) :: zt
abbrev b_R_event : ByteArray := prog_8_method_40_code
def y_R_event : MethodName := ⟨R_R, "event", "(I)I"⟩
def w_R_event : List Cond := Cond.code y_R_event b_R_event 2 (some .int) :: zt
