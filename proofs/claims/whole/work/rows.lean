section
-- ===== PART A: goes FIRST, ahead of the names: the tables' words, and 'selects' of the private methods out of them =====
/-- a private method of a class that the tables say can be made, by its rows of tables_1 -/
def lw_okq (q : MethodName × Nat) : Prop := (q.1.cls ≠ "java/lang/invoke/MethodHandle" ∧ q.1.cls ≠ "java/lang/invoke/VarHandle") ∧ Cond.instantiable q.1.cls q.2 ∈ tables_1 ∧ Cond.privateMethod q.1 ∈ tables_1 ∧ Cond.instanceMethod q.1 ∈ tables_1
theorem lw_p0 : lw_okq (⟨"StepColumns", "changeFits", "(III)Z"⟩, 6) := ⟨⟨by decide +kernel, by decide +kernel⟩, List.mem_of_getElem? (i := 9) (by decide +kernel), List.mem_of_getElem? (i := 174) (by decide +kernel), List.mem_of_getElem? (i := 175) (by decide +kernel)⟩
theorem lw_p1 : lw_okq (⟨"StepColumns", "layBest", "()Z"⟩, 6) := ⟨⟨by decide +kernel, by decide +kernel⟩, List.mem_of_getElem? (i := 9) (by decide +kernel), List.mem_of_getElem? (i := 213) (by decide +kernel), List.mem_of_getElem? (i := 214) (by decide +kernel)⟩
theorem lw_p2 : lw_okq (⟨"StepColumns$Scale", "costOfAll", "()I"⟩, 6) := ⟨⟨by decide +kernel, by decide +kernel⟩, List.mem_of_getElem? (i := 61) (by decide +kernel), List.mem_of_getElem? (i := 221) (by decide +kernel), List.mem_of_getElem? (i := 222) (by decide +kernel)⟩
theorem lw_p3 : lw_okq (⟨"StepColumns$Scale", "weighOnTop", "(I)V"⟩, 6) := ⟨⟨by decide +kernel, by decide +kernel⟩, List.mem_of_getElem? (i := 61) (by decide +kernel), List.mem_of_getElem? (i := 228) (by decide +kernel), List.mem_of_getElem? (i := 229) (by decide +kernel)⟩
theorem lw_p4 : lw_okq (⟨"StepColumns$Scale", "costFrom", "(III)I"⟩, 6) := ⟨⟨by decide +kernel, by decide +kernel⟩, List.mem_of_getElem? (i := 61) (by decide +kernel), List.mem_of_getElem? (i := 241) (by decide +kernel), List.mem_of_getElem? (i := 242) (by decide +kernel)⟩
theorem lw_p5 : lw_okq (⟨"StepColumns$Scale", "costUpTo", "(IIII)I"⟩, 6) := ⟨⟨by decide +kernel, by decide +kernel⟩, List.mem_of_getElem? (i := 61) (by decide +kernel), List.mem_of_getElem? (i := 245) (by decide +kernel), List.mem_of_getElem? (i := 246) (by decide +kernel)⟩
theorem lw_p6 : lw_okq (⟨"StepColumns$Scale", "costBehind", "(II)I"⟩, 6) := ⟨⟨by decide +kernel, by decide +kernel⟩, List.mem_of_getElem? (i := 61) (by decide +kernel), List.mem_of_getElem? (i := 257) (by decide +kernel), List.mem_of_getElem? (i := 258) (by decide +kernel)⟩
theorem lw_p7 : lw_okq (⟨"StepColumns$Scale", "costWithin", "(II)I"⟩, 6) := ⟨⟨by decide +kernel, by decide +kernel⟩, List.mem_of_getElem? (i := 61) (by decide +kernel), List.mem_of_getElem? (i := 261) (by decide +kernel), List.mem_of_getElem? (i := 262) (by decide +kernel)⟩
theorem lw_p8 : lw_okq (⟨"StepColumns$Scale", "mostRoom", "(II)I"⟩, 6) := ⟨⟨by decide +kernel, by decide +kernel⟩, List.mem_of_getElem? (i := 61) (by decide +kernel), List.mem_of_getElem? (i := 265) (by decide +kernel), List.mem_of_getElem? (i := 266) (by decide +kernel)⟩
theorem lw_p9 : lw_okq (⟨"StepColumns$Laying", "openColumn", "(I)V"⟩, 12) := ⟨⟨by decide +kernel, by decide +kernel⟩, List.mem_of_getElem? (i := 86) (by decide +kernel), List.mem_of_getElem? (i := 281) (by decide +kernel), List.mem_of_getElem? (i := 282) (by decide +kernel)⟩
theorem lw_p10 : lw_okq (⟨"StepColumns$Laying", "putItem", "(LStepColumns$Scale;III)I"⟩, 12) := ⟨⟨by decide +kernel, by decide +kernel⟩, List.mem_of_getElem? (i := 86) (by decide +kernel), List.mem_of_getElem? (i := 285) (by decide +kernel), List.mem_of_getElem? (i := 286) (by decide +kernel)⟩
theorem lw_p11 : lw_okq (⟨"StepColumns$Laying", "putThing", "(III)V"⟩, 12) := ⟨⟨by decide +kernel, by decide +kernel⟩, List.mem_of_getElem? (i := 86) (by decide +kernel), List.mem_of_getElem? (i := 294) (by decide +kernel), List.mem_of_getElem? (i := 295) (by decide +kernel)⟩
theorem lw_p12 : lw_okq (⟨"StepColumns$Laying", "firstThing", "(I)I"⟩, 12) := ⟨⟨by decide +kernel, by decide +kernel⟩, List.mem_of_getElem? (i := 86) (by decide +kernel), List.mem_of_getElem? (i := 334) (by decide +kernel), List.mem_of_getElem? (i := 335) (by decide +kernel)⟩
theorem lw_p13 : lw_okq (⟨"StepColumns$Laying", "outAmong", "(II)I"⟩, 12) := ⟨⟨by decide +kernel, by decide +kernel⟩, List.mem_of_getElem? (i := 86) (by decide +kernel), List.mem_of_getElem? (i := 338) (by decide +kernel), List.mem_of_getElem? (i := 339) (by decide +kernel)⟩
theorem lw_p14 : lw_okq (⟨"StepColumns$Laying", "isLine", "(I)Z"⟩, 12) := ⟨⟨by decide +kernel, by decide +kernel⟩, List.mem_of_getElem? (i := 86) (by decide +kernel), List.mem_of_getElem? (i := 350) (by decide +kernel), List.mem_of_getElem? (i := 351) (by decide +kernel)⟩
theorem lw_p15 : lw_okq (⟨"StepColumns", "reliefBy", "(I)I"⟩, 6) := ⟨⟨by decide +kernel, by decide +kernel⟩, List.mem_of_getElem? (i := 9) (by decide +kernel), List.mem_of_getElem? (i := 358) (by decide +kernel), List.mem_of_getElem? (i := 359) (by decide +kernel)⟩
def lw_privs_1 : List (MethodName × Nat) := [(⟨"StepColumns", "changeFits", "(III)Z"⟩, 6), (⟨"StepColumns", "layBest", "()Z"⟩, 6), (⟨"StepColumns$Scale", "costOfAll", "()I"⟩, 6), (⟨"StepColumns$Scale", "weighOnTop", "(I)V"⟩, 6), (⟨"StepColumns$Scale", "costFrom", "(III)I"⟩, 6), (⟨"StepColumns$Scale", "costUpTo", "(IIII)I"⟩, 6), (⟨"StepColumns$Scale", "costBehind", "(II)I"⟩, 6), (⟨"StepColumns$Scale", "costWithin", "(II)I"⟩, 6), (⟨"StepColumns$Scale", "mostRoom", "(II)I"⟩, 6), (⟨"StepColumns$Laying", "openColumn", "(I)V"⟩, 12), (⟨"StepColumns$Laying", "putItem", "(LStepColumns$Scale;III)I"⟩, 12), (⟨"StepColumns$Laying", "putThing", "(III)V"⟩, 12), (⟨"StepColumns$Laying", "firstThing", "(I)I"⟩, 12), (⟨"StepColumns$Laying", "outAmong", "(II)I"⟩, 12), (⟨"StepColumns$Laying", "isLine", "(I)Z"⟩, 12), (⟨"StepColumns", "reliefBy", "(I)I"⟩, 6)]
theorem lw_r1 : ∀ q ∈ lw_privs_1, lw_okq q := List.forall_mem_cons.mpr ⟨lw_p0, List.forall_mem_cons.mpr ⟨lw_p1, List.forall_mem_cons.mpr ⟨lw_p2, List.forall_mem_cons.mpr ⟨lw_p3, List.forall_mem_cons.mpr ⟨lw_p4, List.forall_mem_cons.mpr ⟨lw_p5, List.forall_mem_cons.mpr ⟨lw_p6, List.forall_mem_cons.mpr ⟨lw_p7, List.forall_mem_cons.mpr ⟨lw_p8, List.forall_mem_cons.mpr ⟨lw_p9, List.forall_mem_cons.mpr ⟨lw_p10, List.forall_mem_cons.mpr ⟨lw_p11, List.forall_mem_cons.mpr ⟨lw_p12, List.forall_mem_cons.mpr ⟨lw_p13, List.forall_mem_cons.mpr ⟨lw_p14, List.forall_mem_cons.mpr ⟨lw_p15, fun _ h => absurd h List.not_mem_nil⟩⟩⟩⟩⟩⟩⟩⟩⟩⟩⟩⟩⟩⟩⟩⟩
theorem lw_p16 : lw_okq (⟨"StepColumnsModel", "isItem", "(I)Z"⟩, 12) := ⟨⟨by decide +kernel, by decide +kernel⟩, List.mem_of_getElem? (i := 395) (by decide +kernel), List.mem_of_getElem? (i := 454) (by decide +kernel), List.mem_of_getElem? (i := 455) (by decide +kernel)⟩
theorem lw_p17 : lw_okq (⟨"StepColumnsModel", "shift", "(II)V"⟩, 12) := ⟨⟨by decide +kernel, by decide +kernel⟩, List.mem_of_getElem? (i := 395) (by decide +kernel), List.mem_of_getElem? (i := 462) (by decide +kernel), List.mem_of_getElem? (i := 463) (by decide +kernel)⟩
theorem lw_p18 : lw_okq (⟨"StepColumnsModel", "swap", "(II)V"⟩, 12) := ⟨⟨by decide +kernel, by decide +kernel⟩, List.mem_of_getElem? (i := 395) (by decide +kernel), List.mem_of_getElem? (i := 470) (by decide +kernel), List.mem_of_getElem? (i := 471) (by decide +kernel)⟩
theorem lw_p19 : lw_okq (⟨"StepColumnsModel", "layBest", "()Z"⟩, 12) := ⟨⟨by decide +kernel, by decide +kernel⟩, List.mem_of_getElem? (i := 395) (by decide +kernel), List.mem_of_getElem? (i := 486) (by decide +kernel), List.mem_of_getElem? (i := 487) (by decide +kernel)⟩
theorem lw_p20 : lw_okq (⟨"StepColumnsModel", "solve", "()I"⟩, 12) := ⟨⟨by decide +kernel, by decide +kernel⟩, List.mem_of_getElem? (i := 395) (by decide +kernel), List.mem_of_getElem? (i := 490) (by decide +kernel), List.mem_of_getElem? (i := 491) (by decide +kernel)⟩
theorem lw_p21 : lw_okq (⟨"StepColumnsModel", "layThings", "()V"⟩, 12) := ⟨⟨by decide +kernel, by decide +kernel⟩, List.mem_of_getElem? (i := 395) (by decide +kernel), List.mem_of_getElem? (i := 494) (by decide +kernel), List.mem_of_getElem? (i := 495) (by decide +kernel)⟩
theorem lw_p22 : lw_okq (⟨"StepColumnsModel", "asFirst", "(II)I"⟩, 12) := ⟨⟨by decide +kernel, by decide +kernel⟩, List.mem_of_getElem? (i := 395) (by decide +kernel), List.mem_of_getElem? (i := 501) (by decide +kernel), List.mem_of_getElem? (i := 502) (by decide +kernel)⟩
theorem lw_p23 : lw_okq (⟨"StepColumnsModel", "mayBegin", "(II)Z"⟩, 12) := ⟨⟨by decide +kernel, by decide +kernel⟩, List.mem_of_getElem? (i := 395) (by decide +kernel), List.mem_of_getElem? (i := 505) (by decide +kernel), List.mem_of_getElem? (i := 506) (by decide +kernel)⟩
theorem lw_p24 : lw_okq (⟨"StepColumnsModel", "isLine", "(I)Z"⟩, 12) := ⟨⟨by decide +kernel, by decide +kernel⟩, List.mem_of_getElem? (i := 395) (by decide +kernel), List.mem_of_getElem? (i := 509) (by decide +kernel), List.mem_of_getElem? (i := 510) (by decide +kernel)⟩
theorem lw_p25 : lw_okq (⟨"StepColumnsModel", "withRoom", "(IIII)I"⟩, 12) := ⟨⟨by decide +kernel, by decide +kernel⟩, List.mem_of_getElem? (i := 395) (by decide +kernel), List.mem_of_getElem? (i := 514) (by decide +kernel), List.mem_of_getElem? (i := 515) (by decide +kernel)⟩
theorem lw_p26 : lw_okq (⟨"StepColumnsModel", "linesBy", "(II)I"⟩, 12) := ⟨⟨by decide +kernel, by decide +kernel⟩, List.mem_of_getElem? (i := 395) (by decide +kernel), List.mem_of_getElem? (i := 518) (by decide +kernel), List.mem_of_getElem? (i := 519) (by decide +kernel)⟩
theorem lw_p27 : lw_okq (⟨"StepColumnsModel", "stand", "(IIIIZ)V"⟩, 12) := ⟨⟨by decide +kernel, by decide +kernel⟩, List.mem_of_getElem? (i := 395) (by decide +kernel), List.mem_of_getElem? (i := 525) (by decide +kernel), List.mem_of_getElem? (i := 526) (by decide +kernel)⟩
theorem lw_p28 : lw_okq (⟨"StepColumnsModel", "isOut", "(I)Z"⟩, 12) := ⟨⟨by decide +kernel, by decide +kernel⟩, List.mem_of_getElem? (i := 395) (by decide +kernel), List.mem_of_getElem? (i := 529) (by decide +kernel), List.mem_of_getElem? (i := 530) (by decide +kernel)⟩
theorem lw_p29 : lw_okq (⟨"StepColumnsModel", "isLast", "(I)Z"⟩, 12) := ⟨⟨by decide +kernel, by decide +kernel⟩, List.mem_of_getElem? (i := 395) (by decide +kernel), List.mem_of_getElem? (i := 533) (by decide +kernel), List.mem_of_getElem? (i := 534) (by decide +kernel)⟩
theorem lw_p30 : lw_okq (⟨"StepColumnsModel", "hasLine", "(II)Z"⟩, 12) := ⟨⟨by decide +kernel, by decide +kernel⟩, List.mem_of_getElem? (i := 395) (by decide +kernel), List.mem_of_getElem? (i := 549) (by decide +kernel), List.mem_of_getElem? (i := 550) (by decide +kernel)⟩
theorem lw_p31 : lw_okq (⟨"StepColumnsModel", "reliefBy", "(I)I"⟩, 12) := ⟨⟨by decide +kernel, by decide +kernel⟩, List.mem_of_getElem? (i := 395) (by decide +kernel), List.mem_of_getElem? (i := 557) (by decide +kernel), List.mem_of_getElem? (i := 558) (by decide +kernel)⟩
def lw_privs_2 : List (MethodName × Nat) := [(⟨"StepColumnsModel", "isItem", "(I)Z"⟩, 12), (⟨"StepColumnsModel", "shift", "(II)V"⟩, 12), (⟨"StepColumnsModel", "swap", "(II)V"⟩, 12), (⟨"StepColumnsModel", "layBest", "()Z"⟩, 12), (⟨"StepColumnsModel", "solve", "()I"⟩, 12), (⟨"StepColumnsModel", "layThings", "()V"⟩, 12), (⟨"StepColumnsModel", "asFirst", "(II)I"⟩, 12), (⟨"StepColumnsModel", "mayBegin", "(II)Z"⟩, 12), (⟨"StepColumnsModel", "isLine", "(I)Z"⟩, 12), (⟨"StepColumnsModel", "withRoom", "(IIII)I"⟩, 12), (⟨"StepColumnsModel", "linesBy", "(II)I"⟩, 12), (⟨"StepColumnsModel", "stand", "(IIIIZ)V"⟩, 12), (⟨"StepColumnsModel", "isOut", "(I)Z"⟩, 12), (⟨"StepColumnsModel", "isLast", "(I)Z"⟩, 12), (⟨"StepColumnsModel", "hasLine", "(II)Z"⟩, 12), (⟨"StepColumnsModel", "reliefBy", "(I)I"⟩, 12)]
theorem lw_r2 : ∀ q ∈ lw_privs_2, lw_okq q := List.forall_mem_cons.mpr ⟨lw_p16, List.forall_mem_cons.mpr ⟨lw_p17, List.forall_mem_cons.mpr ⟨lw_p18, List.forall_mem_cons.mpr ⟨lw_p19, List.forall_mem_cons.mpr ⟨lw_p20, List.forall_mem_cons.mpr ⟨lw_p21, List.forall_mem_cons.mpr ⟨lw_p22, List.forall_mem_cons.mpr ⟨lw_p23, List.forall_mem_cons.mpr ⟨lw_p24, List.forall_mem_cons.mpr ⟨lw_p25, List.forall_mem_cons.mpr ⟨lw_p26, List.forall_mem_cons.mpr ⟨lw_p27, List.forall_mem_cons.mpr ⟨lw_p28, List.forall_mem_cons.mpr ⟨lw_p29, List.forall_mem_cons.mpr ⟨lw_p30, List.forall_mem_cons.mpr ⟨lw_p31, fun _ h => absurd h List.not_mem_nil⟩⟩⟩⟩⟩⟩⟩⟩⟩⟩⟩⟩⟩⟩⟩⟩
theorem lw_p32 : lw_okq (⟨"StepColumnsModel", "fits", "(II)Z"⟩, 12) := ⟨⟨by decide +kernel, by decide +kernel⟩, List.mem_of_getElem? (i := 395) (by decide +kernel), List.mem_of_getElem? (i := 572) (by decide +kernel), List.mem_of_getElem? (i := 573) (by decide +kernel)⟩
theorem lw_p33 : lw_okq (⟨"StepColumnsModel", "ofKind", "(I)I"⟩, 12) := ⟨⟨by decide +kernel, by decide +kernel⟩, List.mem_of_getElem? (i := 395) (by decide +kernel), List.mem_of_getElem? (i := 588) (by decide +kernel), List.mem_of_getElem? (i := 589) (by decide +kernel)⟩
def lw_privs_3 : List (MethodName × Nat) := [(⟨"StepColumnsModel", "fits", "(II)Z"⟩, 12), (⟨"StepColumnsModel", "ofKind", "(I)I"⟩, 12)]
theorem lw_r3 : ∀ q ∈ lw_privs_3, lw_okq q := List.forall_mem_cons.mpr ⟨lw_p32, List.forall_mem_cons.mpr ⟨lw_p33, fun _ h => absurd h List.not_mem_nil⟩⟩
def lw_privs : List (MethodName × Nat) := lw_privs_1 ++ (lw_privs_2 ++ (lw_privs_3))
def lw_tbl : List Cond := k2_sels lw_privs ++ tables_1
theorem lw_privs_ok : ∀ q ∈ lw_privs, lw_okq q := by
  show ∀ q ∈ lw_privs_1 ++ (lw_privs_2 ++ (lw_privs_3)), lw_okq q
  exact List.forall_mem_append.mpr ⟨lw_r1, List.forall_mem_append.mpr ⟨lw_r2, lw_r3⟩⟩
-- ===== end of PART A =====
def gw : List Cond := lw_tbl.filter goodWord
def nB_R : String := "StepColumns$Book"
def nB_T : u_T := fun k => match k with
  | 0 => ("StepColumns$Book", "kind", "[I", true)
  | 1 => ("StepColumns$Book", "size", "[I", true)
  | 2 => ("StepColumns$Book", "least", "[I", true)
  | 3 => ("StepColumns$Book", "most", "[I", true)
  | 4 => ("StepColumns$Book", "items", "I", false)
  | 5 => ("StepColumns$Book", "grid", "I", false)
  | _ => ("StepColumns$Book", "high", "I", false)
def nB_ty : Nat → FieldType := fun k => match k with
  | 0 => .array .int
  | 1 => .array .int
  | 2 => .array .int
  | 3 => .array .int
  | 4 => .int
  | 5 => .int
  | _ => .int
theorem nB_nm : ∀ a, a < 7 → ∀ b, b < 7 → a ≠ b → (nB_T a).2.1 ≠ (nB_T b).2.1 := by decide +kernel
theorem nB_ok : ∀ k, k < 7 → parseFieldDescriptor (nB_T k).2.2.1 = some (nB_ty k) := by decide +kernel
theorem nB_in0 : ∀ w ∈ u_ws nB_R nB_T 7, w ∈ lw_tbl ∧ goodWord w = true := by decide +kernel
theorem nB_in : ∀ w ∈ u_ws nB_R nB_T 7, w ∈ gw := fun w h => List.mem_filter.mpr (nB_in0 w h)
def nL_R : String := "StepColumns$Laying"
def nL_T : u_T := fun k => match k with
  | 0 => ("StepColumns$Laying", "book", "LStepColumns$Book;", true)
  | 1 => ("StepColumns$Laying", "itemOf", "[I", true)
  | 2 => ("StepColumns$Laying", "columnOf", "[I", true)
  | 3 => ("StepColumns$Laying", "topOf", "[I", true)
  | 4 => ("StepColumns$Laying", "roomOf", "[I", true)
  | 5 => ("StepColumns$Laying", "things", "I", false)
  | 6 => ("StepColumns$Laying", "rooms", "I", false)
  | 7 => ("StepColumns$Laying", "splits", "I", false)
  | 8 => ("StepColumns$Laying", "left", "I", false)
  | 9 => ("StepColumns$Laying", "exists", "Z", false)
  | 10 => ("StepColumns$Laying", "columns", "I", false)
  | _ => ("StepColumns$Laying", "out", "I", false)
def nL_ty : Nat → FieldType := fun k => match k with
  | 0 => .object "StepColumns$Book"
  | 1 => .array .int
  | 2 => .array .int
  | 3 => .array .int
  | 4 => .array .int
  | 5 => .int
  | 6 => .int
  | 7 => .int
  | 8 => .int
  | 9 => .boolean
  | 10 => .int
  | _ => .int
theorem nL_nm : ∀ a, a < 12 → ∀ b, b < 12 → a ≠ b → (nL_T a).2.1 ≠ (nL_T b).2.1 := by decide +kernel
theorem nL_ok : ∀ k, k < 12 → parseFieldDescriptor (nL_T k).2.2.1 = some (nL_ty k) := by decide +kernel
theorem nL_in0 : ∀ w ∈ u_ws nL_R nL_T 12, w ∈ lw_tbl ∧ goodWord w = true := by decide +kernel
theorem nL_in : ∀ w ∈ u_ws nL_R nL_T 12, w ∈ gw := fun w h => List.mem_filter.mpr (nL_in0 w h)
def nS_R : String := "StepColumns$Scale"
def nS_T : u_T := fun k => match k with
  | 0 => ("StepColumns$Scale", "book", "LStepColumns$Book;", true)
  | 1 => ("StepColumns$Scale", "behind", "[I", true)
  | 2 => ("StepColumns$Scale", "onTop", "[I", true)
  | 3 => ("StepColumns$Scale", "high", "I", false)
  | 4 => ("StepColumns$Scale", "widened", "I", false)
  | _ => ("StepColumns$Scale", "leastRooms", "Z", false)
def nS_ty : Nat → FieldType := fun k => match k with
  | 0 => .object "StepColumns$Book"
  | 1 => .array .int
  | 2 => .array .int
  | 3 => .int
  | 4 => .int
  | _ => .boolean
theorem nS_nm : ∀ a, a < 6 → ∀ b, b < 6 → a ≠ b → (nS_T a).2.1 ≠ (nS_T b).2.1 := by decide +kernel
theorem nS_ok : ∀ k, k < 6 → parseFieldDescriptor (nS_T k).2.2.1 = some (nS_ty k) := by decide +kernel
theorem nS_in0 : ∀ w ∈ u_ws nS_R nS_T 6, w ∈ lw_tbl ∧ goodWord w = true := by decide +kernel
theorem nS_in : ∀ w ∈ u_ws nS_R nS_T 6, w ∈ gw := fun w h => List.mem_filter.mpr (nS_in0 w h)
def nX_R : String := "StepColumns"
def nX_T : u_T := fun k => match k with
  | 0 => ("StepColumns", "book", "LStepColumns$Book;", true)
  | 1 => ("StepColumns", "scale", "LStepColumns$Scale;", true)
  | 2 => ("StepColumns", "laying", "LStepColumns$Laying;", true)
  | 3 => ("StepColumns", "images", "[LStepColumns$Book;", true)
  | 4 => ("StepColumns", "keptImages", "I", false)
  | _ => ("StepColumns", "laid", "Z", false)
def nX_ty : Nat → FieldType := fun k => match k with
  | 0 => .object "StepColumns$Book"
  | 1 => .object "StepColumns$Scale"
  | 2 => .object "StepColumns$Laying"
  | 3 => .array (.object "StepColumns$Book")
  | 4 => .int
  | _ => .boolean
theorem nX_nm : ∀ a, a < 6 → ∀ b, b < 6 → a ≠ b → (nX_T a).2.1 ≠ (nX_T b).2.1 := by decide +kernel
theorem nX_ok : ∀ k, k < 6 → parseFieldDescriptor (nX_T k).2.2.1 = some (nX_ty k) := by decide +kernel
theorem nX_in0 : ∀ w ∈ u_ws nX_R nX_T 6, w ∈ lw_tbl ∧ goodWord w = true := by decide +kernel
theorem nX_in : ∀ w ∈ u_ws nX_R nX_T 6, w ∈ gw := fun w h => List.mem_filter.mpr (nX_in0 w h)
def nM_R : String := "StepColumnsModel"
def nM_T : u_T := fun k => match k with
  | 0 => ("StepColumnsModel", "state", "[I", true)
  | 1 => ("StepColumnsModel", "images", "[I", true)
  | 2 => ("StepColumnsModel", "isKept", "[Z", true)
  | 3 => ("StepColumnsModel", "of", "[I", true)
  | 4 => ("StepColumnsModel", "line", "[I", true)
  | 5 => ("StepColumnsModel", "tall", "[I", true)
  | 6 => ("StepColumnsModel", "things", "I", false)
  | 7 => ("StepColumnsModel", "best", "[I", true)
  | 8 => ("StepColumnsModel", "columnOf", "[I", true)
  | 9 => ("StepColumnsModel", "top", "[I", true)
  | 10 => ("StepColumnsModel", "roomOf", "[I", true)
  | _ => ("StepColumnsModel", "begins", "[Z", true)
def nM_ty : Nat → FieldType := fun k => match k with
  | 0 => .array .int
  | 1 => .array .int
  | 2 => .array .boolean
  | 3 => .array .int
  | 4 => .array .int
  | 5 => .array .int
  | 6 => .int
  | 7 => .array .int
  | 8 => .array .int
  | 9 => .array .int
  | 10 => .array .int
  | _ => .array .boolean
theorem nM_nm : ∀ a, a < 12 → ∀ b, b < 12 → a ≠ b → (nM_T a).2.1 ≠ (nM_T b).2.1 := by decide +kernel
theorem nM_ok : ∀ k, k < 12 → parseFieldDescriptor (nM_T k).2.2.1 = some (nM_ty k) := by decide +kernel
theorem nM_in0 : ∀ w ∈ u_ws nM_R nM_T 12, w ∈ lw_tbl ∧ goodWord w = true := by decide +kernel
theorem nM_in : ∀ w ∈ u_ws nM_R nM_T 12, w ∈ gw := fun w h => List.mem_filter.mpr (nM_in0 w h)
abbrev cl_all : List vw_C := [(nB_R, nB_T, 7), (nL_R, nL_T, 12), (nS_R, nS_T, 6), (nX_R, nX_T, 6), (nM_R, nM_T, 12)]
abbrev bX_init : ByteArray := prog_1_method_1_code
def yX_init : MethodName := ⟨"StepColumns", "<init>", "()V"⟩
theorem hX_init : yX_init.cls = "StepColumns" ∧ yX_init.cls ≠ "java/lang/invoke/MethodHandle" ∧ yX_init.cls ≠ "java/lang/invoke/VarHandle" ∧ (parseMethodDescriptor yX_init.desc).map (fun d => d.parameters.length) = some 0 := by decide +kernel
abbrev wX_init : List Cond := .code yX_init bX_init 2 none :: gw
abbrev bX_add : ByteArray := prog_1_method_2_code
def yX_add : MethodName := ⟨"StepColumns", "add", "(IIII)I"⟩
theorem hX_add : yX_add.cls = "StepColumns" ∧ yX_add.cls ≠ "java/lang/invoke/MethodHandle" ∧ yX_add.cls ≠ "java/lang/invoke/VarHandle" ∧ (parseMethodDescriptor yX_add.desc).map (fun d => d.parameters.length) = some 4 := by decide +kernel
abbrev wX_add : List Cond := .code yX_add bX_add 5 (some .int) :: gw
abbrev bX_change : ByteArray := prog_1_method_3_code
def yX_change : MethodName := ⟨"StepColumns", "change", "(III)I"⟩
theorem hX_change : yX_change.cls = "StepColumns" ∧ yX_change.cls ≠ "java/lang/invoke/MethodHandle" ∧ yX_change.cls ≠ "java/lang/invoke/VarHandle" ∧ (parseMethodDescriptor yX_change.desc).map (fun d => d.parameters.length) = some 3 := by decide +kernel
abbrev wX_change : List Cond := .code yX_change bX_change 5 (some .int) :: gw
abbrev bX_remove : ByteArray := prog_1_method_4_code
def yX_remove : MethodName := ⟨"StepColumns", "remove", "(I)I"⟩
theorem hX_remove : yX_remove.cls = "StepColumns" ∧ yX_remove.cls ≠ "java/lang/invoke/MethodHandle" ∧ yX_remove.cls ≠ "java/lang/invoke/VarHandle" ∧ (parseMethodDescriptor yX_remove.desc).map (fun d => d.parameters.length) = some 1 := by decide +kernel
abbrev wX_remove : List Cond := .code yX_remove bX_remove 2 (some .int) :: gw
abbrev bX_move : ByteArray := prog_1_method_5_code
def yX_move : MethodName := ⟨"StepColumns", "move", "(II)I"⟩
theorem hX_move : yX_move.cls = "StepColumns" ∧ yX_move.cls ≠ "java/lang/invoke/MethodHandle" ∧ yX_move.cls ≠ "java/lang/invoke/VarHandle" ∧ (parseMethodDescriptor yX_move.desc).map (fun d => d.parameters.length) = some 2 := by decide +kernel
abbrev wX_move : List Cond := .code yX_move bX_move 3 (some .int) :: gw
abbrev bX_set : ByteArray := prog_1_method_6_code
def yX_set : MethodName := ⟨"StepColumns", "set", "(II)I"⟩
theorem hX_set : yX_set.cls = "StepColumns" ∧ yX_set.cls ≠ "java/lang/invoke/MethodHandle" ∧ yX_set.cls ≠ "java/lang/invoke/VarHandle" ∧ (parseMethodDescriptor yX_set.desc).map (fun d => d.parameters.length) = some 2 := by decide +kernel
abbrev wX_set : List Cond := .code yX_set bX_set 4 (some .int) :: gw
abbrev bX_item : ByteArray := prog_1_method_7_code
def yX_item : MethodName := ⟨"StepColumns", "item", "(II)I"⟩
theorem hX_item : yX_item.cls = "StepColumns" ∧ yX_item.cls ≠ "java/lang/invoke/MethodHandle" ∧ yX_item.cls ≠ "java/lang/invoke/VarHandle" ∧ (parseMethodDescriptor yX_item.desc).map (fun d => d.parameters.length) = some 2 := by decide +kernel
abbrev wX_item : List Cond := .code yX_item bX_item 3 (some .int) :: gw
abbrev bX_best : ByteArray := prog_1_method_8_code
def yX_best : MethodName := ⟨"StepColumns", "best", "(I)I"⟩
theorem hX_best : yX_best.cls = "StepColumns" ∧ yX_best.cls ≠ "java/lang/invoke/MethodHandle" ∧ yX_best.cls ≠ "java/lang/invoke/VarHandle" ∧ (parseMethodDescriptor yX_best.desc).map (fun d => d.parameters.length) = some 1 := by decide +kernel
abbrev wX_best : List Cond := .code yX_best bX_best 2 (some .int) :: gw
abbrev bX_place : ByteArray := prog_1_method_9_code
def yX_place : MethodName := ⟨"StepColumns", "place", "(III)I"⟩
theorem hX_place : yX_place.cls = "StepColumns" ∧ yX_place.cls ≠ "java/lang/invoke/MethodHandle" ∧ yX_place.cls ≠ "java/lang/invoke/VarHandle" ∧ (parseMethodDescriptor yX_place.desc).map (fun d => d.parameters.length) = some 3 := by decide +kernel
abbrev wX_place : List Cond := .code yX_place bX_place 4 (some .int) :: gw
abbrev bX_column : ByteArray := prog_1_method_10_code
def yX_column : MethodName := ⟨"StepColumns", "column", "(II)I"⟩
theorem hX_column : yX_column.cls = "StepColumns" ∧ yX_column.cls ≠ "java/lang/invoke/MethodHandle" ∧ yX_column.cls ≠ "java/lang/invoke/VarHandle" ∧ (parseMethodDescriptor yX_column.desc).map (fun d => d.parameters.length) = some 2 := by decide +kernel
abbrev wX_column : List Cond := .code yX_column bX_column 3 (some .int) :: gw
abbrev bX_meet : ByteArray := prog_1_method_11_code
def yX_meet : MethodName := ⟨"StepColumns", "meet", "(I)I"⟩
theorem hX_meet : yX_meet.cls = "StepColumns" ∧ yX_meet.cls ≠ "java/lang/invoke/MethodHandle" ∧ yX_meet.cls ≠ "java/lang/invoke/VarHandle" ∧ (parseMethodDescriptor yX_meet.desc).map (fun d => d.parameters.length) = some 1 := by decide +kernel
abbrev wX_meet : List Cond := .code yX_meet bX_meet 2 (some .int) :: gw
abbrev bX_relief : ByteArray := prog_1_method_12_code
def yX_relief : MethodName := ⟨"StepColumns", "relief", "(I)I"⟩
theorem hX_relief : yX_relief.cls = "StepColumns" ∧ yX_relief.cls ≠ "java/lang/invoke/MethodHandle" ∧ yX_relief.cls ≠ "java/lang/invoke/VarHandle" ∧ (parseMethodDescriptor yX_relief.desc).map (fun d => d.parameters.length) = some 1 := by decide +kernel
abbrev wX_relief : List Cond := .code yX_relief bX_relief 2 (some .int) :: gw
abbrev bX_culprit : ByteArray := prog_1_method_13_code
def yX_culprit : MethodName := ⟨"StepColumns", "culprit", "()I"⟩
theorem hX_culprit : yX_culprit.cls = "StepColumns" ∧ yX_culprit.cls ≠ "java/lang/invoke/MethodHandle" ∧ yX_culprit.cls ≠ "java/lang/invoke/VarHandle" ∧ (parseMethodDescriptor yX_culprit.desc).map (fun d => d.parameters.length) = some 0 := by decide +kernel
abbrev wX_culprit : List Cond := .code yX_culprit bX_culprit 5 (some .int) :: gw
abbrev bX_fit : ByteArray := prog_1_method_14_code
def yX_fit : MethodName := ⟨"StepColumns", "fit", "(I)I"⟩
theorem hX_fit : yX_fit.cls = "StepColumns" ∧ yX_fit.cls ≠ "java/lang/invoke/MethodHandle" ∧ yX_fit.cls ≠ "java/lang/invoke/VarHandle" ∧ (parseMethodDescriptor yX_fit.desc).map (fun d => d.parameters.length) = some 1 := by decide +kernel
abbrev wX_fit : List Cond := .code yX_fit bX_fit 4 (some .int) :: gw
abbrev bX_image : ByteArray := prog_1_method_15_code
def yX_image : MethodName := ⟨"StepColumns", "image", "(I)I"⟩
theorem hX_image : yX_image.cls = "StepColumns" ∧ yX_image.cls ≠ "java/lang/invoke/MethodHandle" ∧ yX_image.cls ≠ "java/lang/invoke/VarHandle" ∧ (parseMethodDescriptor yX_image.desc).map (fun d => d.parameters.length) = some 1 := by decide +kernel
abbrev wX_image : List Cond := .code yX_image bX_image 2 (some .int) :: gw
abbrev bX_restore : ByteArray := prog_1_method_16_code
def yX_restore : MethodName := ⟨"StepColumns", "restore", "(I)I"⟩
theorem hX_restore : yX_restore.cls = "StepColumns" ∧ yX_restore.cls ≠ "java/lang/invoke/MethodHandle" ∧ yX_restore.cls ≠ "java/lang/invoke/VarHandle" ∧ (parseMethodDescriptor yX_restore.desc).map (fun d => d.parameters.length) = some 1 := by decide +kernel
abbrev wX_restore : List Cond := .code yX_restore bX_restore 2 (some .int) :: gw
abbrev bX_count : ByteArray := prog_1_method_17_code
def yX_count : MethodName := ⟨"StepColumns", "count", "(I)I"⟩
theorem hX_count : yX_count.cls = "StepColumns" ∧ yX_count.cls ≠ "java/lang/invoke/MethodHandle" ∧ yX_count.cls ≠ "java/lang/invoke/VarHandle" ∧ (parseMethodDescriptor yX_count.desc).map (fun d => d.parameters.length) = some 1 := by decide +kernel
abbrev wX_count : List Cond := .code yX_count bX_count 2 (some .int) :: gw
abbrev bX_sizeFits : ByteArray := prog_1_method_18_code
def yX_sizeFits : MethodName := ⟨"StepColumns", "sizeFits", "(II)Z"⟩
theorem hX_sizeFits : yX_sizeFits.cls = "StepColumns" ∧ yX_sizeFits.cls ≠ "java/lang/invoke/MethodHandle" ∧ yX_sizeFits.cls ≠ "java/lang/invoke/VarHandle" ∧ (parseMethodDescriptor yX_sizeFits.desc).map (fun d => d.parameters.length) = some 2 := by decide +kernel
abbrev wX_sizeFits : List Cond := .code yX_sizeFits bX_sizeFits 2 (some .boolean) :: gw
abbrev bX_boundsFit : ByteArray := prog_1_method_19_code
def yX_boundsFit : MethodName := ⟨"StepColumns", "boundsFit", "(II)Z"⟩
theorem hX_boundsFit : yX_boundsFit.cls = "StepColumns" ∧ yX_boundsFit.cls ≠ "java/lang/invoke/MethodHandle" ∧ yX_boundsFit.cls ≠ "java/lang/invoke/VarHandle" ∧ (parseMethodDescriptor yX_boundsFit.desc).map (fun d => d.parameters.length) = some 2 := by decide +kernel
abbrev wX_boundsFit : List Cond := .code yX_boundsFit bX_boundsFit 2 (some .boolean) :: gw
abbrev bX_changeFits : ByteArray := prog_1_method_20_code
def yX_changeFits : MethodName := ⟨"StepColumns", "changeFits", "(III)Z"⟩
theorem hX_changeFits : yX_changeFits.cls = "StepColumns" ∧ yX_changeFits.cls ≠ "java/lang/invoke/MethodHandle" ∧ yX_changeFits.cls ≠ "java/lang/invoke/VarHandle" ∧ (parseMethodDescriptor yX_changeFits.desc).map (fun d => d.parameters.length) = some 3 := by decide +kernel
abbrev wX_changeFits : List Cond := .code yX_changeFits bX_changeFits 4 (some .boolean) :: gw
abbrev bX_layBest : ByteArray := prog_1_method_21_code
def yX_layBest : MethodName := ⟨"StepColumns", "layBest", "()Z"⟩
theorem hX_layBest : yX_layBest.cls = "StepColumns" ∧ yX_layBest.cls ≠ "java/lang/invoke/MethodHandle" ∧ yX_layBest.cls ≠ "java/lang/invoke/VarHandle" ∧ (parseMethodDescriptor yX_layBest.desc).map (fun d => d.parameters.length) = some 0 := by decide +kernel
abbrev wX_layBest : List Cond := .code yX_layBest bX_layBest 1 (some .boolean) :: gw
abbrev bX_reliefBy : ByteArray := prog_1_method_22_code
def yX_reliefBy : MethodName := ⟨"StepColumns", "reliefBy", "(I)I"⟩
theorem hX_reliefBy : yX_reliefBy.cls = "StepColumns" ∧ yX_reliefBy.cls ≠ "java/lang/invoke/MethodHandle" ∧ yX_reliefBy.cls ≠ "java/lang/invoke/VarHandle" ∧ (parseMethodDescriptor yX_reliefBy.desc).map (fun d => d.parameters.length) = some 1 := by decide +kernel
abbrev wX_reliefBy : List Cond := .code yX_reliefBy bX_reliefBy 3 (some .int) :: gw
abbrev bM_init : ByteArray := prog_6_method_1_code
def yM_init : MethodName := ⟨"StepColumnsModel", "<init>", "()V"⟩
theorem hM_init : yM_init.cls = "StepColumnsModel" ∧ yM_init.cls ≠ "java/lang/invoke/MethodHandle" ∧ yM_init.cls ≠ "java/lang/invoke/VarHandle" ∧ (parseMethodDescriptor yM_init.desc).map (fun d => d.parameters.length) = some 0 := by decide +kernel
abbrev wM_init : List Cond := .code yM_init bM_init 1 none :: gw
abbrev bM_in : ByteArray := prog_6_method_2_code
def yM_in : MethodName := ⟨"StepColumnsModel", "in", "(III)Z"⟩
theorem hM_in : yM_in.cls = "StepColumnsModel" ∧ yM_in.cls ≠ "java/lang/invoke/MethodHandle" ∧ yM_in.cls ≠ "java/lang/invoke/VarHandle" ∧ (parseMethodDescriptor yM_in.desc).map (fun d => d.parameters.length) = some 3 := by decide +kernel
abbrev wM_in : List Cond := .code yM_in bM_in 3 (some .boolean) :: gw
abbrev bM_isItem : ByteArray := prog_6_method_3_code
def yM_isItem : MethodName := ⟨"StepColumnsModel", "isItem", "(I)Z"⟩
theorem hM_isItem : yM_isItem.cls = "StepColumnsModel" ∧ yM_isItem.cls ≠ "java/lang/invoke/MethodHandle" ∧ yM_isItem.cls ≠ "java/lang/invoke/VarHandle" ∧ (parseMethodDescriptor yM_isItem.desc).map (fun d => d.parameters.length) = some 1 := by decide +kernel
abbrev wM_isItem : List Cond := .code yM_isItem bM_isItem 2 (some .boolean) :: gw
abbrev bM_isSize : ByteArray := prog_6_method_4_code
def yM_isSize : MethodName := ⟨"StepColumnsModel", "isSize", "(II)Z"⟩
theorem hM_isSize : yM_isSize.cls = "StepColumnsModel" ∧ yM_isSize.cls ≠ "java/lang/invoke/MethodHandle" ∧ yM_isSize.cls ≠ "java/lang/invoke/VarHandle" ∧ (parseMethodDescriptor yM_isSize.desc).map (fun d => d.parameters.length) = some 2 := by decide +kernel
abbrev wM_isSize : List Cond := .code yM_isSize bM_isSize 2 (some .boolean) :: gw
abbrev bM_add : ByteArray := prog_6_method_5_code
def yM_add : MethodName := ⟨"StepColumnsModel", "add", "(IIII)I"⟩
theorem hM_add : yM_add.cls = "StepColumnsModel" ∧ yM_add.cls ≠ "java/lang/invoke/MethodHandle" ∧ yM_add.cls ≠ "java/lang/invoke/VarHandle" ∧ (parseMethodDescriptor yM_add.desc).map (fun d => d.parameters.length) = some 4 := by decide +kernel
abbrev wM_add : List Cond := .code yM_add bM_add 6 (some .int) :: gw
abbrev bM_change : ByteArray := prog_6_method_6_code
def yM_change : MethodName := ⟨"StepColumnsModel", "change", "(III)I"⟩
theorem hM_change : yM_change.cls = "StepColumnsModel" ∧ yM_change.cls ≠ "java/lang/invoke/MethodHandle" ∧ yM_change.cls ≠ "java/lang/invoke/VarHandle" ∧ (parseMethodDescriptor yM_change.desc).map (fun d => d.parameters.length) = some 3 := by decide +kernel
abbrev wM_change : List Cond := .code yM_change bM_change 7 (some .int) :: gw
abbrev bM_shift : ByteArray := prog_6_method_7_code
def yM_shift : MethodName := ⟨"StepColumnsModel", "shift", "(II)V"⟩
theorem hM_shift : yM_shift.cls = "StepColumnsModel" ∧ yM_shift.cls ≠ "java/lang/invoke/MethodHandle" ∧ yM_shift.cls ≠ "java/lang/invoke/VarHandle" ∧ (parseMethodDescriptor yM_shift.desc).map (fun d => d.parameters.length) = some 2 := by decide +kernel
abbrev wM_shift : List Cond := .code yM_shift bM_shift 4 none :: gw
abbrev bM_remove : ByteArray := prog_6_method_8_code
def yM_remove : MethodName := ⟨"StepColumnsModel", "remove", "(I)I"⟩
theorem hM_remove : yM_remove.cls = "StepColumnsModel" ∧ yM_remove.cls ≠ "java/lang/invoke/MethodHandle" ∧ yM_remove.cls ≠ "java/lang/invoke/VarHandle" ∧ (parseMethodDescriptor yM_remove.desc).map (fun d => d.parameters.length) = some 1 := by decide +kernel
abbrev wM_remove : List Cond := .code yM_remove bM_remove 3 (some .int) :: gw
abbrev bM_swap : ByteArray := prog_6_method_9_code
def yM_swap : MethodName := ⟨"StepColumnsModel", "swap", "(II)V"⟩
theorem hM_swap : yM_swap.cls = "StepColumnsModel" ∧ yM_swap.cls ≠ "java/lang/invoke/MethodHandle" ∧ yM_swap.cls ≠ "java/lang/invoke/VarHandle" ∧ (parseMethodDescriptor yM_swap.desc).map (fun d => d.parameters.length) = some 2 := by decide +kernel
abbrev wM_swap : List Cond := .code yM_swap bM_swap 5 none :: gw
abbrev bM_move : ByteArray := prog_6_method_10_code
def yM_move : MethodName := ⟨"StepColumnsModel", "move", "(II)I"⟩
theorem hM_move : yM_move.cls = "StepColumnsModel" ∧ yM_move.cls ≠ "java/lang/invoke/MethodHandle" ∧ yM_move.cls ≠ "java/lang/invoke/VarHandle" ∧ (parseMethodDescriptor yM_move.desc).map (fun d => d.parameters.length) = some 2 := by decide +kernel
abbrev wM_move : List Cond := .code yM_move bM_move 4 (some .int) :: gw
abbrev bM_set : ByteArray := prog_6_method_11_code
def yM_set : MethodName := ⟨"StepColumnsModel", "set", "(II)I"⟩
theorem hM_set : yM_set.cls = "StepColumnsModel" ∧ yM_set.cls ≠ "java/lang/invoke/MethodHandle" ∧ yM_set.cls ≠ "java/lang/invoke/VarHandle" ∧ (parseMethodDescriptor yM_set.desc).map (fun d => d.parameters.length) = some 2 := by decide +kernel
abbrev wM_set : List Cond := .code yM_set bM_set 4 (some .int) :: gw
abbrev bM_item : ByteArray := prog_6_method_12_code
def yM_item : MethodName := ⟨"StepColumnsModel", "item", "(II)I"⟩
theorem hM_item : yM_item.cls = "StepColumnsModel" ∧ yM_item.cls ≠ "java/lang/invoke/MethodHandle" ∧ yM_item.cls ≠ "java/lang/invoke/VarHandle" ∧ (parseMethodDescriptor yM_item.desc).map (fun d => d.parameters.length) = some 2 := by decide +kernel
abbrev wM_item : List Cond := .code yM_item bM_item 3 (some .int) :: gw
abbrev bM_layThings : ByteArray := prog_6_method_13_code
def yM_layThings : MethodName := ⟨"StepColumnsModel", "layThings", "()V"⟩
theorem hM_layThings : yM_layThings.cls = "StepColumnsModel" ∧ yM_layThings.cls ≠ "java/lang/invoke/MethodHandle" ∧ yM_layThings.cls ≠ "java/lang/invoke/VarHandle" ∧ (parseMethodDescriptor yM_layThings.desc).map (fun d => d.parameters.length) = some 0 := by decide +kernel
abbrev wM_layThings : List Cond := .code yM_layThings bM_layThings 4 none :: gw
abbrev bM_isLine : ByteArray := prog_6_method_14_code
def yM_isLine : MethodName := ⟨"StepColumnsModel", "isLine", "(I)Z"⟩
theorem hM_isLine : yM_isLine.cls = "StepColumnsModel" ∧ yM_isLine.cls ≠ "java/lang/invoke/MethodHandle" ∧ yM_isLine.cls ≠ "java/lang/invoke/VarHandle" ∧ (parseMethodDescriptor yM_isLine.desc).map (fun d => d.parameters.length) = some 1 := by decide +kernel
abbrev wM_isLine : List Cond := .code yM_isLine bM_isLine 2 (some .boolean) :: gw
abbrev bM_mayBegin : ByteArray := prog_6_method_15_code
def yM_mayBegin : MethodName := ⟨"StepColumnsModel", "mayBegin", "(II)Z"⟩
theorem hM_mayBegin : yM_mayBegin.cls = "StepColumnsModel" ∧ yM_mayBegin.cls ≠ "java/lang/invoke/MethodHandle" ∧ yM_mayBegin.cls ≠ "java/lang/invoke/VarHandle" ∧ (parseMethodDescriptor yM_mayBegin.desc).map (fun d => d.parameters.length) = some 2 := by decide +kernel
abbrev wM_mayBegin : List Cond := .code yM_mayBegin bM_mayBegin 3 (some .boolean) :: gw
abbrev bM_linesBy : ByteArray := prog_6_method_16_code
def yM_linesBy : MethodName := ⟨"StepColumnsModel", "linesBy", "(II)I"⟩
theorem hM_linesBy : yM_linesBy.cls = "StepColumnsModel" ∧ yM_linesBy.cls ≠ "java/lang/invoke/MethodHandle" ∧ yM_linesBy.cls ≠ "java/lang/invoke/VarHandle" ∧ (parseMethodDescriptor yM_linesBy.desc).map (fun d => d.parameters.length) = some 2 := by decide +kernel
abbrev wM_linesBy : List Cond := .code yM_linesBy bM_linesBy 3 (some .int) :: gw
abbrev bM_at : ByteArray := prog_6_method_17_code
def yM_at : MethodName := ⟨"StepColumnsModel", "at", "(III)I"⟩
theorem hM_at : yM_at.cls = "StepColumnsModel" ∧ yM_at.cls ≠ "java/lang/invoke/MethodHandle" ∧ yM_at.cls ≠ "java/lang/invoke/VarHandle" ∧ (parseMethodDescriptor yM_at.desc).map (fun d => d.parameters.length) = some 3 := by decide +kernel
abbrev wM_at : List Cond := .code yM_at bM_at 3 (some .int) :: gw
abbrev bM_withRoom : ByteArray := prog_6_method_18_code
def yM_withRoom : MethodName := ⟨"StepColumnsModel", "withRoom", "(IIII)I"⟩
theorem hM_withRoom : yM_withRoom.cls = "StepColumnsModel" ∧ yM_withRoom.cls ≠ "java/lang/invoke/MethodHandle" ∧ yM_withRoom.cls ≠ "java/lang/invoke/VarHandle" ∧ (parseMethodDescriptor yM_withRoom.desc).map (fun d => d.parameters.length) = some 4 := by decide +kernel
abbrev wM_withRoom : List Cond := .code yM_withRoom bM_withRoom 7 (some .int) :: gw
abbrev bM_asFirst : ByteArray := prog_6_method_19_code
def yM_asFirst : MethodName := ⟨"StepColumnsModel", "asFirst", "(II)I"⟩
theorem hM_asFirst : yM_asFirst.cls = "StepColumnsModel" ∧ yM_asFirst.cls ≠ "java/lang/invoke/MethodHandle" ∧ yM_asFirst.cls ≠ "java/lang/invoke/VarHandle" ∧ (parseMethodDescriptor yM_asFirst.desc).map (fun d => d.parameters.length) = some 2 := by decide +kernel
abbrev wM_asFirst : List Cond := .code yM_asFirst bM_asFirst 4 (some .int) :: gw
abbrev bM_better : ByteArray := prog_6_method_20_code
def yM_better : MethodName := ⟨"StepColumnsModel", "better", "(II)I"⟩
theorem hM_better : yM_better.cls = "StepColumnsModel" ∧ yM_better.cls ≠ "java/lang/invoke/MethodHandle" ∧ yM_better.cls ≠ "java/lang/invoke/VarHandle" ∧ (parseMethodDescriptor yM_better.desc).map (fun d => d.parameters.length) = some 2 := by decide +kernel
abbrev wM_better : List Cond := .code yM_better bM_better 2 (some .int) :: gw
abbrev bM_solve : ByteArray := prog_6_method_21_code
def yM_solve : MethodName := ⟨"StepColumnsModel", "solve", "()I"⟩
theorem hM_solve : yM_solve.cls = "StepColumnsModel" ∧ yM_solve.cls ≠ "java/lang/invoke/MethodHandle" ∧ yM_solve.cls ≠ "java/lang/invoke/VarHandle" ∧ (parseMethodDescriptor yM_solve.desc).map (fun d => d.parameters.length) = some 0 := by decide +kernel
abbrev wM_solve : List Cond := .code yM_solve bM_solve 7 (some .int) :: gw
abbrev bM_stand : ByteArray := prog_6_method_22_code
def yM_stand : MethodName := ⟨"StepColumnsModel", "stand", "(IIIIZ)V"⟩
theorem hM_stand : yM_stand.cls = "StepColumnsModel" ∧ yM_stand.cls ≠ "java/lang/invoke/MethodHandle" ∧ yM_stand.cls ≠ "java/lang/invoke/VarHandle" ∧ (parseMethodDescriptor yM_stand.desc).map (fun d => d.parameters.length) = some 5 := by decide +kernel
abbrev wM_stand : List Cond := .code yM_stand bM_stand 6 none :: gw
abbrev bM_layBest : ByteArray := prog_6_method_23_code
def yM_layBest : MethodName := ⟨"StepColumnsModel", "layBest", "()Z"⟩
theorem hM_layBest : yM_layBest.cls = "StepColumnsModel" ∧ yM_layBest.cls ≠ "java/lang/invoke/MethodHandle" ∧ yM_layBest.cls ≠ "java/lang/invoke/VarHandle" ∧ (parseMethodDescriptor yM_layBest.desc).map (fun d => d.parameters.length) = some 0 := by decide +kernel
abbrev wM_layBest : List Cond := .code yM_layBest bM_layBest 7 (some .boolean) :: gw
abbrev bM_isOut : ByteArray := prog_6_method_24_code
def yM_isOut : MethodName := ⟨"StepColumnsModel", "isOut", "(I)Z"⟩
theorem hM_isOut : yM_isOut.cls = "StepColumnsModel" ∧ yM_isOut.cls ≠ "java/lang/invoke/MethodHandle" ∧ yM_isOut.cls ≠ "java/lang/invoke/VarHandle" ∧ (parseMethodDescriptor yM_isOut.desc).map (fun d => d.parameters.length) = some 1 := by decide +kernel
abbrev wM_isOut : List Cond := .code yM_isOut bM_isOut 2 (some .boolean) :: gw
abbrev bM_isLast : ByteArray := prog_6_method_25_code
def yM_isLast : MethodName := ⟨"StepColumnsModel", "isLast", "(I)Z"⟩
theorem hM_isLast : yM_isLast.cls = "StepColumnsModel" ∧ yM_isLast.cls ≠ "java/lang/invoke/MethodHandle" ∧ yM_isLast.cls ≠ "java/lang/invoke/VarHandle" ∧ (parseMethodDescriptor yM_isLast.desc).map (fun d => d.parameters.length) = some 1 := by decide +kernel
abbrev wM_isLast : List Cond := .code yM_isLast bM_isLast 2 (some .boolean) :: gw
abbrev bM_best : ByteArray := prog_6_method_26_code
def yM_best : MethodName := ⟨"StepColumnsModel", "best", "(I)I"⟩
theorem hM_best : yM_best.cls = "StepColumnsModel" ∧ yM_best.cls ≠ "java/lang/invoke/MethodHandle" ∧ yM_best.cls ≠ "java/lang/invoke/VarHandle" ∧ (parseMethodDescriptor yM_best.desc).map (fun d => d.parameters.length) = some 1 := by decide +kernel
abbrev wM_best : List Cond := .code yM_best bM_best 7 (some .int) :: gw
abbrev bM_place : ByteArray := prog_6_method_27_code
def yM_place : MethodName := ⟨"StepColumnsModel", "place", "(III)I"⟩
theorem hM_place : yM_place.cls = "StepColumnsModel" ∧ yM_place.cls ≠ "java/lang/invoke/MethodHandle" ∧ yM_place.cls ≠ "java/lang/invoke/VarHandle" ∧ (parseMethodDescriptor yM_place.desc).map (fun d => d.parameters.length) = some 3 := by decide +kernel
abbrev wM_place : List Cond := .code yM_place bM_place 5 (some .int) :: gw
abbrev bM_column : ByteArray := prog_6_method_28_code
def yM_column : MethodName := ⟨"StepColumnsModel", "column", "(II)I"⟩
theorem hM_column : yM_column.cls = "StepColumnsModel" ∧ yM_column.cls ≠ "java/lang/invoke/MethodHandle" ∧ yM_column.cls ≠ "java/lang/invoke/VarHandle" ∧ (parseMethodDescriptor yM_column.desc).map (fun d => d.parameters.length) = some 2 := by decide +kernel
abbrev wM_column : List Cond := .code yM_column bM_column 9 (some .int) :: gw
abbrev bM_hasLine : ByteArray := prog_6_method_29_code
def yM_hasLine : MethodName := ⟨"StepColumnsModel", "hasLine", "(II)Z"⟩
theorem hM_hasLine : yM_hasLine.cls = "StepColumnsModel" ∧ yM_hasLine.cls ≠ "java/lang/invoke/MethodHandle" ∧ yM_hasLine.cls ≠ "java/lang/invoke/VarHandle" ∧ (parseMethodDescriptor yM_hasLine.desc).map (fun d => d.parameters.length) = some 2 := by decide +kernel
abbrev wM_hasLine : List Cond := .code yM_hasLine bM_hasLine 5 (some .boolean) :: gw
abbrev bM_meet : ByteArray := prog_6_method_30_code
def yM_meet : MethodName := ⟨"StepColumnsModel", "meet", "(I)I"⟩
theorem hM_meet : yM_meet.cls = "StepColumnsModel" ∧ yM_meet.cls ≠ "java/lang/invoke/MethodHandle" ∧ yM_meet.cls ≠ "java/lang/invoke/VarHandle" ∧ (parseMethodDescriptor yM_meet.desc).map (fun d => d.parameters.length) = some 1 := by decide +kernel
abbrev wM_meet : List Cond := .code yM_meet bM_meet 4 (some .int) :: gw
abbrev bM_outOf : ByteArray := prog_6_method_31_code
def yM_outOf : MethodName := ⟨"StepColumnsModel", "outOf", "(I)I"⟩
theorem hM_outOf : yM_outOf.cls = "StepColumnsModel" ∧ yM_outOf.cls ≠ "java/lang/invoke/MethodHandle" ∧ yM_outOf.cls ≠ "java/lang/invoke/VarHandle" ∧ (parseMethodDescriptor yM_outOf.desc).map (fun d => d.parameters.length) = some 1 := by decide +kernel
abbrev wM_outOf : List Cond := .code yM_outOf bM_outOf 1 (some .int) :: gw
abbrev bM_reliefBy : ByteArray := prog_6_method_32_code
def yM_reliefBy : MethodName := ⟨"StepColumnsModel", "reliefBy", "(I)I"⟩
theorem hM_reliefBy : yM_reliefBy.cls = "StepColumnsModel" ∧ yM_reliefBy.cls ≠ "java/lang/invoke/MethodHandle" ∧ yM_reliefBy.cls ≠ "java/lang/invoke/VarHandle" ∧ (parseMethodDescriptor yM_reliefBy.desc).map (fun d => d.parameters.length) = some 1 := by decide +kernel
abbrev wM_reliefBy : List Cond := .code yM_reliefBy bM_reliefBy 5 (some .int) :: gw
abbrev bM_relief : ByteArray := prog_6_method_33_code
def yM_relief : MethodName := ⟨"StepColumnsModel", "relief", "(I)I"⟩
theorem hM_relief : yM_relief.cls = "StepColumnsModel" ∧ yM_relief.cls ≠ "java/lang/invoke/MethodHandle" ∧ yM_relief.cls ≠ "java/lang/invoke/VarHandle" ∧ (parseMethodDescriptor yM_relief.desc).map (fun d => d.parameters.length) = some 1 := by decide +kernel
abbrev wM_relief : List Cond := .code yM_relief bM_relief 2 (some .int) :: gw
abbrev bM_culprit : ByteArray := prog_6_method_34_code
def yM_culprit : MethodName := ⟨"StepColumnsModel", "culprit", "()I"⟩
theorem hM_culprit : yM_culprit.cls = "StepColumnsModel" ∧ yM_culprit.cls ≠ "java/lang/invoke/MethodHandle" ∧ yM_culprit.cls ≠ "java/lang/invoke/VarHandle" ∧ (parseMethodDescriptor yM_culprit.desc).map (fun d => d.parameters.length) = some 0 := by decide +kernel
abbrev wM_culprit : List Cond := .code yM_culprit bM_culprit 5 (some .int) :: gw
abbrev bM_fits : ByteArray := prog_6_method_35_code
def yM_fits : MethodName := ⟨"StepColumnsModel", "fits", "(II)Z"⟩
theorem hM_fits : yM_fits.cls = "StepColumnsModel" ∧ yM_fits.cls ≠ "java/lang/invoke/MethodHandle" ∧ yM_fits.cls ≠ "java/lang/invoke/VarHandle" ∧ (parseMethodDescriptor yM_fits.desc).map (fun d => d.parameters.length) = some 2 := by decide +kernel
abbrev wM_fits : List Cond := .code yM_fits bM_fits 5 (some .boolean) :: gw
abbrev bM_fit : ByteArray := prog_6_method_36_code
def yM_fit : MethodName := ⟨"StepColumnsModel", "fit", "(I)I"⟩
theorem hM_fit : yM_fit.cls = "StepColumnsModel" ∧ yM_fit.cls ≠ "java/lang/invoke/MethodHandle" ∧ yM_fit.cls ≠ "java/lang/invoke/VarHandle" ∧ (parseMethodDescriptor yM_fit.desc).map (fun d => d.parameters.length) = some 1 := by decide +kernel
abbrev wM_fit : List Cond := .code yM_fit bM_fit 6 (some .int) :: gw
abbrev bM_image : ByteArray := prog_6_method_37_code
def yM_image : MethodName := ⟨"StepColumnsModel", "image", "(I)I"⟩
theorem hM_image : yM_image.cls = "StepColumnsModel" ∧ yM_image.cls ≠ "java/lang/invoke/MethodHandle" ∧ yM_image.cls ≠ "java/lang/invoke/VarHandle" ∧ (parseMethodDescriptor yM_image.desc).map (fun d => d.parameters.length) = some 1 := by decide +kernel
abbrev wM_image : List Cond := .code yM_image bM_image 3 (some .int) :: gw
abbrev bM_restore : ByteArray := prog_6_method_38_code
def yM_restore : MethodName := ⟨"StepColumnsModel", "restore", "(I)I"⟩
theorem hM_restore : yM_restore.cls = "StepColumnsModel" ∧ yM_restore.cls ≠ "java/lang/invoke/MethodHandle" ∧ yM_restore.cls ≠ "java/lang/invoke/VarHandle" ∧ (parseMethodDescriptor yM_restore.desc).map (fun d => d.parameters.length) = some 1 := by decide +kernel
abbrev wM_restore : List Cond := .code yM_restore bM_restore 3 (some .int) :: gw
abbrev bM_ofKind : ByteArray := prog_6_method_39_code
def yM_ofKind : MethodName := ⟨"StepColumnsModel", "ofKind", "(I)I"⟩
theorem hM_ofKind : yM_ofKind.cls = "StepColumnsModel" ∧ yM_ofKind.cls ≠ "java/lang/invoke/MethodHandle" ∧ yM_ofKind.cls ≠ "java/lang/invoke/VarHandle" ∧ (parseMethodDescriptor yM_ofKind.desc).map (fun d => d.parameters.length) = some 1 := by decide +kernel
abbrev wM_ofKind : List Cond := .code yM_ofKind bM_ofKind 4 (some .int) :: gw
abbrev bM_count : ByteArray := prog_6_method_40_code
def yM_count : MethodName := ⟨"StepColumnsModel", "count", "(I)I"⟩
theorem hM_count : yM_count.cls = "StepColumnsModel" ∧ yM_count.cls ≠ "java/lang/invoke/MethodHandle" ∧ yM_count.cls ≠ "java/lang/invoke/VarHandle" ∧ (parseMethodDescriptor yM_count.desc).map (fun d => d.parameters.length) = some 1 := by decide +kernel
abbrev wM_count : List Cond := .code yM_count bM_count 2 (some .int) :: gw
abbrev bB_init : ByteArray := prog_2_method_1_code
def yB_init : MethodName := ⟨"StepColumns$Book", "<init>", "()V"⟩
theorem hB_init : yB_init.cls = "StepColumns$Book" ∧ yB_init.cls ≠ "java/lang/invoke/MethodHandle" ∧ yB_init.cls ≠ "java/lang/invoke/VarHandle" ∧ (parseMethodDescriptor yB_init.desc).map (fun d => d.parameters.length) = some 0 := by decide +kernel
abbrev wB_init : List Cond := .code yB_init bB_init 1 none :: gw
abbrev bB_has : ByteArray := prog_2_method_2_code
def yB_has : MethodName := ⟨"StepColumns$Book", "has", "(I)Z"⟩
theorem hB_has : yB_has.cls = "StepColumns$Book" ∧ yB_has.cls ≠ "java/lang/invoke/MethodHandle" ∧ yB_has.cls ≠ "java/lang/invoke/VarHandle" ∧ (parseMethodDescriptor yB_has.desc).map (fun d => d.parameters.length) = some 1 := by decide +kernel
abbrev wB_has : List Cond := .code yB_has bB_has 2 (some .boolean) :: gw
abbrev bB_append : ByteArray := prog_2_method_3_code
def yB_append : MethodName := ⟨"StepColumns$Book", "append", "(IIII)I"⟩
theorem hB_append : yB_append.cls = "StepColumns$Book" ∧ yB_append.cls ≠ "java/lang/invoke/MethodHandle" ∧ yB_append.cls ≠ "java/lang/invoke/VarHandle" ∧ (parseMethodDescriptor yB_append.desc).map (fun d => d.parameters.length) = some 4 := by decide +kernel
abbrev wB_append : List Cond := .code yB_append bB_append 6 (some .int) :: gw
abbrev bB_number : ByteArray := prog_2_method_4_code
def yB_number : MethodName := ⟨"StepColumns$Book", "number", "(II)I"⟩
theorem hB_number : yB_number.cls = "StepColumns$Book" ∧ yB_number.cls ≠ "java/lang/invoke/MethodHandle" ∧ yB_number.cls ≠ "java/lang/invoke/VarHandle" ∧ (parseMethodDescriptor yB_number.desc).map (fun d => d.parameters.length) = some 2 := by decide +kernel
abbrev wB_number : List Cond := .code yB_number bB_number 3 (some .int) :: gw
abbrev bB_write : ByteArray := prog_2_method_5_code
def yB_write : MethodName := ⟨"StepColumns$Book", "write", "(III)V"⟩
theorem hB_write : yB_write.cls = "StepColumns$Book" ∧ yB_write.cls ≠ "java/lang/invoke/MethodHandle" ∧ yB_write.cls ≠ "java/lang/invoke/VarHandle" ∧ (parseMethodDescriptor yB_write.desc).map (fun d => d.parameters.length) = some 3 := by decide +kernel
abbrev wB_write : List Cond := .code yB_write bB_write 4 none :: gw
abbrev bB_shift : ByteArray := prog_2_method_6_code
def yB_shift : MethodName := ⟨"StepColumns$Book", "shift", "(II)V"⟩
theorem hB_shift : yB_shift.cls = "StepColumns$Book" ∧ yB_shift.cls ≠ "java/lang/invoke/MethodHandle" ∧ yB_shift.cls ≠ "java/lang/invoke/VarHandle" ∧ (parseMethodDescriptor yB_shift.desc).map (fun d => d.parameters.length) = some 2 := by decide +kernel
abbrev wB_shift : List Cond := .code yB_shift bB_shift 3 none :: gw
abbrev bB_shiftNumber : ByteArray := prog_2_method_7_code
def yB_shiftNumber : MethodName := ⟨"StepColumns$Book", "shiftNumber", "([III)V"⟩
theorem hB_shiftNumber : yB_shiftNumber.cls = "StepColumns$Book" ∧ yB_shiftNumber.cls ≠ "java/lang/invoke/MethodHandle" ∧ yB_shiftNumber.cls ≠ "java/lang/invoke/VarHandle" ∧ (parseMethodDescriptor yB_shiftNumber.desc).map (fun d => d.parameters.length) = some 3 := by decide +kernel
abbrev wB_shiftNumber : List Cond := .code yB_shiftNumber bB_shiftNumber 5 none :: gw
abbrev bB_copy : ByteArray := prog_2_method_8_code
def yB_copy : MethodName := ⟨"StepColumns$Book", "copy", "(LStepColumns$Book;)V"⟩
theorem hB_copy : yB_copy.cls = "StepColumns$Book" ∧ yB_copy.cls ≠ "java/lang/invoke/MethodHandle" ∧ yB_copy.cls ≠ "java/lang/invoke/VarHandle" ∧ (parseMethodDescriptor yB_copy.desc).map (fun d => d.parameters.length) = some 1 := by decide +kernel
abbrev wB_copy : List Cond := .code yB_copy bB_copy 3 none :: gw
abbrev bB_thingsOf : ByteArray := prog_2_method_9_code
def yB_thingsOf : MethodName := ⟨"StepColumns$Book", "thingsOf", "(I)I"⟩
theorem hB_thingsOf : yB_thingsOf.cls = "StepColumns$Book" ∧ yB_thingsOf.cls ≠ "java/lang/invoke/MethodHandle" ∧ yB_thingsOf.cls ≠ "java/lang/invoke/VarHandle" ∧ (parseMethodDescriptor yB_thingsOf.desc).map (fun d => d.parameters.length) = some 1 := by decide +kernel
abbrev wB_thingsOf : List Cond := .code yB_thingsOf bB_thingsOf 2 (some .int) :: gw
abbrev bB_thingsBefore : ByteArray := prog_2_method_10_code
def yB_thingsBefore : MethodName := ⟨"StepColumns$Book", "thingsBefore", "(I)I"⟩
theorem hB_thingsBefore : yB_thingsBefore.cls = "StepColumns$Book" ∧ yB_thingsBefore.cls ≠ "java/lang/invoke/MethodHandle" ∧ yB_thingsBefore.cls ≠ "java/lang/invoke/VarHandle" ∧ (parseMethodDescriptor yB_thingsBefore.desc).map (fun d => d.parameters.length) = some 1 := by decide +kernel
abbrev wB_thingsBefore : List Cond := .code yB_thingsBefore bB_thingsBefore 4 (some .int) :: gw
abbrev bB_itemsOf : ByteArray := prog_2_method_11_code
def yB_itemsOf : MethodName := ⟨"StepColumns$Book", "itemsOf", "(I)I"⟩
theorem hB_itemsOf : yB_itemsOf.cls = "StepColumns$Book" ∧ yB_itemsOf.cls ≠ "java/lang/invoke/MethodHandle" ∧ yB_itemsOf.cls ≠ "java/lang/invoke/VarHandle" ∧ (parseMethodDescriptor yB_itemsOf.desc).map (fun d => d.parameters.length) = some 1 := by decide +kernel
abbrev wB_itemsOf : List Cond := .code yB_itemsOf bB_itemsOf 4 (some .int) :: gw
abbrev bB_tall : ByteArray := prog_2_method_12_code
def yB_tall : MethodName := ⟨"StepColumns$Book", "tall", "(I)I"⟩
theorem hB_tall : yB_tall.cls = "StepColumns$Book" ∧ yB_tall.cls ≠ "java/lang/invoke/MethodHandle" ∧ yB_tall.cls ≠ "java/lang/invoke/VarHandle" ∧ (parseMethodDescriptor yB_tall.desc).map (fun d => d.parameters.length) = some 1 := by decide +kernel
abbrev wB_tall : List Cond := .code yB_tall bB_tall 2 (some .int) :: gw
abbrev bB_beyondGrid : ByteArray := prog_2_method_13_code
def yB_beyondGrid : MethodName := ⟨"StepColumns$Book", "beyondGrid", "(I)I"⟩
theorem hB_beyondGrid : yB_beyondGrid.cls = "StepColumns$Book" ∧ yB_beyondGrid.cls ≠ "java/lang/invoke/MethodHandle" ∧ yB_beyondGrid.cls ≠ "java/lang/invoke/VarHandle" ∧ (parseMethodDescriptor yB_beyondGrid.desc).map (fun d => d.parameters.length) = some 1 := by decide +kernel
abbrev wB_beyondGrid : List Cond := .code yB_beyondGrid bB_beyondGrid 2 (some .int) :: gw
abbrev bB_isOut : ByteArray := prog_2_method_14_code
def yB_isOut : MethodName := ⟨"StepColumns$Book", "isOut", "(II)Z"⟩
theorem hB_isOut : yB_isOut.cls = "StepColumns$Book" ∧ yB_isOut.cls ≠ "java/lang/invoke/MethodHandle" ∧ yB_isOut.cls ≠ "java/lang/invoke/VarHandle" ∧ (parseMethodDescriptor yB_isOut.desc).map (fun d => d.parameters.length) = some 2 := by decide +kernel
abbrev wB_isOut : List Cond := .code yB_isOut bB_isOut 3 (some .boolean) :: gw
abbrev bL_init : ByteArray := prog_3_method_1_code
def yL_init : MethodName := ⟨"StepColumns$Laying", "<init>", "(LStepColumns$Book;)V"⟩
theorem hL_init : yL_init.cls = "StepColumns$Laying" ∧ yL_init.cls ≠ "java/lang/invoke/MethodHandle" ∧ yL_init.cls ≠ "java/lang/invoke/VarHandle" ∧ (parseMethodDescriptor yL_init.desc).map (fun d => d.parameters.length) = some 1 := by decide +kernel
abbrev wL_init : List Cond := .code yL_init bL_init 2 none :: gw
abbrev bL_follow : ByteArray := prog_3_method_2_code
def yL_follow : MethodName := ⟨"StepColumns$Laying", "follow", "(LStepColumns$Scale;)V"⟩
theorem hL_follow : yL_follow.cls = "StepColumns$Laying" ∧ yL_follow.cls ≠ "java/lang/invoke/MethodHandle" ∧ yL_follow.cls ≠ "java/lang/invoke/VarHandle" ∧ (parseMethodDescriptor yL_follow.desc).map (fun d => d.parameters.length) = some 1 := by decide +kernel
abbrev wL_follow : List Cond := .code yL_follow bL_follow 5 none :: gw
abbrev bL_openColumn : ByteArray := prog_3_method_3_code
def yL_openColumn : MethodName := ⟨"StepColumns$Laying", "openColumn", "(I)V"⟩
theorem hL_openColumn : yL_openColumn.cls = "StepColumns$Laying" ∧ yL_openColumn.cls ≠ "java/lang/invoke/MethodHandle" ∧ yL_openColumn.cls ≠ "java/lang/invoke/VarHandle" ∧ (parseMethodDescriptor yL_openColumn.desc).map (fun d => d.parameters.length) = some 1 := by decide +kernel
abbrev wL_openColumn : List Cond := .code yL_openColumn bL_openColumn 2 none :: gw
abbrev bL_putItem : ByteArray := prog_3_method_4_code
def yL_putItem : MethodName := ⟨"StepColumns$Laying", "putItem", "(LStepColumns$Scale;III)I"⟩
theorem hL_putItem : yL_putItem.cls = "StepColumns$Laying" ∧ yL_putItem.cls ≠ "java/lang/invoke/MethodHandle" ∧ yL_putItem.cls ≠ "java/lang/invoke/VarHandle" ∧ (parseMethodDescriptor yL_putItem.desc).map (fun d => d.parameters.length) = some 4 := by decide +kernel
abbrev wL_putItem : List Cond := .code yL_putItem bL_putItem 8 (some .int) :: gw
abbrev bL_putThing : ByteArray := prog_3_method_5_code
def yL_putThing : MethodName := ⟨"StepColumns$Laying", "putThing", "(III)V"⟩
theorem hL_putThing : yL_putThing.cls = "StepColumns$Laying" ∧ yL_putThing.cls ≠ "java/lang/invoke/MethodHandle" ∧ yL_putThing.cls ≠ "java/lang/invoke/VarHandle" ∧ (parseMethodDescriptor yL_putThing.desc).map (fun d => d.parameters.length) = some 3 := by decide +kernel
abbrev wL_putThing : List Cond := .code yL_putThing bL_putThing 4 none :: gw
abbrev bL_total : ByteArray := prog_3_method_6_code
def yL_total : MethodName := ⟨"StepColumns$Laying", "total", "(I)I"⟩
theorem hL_total : yL_total.cls = "StepColumns$Laying" ∧ yL_total.cls ≠ "java/lang/invoke/MethodHandle" ∧ yL_total.cls ≠ "java/lang/invoke/VarHandle" ∧ (parseMethodDescriptor yL_total.desc).map (fun d => d.parameters.length) = some 1 := by decide +kernel
abbrev wL_total : List Cond := .code yL_total bL_total 2 (some .int) :: gw
abbrev bL_ofThing : ByteArray := prog_3_method_7_code
def yL_ofThing : MethodName := ⟨"StepColumns$Laying", "ofThing", "(II)I"⟩
theorem hL_ofThing : yL_ofThing.cls = "StepColumns$Laying" ∧ yL_ofThing.cls ≠ "java/lang/invoke/MethodHandle" ∧ yL_ofThing.cls ≠ "java/lang/invoke/VarHandle" ∧ (parseMethodDescriptor yL_ofThing.desc).map (fun d => d.parameters.length) = some 2 := by decide +kernel
abbrev wL_ofThing : List Cond := .code yL_ofThing bL_ofThing 3 (some .int) :: gw
abbrev bL_ofColumn : ByteArray := prog_3_method_8_code
def yL_ofColumn : MethodName := ⟨"StepColumns$Laying", "ofColumn", "(II)I"⟩
theorem hL_ofColumn : yL_ofColumn.cls = "StepColumns$Laying" ∧ yL_ofColumn.cls ≠ "java/lang/invoke/MethodHandle" ∧ yL_ofColumn.cls ≠ "java/lang/invoke/VarHandle" ∧ (parseMethodDescriptor yL_ofColumn.desc).map (fun d => d.parameters.length) = some 2 := by decide +kernel
abbrev wL_ofColumn : List Cond := .code yL_ofColumn bL_ofColumn 5 (some .int) :: gw
abbrev bL_firstThing : ByteArray := prog_3_method_9_code
def yL_firstThing : MethodName := ⟨"StepColumns$Laying", "firstThing", "(I)I"⟩
theorem hL_firstThing : yL_firstThing.cls = "StepColumns$Laying" ∧ yL_firstThing.cls ≠ "java/lang/invoke/MethodHandle" ∧ yL_firstThing.cls ≠ "java/lang/invoke/VarHandle" ∧ (parseMethodDescriptor yL_firstThing.desc).map (fun d => d.parameters.length) = some 1 := by decide +kernel
abbrev wL_firstThing : List Cond := .code yL_firstThing bL_firstThing 3 (some .int) :: gw
abbrev bL_outAmong : ByteArray := prog_3_method_10_code
def yL_outAmong : MethodName := ⟨"StepColumns$Laying", "outAmong", "(II)I"⟩
theorem hL_outAmong : yL_outAmong.cls = "StepColumns$Laying" ∧ yL_outAmong.cls ≠ "java/lang/invoke/MethodHandle" ∧ yL_outAmong.cls ≠ "java/lang/invoke/VarHandle" ∧ (parseMethodDescriptor yL_outAmong.desc).map (fun d => d.parameters.length) = some 2 := by decide +kernel
abbrev wL_outAmong : List Cond := .code yL_outAmong bL_outAmong 5 (some .int) :: gw
abbrev bL_meetings : ByteArray := prog_3_method_11_code
def yL_meetings : MethodName := ⟨"StepColumns$Laying", "meetings", "(I)I"⟩
theorem hL_meetings : yL_meetings.cls = "StepColumns$Laying" ∧ yL_meetings.cls ≠ "java/lang/invoke/MethodHandle" ∧ yL_meetings.cls ≠ "java/lang/invoke/VarHandle" ∧ (parseMethodDescriptor yL_meetings.desc).map (fun d => d.parameters.length) = some 1 := by decide +kernel
abbrev wL_meetings : List Cond := .code yL_meetings bL_meetings 7 (some .int) :: gw
abbrev bL_isLine : ByteArray := prog_3_method_12_code
def yL_isLine : MethodName := ⟨"StepColumns$Laying", "isLine", "(I)Z"⟩
theorem hL_isLine : yL_isLine.cls = "StepColumns$Laying" ∧ yL_isLine.cls ≠ "java/lang/invoke/MethodHandle" ∧ yL_isLine.cls ≠ "java/lang/invoke/VarHandle" ∧ (parseMethodDescriptor yL_isLine.desc).map (fun d => d.parameters.length) = some 1 := by decide +kernel
abbrev wL_isLine : List Cond := .code yL_isLine bL_isLine 2 (some .boolean) :: gw
abbrev bS_init : ByteArray := prog_4_method_1_code
def yS_init : MethodName := ⟨"StepColumns$Scale", "<init>", "(LStepColumns$Book;)V"⟩
theorem hS_init : yS_init.cls = "StepColumns$Scale" ∧ yS_init.cls ≠ "java/lang/invoke/MethodHandle" ∧ yS_init.cls ≠ "java/lang/invoke/VarHandle" ∧ (parseMethodDescriptor yS_init.desc).map (fun d => d.parameters.length) = some 1 := by decide +kernel
abbrev wS_init : List Cond := .code yS_init bS_init 2 none :: gw
abbrev bS_weigh : ByteArray := prog_4_method_2_code
def yS_weigh : MethodName := ⟨"StepColumns$Scale", "weigh", "(I)I"⟩
theorem hS_weigh : yS_weigh.cls = "StepColumns$Scale" ∧ yS_weigh.cls ≠ "java/lang/invoke/MethodHandle" ∧ yS_weigh.cls ≠ "java/lang/invoke/VarHandle" ∧ (parseMethodDescriptor yS_weigh.desc).map (fun d => d.parameters.length) = some 1 := by decide +kernel
abbrev wS_weigh : List Cond := .code yS_weigh bS_weigh 2 (some .int) :: gw
abbrev bS_fewestColumns : ByteArray := prog_4_method_3_code
def yS_fewestColumns : MethodName := ⟨"StepColumns$Scale", "fewestColumns", "(I)I"⟩
theorem hS_fewestColumns : yS_fewestColumns.cls = "StepColumns$Scale" ∧ yS_fewestColumns.cls ≠ "java/lang/invoke/MethodHandle" ∧ yS_fewestColumns.cls ≠ "java/lang/invoke/VarHandle" ∧ (parseMethodDescriptor yS_fewestColumns.desc).map (fun d => d.parameters.length) = some 1 := by decide +kernel
abbrev wS_fewestColumns : List Cond := .code yS_fewestColumns bS_fewestColumns 2 (some .int) :: gw
abbrev bS_costOfAll : ByteArray := prog_4_method_4_code
def yS_costOfAll : MethodName := ⟨"StepColumns$Scale", "costOfAll", "()I"⟩
theorem hS_costOfAll : yS_costOfAll.cls = "StepColumns$Scale" ∧ yS_costOfAll.cls ≠ "java/lang/invoke/MethodHandle" ∧ yS_costOfAll.cls ≠ "java/lang/invoke/VarHandle" ∧ (parseMethodDescriptor yS_costOfAll.desc).map (fun d => d.parameters.length) = some 0 := by decide +kernel
abbrev wS_costOfAll : List Cond := .code yS_costOfAll bS_costOfAll 1 (some .int) :: gw
abbrev bS_opens : ByteArray := prog_4_method_5_code
def yS_opens : MethodName := ⟨"StepColumns$Scale", "opens", "(II)Z"⟩
theorem hS_opens : yS_opens.cls = "StepColumns$Scale" ∧ yS_opens.cls ≠ "java/lang/invoke/MethodHandle" ∧ yS_opens.cls ≠ "java/lang/invoke/VarHandle" ∧ (parseMethodDescriptor yS_opens.desc).map (fun d => d.parameters.length) = some 2 := by decide +kernel
abbrev wS_opens : List Cond := .code yS_opens bS_opens 3 (some .boolean) :: gw
abbrev bS_roomBehind : ByteArray := prog_4_method_6_code
def yS_roomBehind : MethodName := ⟨"StepColumns$Scale", "roomBehind", "(II)I"⟩
theorem hS_roomBehind : yS_roomBehind.cls = "StepColumns$Scale" ∧ yS_roomBehind.cls ≠ "java/lang/invoke/MethodHandle" ∧ yS_roomBehind.cls ≠ "java/lang/invoke/VarHandle" ∧ (parseMethodDescriptor yS_roomBehind.desc).map (fun d => d.parameters.length) = some 2 := by decide +kernel
abbrev wS_roomBehind : List Cond := .code yS_roomBehind bS_roomBehind 6 (some .int) :: gw
abbrev bS_breakBehind : ByteArray := prog_4_method_7_code
def yS_breakBehind : MethodName := ⟨"StepColumns$Scale", "breakBehind", "(III)I"⟩
theorem hS_breakBehind : yS_breakBehind.cls = "StepColumns$Scale" ∧ yS_breakBehind.cls ≠ "java/lang/invoke/MethodHandle" ∧ yS_breakBehind.cls ≠ "java/lang/invoke/VarHandle" ∧ (parseMethodDescriptor yS_breakBehind.desc).map (fun d => d.parameters.length) = some 3 := by decide +kernel
abbrev wS_breakBehind : List Cond := .code yS_breakBehind bS_breakBehind 7 (some .int) :: gw
abbrev bS_costBehind : ByteArray := prog_4_method_8_code
def yS_costBehind : MethodName := ⟨"StepColumns$Scale", "costBehind", "(II)I"⟩
theorem hS_costBehind : yS_costBehind.cls = "StepColumns$Scale" ∧ yS_costBehind.cls ≠ "java/lang/invoke/MethodHandle" ∧ yS_costBehind.cls ≠ "java/lang/invoke/VarHandle" ∧ (parseMethodDescriptor yS_costBehind.desc).map (fun d => d.parameters.length) = some 2 := by decide +kernel
abbrev wS_costBehind : List Cond := .code yS_costBehind bS_costBehind 5 (some .int) :: gw
abbrev bS_weighOnTop : ByteArray := prog_4_method_9_code
def yS_weighOnTop : MethodName := ⟨"StepColumns$Scale", "weighOnTop", "(I)V"⟩
theorem hS_weighOnTop : yS_weighOnTop.cls = "StepColumns$Scale" ∧ yS_weighOnTop.cls ≠ "java/lang/invoke/MethodHandle" ∧ yS_weighOnTop.cls ≠ "java/lang/invoke/VarHandle" ∧ (parseMethodDescriptor yS_weighOnTop.desc).map (fun d => d.parameters.length) = some 1 := by decide +kernel
abbrev wS_weighOnTop : List Cond := .code yS_weighOnTop bS_weighOnTop 3 none :: gw
abbrev bS_costWithin : ByteArray := prog_4_method_10_code
def yS_costWithin : MethodName := ⟨"StepColumns$Scale", "costWithin", "(II)I"⟩
theorem hS_costWithin : yS_costWithin.cls = "StepColumns$Scale" ∧ yS_costWithin.cls ≠ "java/lang/invoke/MethodHandle" ∧ yS_costWithin.cls ≠ "java/lang/invoke/VarHandle" ∧ (parseMethodDescriptor yS_costWithin.desc).map (fun d => d.parameters.length) = some 2 := by decide +kernel
abbrev wS_costWithin : List Cond := .code yS_costWithin bS_costWithin 7 (some .int) :: gw
abbrev bS_mostRoom : ByteArray := prog_4_method_11_code
def yS_mostRoom : MethodName := ⟨"StepColumns$Scale", "mostRoom", "(II)I"⟩
theorem hS_mostRoom : yS_mostRoom.cls = "StepColumns$Scale" ∧ yS_mostRoom.cls ≠ "java/lang/invoke/MethodHandle" ∧ yS_mostRoom.cls ≠ "java/lang/invoke/VarHandle" ∧ (parseMethodDescriptor yS_mostRoom.desc).map (fun d => d.parameters.length) = some 2 := by decide +kernel
abbrev wS_mostRoom : List Cond := .code yS_mostRoom bS_mostRoom 4 (some .int) :: gw
abbrev bS_costFrom : ByteArray := prog_4_method_12_code
def yS_costFrom : MethodName := ⟨"StepColumns$Scale", "costFrom", "(III)I"⟩
theorem hS_costFrom : yS_costFrom.cls = "StepColumns$Scale" ∧ yS_costFrom.cls ≠ "java/lang/invoke/MethodHandle" ∧ yS_costFrom.cls ≠ "java/lang/invoke/VarHandle" ∧ (parseMethodDescriptor yS_costFrom.desc).map (fun d => d.parameters.length) = some 3 := by decide +kernel
abbrev wS_costFrom : List Cond := .code yS_costFrom bS_costFrom 7 (some .int) :: gw
abbrev bS_costUpTo : ByteArray := prog_4_method_13_code
def yS_costUpTo : MethodName := ⟨"StepColumns$Scale", "costUpTo", "(IIII)I"⟩
theorem hS_costUpTo : yS_costUpTo.cls = "StepColumns$Scale" ∧ yS_costUpTo.cls ≠ "java/lang/invoke/MethodHandle" ∧ yS_costUpTo.cls ≠ "java/lang/invoke/VarHandle" ∧ (parseMethodDescriptor yS_costUpTo.desc).map (fun d => d.parameters.length) = some 4 := by decide +kernel
abbrev wS_costUpTo : List Cond := .code yS_costUpTo bS_costUpTo 8 (some .int) :: gw
abbrev bO_init : ByteArray := object_method_1_code
def yO_init : MethodName := ⟨"java/lang/Object", "<init>", "()V"⟩
theorem hO_init : yO_init.cls = "java/lang/Object" ∧ yO_init.cls ≠ "java/lang/invoke/MethodHandle" ∧ yO_init.cls ≠ "java/lang/invoke/VarHandle" ∧ (parseMethodDescriptor yO_init.desc).map (fun d => d.parameters.length) = some 0 := by decide +kernel
abbrev wO_init : List Cond := .code yO_init bO_init 1 none :: gw
abbrev bQ_max : ByteArray := prog_7_method_65_code
def yQ_max : MethodName := ⟨"java/lang/Math", "max", "(II)I"⟩
theorem hQ_max : yQ_max.cls = "java/lang/Math" ∧ yQ_max.cls ≠ "java/lang/invoke/MethodHandle" ∧ yQ_max.cls ≠ "java/lang/invoke/VarHandle" ∧ (parseMethodDescriptor yQ_max.desc).map (fun d => d.parameters.length) = some 2 := by decide +kernel
abbrev wQ_max : List Cond := .code yQ_max bQ_max 2 (some .int) :: gw
abbrev bQ_min : ByteArray := prog_7_method_69_code
def yQ_min : MethodName := ⟨"java/lang/Math", "min", "(II)I"⟩
theorem hQ_min : yQ_min.cls = "java/lang/Math" ∧ yQ_min.cls ≠ "java/lang/invoke/MethodHandle" ∧ yQ_min.cls ≠ "java/lang/invoke/VarHandle" ∧ (parseMethodDescriptor yQ_min.desc).map (fun d => d.parameters.length) = some 2 := by decide +kernel
abbrev wQ_min : List Cond := .code yQ_min bQ_min 2 (some .int) :: gw
abbrev bJ_fill : ByteArray := prog_8_method_103_code
def yJ_fill : MethodName := ⟨"java/util/Arrays", "fill", "([II)V"⟩
theorem hJ_fill : yJ_fill.cls = "java/util/Arrays" ∧ yJ_fill.cls ≠ "java/lang/invoke/MethodHandle" ∧ yJ_fill.cls ≠ "java/lang/invoke/VarHandle" ∧ (parseMethodDescriptor yJ_fill.desc).map (fun d => d.parameters.length) = some 2 := by decide +kernel
abbrev wJ_fill : List Cond := .code yJ_fill bJ_fill 4 none :: gw
end
section
/-! THE JUDGEMENT OF A BODY: SC what stays the same in it, SJ 'from here on the machine comes to Q', a row an instruction; MI, MZ, MV a method's contract with exact answer and exact cells. -/
def SC (p : Program) (s : State) (m : MethodId) (args : Array Value) (c : Code) (cc : ByteArray) (nL : Nat) (own : String) (A : Nat → Prop) (D : va_G) (tys : List (ClassId × FieldType)) : Prop :=
  p.tables.exec = Jvm.exec ∧ c.code = cc ∧ c.maxLocals = nL ∧ s.vm.findClass own = some m.cls ∧ (∀ w ∈ gw, w.before args s = true) ∧ (∀ q : Nat, s.heap.size ≤ q → A q) ∧ va_K D cl_all tys s
def SJ (p : Program) (l : Launch) (e : Env) (R : Room) (s : State) (m : MethodId) (args : Array Value) (below : List Frame) (meth : Method) (c : Code) (A : Nat → Prop) (D : va_G) (nL : Nat) (Q : State → Prop) (w : va_W) (lv : List (Nat × Value)) (pc : Nat) (st : List Value) : Prop :=
  ∀ (H : Heap) (locs : List Loc) (ls : Array Slot), va_P D cl_all w H → va_D A w → va_S A s.heap H locs → lv_has ls nL lv → W p l e R s m args below meth c H locs 0 0 Q (F0 m pc ls st)
theorem sk_fm {α β : Type} (g : α → Option β) : ∀ (is : List α) (ws : List β), is.map g = ws.map some → is.filterMap g = ws
  | [], [], _ => rfl
  | [], _ :: _, h => by simp at h
  | _ :: _, [], h => by simp at h
  | i :: is, q :: ws, h => by
    simp only [List.map_cons, List.cons.injEq] at h
    rw [List.filterMap_cons, h.1, sk_fm g is ws h.2]
theorem gw_good : ∀ w ∈ gw, w ∈ gw ∧ ((w.onTables && w.keeps) = true ∨ ∃ ty, w = .arrayClass ty) := fun _ h => ⟨h, good_of_word (List.mem_filter.mp h).2⟩
theorem gw_app {a : List Cond} {c : Cond} (ha : ∀ w ∈ a, w ∈ gw) (hc : c ∈ gw) : GoodIn gw (a ++ (c :: gw)) := fun w h => by
  rcases List.mem_append.mp h with h | h
  · exact gw_good w (ha w h)
  · rcases List.mem_cons.mp h with rfl | h
    · exact gw_good _ hc
    · exact gw_good w h
theorem gw_self {c : Cond} (hc : c ∈ gw) : GoodIn gw (c :: gw) := fun w h => by
  rcases List.mem_cons.mp h with rfl | h
  · exact gw_good _ hc
  · exact gw_good w h
theorem in_some {P : Prop} [Decidable P] {α : Type} {K : Option α} {r : α} (h : (if P then none else K) = some r) : ¬ P ∧ K = some r := by
  by_cases hP : P
  · rw [if_pos hP] at h; cases h
  · rw [if_neg hP] at h; exact ⟨hP, h⟩
theorem z01_nar {v : Int32} (h : v = 0 ∨ v = 1) : narrow .boolean (.int v) = .int v := by rcases h with rfl | rfl <;> rfl
theorem z01_fit {v : Int32} (h : v = 0 ∨ v = 1) : fits .boolean (.int v) = true := by rcases h with rfl | rfl <;> rfl
theorem z01_vp {v : Int32} (h : v = 0 ∨ v = 1) : vp_nar .boolean v = v := by rcases h with rfl | rfl <;> rfl
def MI (l : Launch) (y : MethodName) (ws : List Cond) (rm : Room) (D : va_G) (tys : List (ClassId × FieldType)) (av : List Value) (w w' : va_W) (r : Int32) : Prop := ∀ sz : Nat,
  Met l y ws rm (va_Pc av (fun U => U.heap.size = sz ∧ va_P D cl_all w U.heap ∧ va_K D cl_all tys U ∧ va_D (fun _ => True) w)) (va_Qi (fun (r' : Int32) (_ : Unit) => r' = r) (fun _ t => va_P D cl_all w' t.heap ∧ va_K D cl_all tys t ∧ va_D (va_A w sz) w') (va_A w sz)) 0 0 (va_A w sz)
def MV (l : Launch) (y : MethodName) (ws : List Cond) (rm : Room) (D : va_G) (tys : List (ClassId × FieldType)) (av : List Value) (w w' : va_W) : Prop := ∀ sz : Nat,
  Met l y ws rm (va_Pc av (fun U => U.heap.size = sz ∧ va_P D cl_all w U.heap ∧ va_K D cl_all tys U ∧ va_D (fun _ => True) w)) (va_Qv (fun (_ : Unit) => True) (fun _ t => va_P D cl_all w' t.heap ∧ va_K D cl_all tys t ∧ va_D (va_A w sz) w') (va_A w sz)) 0 0 (va_A w sz)
section SK
variable {p : Program} {l : Launch} {e : Env} {R : Room} {s : State} {m : MethodId} {args : Array Value} {below : List Frame} {meth : Method} {c : Code} {cc : ByteArray} {nL : Nat} {own : String} {A : Nat → Prop} {D : va_G} {tys : List (ClassId × FieldType)} {Q : State → Prop} {w w' : va_W} {lv lv' : List (Nat × Value)} {pc : Nat} {st : List Value}
theorem MI_of {y : MethodName} {maxL : Nat} {rm : Room} {av : List Value} {r : Int32} (own : String) (hyc : y.cls = own) (hy : plainName y.cls = true) (hle : (lg_sl av).length ≤ maxL)
    (body : ∀ p e s m below meth c A Q, SC p s m av.toArray c cc maxL own A D tys → (∀ (pc : Nat) (lv : List (Nat × Value)), decode cc pc = .ok (.ireturn, 1) → SJ p l e rm s m av.toArray below meth c A D maxL Q w' lv pc [.int r]) → SJ p l e rm s m av.toArray below meth c A D maxL Q w (lv_args 0 av) 0 []) :
    MI l y (.code y cc maxL (some .int) :: gw) rm D tys av w w' r := by
  intro sz
  refine Met.ofW (cc := cc) (maxL := maxL) (ret := some .int) hy rfl ?_
  intro p e s m args below meth c s₁ B hml hv
  obtain ⟨rfl, hsz, hP, hK, hD0⟩ := hv
  subst hsz
  have hts := atoms_spec (ws := .code y cc maxL (some .int) :: gw) B.pre
  have hown : s.vm.findClass own = some m.cls := by rw [← hyc]; exact findClass_of_methodNamed B.named
  have hlocks := B.notSynchronized
  have hr := B.returns
  rw [lg_entry_eq]
  refine body p e s m below meth c (va_A w s.heap.size) _ ⟨B.exec, B.bytes, hml, hown, fun w h => hts w (List.mem_cons_of_mem _ h), fun q h => Or.inr h, hK⟩ ?_ s.heap [] _ hP hD0.self va_S.rf (lv_entry av hle)
  intro pc lv hd H locs ls hP hD hS _
  exact W.iret (v := r) B.exec B.bytes hr (fun t ht hW => ⟨⟨r, (), rfl, rfl, by rw [ht]; exact hP, va_K.moved hW.alike hK, hD⟩, hS.F ht⟩) hS.2.2 hd
theorem MZ_of {y : MethodName} {maxL : Nat} {rm : Room} {av : List Value} {r : Int32} (own : String) (hyc : y.cls = own) (hy : plainName y.cls = true) (hle : (lg_sl av).length ≤ maxL)
    (body : ∀ p e s m below meth c A Q, SC p s m av.toArray c cc maxL own A D tys → (∀ (pc : Nat) (lv : List (Nat × Value)), (r = 0 ∨ r = 1) → decode cc pc = .ok (.ireturn, 1) → SJ p l e rm s m av.toArray below meth c A D maxL Q w' lv pc [.int r]) → SJ p l e rm s m av.toArray below meth c A D maxL Q w (lv_args 0 av) 0 []) :
    MI l y (.code y cc maxL (some .boolean) :: gw) rm D tys av w w' r := by
  intro sz
  refine Met.ofW (cc := cc) (maxL := maxL) (ret := some .boolean) hy rfl ?_
  intro p e s m args below meth c s₁ B hml hv
  obtain ⟨rfl, hsz, hP, hK, hD0⟩ := hv
  subst hsz
  have hts := atoms_spec (ws := .code y cc maxL (some .boolean) :: gw) B.pre
  have hown : s.vm.findClass own = some m.cls := by rw [← hyc]; exact findClass_of_methodNamed B.named
  have hlocks := B.notSynchronized
  have hr := B.returns
  rw [lg_entry_eq]
  refine body p e s m below meth c (va_A w s.heap.size) _ ⟨B.exec, B.bytes, hml, hown, fun w h => hts w (List.mem_cons_of_mem _ h), fun q h => Or.inr h, hK⟩ ?_ s.heap [] _ hP hD0.self va_S.rf (lv_entry av hle)
  intro pc lv h01 hd H locs ls hP hD hS _
  exact W.zret (v := r) B.exec B.bytes hr (z01_nar h01) (fun t ht hW => ⟨⟨r, (), rfl, rfl, by rw [ht]; exact hP, va_K.moved hW.alike hK, hD⟩, hS.F ht⟩) hS.2.2 hd
theorem MV_of {y : MethodName} {maxL : Nat} {rm : Room} {av : List Value} (own : String) (hyc : y.cls = own) (hy : plainName y.cls = true) (hle : (lg_sl av).length ≤ maxL)
    (body : ∀ p e s m below meth c A Q, SC p s m av.toArray c cc maxL own A D tys → (∀ (pc : Nat) (lv : List (Nat × Value)), decode cc pc = .ok (.return_, 1) → SJ p l e rm s m av.toArray below meth c A D maxL Q w' lv pc []) → SJ p l e rm s m av.toArray below meth c A D maxL Q w (lv_args 0 av) 0 []) :
    MV l y (.code y cc maxL none :: gw) rm D tys av w w' := by
  intro sz
  refine Met.ofW (cc := cc) (maxL := maxL) (ret := none) hy rfl ?_
  intro p e s m args below meth c s₁ B hml hv
  obtain ⟨rfl, hsz, hP, hK, hD0⟩ := hv
  subst hsz
  have hts := atoms_spec (ws := .code y cc maxL none :: gw) B.pre
  have hown : s.vm.findClass own = some m.cls := by rw [← hyc]; exact findClass_of_methodNamed B.named
  have hlocks := B.notSynchronized
  have hr := B.returns
  rw [lg_entry_eq]
  refine body p e s m below meth c (va_A w s.heap.size) _ ⟨B.exec, B.bytes, hml, hown, fun w h => hts w (List.mem_cons_of_mem _ h), fun q h => Or.inr h, hK⟩ ?_ s.heap [] _ hP hD0.self va_S.rf (lv_entry av hle)
  intro pc lv hd H locs ls hP hD hS _
  exact W.vret B.exec B.bytes hr (fun t ht hW => ⟨⟨(), rfl, trivial, by rw [ht]; exact hP, va_K.moved hW.alike hK, hD⟩, hS.F ht⟩) hS.2.2 hd
theorem sj_iconst (C : SC p s m args c cc nL own A D tys) {n : Int} {v : Int32} (hd : decode cc pc = .ok (.iconst n, 1)) (hv : Int32.ofInt n = v) (k : SJ p l e R s m args below meth c A D nL Q w lv (pc + 1) (.int v :: st)) : SJ p l e R s m args below meth c A D nL Q w lv pc st := fun H locs ls hP hD hS hl => lv_iconst C.1 C.2.1 hd hv (k H locs ls hP hD hS hl)
theorem sj_bipush (C : SC p s m args c cc nL own A D tys) {n : Int} {v : Int32} (hd : decode cc pc = .ok (.bipush n, 2)) (hv : (Int8.ofInt n).toInt32 = v) (k : SJ p l e R s m args below meth c A D nL Q w lv (pc + 2) (.int v :: st)) : SJ p l e R s m args below meth c A D nL Q w lv pc st := fun H locs ls hP hD hS hl => lv_bipush C.1 C.2.1 hd hv (k H locs ls hP hD hS hl)
theorem sj_sipush (C : SC p s m args c cc nL own A D tys) {n : Int} {v : Int32} (hd : decode cc pc = .ok (.sipush n, 3)) (hv : (Int16.ofInt n).toInt32 = v) (k : SJ p l e R s m args below meth c A D nL Q w lv (pc + 3) (.int v :: st)) : SJ p l e R s m args below meth c A D nL Q w lv pc st := fun H locs ls hP hD hS hl => lv_sipush C.1 C.2.1 hd hv (k H locs ls hP hD hS hl)
theorem sj_ldc (C : SC p s m args c cc nL own A D tys) {i : Nat} {v : Int32} (hw : Cond.constant own i v ∈ gw) (hd : decode cc pc = .ok (.ldc i, 2)) (k : SJ p l e R s m args below meth c A D nL Q w lv (pc + 2) (.int v :: st)) : SJ p l e R s m args below meth c A D nL Q w lv pc st := fun H locs ls hP hD hS hl => lv_ldc C.1 C.2.1 C.2.2.2.1 (C.2.2.2.2.1 _ hw) hd (k H locs ls hP hD hS hl)
theorem sj_iload_n (C : SC p s m args c cc nL own A D tys) {f : Fin 4} {i : Nat} {x : Int32} (hd : decode cc pc = .ok (.iload_n f, 1)) (j : Nat) (hj : lv[j]? = some (i, .int x)) (hi : (f : Nat) = i) (k : SJ p l e R s m args below meth c A D nL Q w lv (pc + 1) (.int x :: st)) : SJ p l e R s m args below meth c A D nL Q w lv pc st := fun H locs ls hP hD hS hl => lv_iload_n C.1 C.2.1 hd hi (lv_at hl j hj) (k H locs ls hP hD hS hl)
theorem sj_iload (C : SC p s m args c cc nL own A D tys) {i : Nat} {x : Int32} (hd : decode cc pc = .ok (.iload i, 2)) (j : Nat) (hj : lv[j]? = some (i, .int x)) (k : SJ p l e R s m args below meth c A D nL Q w lv (pc + 2) (.int x :: st)) : SJ p l e R s m args below meth c A D nL Q w lv pc st := fun H locs ls hP hD hS hl => lv_iload C.1 C.2.1 hd (lv_at hl j hj) (k H locs ls hP hD hS hl)
theorem sj_aload_n (C : SC p s m args c cc nL own A D tys) {f : Fin 4} {i : Nat} {x : Nat} (hd : decode cc pc = .ok (.aload_n f, 1)) (j : Nat) (hj : lv[j]? = some (i, .ref x)) (hi : (f : Nat) = i) (k : SJ p l e R s m args below meth c A D nL Q w lv (pc + 1) (.ref x :: st)) : SJ p l e R s m args below meth c A D nL Q w lv pc st := fun H locs ls hP hD hS hl => lv_aload_n C.1 C.2.1 hd hi (lv_at hl j hj) (k H locs ls hP hD hS hl)
theorem sj_istore_n (C : SC p s m args c cc nL own A D tys) {f : Fin 4} {i : Nat} {x : Int32} (hd : decode cc pc = .ok (.istore_n f, 1)) (hi : (f : Nat) = i) (hn : i < nL) (hl' : (i, Value.int x) :: lv.filter (fun q => !(q.1 == i) && !(q.1 + 1 == i && q.2.category == 2)) = lv') (k : SJ p l e R s m args below meth c A D nL Q w lv' (pc + 1) st) : SJ p l e R s m args below meth c A D nL Q w lv pc (.int x :: st) := fun H locs ls hP hD hS hl => lv_istore_n C.1 C.2.1 hd hi hl hn hl' (fun ls' h' => k H locs ls' hP hD hS h')
theorem sj_istore (C : SC p s m args c cc nL own A D tys) {i : Nat} {x : Int32} (hd : decode cc pc = .ok (.istore i, 2)) (hn : i < nL) (hl' : (i, Value.int x) :: lv.filter (fun q => !(q.1 == i) && !(q.1 + 1 == i && q.2.category == 2)) = lv') (k : SJ p l e R s m args below meth c A D nL Q w lv' (pc + 2) st) : SJ p l e R s m args below meth c A D nL Q w lv pc (.int x :: st) := fun H locs ls hP hD hS hl => lv_istore C.1 C.2.1 hd hl hn hl' (fun ls' h' => k H locs ls' hP hD hS h')
theorem sj_iinc (C : SC p s m args c cc nL own A D tys) {i : Nat} {n : Int} {x v : Int32} (hd : decode cc pc = .ok (.iinc i n, 3)) (j : Nat) (hj : lv[j]? = some (i, .int x)) (hv : x + Int32.ofInt n = v) (hn : i < nL) (hl' : (i, Value.int v) :: lv.filter (fun q => !(q.1 == i) && !(q.1 + 1 == i && q.2.category == 2)) = lv') (k : SJ p l e R s m args below meth c A D nL Q w lv' (pc + 3) st) : SJ p l e R s m args below meth c A D nL Q w lv pc st := fun H locs ls hP hD hS hl => lv_iinc C.1 C.2.1 hd hl hj hv hn hl' (fun ls' h' => k H locs ls' hP hD hS h')
theorem sj_iadd (C : SC p s m args c cc nL own A D tys) {x y : Int32} (hd : decode cc pc = .ok (.iadd, 1)) (k : SJ p l e R s m args below meth c A D nL Q w lv (pc + 1) (.int (x + y) :: st)) : SJ p l e R s m args below meth c A D nL Q w lv pc (.int y :: .int x :: st) := fun H locs ls hP hD hS hl => lv_iadd C.1 C.2.1 hd (k H locs ls hP hD hS hl)
theorem sj_isub (C : SC p s m args c cc nL own A D tys) {x y : Int32} (hd : decode cc pc = .ok (.isub, 1)) (k : SJ p l e R s m args below meth c A D nL Q w lv (pc + 1) (.int (x - y) :: st)) : SJ p l e R s m args below meth c A D nL Q w lv pc (.int y :: .int x :: st) := fun H locs ls hP hD hS hl => lv_isub C.1 C.2.1 hd (k H locs ls hP hD hS hl)
theorem sj_imul (C : SC p s m args c cc nL own A D tys) {x y : Int32} (hd : decode cc pc = .ok (.imul, 1)) (k : SJ p l e R s m args below meth c A D nL Q w lv (pc + 1) (.int (x * y) :: st)) : SJ p l e R s m args below meth c A D nL Q w lv pc (.int y :: .int x :: st) := fun H locs ls hP hD hS hl => lv_imul C.1 C.2.1 hd (k H locs ls hP hD hS hl)
theorem sj_iand (C : SC p s m args c cc nL own A D tys) {x y : Int32} (hd : decode cc pc = .ok (.iand, 1)) (k : SJ p l e R s m args below meth c A D nL Q w lv (pc + 1) (.int (x &&& y) :: st)) : SJ p l e R s m args below meth c A D nL Q w lv pc (.int y :: .int x :: st) := fun H locs ls hP hD hS hl => lv_iand C.1 C.2.1 hd (k H locs ls hP hD hS hl)
theorem sj_ior (C : SC p s m args c cc nL own A D tys) {x y : Int32} (hd : decode cc pc = .ok (.ior, 1)) (k : SJ p l e R s m args below meth c A D nL Q w lv (pc + 1) (.int (x ||| y) :: st)) : SJ p l e R s m args below meth c A D nL Q w lv pc (.int y :: .int x :: st) := fun H locs ls hP hD hS hl => lv_ior C.1 C.2.1 hd (k H locs ls hP hD hS hl)
theorem sj_ishl (C : SC p s m args c cc nL own A D tys) {x y : Int32} (hd : decode cc pc = .ok (.ishl, 1)) (k : SJ p l e R s m args below meth c A D nL Q w lv (pc + 1) (.int (x <<< (y &&& 31)) :: st)) : SJ p l e R s m args below meth c A D nL Q w lv pc (.int y :: .int x :: st) := fun H locs ls hP hD hS hl => lv_ishl C.1 C.2.1 hd (k H locs ls hP hD hS hl)
theorem sj_ishr (C : SC p s m args c cc nL own A D tys) {x y : Int32} (hd : decode cc pc = .ok (.ishr, 1)) (k : SJ p l e R s m args below meth c A D nL Q w lv (pc + 1) (.int (x >>> (y &&& 31)) :: st)) : SJ p l e R s m args below meth c A D nL Q w lv pc (.int y :: .int x :: st) := fun H locs ls hP hD hS hl => lv_ishr C.1 C.2.1 hd (k H locs ls hP hD hS hl)
theorem sj_idiv (C : SC p s m args c cc nL own A D tys) {x y : Int32} (hd : decode cc pc = .ok (.idiv, 1)) (hne : ¬ y = 0) (k : SJ p l e R s m args below meth c A D nL Q w lv (pc + 1) (.int (x / y) :: st)) : SJ p l e R s m args below meth c A D nL Q w lv pc (.int y :: .int x :: st) := fun H locs ls hP hD hS hl => lv_idiv C.1 C.2.1 hd hne (k H locs ls hP hD hS hl)
theorem sj_irem (C : SC p s m args c cc nL own A D tys) {x y : Int32} (hd : decode cc pc = .ok (.irem, 1)) (hne : ¬ y = 0) (k : SJ p l e R s m args below meth c A D nL Q w lv (pc + 1) (.int (x - x / y * y) :: st)) : SJ p l e R s m args below meth c A D nL Q w lv pc (.int y :: .int x :: st) := fun H locs ls hP hD hS hl => lv_irem C.1 C.2.1 hd hne (k H locs ls hP hD hS hl)
theorem sj_dup (C : SC p s m args c cc nL own A D tys) {va : Value} (hd : decode cc pc = .ok (.dup, 1)) (hva : va.category = 1) (k : SJ p l e R s m args below meth c A D nL Q w lv (pc + 1) (va :: va :: st)) : SJ p l e R s m args below meth c A D nL Q w lv pc (va :: st) := fun H locs ls hP hD hS hl => lv_dup C.1 C.2.1 hd hva (k H locs ls hP hD hS hl)
theorem sj_dup2 (C : SC p s m args c cc nL own A D tys) {va vb : Value} (hd : decode cc pc = .ok (.dup2, 1)) (hva : va.category = 1) (hvb : vb.category = 1) (k : SJ p l e R s m args below meth c A D nL Q w lv (pc + 1) (va :: vb :: va :: vb :: st)) : SJ p l e R s m args below meth c A D nL Q w lv pc (va :: vb :: st) := fun H locs ls hP hD hS hl => lv_dup2_11 C.1 C.2.1 hd hva hvb (k H locs ls hP hD hS hl)
theorem sj_goto (C : SC p s m args c cc nL own A D tys) {off : Int} (tgt : Nat) (hd : decode cc pc = .ok (.goto off, 3)) (ht : (pc : Int) + off = (tgt : Int)) (k : SJ p l e R s m args below meth c A D nL Q w lv tgt st) : SJ p l e R s m args below meth c A D nL Q w lv pc st := fun H locs ls hP hD hS hl => lv_goto C.1 C.2.1 hd ht (k H locs ls hP hD hS hl)
theorem sj_icmp_eq (C : SC p s m args c cc nL own A D tys) {x y : Int32} {off : Int} (tgt : Nat) (hd : decode cc pc = .ok (.if_icmp .eq off, 3)) (ht : (pc : Int) + off = (tgt : Int)) (kt : x = y → SJ p l e R s m args below meth c A D nL Q w lv tgt st) (kf : ¬ x = y → SJ p l e R s m args below meth c A D nL Q w lv (pc + 3) st) : SJ p l e R s m args below meth c A D nL Q w lv pc (.int y :: .int x :: st) := fun H locs ls hP hD hS hl => lv_icmp_eq C.1 C.2.1 hd ht (fun q => kt q H locs ls hP hD hS hl) (fun q => kf q H locs ls hP hD hS hl)
theorem sj_icmp_ne (C : SC p s m args c cc nL own A D tys) {x y : Int32} {off : Int} (tgt : Nat) (hd : decode cc pc = .ok (.if_icmp .ne off, 3)) (ht : (pc : Int) + off = (tgt : Int)) (kt : ¬ x = y → SJ p l e R s m args below meth c A D nL Q w lv tgt st) (kf : x = y → SJ p l e R s m args below meth c A D nL Q w lv (pc + 3) st) : SJ p l e R s m args below meth c A D nL Q w lv pc (.int y :: .int x :: st) := fun H locs ls hP hD hS hl => lv_icmp_ne C.1 C.2.1 hd ht (fun q => kt q H locs ls hP hD hS hl) (fun q => kf q H locs ls hP hD hS hl)
theorem sj_icmp_lt (C : SC p s m args c cc nL own A D tys) {x y : Int32} {off : Int} (tgt : Nat) (hd : decode cc pc = .ok (.if_icmp .lt off, 3)) (ht : (pc : Int) + off = (tgt : Int)) (kt : x < y → SJ p l e R s m args below meth c A D nL Q w lv tgt st) (kf : ¬ x < y → SJ p l e R s m args below meth c A D nL Q w lv (pc + 3) st) : SJ p l e R s m args below meth c A D nL Q w lv pc (.int y :: .int x :: st) := fun H locs ls hP hD hS hl => lv_icmp_lt C.1 C.2.1 hd ht (fun q => kt q H locs ls hP hD hS hl) (fun q => kf q H locs ls hP hD hS hl)
theorem sj_icmp_ge (C : SC p s m args c cc nL own A D tys) {x y : Int32} {off : Int} (tgt : Nat) (hd : decode cc pc = .ok (.if_icmp .ge off, 3)) (ht : (pc : Int) + off = (tgt : Int)) (kt : y ≤ x → SJ p l e R s m args below meth c A D nL Q w lv tgt st) (kf : ¬ y ≤ x → SJ p l e R s m args below meth c A D nL Q w lv (pc + 3) st) : SJ p l e R s m args below meth c A D nL Q w lv pc (.int y :: .int x :: st) := fun H locs ls hP hD hS hl => lv_icmp_ge C.1 C.2.1 hd ht (fun q => kt q H locs ls hP hD hS hl) (fun q => kf q H locs ls hP hD hS hl)
theorem sj_icmp_gt (C : SC p s m args c cc nL own A D tys) {x y : Int32} {off : Int} (tgt : Nat) (hd : decode cc pc = .ok (.if_icmp .gt off, 3)) (ht : (pc : Int) + off = (tgt : Int)) (kt : y < x → SJ p l e R s m args below meth c A D nL Q w lv tgt st) (kf : ¬ y < x → SJ p l e R s m args below meth c A D nL Q w lv (pc + 3) st) : SJ p l e R s m args below meth c A D nL Q w lv pc (.int y :: .int x :: st) := fun H locs ls hP hD hS hl => lv_icmp_gt C.1 C.2.1 hd ht (fun q => kt q H locs ls hP hD hS hl) (fun q => kf q H locs ls hP hD hS hl)
theorem sj_icmp_le (C : SC p s m args c cc nL own A D tys) {x y : Int32} {off : Int} (tgt : Nat) (hd : decode cc pc = .ok (.if_icmp .le off, 3)) (ht : (pc : Int) + off = (tgt : Int)) (kt : x ≤ y → SJ p l e R s m args below meth c A D nL Q w lv tgt st) (kf : ¬ x ≤ y → SJ p l e R s m args below meth c A D nL Q w lv (pc + 3) st) : SJ p l e R s m args below meth c A D nL Q w lv pc (.int y :: .int x :: st) := fun H locs ls hP hD hS hl => lv_icmp_le C.1 C.2.1 hd ht (fun q => kt q H locs ls hP hD hS hl) (fun q => kf q H locs ls hP hD hS hl)
theorem sj_if_eq (C : SC p s m args c cc nL own A D tys) {x : Int32} {off : Int} (tgt : Nat) (hd : decode cc pc = .ok (.ifCond .eq off, 3)) (ht : (pc : Int) + off = (tgt : Int)) (kt : x = 0 → SJ p l e R s m args below meth c A D nL Q w lv tgt st) (kf : ¬ x = 0 → SJ p l e R s m args below meth c A D nL Q w lv (pc + 3) st) : SJ p l e R s m args below meth c A D nL Q w lv pc (.int x :: st) := fun H locs ls hP hD hS hl => lv_if_eq C.1 C.2.1 hd ht (fun q => kt q H locs ls hP hD hS hl) (fun q => kf q H locs ls hP hD hS hl)
theorem sj_if_ne (C : SC p s m args c cc nL own A D tys) {x : Int32} {off : Int} (tgt : Nat) (hd : decode cc pc = .ok (.ifCond .ne off, 3)) (ht : (pc : Int) + off = (tgt : Int)) (kt : ¬ x = 0 → SJ p l e R s m args below meth c A D nL Q w lv tgt st) (kf : x = 0 → SJ p l e R s m args below meth c A D nL Q w lv (pc + 3) st) : SJ p l e R s m args below meth c A D nL Q w lv pc (.int x :: st) := fun H locs ls hP hD hS hl => lv_if_ne C.1 C.2.1 hd ht (fun q => kt q H locs ls hP hD hS hl) (fun q => kf q H locs ls hP hD hS hl)
theorem sj_if_lt (C : SC p s m args c cc nL own A D tys) {x : Int32} {off : Int} (tgt : Nat) (hd : decode cc pc = .ok (.ifCond .lt off, 3)) (ht : (pc : Int) + off = (tgt : Int)) (kt : x < 0 → SJ p l e R s m args below meth c A D nL Q w lv tgt st) (kf : ¬ x < 0 → SJ p l e R s m args below meth c A D nL Q w lv (pc + 3) st) : SJ p l e R s m args below meth c A D nL Q w lv pc (.int x :: st) := fun H locs ls hP hD hS hl => lv_if_lt C.1 C.2.1 hd ht (fun q => kt q H locs ls hP hD hS hl) (fun q => kf q H locs ls hP hD hS hl)
theorem sj_if_ge (C : SC p s m args c cc nL own A D tys) {x : Int32} {off : Int} (tgt : Nat) (hd : decode cc pc = .ok (.ifCond .ge off, 3)) (ht : (pc : Int) + off = (tgt : Int)) (kt : 0 ≤ x → SJ p l e R s m args below meth c A D nL Q w lv tgt st) (kf : ¬ 0 ≤ x → SJ p l e R s m args below meth c A D nL Q w lv (pc + 3) st) : SJ p l e R s m args below meth c A D nL Q w lv pc (.int x :: st) := fun H locs ls hP hD hS hl => lv_if_ge C.1 C.2.1 hd ht (fun q => kt q H locs ls hP hD hS hl) (fun q => kf q H locs ls hP hD hS hl)
theorem sj_if_gt (C : SC p s m args c cc nL own A D tys) {x : Int32} {off : Int} (tgt : Nat) (hd : decode cc pc = .ok (.ifCond .gt off, 3)) (ht : (pc : Int) + off = (tgt : Int)) (kt : 0 < x → SJ p l e R s m args below meth c A D nL Q w lv tgt st) (kf : ¬ 0 < x → SJ p l e R s m args below meth c A D nL Q w lv (pc + 3) st) : SJ p l e R s m args below meth c A D nL Q w lv pc (.int x :: st) := fun H locs ls hP hD hS hl => lv_if_gt C.1 C.2.1 hd ht (fun q => kt q H locs ls hP hD hS hl) (fun q => kf q H locs ls hP hD hS hl)
theorem sj_if_le (C : SC p s m args c cc nL own A D tys) {x : Int32} {off : Int} (tgt : Nat) (hd : decode cc pc = .ok (.ifCond .le off, 3)) (ht : (pc : Int) + off = (tgt : Int)) (kt : x ≤ 0 → SJ p l e R s m args below meth c A D nL Q w lv tgt st) (kf : ¬ x ≤ 0 → SJ p l e R s m args below meth c A D nL Q w lv (pc + 3) st) : SJ p l e R s m args below meth c A D nL Q w lv pc (.int x :: st) := fun H locs ls hP hD hS hl => lv_if_le C.1 C.2.1 hd ht (fun q => kt q H locs ls hP hD hS hl) (fun q => kf q H locs ls hP hD hS hl)
theorem sj_tabIn (C : SC p s m args c cc nL own A D tys) {dflt lo hi : Int} {offs : Array Int} {len : Nat} {x : Int32} {off : Int} (tgt : Nat) (z : Int32) (hz : x = z) (hd : decode cc pc = .ok (.tableswitch dflt lo hi offs, len)) (h1 : ¬ z.toInt < lo) (h2 : ¬ hi < z.toInt) (ho : offs[(z.toInt - lo).toNat]? = some off) (ht : (pc : Int) + off = (tgt : Int)) (k : SJ p l e R s m args below meth c A D nL Q w lv tgt st) : SJ p l e R s m args below meth c A D nL Q w lv pc (.int x :: st) := fun H locs ls hP hD hS hl => by
  subst hz
  exact lv_tableIn C.1 C.2.1 hd h1 h2 ho ht (k H locs ls hP hD hS hl)
theorem sj_tabOut (C : SC p s m args c cc nL own A D tys) {dflt lo hi : Int} {offs : Array Int} {len : Nat} {x : Int32} (tgt : Nat) (hd : decode cc pc = .ok (.tableswitch dflt lo hi offs, len)) (h : x.toInt < lo ∨ hi < x.toInt) (ht : (pc : Int) + dflt = (tgt : Int)) (k : SJ p l e R s m args below meth c A D nL Q w lv tgt st) : SJ p l e R s m args below meth c A D nL Q w lv pc (.int x :: st) := fun H locs ls hP hD hS hl => lv_tableOut C.1 C.2.1 hd h ht (k H locs ls hP hD hS hl)
theorem sj_lookup (C : SC p s m args c cc nL own A D tys) {dflt : Int} {ps : Array (Int × Int)} {len : Nat} {x : Int32} {off : Int} (tgt : Nat) (hd : decode cc pc = .ok (.lookupswitch dflt ps, len)) (hp : (ps.toList.zip (ps.toList.drop 1)).all (fun (a, next) => a.1 < next.1) = true) (ho : Op.lookupswitch.offset ps.toList dflt x.toInt = off) (ht : (pc : Int) + off = (tgt : Int)) (k : SJ p l e R s m args below meth c A D nL Q w lv tgt st) : SJ p l e R s m args below meth c A D nL Q w lv pc (.int x :: st) := fun H locs ls hP hD hS hl => lv_lookup C.1 C.2.1 hd hp ho ht (k H locs ls hP hD hS hl)
theorem sj_get (C : SC p s m args c cc nL own A D tys) {ref Cn : String} {T : u_T} {N ci i a : Nat} (hin : ∀ w ∈ u_ws Cn T N, w ∈ gw) (q0 : Nat) {fs : List Value} (he : w[q0]? = some (a, .inr (ci, fs))) (hc : cl_all[ci]? = some (Cn, T, N)) (f : Nat) (hk : f < N) (hw : Cond.fieldLink own i ref (T f).2.1 (T f).2.2.1 ∈ gw) (href : (T f).1 = ref) {v : Value} (hv : fs[f]? = some v) (hd : decode cc pc = .ok (.getfield i, 3)) (k : SJ p l e R s m args below meth c A D nL Q w lv (pc + 3) (v :: st)) : SJ p l e R s m args below meth c A D nL Q w lv pc (.ref a :: st) := fun H locs ls hP hD hS hl => by
  subst href
  exact va_get C.1 C.2.1 C.2.2.2.2.1 hin C.2.2.2.1 C.2.2.2.2.2.2 hP q0 he hc f hk (C.2.2.2.2.1 _ hw) (fun _ h => h) hv hd (k H locs ls hP hD hS hl)
theorem sj_put (C : SC p s m args c cc nL own A D tys) {ref Cn : String} {T : u_T} {N ci i a : Nat} (hin : ∀ w ∈ u_ws Cn T N, w ∈ gw) (ty0 : Nat → FieldType) (hty : ∀ k, k < N → parseFieldDescriptor (T k).2.2.1 = some (ty0 k)) (hnm : ∀ a, a < N → ∀ b, b < N → a ≠ b → (T a).2.1 ≠ (T b).2.1) (q0 : Nat) {fs : List Value} (he : w[q0]? = some (a, .inr (ci, fs))) (hc : cl_all[ci]? = some (Cn, T, N)) (f : Nat) (hk : f < N) (hw : Cond.fieldLink own i ref (T f).2.1 (T f).2.2.1 ∈ gw) (href : (T f).1 = ref) (hfin : (T f).2.2.2 = false) {v : Value} (hn : narrow (ty0 f) v = v) (hfit : fits (ty0 f) v = true) (hlen : f < fs.length) (hd : decode cc pc = .ok (.putfield i, 3)) (hw' : w.set q0 (a, .inr (ci, fs.set f v)) = w') (k : SJ p l e R s m args below meth c A D nL Q w' lv (pc + 3) st) : SJ p l e R s m args below meth c A D nL Q w lv pc (v :: .ref a :: st) := fun H locs ls hP hD hS hl => by
  subst href
  subst hw'
  exact va_put C.1 C.2.1 C.2.2.2.2.1 hin ty0 hty hnm C.2.2.2.1 C.2.2.2.2.2.2 hP hD hS q0 he hc f hk (C.2.2.2.2.1 _ hw) (fun _ h => h) hfin (hty f hk) hn hfit hlen hd (fun H1 l1 hP hD hS => k H1 l1 ls hP hD hS hl)
theorem sj_iald (C : SC p s m args c cc nL own A D tys) {a : Nat} (q0 t0 : Nat) {cA : ClassId} {n : Nat} {f : Nat → Int32} (ha : w[q0]? = some (a, .inl (cA, n, .inl f))) (ht : tys[t0]? = some (cA, .int)) {i : Int32} (hin : ¬ (i < 0 ∨ n ≤ i.toNatClampNeg)) {j : Nat} (hj : i.toNatClampNeg = j) (hd : decode cc pc = .ok (.iaload, 1)) (k : SJ p l e R s m args below meth c A D nL Q w lv (pc + 1) (.int (f j) :: st)) : SJ p l e R s m args below meth c A D nL Q w lv pc (.int i :: .ref a :: st) := fun H locs ls hP hD hS hl => by
  subst hj
  exact va_iald C.1 C.2.1 C.2.2.2.2.2.2 hP q0 t0 ha ht hin hd (k H locs ls hP hD hS hl)
theorem sj_zald (C : SC p s m args c cc nL own A D tys) {a : Nat} (q0 t0 : Nat) {cA : ClassId} {n : Nat} {f : Nat → Int32} (ha : w[q0]? = some (a, .inl (cA, n, .inl f))) (ht : tys[t0]? = some (cA, .boolean)) {i : Int32} (hin : ¬ (i < 0 ∨ n ≤ i.toNatClampNeg)) {j : Nat} (hj : i.toNatClampNeg = j) (hd : decode cc pc = .ok (.baload, 1)) (k : SJ p l e R s m args below meth c A D nL Q w lv (pc + 1) (.int (f j) :: st)) : SJ p l e R s m args below meth c A D nL Q w lv pc (.int i :: .ref a :: st) := fun H locs ls hP hD hS hl => by
  subst hj
  exact va_zald C.1 C.2.1 C.2.2.2.2.2.2 hP q0 t0 ha ht hin hd (k H locs ls hP hD hS hl)
theorem sj_iast (C : SC p s m args c cc nL own A D tys) {a : Nat} (q0 t0 : Nat) {cA : ClassId} {n : Nat} {f : Nat → Int32} (ha : w[q0]? = some (a, .inl (cA, n, .inl f))) (ht : tys[t0]? = some (cA, .int)) {i x : Int32} (hin : ¬ (i < 0 ∨ n ≤ i.toNatClampNeg)) {j : Nat} (hj : i.toNatClampNeg = j) (hd : decode cc pc = .ok (.iastore, 1)) (hw' : w.set q0 (a, .inl (cA, n, .inl (upd f j x))) = w') (k : SJ p l e R s m args below meth c A D nL Q w' lv (pc + 1) st) : SJ p l e R s m args below meth c A D nL Q w lv pc (.int x :: .int i :: .ref a :: st) := fun H locs ls hP hD hS hl => by
  subst hj
  subst hw'
  exact va_iast C.1 C.2.1 C.2.2.2.2.2.2 hP hD hS q0 t0 ha ht hin hd (fun H1 l1 hP hD hS => k H1 l1 ls hP hD hS hl)
theorem sj_zast (C : SC p s m args c cc nL own A D tys) {a : Nat} (q0 t0 : Nat) {cA : ClassId} {n : Nat} {f : Nat → Int32} (ha : w[q0]? = some (a, .inl (cA, n, .inl f))) (ht : tys[t0]? = some (cA, .boolean)) {i x : Int32} (hx : x = 0 ∨ x = 1) (hin : ¬ (i < 0 ∨ n ≤ i.toNatClampNeg)) {j : Nat} (hj : i.toNatClampNeg = j) (hd : decode cc pc = .ok (.bastore, 1)) (hw' : w.set q0 (a, .inl (cA, n, .inl (upd f j x))) = w') (k : SJ p l e R s m args below meth c A D nL Q w' lv (pc + 1) st) : SJ p l e R s m args below meth c A D nL Q w lv pc (.int x :: .int i :: .ref a :: st) := fun H locs ls hP hD hS hl => by
  subst hj
  subst hw'
  refine va_zast C.1 C.2.1 C.2.2.2.2.2.2 hP hD hS q0 t0 ha ht hin hd (fun H1 l1 hP hD hS => ?_)
  rw [z01_vp hx] at hP hD
  exact k H1 l1 ls hP hD hS hl
theorem sj_alen (C : SC p s m args c cc nL own A D tys) {a : Nat} (q0 t0 : Nat) {cA : ClassId} {x : vp_A} (ha : w[q0]? = some (a, .inl (cA, x))) {ty : FieldType} (ht : tys[t0]? = some (cA, ty)) {v : Int32} (hv : Int32.ofNat x.1 = v) (hd : decode cc pc = .ok (.arraylength, 1)) (k : SJ p l e R s m args below meth c A D nL Q w lv (pc + 1) (.int v :: st)) : SJ p l e R s m args below meth c A D nL Q w lv pc (.ref a :: st) := fun H locs ls hP hD hS hl => va_alen C.1 C.2.1 C.2.2.2.2.2.2 hP q0 t0 ha ht hv hd (k H locs ls hP hD hS hl)
theorem sj_aald (C : SC p s m args c cc nL own A D tys) {a : Nat} (q0 t0 : Nat) {cA : ClassId} {Cn : String} {n : Nat} {f : Nat → Option Nat} (ha : w[q0]? = some (a, .inl (cA, n, .inr (.inr (.inr (.inr f)))))) (ht : tys[t0]? = some (cA, .object Cn)) {i : Int32} (hin : ¬ (i < 0 ∨ n ≤ i.toNatClampNeg)) {b : Nat} (hj : f i.toNatClampNeg = some b) (hd : decode cc pc = .ok (.aaload, 1)) (k : SJ p l e R s m args below meth c A D nL Q w lv (pc + 1) (.ref b :: st)) : SJ p l e R s m args below meth c A D nL Q w lv pc (.int i :: .ref a :: st) := fun H locs ls hP hD hS hl => by
  refine va_aldq C.1 C.2.1 C.2.2.2.2.2.2 hP q0 t0 ha ht hin hd ?_
  rw [hj]
  exact k H locs ls hP hD hS hl
theorem sj_mmin (C : SC p s m args c cc nL own A D tys) {i : Nat} (h1 : Cond.methodLink own i Lib.Math.min.name ∈ gw) (h2 : Cond.static Lib.Math.min.name ∈ gw) (h3 : Cond.initialized "java/lang/Math" ∈ gw) (h4 : Cond.code Lib.Math.min.name Lib.Math.min.code 2 (some .int) ∈ gw) (hf : 1 ≤ R.frames) (hloc : (st.map fun v => v.category).sum + 13 ≤ R.locals) {x y : Int32} (hd : decode cc pc = .ok (.invokestatic i, 3)) (k : SJ p l e R s m args below meth c A D nL Q w lv (pc + 3) (.int (if y < x then y else x) :: st)) : SJ p l e R s m args below meth c A D nL Q w lv pc (.int y :: .int x :: st) := fun H locs ls hP hD hS hl => va_mmin C.1 C.2.1 (by rw [C.2.2.1]; exact hl.1.symm) C.2.2.2.1 (C.2.2.2.2.1 _ h1) (C.2.2.2.2.1 _ h2) (C.2.2.2.2.1 _ h3) (C.2.2.2.2.1 _ h4) hf hloc (Nat.zero_le _) (Nat.zero_le _) hd (k H locs ls hP hD hS hl)
theorem sj_mmax (C : SC p s m args c cc nL own A D tys) {i : Nat} (h1 : Cond.methodLink own i Lib.Math.max.name ∈ gw) (h2 : Cond.static Lib.Math.max.name ∈ gw) (h3 : Cond.initialized "java/lang/Math" ∈ gw) (h4 : Cond.code Lib.Math.max.name Lib.Math.max.code 2 (some .int) ∈ gw) (hf : 1 ≤ R.frames) (hloc : (st.map fun v => v.category).sum + 13 ≤ R.locals) {x y : Int32} (hd : decode cc pc = .ok (.invokestatic i, 3)) (k : SJ p l e R s m args below meth c A D nL Q w lv (pc + 3) (.int (if x < y then y else x) :: st)) : SJ p l e R s m args below meth c A D nL Q w lv pc (.int y :: .int x :: st) := fun H locs ls hP hD hS hl => va_mmax C.1 C.2.1 (by rw [C.2.2.1]; exact hl.1.symm) C.2.2.2.1 (C.2.2.2.2.1 _ h1) (C.2.2.2.2.1 _ h2) (C.2.2.2.2.1 _ h3) (C.2.2.2.2.1 _ h4) hf hloc (Nat.zero_le _) (Nat.zero_le _) hd (k H locs ls hP hD hS hl)
theorem sj_lv (ks : List Nat) (h : lv_pick lv ks = lv') (k : SJ p l e R s m args below meth c A D nL Q w lv' pc st) : SJ p l e R s m args below meth c A D nL Q w lv pc st := fun H locs ls hP hD hS hl => k H locs ls hP hD hS (lv_sub hl ks h)
/-- the cells w with those at the places 'is' put in again -/
def rp : va_W → List Nat → va_W → va_W
  | w, i :: is, q :: qs => rp (w.set i q) is qs
  | w, _, _ => w
theorem rp_get : ∀ (is : List Nat) (qs w : va_W) (k : Nat) (x : Nat × va_E), is.length = qs.length → (rp w is qs)[k]? = some x → (w[k]? = some x ∧ k ∉ is) ∨ x ∈ qs
  | [], [], w, k, x, _, h => Or.inl ⟨h, List.not_mem_nil⟩
  | [], _ :: _, w, k, x, hl, _ => by simp at hl
  | _ :: _, [], w, k, x, hl, _ => by simp at hl
  | i :: is, q :: qs, w, k, x, hl, h => by
    rcases rp_get is qs (w.set i q) k x (by simpa using hl) h with ⟨h1, h2⟩ | h1
    · by_cases hk : k = i
      · subst hk
        rw [List.getElem?_set_self'] at h1
        cases hw : w[k]? with
        | none => rw [hw] at h1; cases h1
        | some y =>
          rw [hw] at h1
          cases h1
          exact Or.inr List.mem_cons_self
      · rw [List.getElem?_set_ne (Ne.symm hk)] at h1
        exact Or.inl ⟨h1, fun hm => (List.mem_cons.mp hm).elim hk h2⟩
    · exact Or.inr (List.mem_cons_of_mem _ h1)
theorem rp_addr : ∀ (is : List Nat) (qs w : va_W) (k : Nat) (x : Nat × va_E), is.map (fun i => (w[i]?).map (·.1)) = qs.map (fun q => some q.1) → (rp w is qs)[k]? = some x → ∃ y, w[k]? = some y ∧ y.1 = x.1
  | [], [], w, k, x, _, h => ⟨x, h, rfl⟩
  | [], _ :: _, w, k, x, hl, _ => by simp at hl
  | _ :: _, [], w, k, x, hl, _ => by simp at hl
  | i :: is, q :: qs, w, k, x, hl, h => by
    simp only [List.map_cons, List.cons.injEq] at hl
    have hstep : ∀ j : Nat, ((w.set i q)[j]?).map (·.1) = (w[j]?).map (·.1) := by
      intro j
      by_cases hj : j = i
      · subst hj
        rw [List.getElem?_set_self']
        cases hw : w[j]? with
        | none => rfl
        | some y =>
          rw [hw] at hl
          simpa using (Option.some.inj hl.1).symm
      · rw [List.getElem?_set_ne (Ne.symm hj)]
    obtain ⟨y, hy, hyx⟩ := rp_addr is qs (w.set i q) k x (by rw [← hl.2]; exact List.map_congr_left (fun j _ => hstep j)) h
    have := hstep k
    rw [hy] at this
    cases hw : w[k]? with
    | none => rw [hw] at this; cases this
    | some z =>
      rw [hw] at this
      exact ⟨z, rfl, by rw [← hyx]; exact (Option.some.inj this).symm⟩
/-- what a call needs besides its words: the callee's cells at their places, its cells stay where they are -/
def PL (w wc wc' w1 : va_W) (isC : List Nat) : Prop := isC.map (fun i => w[i]?) = wc.map some ∧ va_nd isC = true ∧ wc'.map (·.1) = wc.map (·.1) ∧ rp w isC wc' = w1
theorem rp_join {A0 : Nat → Prop} {D : va_G} {cl : List vw_C} {ws wc wc' w1 : va_W} {H H1 : Heap} {is : List Nat} (hP : va_P D cl ws H) (hD : va_D A0 ws) (hp : PL ws wc wc' w1 is) (hk : ∀ q : Nat, q < H.size → ¬ va_A wc H.size q → H1[q]? = H[q]?) (hP1 : va_P D cl wc' H1) : va_P D cl w1 H1 ∧ va_D A0 w1 := by
  obtain ⟨hC, hn, ha, rfl⟩ := hp
  have hlen : is.length = wc'.length := by
    have h1 := congrArg List.length hC
    have h2 := congrArg List.length ha
    simp at h1 h2
    omega
  have hadr : is.map (fun i => (ws[i]?).map (·.1)) = wc'.map (fun q => some q.1) := by
    have h1 : (is.map (fun i => ws[i]?)).map (Option.map (·.1)) = (wc.map some).map (Option.map (·.1)) := by rw [hC]
    have h2 : (wc'.map (·.1)).map some = (wc.map (·.1)).map some := by rw [ha]
    simp only [List.map_map] at h1 h2
    have h3 : wc'.map (fun q => some q.1) = wc.map (fun q => some q.1) := h2
    rw [h3]
    exact h1
  constructor
  · intro k q hq
    rcases rp_get is wc' ws k q hlen hq with ⟨h1, h2⟩ | h1
    · have hat := hP k q h1
      have hnA : ¬ va_A wc H.size q.1 ∧ q.1 < H.size := by
        have hsz : q.1 < H.size := by
          rcases q with ⟨a, en⟩
          rcases en with ⟨cA, x⟩ | ⟨ci, fs⟩
          · exact (Array.getElem?_eq_some_iff.mp hat).1
          · obtain ⟨_, -, cell, hc, -⟩ := hat
            exact (Array.getElem?_eq_some_iff.mp hc).1
        refine ⟨?_, hsz⟩
        rintro (⟨j, en, hj⟩ | h)
        · have hjl : j < wc.length := (List.getElem?_eq_some_iff.mp hj).1
          have hlc : is.length = wc.length := by
            have h1 := congrArg List.length hC
            simpa using h1
          have hji : j < is.length := by omega
          have h4 : (is.map (fun i => ws[i]?))[j]? = some (some (q.1, en)) := by rw [hC, List.getElem?_map, hj]; rfl
          rw [List.getElem?_map, List.getElem?_eq_getElem hji] at h4
          have h5 : ws[is[j]]? = some (q.1, en) := Option.some.inj h4
          have := hD.1 k (is[j]) q (q.1, en) h1 h5 rfl
          exact h2 (this ▸ List.getElem_mem hji)
        · omega
      have heq := hk q.1 hnA.2 hnA.1
      rcases q with ⟨a, en⟩
      rcases en with ⟨cA, x⟩ | ⟨ci, fs⟩
      · show H1[a]? = _
        rw [heq]
        exact hat
      · obtain ⟨r, hc, hrest⟩ := hat
        exact ⟨r, hc, hrest.kept heq⟩
    · obtain ⟨j, hj⟩ := List.getElem?_of_mem h1
      exact hP1 j q hj
  · constructor
    · intro i j p q hi hj hpq
      obtain ⟨y, hy, hyx⟩ := rp_addr is wc' ws i p hadr hi
      obtain ⟨z, hz, hzx⟩ := rp_addr is wc' ws j q hadr hj
      exact hD.1 i j y z hy hz (by rw [hyx, hzx, hpq])
    · intro k q hq
      obtain ⟨y, hy, hyx⟩ := rp_addr is wc' ws k q hadr hq
      exact hyx ▸ hD.2 k y hy
theorem sj_callVi (C : SC p s m args c cc nL own A D tys) {y : MethodName} {bytes : ByteArray} {maxL idx n ci b q0 : Nat} {ret : Option FieldType} {rm : Room} {As st0 : List Value} {wc wc' w1 : va_W} {r : Int32} {fs : List Value} {q : vw_C} (Cn : String) (hM : MI l y (.code y bytes maxL ret :: gw) rm D tys (.ref b :: As) wc wc' r) (hml : Cond.methodLink own idx y ∈ gw) (him : Cond.instanceMethod y ∈ gw) (hsel : Cond.selects Cn y y ∈ gw) (hini : Cond.initialized Cn ∈ gw) (hco : Cond.code y bytes maxL ret ∈ gw) (hyd : y.cls = Cn ∧ y.cls ≠ "java/lang/invoke/MethodHandle" ∧ y.cls ≠ "java/lang/invoke/VarHandle" ∧ (parseMethodDescriptor y.desc).map (fun d => d.parameters.length) = some n) (hrc : rm.cells = 0) (hrs : rm.slots = 0) (hR : rm.frames + 1 ≤ R.frames ∧ 8 + (maxL + 11) + rm.locals ≤ R.locals) (isC : List Nat) (hp : PL w wc wc' w1 isC) (he : wc[q0]? = some (b, .inr (ci, fs))) (hc : cl_all[ci]? = some q) (hq : q.1 = Cn) (hn : As.length = n) (hst : st0 = As.reverse ++ .ref b :: st) (hsum : (st.map fun v => v.category).sum ≤ 8) (hd : decode cc pc = .ok (.invokevirtual idx, 3)) (k : SJ p l e R s m args below meth c A D nL Q w1 lv (pc + 3) (.int r :: st)) : SJ p l e R s m args below meth c A D nL Q w lv pc st0 := by
  intro H locs ls hP hD hS hl
  have hC := hp.1
  have hnC := hp.2.1
  obtain ⟨hx, hb, hmx, hown, hg, hA, hK⟩ := C
  subst hst
  subst hq
  have hPc := hP.sub (ws' := wc) isC (sk_fm _ _ _ hC)
  have hDc := hD.sub (ws' := wc) isC hnC hC
  have hFc := va_free (wc := wc) hD hS hA isC hC
  refine va_calli (va_runV (As := As) (rest := st) (Ts := gw) (n := n) (C := q.1) ⟨hx, hb, hmx, hown, hg⟩ (hM H.size) (cwV n hg (gw_app (a := [.methodLink own idx y, .instanceMethod y, .selects q.1 y y, .initialized q.1]) (fun w h => by simp only [List.mem_cons, List.not_mem_nil, or_false] at h; rcases h with rfl | rfl | rfl | rfl <;> assumption) hco) rfl hrc hrs hyd hR) ⟨fun a U g mk q => by obtain ⟨q0, q1, qP, qK, qD⟩ := q; exact ⟨q0, q1, qP, va_K.moved (u := U) (U := U.calling g mk a) (Vm.Alike.refl U.vm) qK, qD⟩, va_recv hK hPc hc he, fun U hU hW => ⟨rfl, by rw [hU], by rw [hU]; exact hPc, va_K.moved hW.alike hK, hDc.weaken (fun _ _ _ _ => trivial)⟩⟩ rfl hn hl.1 rfl (lv_room hsum) hd ⟨Nat.zero_le _, Nat.zero_le _⟩) hS (fun q _ h => hFc q h) hFc (fun r' u t H1 locs1 ht hvm hw hB hz1 hk1 hS => ?_)
  subst hw
  obtain ⟨hP1, hK1, hD1⟩ := hB
  rw [ht] at hP1
  obtain ⟨hP, hD⟩ := rp_join hP hD hp hk1 hP1
  exact k H1 locs1 ls hP hD hS hl
theorem sj_callVv (C : SC p s m args c cc nL own A D tys) {y : MethodName} {bytes : ByteArray} {maxL idx n ci b q0 : Nat} {rm : Room} {As st0 : List Value} {wc wc' w1 : va_W} {fs : List Value} {q : vw_C} (Cn : String) (hM : MV l y (.code y bytes maxL none :: gw) rm D tys (.ref b :: As) wc wc') (hml : Cond.methodLink own idx y ∈ gw) (him : Cond.instanceMethod y ∈ gw) (hsel : Cond.selects Cn y y ∈ gw) (hini : Cond.initialized Cn ∈ gw) (hco : Cond.code y bytes maxL none ∈ gw) (hyd : y.cls = Cn ∧ y.cls ≠ "java/lang/invoke/MethodHandle" ∧ y.cls ≠ "java/lang/invoke/VarHandle" ∧ (parseMethodDescriptor y.desc).map (fun d => d.parameters.length) = some n) (hrc : rm.cells = 0) (hrs : rm.slots = 0) (hR : rm.frames + 1 ≤ R.frames ∧ 8 + (maxL + 11) + rm.locals ≤ R.locals) (isC : List Nat) (hp : PL w wc wc' w1 isC) (he : wc[q0]? = some (b, .inr (ci, fs))) (hc : cl_all[ci]? = some q) (hq : q.1 = Cn) (hn : As.length = n) (hst : st0 = As.reverse ++ .ref b :: st) (hsum : (st.map fun v => v.category).sum ≤ 8) (hd : decode cc pc = .ok (.invokevirtual idx, 3)) (k : SJ p l e R s m args below meth c A D nL Q w1 lv (pc + 3) st) : SJ p l e R s m args below meth c A D nL Q w lv pc st0 := by
  intro H locs ls hP hD hS hl
  have hC := hp.1
  have hnC := hp.2.1
  obtain ⟨hx, hb, hmx, hown, hg, hA, hK⟩ := C
  subst hst
  subst hq
  have hPc := hP.sub (ws' := wc) isC (sk_fm _ _ _ hC)
  have hDc := hD.sub (ws' := wc) isC hnC hC
  have hFc := va_free (wc := wc) hD hS hA isC hC
  refine va_callv (va_runV (As := As) (rest := st) (Ts := gw) (n := n) (C := q.1) ⟨hx, hb, hmx, hown, hg⟩ (hM H.size) (cwV n hg (gw_app (a := [.methodLink own idx y, .instanceMethod y, .selects q.1 y y, .initialized q.1]) (fun w h => by simp only [List.mem_cons, List.not_mem_nil, or_false] at h; rcases h with rfl | rfl | rfl | rfl <;> assumption) hco) rfl hrc hrs hyd hR) ⟨fun a U g mk q => by obtain ⟨q0, q1, qP, qK, qD⟩ := q; exact ⟨q0, q1, qP, va_K.moved (u := U) (U := U.calling g mk a) (Vm.Alike.refl U.vm) qK, qD⟩, va_recv hK hPc hc he, fun U hU hW => ⟨rfl, by rw [hU], by rw [hU]; exact hPc, va_K.moved hW.alike hK, hDc.weaken (fun _ _ _ _ => trivial)⟩⟩ rfl hn hl.1 rfl (lv_room hsum) hd ⟨Nat.zero_le _, Nat.zero_le _⟩) hS (fun q _ h => hFc q h) hFc (fun u t H1 locs1 ht hvm hw hB hz1 hk1 hS => ?_)
  obtain ⟨hP1, hK1, hD1⟩ := hB
  rw [ht] at hP1
  obtain ⟨hP, hD⟩ := rp_join hP hD hp hk1 hP1
  exact k H1 locs1 ls hP hD hS hl
theorem sj_callSi (C : SC p s m args c cc nL own A D tys) {y : MethodName} {bytes : ByteArray} {maxL idx n : Nat} {ret : Option FieldType} {rm : Room} {As st0 : List Value} {wc wc' w1 : va_W} {r : Int32} (Cn : String) (hM : MI l y (.code y bytes maxL ret :: gw) rm D tys As wc wc' r) (hml : Cond.methodLink own idx y ∈ gw) (him : Cond.static y ∈ gw) (hini : Cond.initialized y.cls ∈ gw) (hco : Cond.code y bytes maxL ret ∈ gw) (hyd : y.cls = Cn ∧ y.cls ≠ "java/lang/invoke/MethodHandle" ∧ y.cls ≠ "java/lang/invoke/VarHandle" ∧ (parseMethodDescriptor y.desc).map (fun d => d.parameters.length) = some n) (hrc : rm.cells = 0) (hrs : rm.slots = 0) (hR : rm.frames + 1 ≤ R.frames ∧ 8 + (maxL + 11) + rm.locals ≤ R.locals) (isC : List Nat) (hp : PL w wc wc' w1 isC) (hn : As.length = n) (hst : st0 = As.reverse ++ st) (hsum : (st.map fun v => v.category).sum ≤ 8) (hd : decode cc pc = .ok (.invokestatic idx, 3)) (k : SJ p l e R s m args below meth c A D nL Q w1 lv (pc + 3) (.int r :: st)) : SJ p l e R s m args below meth c A D nL Q w lv pc st0 := by
  intro H locs ls hP hD hS hl
  have hC := hp.1
  have hnC := hp.2.1
  obtain ⟨hx, hb, hmx, hown, hg, hA, hK⟩ := C
  subst hst
  have hPc := hP.sub (ws' := wc) isC (sk_fm _ _ _ hC)
  have hDc := hD.sub (ws' := wc) isC hnC hC
  have hFc := va_free (wc := wc) hD hS hA isC hC
  refine va_calli (va_runS (As := As) (rest := st) (Ts := gw) (n := n) ⟨hx, hb, hmx, hown, hg⟩ (hM H.size) (va_cwS n hg (gw_app (a := [.methodLink own idx y, .static y, .initialized y.cls]) (fun w h => by simp only [List.mem_cons, List.not_mem_nil, or_false] at h; rcases h with rfl | rfl | rfl <;> assumption) hco) rfl hrc hrs hyd.2 hR) ⟨fun a U g mk q => by obtain ⟨q0, q1, qP, qK, qD⟩ := q; exact ⟨q0, q1, qP, va_K.moved (u := U) (U := U.calling g mk a) (Vm.Alike.refl U.vm) qK, qD⟩, fun U hU hW => ⟨rfl, by rw [hU], by rw [hU]; exact hPc, va_K.moved hW.alike hK, hDc.weaken (fun _ _ _ _ => trivial)⟩⟩ rfl hn hl.1 rfl (lv_room hsum) hd ⟨Nat.zero_le _, Nat.zero_le _⟩) hS (fun q _ h => hFc q h) hFc (fun r' u t H1 locs1 ht hvm hw hB hz1 hk1 hS => ?_)
  subst hw
  obtain ⟨hP1, hK1, hD1⟩ := hB
  rw [ht] at hP1
  obtain ⟨hP, hD⟩ := rp_join hP hD hp hk1 hP1
  exact k H1 locs1 ls hP hD hS hl
theorem sj_callSv (C : SC p s m args c cc nL own A D tys) {y : MethodName} {bytes : ByteArray} {maxL idx n : Nat} {rm : Room} {As st0 : List Value} {wc wc' w1 : va_W} (Cn : String) (hM : MV l y (.code y bytes maxL none :: gw) rm D tys As wc wc') (hml : Cond.methodLink own idx y ∈ gw) (him : Cond.static y ∈ gw) (hini : Cond.initialized y.cls ∈ gw) (hco : Cond.code y bytes maxL none ∈ gw) (hyd : y.cls = Cn ∧ y.cls ≠ "java/lang/invoke/MethodHandle" ∧ y.cls ≠ "java/lang/invoke/VarHandle" ∧ (parseMethodDescriptor y.desc).map (fun d => d.parameters.length) = some n) (hrc : rm.cells = 0) (hrs : rm.slots = 0) (hR : rm.frames + 1 ≤ R.frames ∧ 8 + (maxL + 11) + rm.locals ≤ R.locals) (isC : List Nat) (hp : PL w wc wc' w1 isC) (hn : As.length = n) (hst : st0 = As.reverse ++ st) (hsum : (st.map fun v => v.category).sum ≤ 8) (hd : decode cc pc = .ok (.invokestatic idx, 3)) (k : SJ p l e R s m args below meth c A D nL Q w1 lv (pc + 3) st) : SJ p l e R s m args below meth c A D nL Q w lv pc st0 := by
  intro H locs ls hP hD hS hl
  have hC := hp.1
  have hnC := hp.2.1
  obtain ⟨hx, hb, hmx, hown, hg, hA, hK⟩ := C
  subst hst
  have hPc := hP.sub (ws' := wc) isC (sk_fm _ _ _ hC)
  have hDc := hD.sub (ws' := wc) isC hnC hC
  have hFc := va_free (wc := wc) hD hS hA isC hC
  refine va_callv (va_runS (As := As) (rest := st) (Ts := gw) (n := n) ⟨hx, hb, hmx, hown, hg⟩ (hM H.size) (va_cwS n hg (gw_app (a := [.methodLink own idx y, .static y, .initialized y.cls]) (fun w h => by simp only [List.mem_cons, List.not_mem_nil, or_false] at h; rcases h with rfl | rfl | rfl <;> assumption) hco) rfl hrc hrs hyd.2 hR) ⟨fun a U g mk q => by obtain ⟨q0, q1, qP, qK, qD⟩ := q; exact ⟨q0, q1, qP, va_K.moved (u := U) (U := U.calling g mk a) (Vm.Alike.refl U.vm) qK, qD⟩, fun U hU hW => ⟨rfl, by rw [hU], by rw [hU]; exact hPc, va_K.moved hW.alike hK, hDc.weaken (fun _ _ _ _ => trivial)⟩⟩ rfl hn hl.1 rfl (lv_room hsum) hd ⟨Nat.zero_le _, Nat.zero_le _⟩) hS (fun q _ h => hFc q h) hFc (fun u t H1 locs1 ht hvm hw hB hz1 hk1 hS => ?_)
  obtain ⟨hP1, hK1, hD1⟩ := hB
  rw [ht] at hP1
  obtain ⟨hP, hD⟩ := rp_join hP hD hp hk1 hP1
  exact k H1 locs1 ls hP hD hS hl
end SK
end
