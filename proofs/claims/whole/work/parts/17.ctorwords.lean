abbrev wdXF (cI cZ cB : ClassId) (x0 x1 b0 b1 b2 b3 b4 s0 s1 s2 l0 l1 l2 l3 l4 i0 i1 i2 i3 i4 j0 j1 j2 j3 j4 : Nat) (xk xl : Int32) (bK bZ bL bM : Nat → Int32) (bi bg bh : Int32) (sB sO : Nat → Int32) (sh sw sr : Int32) (lI lC lT lR : Nat → Int32) (lth lro lsp lle lex lco lou : Int32) (iK iZ iL iM : Nat → Int32) (ii ig ih : Int32) (jK jZ jL jM : Nat → Int32) (ji jg jh : Int32) : va_W := [(x0, .inr (3, [.ref b0, .ref s0, .ref l0, .ref x1, .int xk, .int xl])), (b0, .inr (0, [.ref b1, .ref b2, .ref b3, .ref b4, .int bi, .int bg, .int bh])), (b1, .inl (cI, 12, .inl bK)), (b2, .inl (cI, 12, .inl bZ)), (b3, .inl (cI, 12, .inl bL)), (b4, .inl (cI, 12, .inl bM)), (s0, .inr (2, [.ref b0, .ref s1, .ref s2, .int sh, .int sw, .int sr])), (s1, .inl (cI, 2412, .inl sB)), (s2, .inl (cI, 144, .inl sO)), (l0, .inr (1, [.ref b0, .ref l1, .ref l2, .ref l3, .ref l4, .int lth, .int lro, .int lsp, .int lle, .int lex, .int lco, .int lou])), (l1, .inl (cI, 144, .inl lI)), (l2, .inl (cI, 144, .inl lC)), (l3, .inl (cI, 144, .inl lT)), (l4, .inl (cI, 144, .inl lR)), (x1, .inl (cB, 2, .inr (.inr (.inr (.inr (va_up (va_up (fun _ => none) 0 (some i0)) 1 (some j0))))))), (i0, .inr (0, [.ref i1, .ref i2, .ref i3, .ref i4, .int ii, .int ig, .int ih])), (i1, .inl (cI, 12, .inl iK)), (i2, .inl (cI, 12, .inl iZ)), (i3, .inl (cI, 12, .inl iL)), (i4, .inl (cI, 12, .inl iM)), (j0, .inr (0, [.ref j1, .ref j2, .ref j3, .ref j4, .int ji, .int jg, .int jh])), (j1, .inl (cI, 12, .inl jK)), (j2, .inl (cI, 12, .inl jZ)), (j3, .inl (cI, 12, .inl jL)), (j4, .inl (cI, 12, .inl jM))]
abbrev wdR (cI cZ cB : ClassId) (x1 i0 i1 i2 i3 i4 j0 j1 j2 j3 j4 : Nat) (iK iZ iL iM : Nat → Int32) (ii ig ih : Int32) (jK jZ jL jM : Nat → Int32) (ji jg jh : Int32) : va_W := [(x1, .inl (cB, 2, .inr (.inr (.inr (.inr (va_up (va_up (fun _ => none) 0 (some i0)) 1 (some j0))))))), (i0, .inr (0, [.ref i1, .ref i2, .ref i3, .ref i4, .int ii, .int ig, .int ih])), (i1, .inl (cI, 12, .inl iK)), (i2, .inl (cI, 12, .inl iZ)), (i3, .inl (cI, 12, .inl iL)), (i4, .inl (cI, 12, .inl iM)), (j0, .inr (0, [.ref j1, .ref j2, .ref j3, .ref j4, .int ji, .int jg, .int jh])), (j1, .inl (cI, 12, .inl jK)), (j2, .inl (cI, 12, .inl jZ)), (j3, .inl (cI, 12, .inl jL)), (j4, .inl (cI, 12, .inl jM))]
abbrev wdSL (cI cZ cB : ClassId) (b0 s0 s1 s2 l0 l1 l2 l3 l4 : Nat) (sB sO : Nat → Int32) (sh sw sr : Int32) (lI lC lT lR : Nat → Int32) (lth lro lsp lle lex lco lou : Int32) : va_W := [(s0, .inr (2, [.ref b0, .ref s1, .ref s2, .int sh, .int sw, .int sr])), (s1, .inl (cI, 2412, .inl sB)), (s2, .inl (cI, 144, .inl sO)), (l0, .inr (1, [.ref b0, .ref l1, .ref l2, .ref l3, .ref l4, .int lth, .int lro, .int lsp, .int lle, .int lex, .int lco, .int lou])), (l1, .inl (cI, 144, .inl lI)), (l2, .inl (cI, 144, .inl lC)), (l3, .inl (cI, 144, .inl lT)), (l4, .inl (cI, 144, .inl lR))]
abbrev wdW (cI cZ cB : ClassId) (x0 x1 b0 b1 b2 b3 b4 s0 s1 s2 l0 l1 l2 l3 l4 i0 i1 i2 i3 i4 j0 j1 j2 j3 j4 g0 g1 g2 g3 g4 g5 g6 g7 g8 g9 g10 g11 : Nat) (xk xl : Int32) (bK bZ bL bM : Nat → Int32) (bi bg bh : Int32) (sB sO : Nat → Int32) (sh sw sr : Int32) (lI lC lT lR : Nat → Int32) (lth lro lsp lle lex lco lou : Int32) (iK iZ iL iM : Nat → Int32) (ii ig ih : Int32) (jK jZ jL jM : Nat → Int32) (ji jg jh : Int32) (gS gI gK gO gL gT gB gC gP gR gG : Nat → Int32) (gn : Int32) : va_W := (wdX cI cZ cB x0 x1 b0 b1 b2 b3 b4 s0 s1 s2 l0 l1 l2 l3 l4 xk xl bK bZ bL bM bi bg bh sB sO sh sw sr lI lC lT lR lth lro lsp lle lex lco lou ++ wdR cI cZ cB x1 i0 i1 i2 i3 i4 j0 j1 j2 j3 j4 iK iZ iL iM ii ig ih jK jZ jL jM ji jg jh) ++ wdM cI cZ cB g0 g1 g2 g3 g4 g5 g6 g7 g8 g9 g10 g11 gS gI gK gO gL gT gB gC gP gR gG gn
abbrev wdV (cI cZ cB : ClassId) (x0 x1 b0 b1 b2 b3 b4 s0 s1 s2 l0 l1 l2 l3 l4 i0 i1 i2 i3 i4 j0 j1 j2 j3 j4 g0 g1 g2 g3 g4 g5 g6 g7 g8 g9 g10 g11 : Nat) (xk xl : Int32) (bK bZ bL bM : Nat → Int32) (bi bg bh : Int32) (sB sO : Nat → Int32) (sh sw sr : Int32) (lI lC lT lR : Nat → Int32) (lth lro lsp lle lex lco lou : Int32) (iK iZ iL iM : Nat → Int32) (ii ig ih : Int32) (jK jZ jL jM : Nat → Int32) (ji jg jh : Int32) (gS gI gK gO gL gT gB gC gP gR gG : Nat → Int32) (gn : Int32) : va_W := (wdXI cI cZ cB x0 x1 s0 l0 b0 b1 b2 b3 b4 i0 i1 i2 i3 i4 j0 j1 j2 j3 j4 xk xl bK bZ bL bM bi bg bh iK iZ iL iM ii ig ih jK jZ jL jM ji jg jh ++ wdSL cI cZ cB b0 s0 s1 s2 l0 l1 l2 l3 l4 sB sO sh sw sr lI lC lT lR lth lro lsp lle lex lco lou) ++ wdM cI cZ cB g0 g1 g2 g3 g4 g5 g6 g7 g8 g9 g10 g11 gS gI gK gO gL gT gB gC gP gR gG gn
theorem wd_47 : Cond.methodLink "StepColumns" 3 ⟨"java/lang/Object", "<init>", "()V"⟩ ∈ gw := List.mem_filter.mpr ⟨List.mem_of_getElem? (i := 47) (by decide +kernel), by decide +kernel⟩
theorem wd_48 : Cond.instanceMethod ⟨"java/lang/Object", "<init>", "()V"⟩ ∈ gw := List.mem_filter.mpr ⟨List.mem_of_getElem? (i := 48) (by decide +kernel), by decide +kernel⟩
theorem wd_50 : Cond.classLink "StepColumns" 9 "StepColumns$Book" ∈ gw := List.mem_filter.mpr ⟨List.mem_of_getElem? (i := 50) (by decide +kernel), by decide +kernel⟩
theorem wd_51 : Cond.instantiable "StepColumns$Book" 7 ∈ gw := List.mem_filter.mpr ⟨List.mem_of_getElem? (i := 51) (by decide +kernel), by decide +kernel⟩
theorem wd_53 : Cond.instanceMethod ⟨"StepColumns$Book", "<init>", "()V"⟩ ∈ gw := List.mem_filter.mpr ⟨List.mem_of_getElem? (i := 53) (by decide +kernel), by decide +kernel⟩
theorem wd_54 : Cond.code ⟨"StepColumns$Book", "<init>", "()V"⟩ prog_2_method_1_code 1 none ∈ gw := List.mem_filter.mpr ⟨List.mem_of_getElem? (i := 54) (by decide +kernel), by decide +kernel⟩
theorem wd_55 : Cond.methodLink "StepColumns$Book" 3 ⟨"java/lang/Object", "<init>", "()V"⟩ ∈ gw := List.mem_filter.mpr ⟨List.mem_of_getElem? (i := 55) (by decide +kernel), by decide +kernel⟩
theorem wd_93 : Cond.arrayClass .int ∈ gw := List.mem_filter.mpr ⟨List.mem_of_getElem? (i := 93) (by decide +kernel), by decide +kernel⟩
theorem wd_94 : Cond.classLink "StepColumns" 16 "StepColumns$Scale" ∈ gw := List.mem_filter.mpr ⟨List.mem_of_getElem? (i := 94) (by decide +kernel), by decide +kernel⟩
theorem wd_95 : Cond.instantiable "StepColumns$Scale" 6 ∈ gw := List.mem_filter.mpr ⟨List.mem_of_getElem? (i := 95) (by decide +kernel), by decide +kernel⟩
theorem wd_96 : Cond.methodLink "StepColumns" 18 ⟨"StepColumns$Scale", "<init>", "(LStepColumns$Book;)V"⟩ ∈ gw := List.mem_filter.mpr ⟨List.mem_of_getElem? (i := 96) (by decide +kernel), by decide +kernel⟩
theorem wd_97 : Cond.instanceMethod ⟨"StepColumns$Scale", "<init>", "(LStepColumns$Book;)V"⟩ ∈ gw := List.mem_filter.mpr ⟨List.mem_of_getElem? (i := 97) (by decide +kernel), by decide +kernel⟩
theorem wd_98 : Cond.code ⟨"StepColumns$Scale", "<init>", "(LStepColumns$Book;)V"⟩ prog_4_method_1_code 2 none ∈ gw := List.mem_filter.mpr ⟨List.mem_of_getElem? (i := 98) (by decide +kernel), by decide +kernel⟩
theorem wd_99 : Cond.methodLink "StepColumns$Scale" 3 ⟨"java/lang/Object", "<init>", "()V"⟩ ∈ gw := List.mem_filter.mpr ⟨List.mem_of_getElem? (i := 99) (by decide +kernel), by decide +kernel⟩
theorem wd_119 : Cond.classLink "StepColumns" 25 "StepColumns$Laying" ∈ gw := List.mem_filter.mpr ⟨List.mem_of_getElem? (i := 119) (by decide +kernel), by decide +kernel⟩
theorem wd_120 : Cond.instantiable "StepColumns$Laying" 12 ∈ gw := List.mem_filter.mpr ⟨List.mem_of_getElem? (i := 120) (by decide +kernel), by decide +kernel⟩
theorem wd_121 : Cond.methodLink "StepColumns" 27 ⟨"StepColumns$Laying", "<init>", "(LStepColumns$Book;)V"⟩ ∈ gw := List.mem_filter.mpr ⟨List.mem_of_getElem? (i := 121) (by decide +kernel), by decide +kernel⟩
theorem wd_122 : Cond.instanceMethod ⟨"StepColumns$Laying", "<init>", "(LStepColumns$Book;)V"⟩ ∈ gw := List.mem_filter.mpr ⟨List.mem_of_getElem? (i := 122) (by decide +kernel), by decide +kernel⟩
theorem wd_123 : Cond.code ⟨"StepColumns$Laying", "<init>", "(LStepColumns$Book;)V"⟩ prog_3_method_1_code 2 none ∈ gw := List.mem_filter.mpr ⟨List.mem_of_getElem? (i := 123) (by decide +kernel), by decide +kernel⟩
theorem wd_124 : Cond.methodLink "StepColumns$Laying" 3 ⟨"java/lang/Object", "<init>", "()V"⟩ ∈ gw := List.mem_filter.mpr ⟨List.mem_of_getElem? (i := 124) (by decide +kernel), by decide +kernel⟩
theorem wd_134 : Cond.fieldLink "StepColumns$Laying" 37 "StepColumns$Laying" "exists" "Z" ∈ gw := List.mem_filter.mpr ⟨List.mem_of_getElem? (i := 134) (by decide +kernel), by decide +kernel⟩
theorem wd_433 : Cond.methodLink "StepColumnsModel" 1 ⟨"java/lang/Object", "<init>", "()V"⟩ ∈ gw := List.mem_filter.mpr ⟨List.mem_of_getElem? (i := 433) (by decide +kernel), by decide +kernel⟩
theorem wd_434 : Cond.constant "StepColumnsModel" 29 (87435) ∈ gw := List.mem_filter.mpr ⟨List.mem_of_getElem? (i := 434) (by decide +kernel), by decide +kernel⟩
theorem wd_472 : Cond.arrayClass .boolean ∈ gw := List.mem_filter.mpr ⟨List.mem_of_getElem? (i := 472) (by decide +kernel), by decide +kernel⟩
theorem wd_obj : Cond.code Lib.objectInit ⟨#[0xb1]⟩ 1 none ∈ gw := (List.mem_filter.mpr ⟨List.mem_of_getElem? (i := 49) (by decide +kernel), by decide +kernel⟩ : Cond.code ⟨"java/lang/Object", "<init>", "()V"⟩ object_method_1_code 1 none ∈ gw)
theorem kb_102 : (Int8.ofInt 102).toInt32 = (102 : Int32) := by decide +kernel
theorem kb_120 : (Int8.ofInt 120).toInt32 = (120 : Int32) := by decide +kernel
theorem kc_102 : (102 : Int32).toNatClampNeg = 102 := by decide +kernel
theorem kc_12 : (12 : Int32).toNatClampNeg = 12 := by decide +kernel
theorem kc_144 : (144 : Int32).toNatClampNeg = 144 := by decide +kernel
theorem kc_2 : (2 : Int32).toNatClampNeg = 2 := by decide +kernel
theorem kc_2412 : (2412 : Int32).toNatClampNeg = 2412 := by decide +kernel
theorem kc_51 : (51 : Int32).toNatClampNeg = 51 := by decide +kernel
theorem kc_87435 : (87435 : Int32).toNatClampNeg = 87435 := by decide +kernel
theorem kp_102 : ¬ (102 : Int32) < 0 := by decide +kernel
theorem kp_12 : ¬ (12 : Int32) < 0 := by decide +kernel
theorem kp_144 : ¬ (144 : Int32) < 0 := by decide +kernel
theorem kp_2 : ¬ (2 : Int32) < 0 := by decide +kernel
theorem kp_2412 : ¬ (2412 : Int32) < 0 := by decide +kernel
theorem kp_51 : ¬ (51 : Int32) < 0 := by decide +kernel
theorem kp_87435 : ¬ (87435 : Int32) < 0 := by decide +kernel
theorem ks_2412 : (Int16.ofInt 2412).toInt32 = (2412 : Int32) := by decide +kernel
theorem dB_init_0 : decode bB_init 0 = .ok (.aload_n 0, 1) := by decide +kernel
theorem dB_init_1 : decode bB_init 1 = .ok (.invokespecial 3, 3) := by decide +kernel
theorem dB_init_4 : decode bB_init 4 = .ok (.aload_n 0, 1) := by decide +kernel
theorem dB_init_5 : decode bB_init 5 = .ok (.bipush 12, 2) := by decide +kernel
theorem dB_init_7 : decode bB_init 7 = .ok (.newarray .int, 2) := by decide +kernel
theorem dB_init_9 : decode bB_init 9 = .ok (.putfield 9, 3) := by decide +kernel
theorem dB_init_12 : decode bB_init 12 = .ok (.aload_n 0, 1) := by decide +kernel
theorem dB_init_13 : decode bB_init 13 = .ok (.bipush 12, 2) := by decide +kernel
theorem dB_init_15 : decode bB_init 15 = .ok (.newarray .int, 2) := by decide +kernel
theorem dB_init_17 : decode bB_init 17 = .ok (.putfield 15, 3) := by decide +kernel
theorem dB_init_20 : decode bB_init 20 = .ok (.aload_n 0, 1) := by decide +kernel
theorem dB_init_21 : decode bB_init 21 = .ok (.bipush 12, 2) := by decide +kernel
theorem dB_init_23 : decode bB_init 23 = .ok (.newarray .int, 2) := by decide +kernel
theorem dB_init_25 : decode bB_init 25 = .ok (.putfield 18, 3) := by decide +kernel
theorem dB_init_28 : decode bB_init 28 = .ok (.aload_n 0, 1) := by decide +kernel
theorem dB_init_29 : decode bB_init 29 = .ok (.bipush 12, 2) := by decide +kernel
theorem dB_init_31 : decode bB_init 31 = .ok (.newarray .int, 2) := by decide +kernel
theorem dB_init_33 : decode bB_init 33 = .ok (.putfield 21, 3) := by decide +kernel
theorem dB_init_36 : decode bB_init 36 = .ok (.aload_n 0, 1) := by decide +kernel
theorem dB_init_37 : decode bB_init 37 = .ok (.iconst 0, 1) := by decide +kernel
theorem dB_init_38 : decode bB_init 38 = .ok (.putfield 24, 3) := by decide +kernel
theorem dB_init_41 : decode bB_init 41 = .ok (.aload_n 0, 1) := by decide +kernel
theorem dB_init_42 : decode bB_init 42 = .ok (.bipush 10, 2) := by decide +kernel
theorem dB_init_44 : decode bB_init 44 = .ok (.putfield 28, 3) := by decide +kernel
theorem dB_init_47 : decode bB_init 47 = .ok (.aload_n 0, 1) := by decide +kernel
theorem dB_init_48 : decode bB_init 48 = .ok (.bipush 120, 2) := by decide +kernel
theorem dB_init_50 : decode bB_init 50 = .ok (.putfield 31, 3) := by decide +kernel
theorem dB_init_53 : decode bB_init 53 = .ok (.return_, 1) := by decide +kernel
theorem dS_init_0 : decode bS_init 0 = .ok (.aload_n 0, 1) := by decide +kernel
theorem dS_init_1 : decode bS_init 1 = .ok (.invokespecial 3, 3) := by decide +kernel
theorem dS_init_4 : decode bS_init 4 = .ok (.aload_n 0, 1) := by decide +kernel
theorem dS_init_5 : decode bS_init 5 = .ok (.sipush 2412, 3) := by decide +kernel
theorem dS_init_8 : decode bS_init 8 = .ok (.newarray .int, 2) := by decide +kernel
theorem dS_init_10 : decode bS_init 10 = .ok (.putfield 11, 3) := by decide +kernel
theorem dS_init_13 : decode bS_init 13 = .ok (.aload_n 0, 1) := by decide +kernel
theorem dS_init_14 : decode bS_init 14 = .ok (.sipush 144, 3) := by decide +kernel
theorem dS_init_17 : decode bS_init 17 = .ok (.newarray .int, 2) := by decide +kernel
theorem dS_init_19 : decode bS_init 19 = .ok (.putfield 15, 3) := by decide +kernel
theorem dS_init_22 : decode bS_init 22 = .ok (.aload_n 0, 1) := by decide +kernel
theorem dS_init_23 : decode bS_init 23 = .ok (.bipush 120, 2) := by decide +kernel
theorem dS_init_25 : decode bS_init 25 = .ok (.putfield 18, 3) := by decide +kernel
theorem dS_init_28 : decode bS_init 28 = .ok (.aload_n 0, 1) := by decide +kernel
theorem dS_init_29 : decode bS_init 29 = .ok (.iconst (-1), 1) := by decide +kernel
theorem dS_init_30 : decode bS_init 30 = .ok (.putfield 22, 3) := by decide +kernel
theorem dS_init_33 : decode bS_init 33 = .ok (.aload_n 0, 1) := by decide +kernel
theorem dS_init_34 : decode bS_init 34 = .ok (.iconst 0, 1) := by decide +kernel
theorem dS_init_35 : decode bS_init 35 = .ok (.putfield 25, 3) := by decide +kernel
theorem dS_init_38 : decode bS_init 38 = .ok (.aload_n 0, 1) := by decide +kernel
theorem dS_init_39 : decode bS_init 39 = .ok (.aload_n 1, 1) := by decide +kernel
theorem dS_init_40 : decode bS_init 40 = .ok (.putfield 29, 3) := by decide +kernel
theorem dS_init_43 : decode bS_init 43 = .ok (.return_, 1) := by decide +kernel
theorem dL_init_0 : decode bL_init 0 = .ok (.aload_n 0, 1) := by decide +kernel
theorem dL_init_1 : decode bL_init 1 = .ok (.invokespecial 3, 3) := by decide +kernel
theorem dL_init_4 : decode bL_init 4 = .ok (.aload_n 0, 1) := by decide +kernel
theorem dL_init_5 : decode bL_init 5 = .ok (.sipush 144, 3) := by decide +kernel
theorem dL_init_8 : decode bL_init 8 = .ok (.newarray .int, 2) := by decide +kernel
theorem dL_init_10 : decode bL_init 10 = .ok (.putfield 9, 3) := by decide +kernel
theorem dL_init_13 : decode bL_init 13 = .ok (.aload_n 0, 1) := by decide +kernel
theorem dL_init_14 : decode bL_init 14 = .ok (.sipush 144, 3) := by decide +kernel
theorem dL_init_17 : decode bL_init 17 = .ok (.newarray .int, 2) := by decide +kernel
theorem dL_init_19 : decode bL_init 19 = .ok (.putfield 15, 3) := by decide +kernel
theorem dL_init_22 : decode bL_init 22 = .ok (.aload_n 0, 1) := by decide +kernel
theorem dL_init_23 : decode bL_init 23 = .ok (.sipush 144, 3) := by decide +kernel
theorem dL_init_26 : decode bL_init 26 = .ok (.newarray .int, 2) := by decide +kernel
theorem dL_init_28 : decode bL_init 28 = .ok (.putfield 18, 3) := by decide +kernel
theorem dL_init_31 : decode bL_init 31 = .ok (.aload_n 0, 1) := by decide +kernel
theorem dL_init_32 : decode bL_init 32 = .ok (.sipush 144, 3) := by decide +kernel
theorem dL_init_35 : decode bL_init 35 = .ok (.newarray .int, 2) := by decide +kernel
theorem dL_init_37 : decode bL_init 37 = .ok (.putfield 21, 3) := by decide +kernel
theorem dL_init_40 : decode bL_init 40 = .ok (.aload_n 0, 1) := by decide +kernel
theorem dL_init_41 : decode bL_init 41 = .ok (.iconst 0, 1) := by decide +kernel
theorem dL_init_42 : decode bL_init 42 = .ok (.putfield 24, 3) := by decide +kernel
theorem dL_init_45 : decode bL_init 45 = .ok (.aload_n 0, 1) := by decide +kernel
theorem dL_init_46 : decode bL_init 46 = .ok (.iconst 0, 1) := by decide +kernel
theorem dL_init_47 : decode bL_init 47 = .ok (.putfield 28, 3) := by decide +kernel
theorem dL_init_50 : decode bL_init 50 = .ok (.aload_n 0, 1) := by decide +kernel
theorem dL_init_51 : decode bL_init 51 = .ok (.iconst 0, 1) := by decide +kernel
theorem dL_init_52 : decode bL_init 52 = .ok (.putfield 31, 3) := by decide +kernel
theorem dL_init_55 : decode bL_init 55 = .ok (.aload_n 0, 1) := by decide +kernel
theorem dL_init_56 : decode bL_init 56 = .ok (.iconst 0, 1) := by decide +kernel
theorem dL_init_57 : decode bL_init 57 = .ok (.putfield 34, 3) := by decide +kernel
theorem dL_init_60 : decode bL_init 60 = .ok (.aload_n 0, 1) := by decide +kernel
theorem dL_init_61 : decode bL_init 61 = .ok (.iconst 0, 1) := by decide +kernel
theorem dL_init_62 : decode bL_init 62 = .ok (.putfield 37, 3) := by decide +kernel
theorem dL_init_65 : decode bL_init 65 = .ok (.aload_n 0, 1) := by decide +kernel
theorem dL_init_66 : decode bL_init 66 = .ok (.iconst 0, 1) := by decide +kernel
theorem dL_init_67 : decode bL_init 67 = .ok (.putfield 41, 3) := by decide +kernel
theorem dL_init_70 : decode bL_init 70 = .ok (.aload_n 0, 1) := by decide +kernel
theorem dL_init_71 : decode bL_init 71 = .ok (.iconst 0, 1) := by decide +kernel
theorem dL_init_72 : decode bL_init 72 = .ok (.putfield 44, 3) := by decide +kernel
theorem dL_init_75 : decode bL_init 75 = .ok (.aload_n 0, 1) := by decide +kernel
theorem dL_init_76 : decode bL_init 76 = .ok (.aload_n 1, 1) := by decide +kernel
theorem dL_init_77 : decode bL_init 77 = .ok (.putfield 47, 3) := by decide +kernel
theorem dL_init_80 : decode bL_init 80 = .ok (.return_, 1) := by decide +kernel
theorem dX_init_0 : decode bX_init 0 = .ok (.aload_n 0, 1) := by decide +kernel
theorem dX_init_1 : decode bX_init 1 = .ok (.invokespecial 3, 3) := by decide +kernel
theorem dX_init_4 : decode bX_init 4 = .ok (.aload_n 0, 1) := by decide +kernel
theorem dX_init_5 : decode bX_init 5 = .ok (.new 9, 3) := by decide +kernel
theorem dX_init_8 : decode bX_init 8 = .ok (.dup, 1) := by decide +kernel
theorem dX_init_9 : decode bX_init 9 = .ok (.invokespecial 11, 3) := by decide +kernel
theorem dX_init_12 : decode bX_init 12 = .ok (.putfield 12, 3) := by decide +kernel
theorem dX_init_15 : decode bX_init 15 = .ok (.aload_n 0, 1) := by decide +kernel
theorem dX_init_16 : decode bX_init 16 = .ok (.new 16, 3) := by decide +kernel
theorem dX_init_19 : decode bX_init 19 = .ok (.dup, 1) := by decide +kernel
theorem dX_init_20 : decode bX_init 20 = .ok (.aload_n 0, 1) := by decide +kernel
theorem dX_init_21 : decode bX_init 21 = .ok (.getfield 12, 3) := by decide +kernel
theorem dX_init_24 : decode bX_init 24 = .ok (.invokespecial 18, 3) := by decide +kernel
theorem dX_init_27 : decode bX_init 27 = .ok (.putfield 21, 3) := by decide +kernel
theorem dX_init_30 : decode bX_init 30 = .ok (.aload_n 0, 1) := by decide +kernel
theorem dX_init_31 : decode bX_init 31 = .ok (.new 25, 3) := by decide +kernel
theorem dX_init_34 : decode bX_init 34 = .ok (.dup, 1) := by decide +kernel
theorem dX_init_35 : decode bX_init 35 = .ok (.aload_n 0, 1) := by decide +kernel
theorem dX_init_36 : decode bX_init 36 = .ok (.getfield 12, 3) := by decide +kernel
theorem dX_init_39 : decode bX_init 39 = .ok (.invokespecial 27, 3) := by decide +kernel
theorem dX_init_42 : decode bX_init 42 = .ok (.putfield 28, 3) := by decide +kernel
theorem dX_init_45 : decode bX_init 45 = .ok (.aload_n 0, 1) := by decide +kernel
theorem dX_init_46 : decode bX_init 46 = .ok (.iconst 2, 1) := by decide +kernel
theorem dX_init_47 : decode bX_init 47 = .ok (.anewarray 9, 3) := by decide +kernel
theorem dX_init_50 : decode bX_init 50 = .ok (.putfield 32, 3) := by decide +kernel
theorem dX_init_53 : decode bX_init 53 = .ok (.iconst 0, 1) := by decide +kernel
theorem dX_init_54 : decode bX_init 54 = .ok (.istore_n 1, 1) := by decide +kernel
theorem dX_init_55 : decode bX_init 55 = .ok (.iload_n 1, 1) := by decide +kernel
theorem dX_init_56 : decode bX_init 56 = .ok (.iconst 2, 1) := by decide +kernel
theorem dX_init_57 : decode bX_init 57 = .ok (.if_icmp .ge 22, 3) := by decide +kernel
theorem dX_init_60 : decode bX_init 60 = .ok (.aload_n 0, 1) := by decide +kernel
theorem dX_init_61 : decode bX_init 61 = .ok (.getfield 32, 3) := by decide +kernel
theorem dX_init_64 : decode bX_init 64 = .ok (.iload_n 1, 1) := by decide +kernel
theorem dX_init_65 : decode bX_init 65 = .ok (.new 9, 3) := by decide +kernel
theorem dX_init_68 : decode bX_init 68 = .ok (.dup, 1) := by decide +kernel
theorem dX_init_69 : decode bX_init 69 = .ok (.invokespecial 11, 3) := by decide +kernel
theorem dX_init_72 : decode bX_init 72 = .ok (.aastore, 1) := by decide +kernel
theorem dX_init_73 : decode bX_init 73 = .ok (.iinc 1 1, 3) := by decide +kernel
theorem dX_init_76 : decode bX_init 76 = .ok (.goto (-21), 3) := by decide +kernel
theorem dX_init_79 : decode bX_init 79 = .ok (.aload_n 0, 1) := by decide +kernel
theorem dX_init_80 : decode bX_init 80 = .ok (.iconst 0, 1) := by decide +kernel
theorem dX_init_81 : decode bX_init 81 = .ok (.putfield 36, 3) := by decide +kernel
theorem dX_init_84 : decode bX_init 84 = .ok (.aload_n 0, 1) := by decide +kernel
theorem dX_init_85 : decode bX_init 85 = .ok (.iconst 0, 1) := by decide +kernel
theorem dX_init_86 : decode bX_init 86 = .ok (.putfield 40, 3) := by decide +kernel
theorem dX_init_89 : decode bX_init 89 = .ok (.return_, 1) := by decide +kernel
theorem dM_init_0 : decode bM_init 0 = .ok (.aload_n 0, 1) := by decide +kernel
theorem dM_init_1 : decode bM_init 1 = .ok (.invokespecial 1, 3) := by decide +kernel
theorem dM_init_4 : decode bM_init 4 = .ok (.aload_n 0, 1) := by decide +kernel
theorem dM_init_5 : decode bM_init 5 = .ok (.bipush 51, 2) := by decide +kernel
theorem dM_init_7 : decode bM_init 7 = .ok (.newarray .int, 2) := by decide +kernel
theorem dM_init_9 : decode bM_init 9 = .ok (.putfield 7, 3) := by decide +kernel
theorem dM_init_12 : decode bM_init 12 = .ok (.aload_n 0, 1) := by decide +kernel
theorem dM_init_13 : decode bM_init 13 = .ok (.bipush 102, 2) := by decide +kernel
theorem dM_init_15 : decode bM_init 15 = .ok (.newarray .int, 2) := by decide +kernel
theorem dM_init_17 : decode bM_init 17 = .ok (.putfield 13, 3) := by decide +kernel
theorem dM_init_20 : decode bM_init 20 = .ok (.aload_n 0, 1) := by decide +kernel
theorem dM_init_21 : decode bM_init 21 = .ok (.iconst 2, 1) := by decide +kernel
theorem dM_init_22 : decode bM_init 22 = .ok (.newarray .boolean, 2) := by decide +kernel
theorem dM_init_24 : decode bM_init 24 = .ok (.putfield 16, 3) := by decide +kernel
theorem dM_init_27 : decode bM_init 27 = .ok (.aload_n 0, 1) := by decide +kernel
theorem dM_init_28 : decode bM_init 28 = .ok (.sipush 144, 3) := by decide +kernel
theorem dM_init_31 : decode bM_init 31 = .ok (.newarray .int, 2) := by decide +kernel
theorem dM_init_33 : decode bM_init 33 = .ok (.putfield 20, 3) := by decide +kernel
theorem dM_init_36 : decode bM_init 36 = .ok (.aload_n 0, 1) := by decide +kernel
theorem dM_init_37 : decode bM_init 37 = .ok (.sipush 144, 3) := by decide +kernel
theorem dM_init_40 : decode bM_init 40 = .ok (.newarray .int, 2) := by decide +kernel
theorem dM_init_42 : decode bM_init 42 = .ok (.putfield 23, 3) := by decide +kernel
theorem dM_init_45 : decode bM_init 45 = .ok (.aload_n 0, 1) := by decide +kernel
theorem dM_init_46 : decode bM_init 46 = .ok (.sipush 144, 3) := by decide +kernel
theorem dM_init_49 : decode bM_init 49 = .ok (.newarray .int, 2) := by decide +kernel
theorem dM_init_51 : decode bM_init 51 = .ok (.putfield 26, 3) := by decide +kernel
theorem dM_init_54 : decode bM_init 54 = .ok (.aload_n 0, 1) := by decide +kernel
theorem dM_init_55 : decode bM_init 55 = .ok (.ldc 29, 2) := by decide +kernel
theorem dM_init_57 : decode bM_init 57 = .ok (.newarray .int, 2) := by decide +kernel
theorem dM_init_59 : decode bM_init 59 = .ok (.putfield 30, 3) := by decide +kernel
theorem dM_init_62 : decode bM_init 62 = .ok (.aload_n 0, 1) := by decide +kernel
theorem dM_init_63 : decode bM_init 63 = .ok (.sipush 144, 3) := by decide +kernel
theorem dM_init_66 : decode bM_init 66 = .ok (.newarray .int, 2) := by decide +kernel
theorem dM_init_68 : decode bM_init 68 = .ok (.putfield 33, 3) := by decide +kernel
theorem dM_init_71 : decode bM_init 71 = .ok (.aload_n 0, 1) := by decide +kernel
theorem dM_init_72 : decode bM_init 72 = .ok (.sipush 144, 3) := by decide +kernel
theorem dM_init_75 : decode bM_init 75 = .ok (.newarray .int, 2) := by decide +kernel
theorem dM_init_77 : decode bM_init 77 = .ok (.putfield 36, 3) := by decide +kernel
theorem dM_init_80 : decode bM_init 80 = .ok (.aload_n 0, 1) := by decide +kernel
theorem dM_init_81 : decode bM_init 81 = .ok (.sipush 144, 3) := by decide +kernel
theorem dM_init_84 : decode bM_init 84 = .ok (.newarray .int, 2) := by decide +kernel
theorem dM_init_86 : decode bM_init 86 = .ok (.putfield 39, 3) := by decide +kernel
theorem dM_init_89 : decode bM_init 89 = .ok (.aload_n 0, 1) := by decide +kernel
theorem dM_init_90 : decode bM_init 90 = .ok (.sipush 144, 3) := by decide +kernel
theorem dM_init_93 : decode bM_init 93 = .ok (.newarray .boolean, 2) := by decide +kernel
theorem dM_init_95 : decode bM_init 95 = .ok (.putfield 42, 3) := by decide +kernel
theorem dM_init_98 : decode bM_init 98 = .ok (.aload_n 0, 1) := by decide +kernel
theorem dM_init_99 : decode bM_init 99 = .ok (.getfield 7, 3) := by decide +kernel
theorem dM_init_102 : decode bM_init 102 = .ok (.bipush 48, 2) := by decide +kernel
theorem dM_init_104 : decode bM_init 104 = .ok (.bipush 10, 2) := by decide +kernel
theorem dM_init_106 : decode bM_init 106 = .ok (.iastore, 1) := by decide +kernel
theorem dM_init_107 : decode bM_init 107 = .ok (.aload_n 0, 1) := by decide +kernel
theorem dM_init_108 : decode bM_init 108 = .ok (.getfield 7, 3) := by decide +kernel
theorem dM_init_111 : decode bM_init 111 = .ok (.bipush 49, 2) := by decide +kernel
theorem dM_init_113 : decode bM_init 113 = .ok (.bipush 120, 2) := by decide +kernel
theorem dM_init_115 : decode bM_init 115 = .ok (.iastore, 1) := by decide +kernel
theorem dM_init_116 : decode bM_init 116 = .ok (.return_, 1) := by decide +kernel
