abbrev rL_openColumn : Room := { frames := 0, cells := 0, slots := 0, locals := 0 }
set_option maxHeartbeats 4000000 in
set_option maxRecDepth 100000 in
theorem cL_openColumn (l : Launch) (dC : Nat → ClassId) (dI : Nat → Nat → Nat) (cI cZ cB : ClassId) (l0 l1 l2 l3 l4 b0 b1 b2 b3 b4 : Nat) (lI lC lT lR : Nat → Int32) (lth lro lsp lle lex lco lou : Int32) (bK bZ bL bM : Nat → Int32) (bi bg bh : Int32) (p1 : Int32) (lle' : Int32) (lco' : Int32) (hf : fL_openColumn p1 lle lco bh = some (lle', lco')) : MV l yL_openColumn wL_openColumn rL_openColumn (dC, dI) (tyl cI cZ cB) [Value.ref l0, Value.int p1] (wdL cI cZ cB l0 l1 l2 l3 l4 b0 b1 b2 b3 b4 lI lC lT lR lth lro lsp lle lex lco lou bK bZ bL bM bi bg bh) (wdL cI cZ cB l0 l1 l2 l3 l4 b0 b1 b2 b3 b4 lI lC lT lR lth lro lsp lle' lex lco' lou bK bZ bL bM bi bg bh) := by
  refine MV_of "StepColumns$Laying" rfl (by decide) (Nat.le_of_ble_eq_true rfl) ?_
  intro p e s m below meth c A Q C hQ
  have hb_25 : ∀ (t1 t2 : Int32) (lle lco : Int32), fL_openColumn_b25 t1 t2 lle lco bh = some (lle', lco') → SJ p l e rL_openColumn s m (List.toArray [Value.ref l0, Value.int p1]) below meth c A (dC, dI) 2 Q (wdL cI cZ cB l0 l1 l2 l3 l4 b0 b1 b2 b3 b4 lI lC lT lR lth lro lsp lle lex lco lou bK bZ bL bM bi bg bh) [(0, .ref l0)] 25 [.int t2, .int t1, .ref l0] := by
    intro t1 t2 lle lco hf
    unfold fL_openColumn_b25 at hf
    refine sj_iadd C dL_openColumn_25 ?_
    refine sj_put (w' := (wdL cI cZ cB l0 l1 l2 l3 l4 b0 b1 b2 b3 b4 lI lC lT lR lth lro lsp ((t1 + t2)) lex lco lou bK bZ bL bM bi bg bh)) C nL_in nL_ty nL_ok nL_nm 0 rfl rfl 8 (by decide) wd_133 rfl rfl rfl rfl (Nat.le_of_ble_eq_true rfl) dL_openColumn_26 rfl ?_
    refine sj_aload_n C dL_openColumn_29 0 rfl rfl ?_
    refine sj_dup C dL_openColumn_30 rfl ?_
    refine sj_get C nL_in 0 rfl rfl 10 (by decide) wd_136 rfl rfl dL_openColumn_31 ?_
    refine sj_iconst C dL_openColumn_34 ki_1 ?_
    refine sj_iadd C dL_openColumn_35 ?_
    refine sj_put (w' := (wdL cI cZ cB l0 l1 l2 l3 l4 b0 b1 b2 b3 b4 lI lC lT lR lth lro lsp ((t1 + t2)) lex ((lco + 1)) lou bK bZ bL bM bi bg bh)) C nL_in nL_ty nL_ok nL_nm 0 rfl rfl 10 (by decide) wd_136 rfl rfl rfl rfl (Nat.le_of_ble_eq_true rfl) dL_openColumn_36 rfl ?_
    cases hf
    exact hQ 39 _ dL_openColumn_39
  unfold fL_openColumn at hf
  change SJ p l e rL_openColumn s m (List.toArray [Value.ref l0, Value.int p1]) below meth c A (dC, dI) 2 Q (wdL cI cZ cB l0 l1 l2 l3 l4 b0 b1 b2 b3 b4 lI lC lT lR lth lro lsp lle lex lco lou bK bZ bL bM bi bg bh) [(0, .ref l0), (1, .int p1)] 0 []
  refine sj_aload_n C dL_openColumn_0 0 rfl rfl ?_
  refine sj_dup C dL_openColumn_1 rfl ?_
  refine sj_get C nL_in 0 rfl rfl 8 (by decide) wd_133 rfl rfl dL_openColumn_2 ?_
  refine sj_aload_n C dL_openColumn_5 0 rfl rfl ?_
  refine sj_get C nL_in 0 rfl rfl 10 (by decide) wd_136 rfl rfl dL_openColumn_6 ?_
  refine sj_if_ne C 16 dL_openColumn_9 (by decide) (fun c_9 => ?_) (fun c_9 => ?_)
  · have hf := (if_neg c_9).symm.trans hf
    refine sj_aload_n C dL_openColumn_16 0 rfl rfl ?_
    refine sj_get C nL_in 0 rfl rfl 0 (by decide) wd_125 rfl rfl dL_openColumn_17 ?_
    refine sj_get C nB_in 5 rfl rfl 6 (by decide) wd_76 rfl rfl dL_openColumn_20 ?_
    refine sj_iload_n C dL_openColumn_23 1 rfl rfl ?_
    refine sj_isub C dL_openColumn_24 ?_
    exact sj_lv [0] rfl (hb_25 lle (bh - p1) lle lco hf)
  · have hf := (if_pos c_9).symm.trans hf
    refine sj_iconst C dL_openColumn_12 ki_0 ?_
    refine sj_goto C 25 dL_openColumn_13 (by decide) ?_
    exact sj_lv [0] rfl (hb_25 lle 0 lle lco hf)
abbrev rL_putThing : Room := { frames := 1, cells := 0, slots := 0, locals := 22 }
set_option maxHeartbeats 4000000 in
set_option maxRecDepth 100000 in
theorem cL_putThing (l : Launch) (dC : Nat → ClassId) (dI : Nat → Nat → Nat) (cI cZ cB : ClassId) (l0 l1 l2 l3 l4 b0 b1 b2 b3 b4 : Nat) (lI lC lT lR : Nat → Int32) (lth lro lsp lle lex lco lou : Int32) (bK bZ bL bM : Nat → Int32) (bi bg bh : Int32) (p1 p2 p3 : Int32) (lI' : Nat → Int32) (lC' : Nat → Int32) (lT' : Nat → Int32) (lR' : Nat → Int32) (lth' : Int32) (lou' : Int32) (hf : fL_putThing p1 p2 p3 lI lC lT lR lth lco lou bK bg = some (lI', lC', lT', lR', lth', lou')) : MV l yL_putThing wL_putThing rL_putThing (dC, dI) (tyl cI cZ cB) [Value.ref l0, Value.int p1, Value.int p2, Value.int p3] (wdL cI cZ cB l0 l1 l2 l3 l4 b0 b1 b2 b3 b4 lI lC lT lR lth lro lsp lle lex lco lou bK bZ bL bM bi bg bh) (wdL cI cZ cB l0 l1 l2 l3 l4 b0 b1 b2 b3 b4 lI' lC' lT' lR' lth' lro lsp lle lex lco lou' bK bZ bL bM bi bg bh) := by
  refine MV_of "StepColumns$Laying" rfl (by decide) (Nat.le_of_ble_eq_true rfl) ?_
  intro p e s m below meth c A Q C hQ
  have hb_88 : ∀ (lI lC lT lR : Nat → Int32) (lth lou : Int32), fL_putThing_b88 lI lC lT lR lth lco lou bK bg = some (lI', lC', lT', lR', lth', lou') → SJ p l e rL_putThing s m (List.toArray [Value.ref l0, Value.int p1, Value.int p2, Value.int p3]) below meth c A (dC, dI) 4 Q (wdL cI cZ cB l0 l1 l2 l3 l4 b0 b1 b2 b3 b4 lI lC lT lR lth lro lsp lle lex lco lou bK bZ bL bM bi bg bh) [] 88 [] := by
    intro lI lC lT lR lth lou hf
    unfold fL_putThing_b88 at hf
    cases hf
    exact hQ 88 _ dL_putThing_88
  unfold fL_putThing at hf
  change SJ p l e rL_putThing s m (List.toArray [Value.ref l0, Value.int p1, Value.int p2, Value.int p3]) below meth c A (dC, dI) 4 Q (wdL cI cZ cB l0 l1 l2 l3 l4 b0 b1 b2 b3 b4 lI lC lT lR lth lro lsp lle lex lco lou bK bZ bL bM bi bg bh) [(0, .ref l0), (1, .int p1), (2, .int p2), (3, .int p3)] 0 []
  refine sj_aload_n C dL_putThing_0 0 rfl rfl ?_
  refine sj_get C nL_in 0 rfl rfl 5 (by decide) wd_130 rfl rfl dL_putThing_1 ?_
  refine sj_sipush C dL_putThing_4 ks_144 ?_
  refine sj_icmp_lt C 11 dL_putThing_7 (by decide) (fun c_7 => ?_) (fun c_7 => ?_)
  · have hf := (if_pos c_7).symm.trans hf
    refine sj_aload_n C dL_putThing_11 0 rfl rfl ?_
    refine sj_get C nL_in 0 rfl rfl 1 (by decide) wd_126 rfl rfl dL_putThing_12 ?_
    refine sj_aload_n C dL_putThing_15 0 rfl rfl ?_
    refine sj_get C nL_in 0 rfl rfl 5 (by decide) wd_130 rfl rfl dL_putThing_16 ?_
    refine sj_iload_n C dL_putThing_19 1 rfl rfl ?_
    obtain ⟨h_20, hf⟩ := in_some hf
    refine sj_iast (w' := (wdL cI cZ cB l0 l1 l2 l3 l4 b0 b1 b2 b3 b4 ((upd lI lth.toNatClampNeg p1)) lC lT lR lth lro lsp lle lex lco lou bK bZ bL bM bi bg bh)) C 1 0 rfl rfl h_20 rfl dL_putThing_20 rfl ?_
    refine sj_aload_n C dL_putThing_21 0 rfl rfl ?_
    refine sj_get C nL_in 0 rfl rfl 2 (by decide) wd_127 rfl rfl dL_putThing_22 ?_
    refine sj_aload_n C dL_putThing_25 0 rfl rfl ?_
    refine sj_get C nL_in 0 rfl rfl 5 (by decide) wd_130 rfl rfl dL_putThing_26 ?_
    refine sj_aload_n C dL_putThing_29 0 rfl rfl ?_
    refine sj_get C nL_in 0 rfl rfl 10 (by decide) wd_136 rfl rfl dL_putThing_30 ?_
    refine sj_iconst C dL_putThing_33 ki_1 ?_
    refine sj_isub C dL_putThing_34 ?_
    obtain ⟨h_35, hf⟩ := in_some hf
    refine sj_iast (w' := (wdL cI cZ cB l0 l1 l2 l3 l4 b0 b1 b2 b3 b4 ((upd lI lth.toNatClampNeg p1)) ((upd lC lth.toNatClampNeg (lco - 1))) lT lR lth lro lsp lle lex lco lou bK bZ bL bM bi bg bh)) C 2 0 rfl rfl h_35 rfl dL_putThing_35 rfl ?_
    refine sj_aload_n C dL_putThing_36 0 rfl rfl ?_
    refine sj_get C nL_in 0 rfl rfl 3 (by decide) wd_128 rfl rfl dL_putThing_37 ?_
    refine sj_aload_n C dL_putThing_40 0 rfl rfl ?_
    refine sj_get C nL_in 0 rfl rfl 5 (by decide) wd_130 rfl rfl dL_putThing_41 ?_
    refine sj_iload_n C dL_putThing_44 2 rfl rfl ?_
    obtain ⟨h_45, hf⟩ := in_some hf
    refine sj_iast (w' := (wdL cI cZ cB l0 l1 l2 l3 l4 b0 b1 b2 b3 b4 ((upd lI lth.toNatClampNeg p1)) ((upd lC lth.toNatClampNeg (lco - 1))) ((upd lT lth.toNatClampNeg p2)) lR lth lro lsp lle lex lco lou bK bZ bL bM bi bg bh)) C 3 0 rfl rfl h_45 rfl dL_putThing_45 rfl ?_
    refine sj_aload_n C dL_putThing_46 0 rfl rfl ?_
    refine sj_get C nL_in 0 rfl rfl 4 (by decide) wd_129 rfl rfl dL_putThing_47 ?_
    refine sj_aload_n C dL_putThing_50 0 rfl rfl ?_
    refine sj_get C nL_in 0 rfl rfl 5 (by decide) wd_130 rfl rfl dL_putThing_51 ?_
    refine sj_iload_n C dL_putThing_54 3 rfl rfl ?_
    obtain ⟨h_55, hf⟩ := in_some hf
    refine sj_iast (w' := (wdL cI cZ cB l0 l1 l2 l3 l4 b0 b1 b2 b3 b4 ((upd lI lth.toNatClampNeg p1)) ((upd lC lth.toNatClampNeg (lco - 1))) ((upd lT lth.toNatClampNeg p2)) ((upd lR lth.toNatClampNeg p3)) lth lro lsp lle lex lco lou bK bZ bL bM bi bg bh)) C 4 0 rfl rfl h_55 rfl dL_putThing_55 rfl ?_
    refine sj_aload_n C dL_putThing_56 0 rfl rfl ?_
    refine sj_dup C dL_putThing_57 rfl ?_
    refine sj_get C nL_in 0 rfl rfl 5 (by decide) wd_130 rfl rfl dL_putThing_58 ?_
    refine sj_iconst C dL_putThing_61 ki_1 ?_
    refine sj_iadd C dL_putThing_62 ?_
    refine sj_put (w' := (wdL cI cZ cB l0 l1 l2 l3 l4 b0 b1 b2 b3 b4 ((upd lI lth.toNatClampNeg p1)) ((upd lC lth.toNatClampNeg (lco - 1))) ((upd lT lth.toNatClampNeg p2)) ((upd lR lth.toNatClampNeg p3)) ((lth + 1)) lro lsp lle lex lco lou bK bZ bL bM bi bg bh)) C nL_in nL_ty nL_ok nL_nm 0 rfl rfl 5 (by decide) wd_130 rfl rfl rfl rfl (Nat.le_of_ble_eq_true rfl) dL_putThing_63 rfl ?_
    refine sj_aload_n C dL_putThing_66 0 rfl rfl ?_
    refine sj_get C nL_in 0 rfl rfl 0 (by decide) wd_125 rfl rfl dL_putThing_67 ?_
    refine sj_iload_n C dL_putThing_70 1 rfl rfl ?_
    refine sj_iload_n C dL_putThing_71 2 rfl rfl ?_
    obtain ⟨r_72, hq_72, hf⟩ := bd1_some hf
    refine sj_callVi (w1 := (wdL cI cZ cB l0 l1 l2 l3 l4 b0 b1 b2 b3 b4 ((upd lI lth.toNatClampNeg p1)) ((upd lC lth.toNatClampNeg (lco - 1))) ((upd lT lth.toNatClampNeg p2)) ((upd lR lth.toNatClampNeg p3)) ((lth + 1)) lro lsp lle lex lco lou bK bZ bL bM bi bg bh)) (q0 := 0) C "StepColumns$Book" (cB_isOut l dC dI cI cZ cB b0 b1 b2 b3 b4 bK bZ bL bM bi bg bh p1 p2 r_72 hq_72) wd_331 wd_287 wd_288 wd_36 wd_289 hB_isOut rfl rfl ⟨Nat.le_of_ble_eq_true rfl, Nat.le_of_ble_eq_true rfl⟩ [5, 6, 7, 8, 9] [0, 1, 2, 3, 4] ⟨rfl, rfl, rfl, rfl, rfl, rfl, kv_10_5_6_7_8_9⟩ rfl rfl rfl rfl rfl (Nat.le_of_ble_eq_true rfl) dL_putThing_72 ?_
    refine sj_if_eq C 88 dL_putThing_75 (by decide) (fun c_75 => ?_) (fun c_75 => ?_)
    · have hf := (if_pos c_75).symm.trans hf
      exact sj_lv [] rfl (hb_88 (upd lI lth.toNatClampNeg p1) (upd lC lth.toNatClampNeg (lco - 1)) (upd lT lth.toNatClampNeg p2) (upd lR lth.toNatClampNeg p3) (lth + 1) lou hf)
    · have hf := (if_neg c_75).symm.trans hf
      refine sj_aload_n C dL_putThing_78 0 rfl rfl ?_
      refine sj_dup C dL_putThing_79 rfl ?_
      refine sj_get C nL_in 0 rfl rfl 11 (by decide) wd_138 rfl rfl dL_putThing_80 ?_
      refine sj_iconst C dL_putThing_83 ki_1 ?_
      refine sj_iadd C dL_putThing_84 ?_
      refine sj_put (w' := (wdL cI cZ cB l0 l1 l2 l3 l4 b0 b1 b2 b3 b4 ((upd lI lth.toNatClampNeg p1)) ((upd lC lth.toNatClampNeg (lco - 1))) ((upd lT lth.toNatClampNeg p2)) ((upd lR lth.toNatClampNeg p3)) ((lth + 1)) lro lsp lle lex lco ((lou + 1)) bK bZ bL bM bi bg bh)) C nL_in nL_ty nL_ok nL_nm 0 rfl rfl 11 (by decide) wd_138 rfl rfl rfl rfl (Nat.le_of_ble_eq_true rfl) dL_putThing_85 rfl ?_
      exact sj_lv [] rfl (hb_88 (upd lI lth.toNatClampNeg p1) (upd lC lth.toNatClampNeg (lco - 1)) (upd lT lth.toNatClampNeg p2) (upd lR lth.toNatClampNeg p3) (lth + 1) (lou + 1) hf)
  · have hf := (if_neg c_7).symm.trans hf
    cases hf
    exact hQ 10 _ dL_putThing_10
abbrev rL_putItem : Room := { frames := 110, cells := 0, slots := 0, locals := 2212 }
set_option maxHeartbeats 4000000 in
set_option maxRecDepth 100000 in
theorem cL_putItem (l : Launch) (dC : Nat → ClassId) (dI : Nat → Nat → Nat) (cI cZ cB : ClassId) (l0 l1 l2 l3 l4 s0 s1 s2 b0 b1 b2 b3 b4 : Nat) (lI lC lT lR : Nat → Int32) (lth lro lsp lle lex lco lou : Int32) (sB sO : Nat → Int32) (sh sw sr : Int32) (bK bZ bL bM : Nat → Int32) (bi bg bh : Int32) (p1 p2 p3 : Int32) (r : Int32) (lI' : Nat → Int32) (lC' : Nat → Int32) (lT' : Nat → Int32) (lR' : Nat → Int32) (lth' : Int32) (lro' : Int32) (lsp' : Int32) (lle' : Int32) (lco' : Int32) (lou' : Int32) (sB' : Nat → Int32) (sO' : Nat → Int32) (hf : fL_putItem p1 p2 p3 lI lC lT lR lth lro lsp lle lco lou sB sO sh sw sr bK bZ bL bM bi bg bh = some (r, lI', lC', lT', lR', lth', lro', lsp', lle', lco', lou', sB', sO')) : MI l yL_putItem wL_putItem rL_putItem (dC, dI) (tyl cI cZ cB) [Value.ref l0, Value.ref s0, Value.int p1, Value.int p2, Value.int p3] (wdLS cI cZ cB l0 l1 l2 l3 l4 s0 s1 s2 b0 b1 b2 b3 b4 lI lC lT lR lth lro lsp lle lex lco lou sB sO sh sw sr bK bZ bL bM bi bg bh) (wdLS cI cZ cB l0 l1 l2 l3 l4 s0 s1 s2 b0 b1 b2 b3 b4 lI' lC' lT' lR' lth' lro' lsp' lle' lex lco' lou' sB' sO' sh sw sr bK bZ bL bM bi bg bh) r := by
  refine MI_of "StepColumns$Laying" rfl (by decide) (Nat.le_of_ble_eq_true rfl) ?_
  intro p e s m below meth c A Q C hQ
  have hb_92 : ∀ (K27 : Int32 → Int32 → Int32 → Int32 → Int32 → (Nat → Int32) → (Nat → Int32) → (Nat → Int32) → (Nat → Int32) → Int32 → Int32 → Int32 → Int32 → Int32 → Int32 → (Nat → Int32) → (Nat → Int32) → Int32 → Int32 → Int32 → (Nat → Int32) → (Nat → Int32) → (Nat → Int32) → (Nat → Int32) → Int32 → Int32 → Int32 → Option (Int32 × (Nat → Int32) × (Nat → Int32) × (Nat → Int32) × (Nat → Int32) × Int32 × Int32 × Int32 × Int32 × Int32 × Int32 × (Nat → Int32) × (Nat → Int32))) (hK27 : ∀ (v2 v4 v5 v6 v7 : Int32) (lI lC lT lR : Nat → Int32) (lth lro lsp lle lco lou : Int32) (sB sO : Nat → Int32), K27 v2 v4 v5 v6 v7 lI lC lT lR lth lro lsp lle lco lou sB sO sh sw sr bK bZ bL bM bi bg bh = some (r, lI', lC', lT', lR', lth', lro', lsp', lle', lco', lou', sB', sO') → SJ p l e rL_putItem s m (List.toArray [Value.ref l0, Value.ref s0, Value.int p1, Value.int p2, Value.int p3]) below meth c A (dC, dI) 8 Q (wdLS cI cZ cB l0 l1 l2 l3 l4 s0 s1 s2 b0 b1 b2 b3 b4 lI lC lT lR lth lro lsp lle lex lco lou sB sO sh sw sr bK bZ bL bM bi bg bh) [(0, .ref l0), (1, .ref s0), (2, .int v2), (4, .int v4), (5, .int v5), (6, .int v6), (7, .int v7)] 27 []) (v2 v4 v5 v6 v7 t1 t2 t3 : Int32) (lI lC lT lR : Nat → Int32) (lth lro lsp lle lco lou : Int32) (sB sO : Nat → Int32), fL_putItem_b92 K27 v2 v4 v5 v6 v7 t1 t2 t3 lI lC lT lR lth lro lsp lle lco lou sB sO sh sw sr bK bZ bL bM bi bg bh = some (r, lI', lC', lT', lR', lth', lro', lsp', lle', lco', lou', sB', sO') → SJ p l e rL_putItem s m (List.toArray [Value.ref l0, Value.ref s0, Value.int p1, Value.int p2, Value.int p3]) below meth c A (dC, dI) 8 Q (wdLS cI cZ cB l0 l1 l2 l3 l4 s0 s1 s2 b0 b1 b2 b3 b4 lI lC lT lR lth lro lsp lle lex lco lou sB sO sh sw sr bK bZ bL bM bi bg bh) [(0, .ref l0), (1, .ref s0), (2, .int v2), (4, .int v4), (5, .int v5), (6, .int v6), (7, .int v7)] 92 [.int t3, .int t2, .int t1, .ref l0] := by
    intro K27 hK27 v2 v4 v5 v6 v7 t1 t2 t3 lI lC lT lR lth lro lsp lle lco lou sB sO hf
    unfold fL_putItem_b92 at hf
    obtain ⟨lI_92, lC_92, lT_92, lR_92, lth_92, lou_92, hq_92, hf⟩ := bd6_some hf
    refine sj_callVv (w1 := (wdLS cI cZ cB l0 l1 l2 l3 l4 s0 s1 s2 b0 b1 b2 b3 b4 lI_92 lC_92 lT_92 lR_92 lth_92 lro lsp lle lex lco lou_92 sB sO sh sw sr bK bZ bL bM bi bg bh)) (q0 := 0) C "StepColumns$Laying" (cL_putThing l dC dI cI cZ cB l0 l1 l2 l3 l4 b0 b1 b2 b3 b4 lI lC lT lR lth lro lsp lle lex lco lou bK bZ bL bM bi bg bh t1 t2 t3 lI_92 lC_92 lT_92 lR_92 lth_92 lou_92 hq_92) wd_327 wd_329 wd_11 wd_38 wd_330 hL_putThing rfl rfl ⟨Nat.le_of_ble_eq_true rfl, Nat.le_of_ble_eq_true rfl⟩ [0, 1, 2, 3, 4, 8, 9, 10, 11, 12] [5, 6, 7] ⟨rfl, rfl, rfl, rfl, rfl, rfl, kv_13_0_1_2_3_4_8_9_10_11_12⟩ rfl rfl rfl rfl rfl (Nat.le_of_ble_eq_true rfl) dL_putItem_92 ?_
    refine sj_iload C dL_putItem_95 4 rfl ?_
    refine sj_aload_n C dL_putItem_97 0 rfl rfl ?_
    refine sj_get C nL_in 0 rfl rfl 0 (by decide) wd_125 rfl rfl dL_putItem_98 ?_
    refine sj_iload_n C dL_putItem_101 2 rfl rfl ?_
    obtain ⟨r_102, hq_102, hf⟩ := bd1_some hf
    refine sj_callVi (w1 := (wdLS cI cZ cB l0 l1 l2 l3 l4 s0 s1 s2 b0 b1 b2 b3 b4 lI_92 lC_92 lT_92 lR_92 lth_92 lro lsp lle lex lco lou_92 sB sO sh sw sr bK bZ bL bM bi bg bh)) (q0 := 0) C "StepColumns$Book" (cB_tall l dC dI cI cZ cB b0 b1 b2 b3 b4 bK bZ bL bM bi bg bh v2 r_102 hq_102) wd_332 wd_283 wd_284 wd_36 wd_285 hB_tall rfl rfl ⟨Nat.le_of_ble_eq_true rfl, Nat.le_of_ble_eq_true rfl⟩ [8, 9, 10, 11, 12] [0, 1, 2, 3, 4, 5, 6, 7] ⟨rfl, rfl, rfl, rfl, rfl, rfl, kv_13_8_9_10_11_12⟩ rfl rfl rfl rfl rfl (Nat.le_of_ble_eq_true rfl) dL_putItem_102 ?_
    refine sj_iadd C dL_putItem_105 ?_
    refine sj_istore (lv' := [(5, .int (v5 + r_102)), (0, .ref l0), (1, .ref s0), (2, .int v2), (4, .int v4), (6, .int v6), (7, .int v7)]) C dL_putItem_106 (by decide) rfl ?_
    refine sj_iinc (v := (v7 + 1)) (lv' := [(7, .int (v7 + 1)), (5, .int (v5 + r_102)), (0, .ref l0), (1, .ref s0), (2, .int v2), (4, .int v4), (6, .int v6)]) C dL_putItem_108 6 rfl (by rw [ki_1]) (by decide) rfl ?_
    refine sj_goto C 27 dL_putItem_111 (by decide) ?_
    exact sj_lv [2, 3, 4, 5, 1, 6, 0] rfl (hK27 v2 v4 (v5 + r_102) v6 (v7 + 1) lI_92 lC_92 lT_92 lR_92 lth_92 lro lsp lle lco lou_92 sB sO hf)
  have hb_77 : ∀ (K27 : Int32 → Int32 → Int32 → Int32 → Int32 → (Nat → Int32) → (Nat → Int32) → (Nat → Int32) → (Nat → Int32) → Int32 → Int32 → Int32 → Int32 → Int32 → Int32 → (Nat → Int32) → (Nat → Int32) → Int32 → Int32 → Int32 → (Nat → Int32) → (Nat → Int32) → (Nat → Int32) → (Nat → Int32) → Int32 → Int32 → Int32 → Option (Int32 × (Nat → Int32) × (Nat → Int32) × (Nat → Int32) × (Nat → Int32) × Int32 × Int32 × Int32 × Int32 × Int32 × Int32 × (Nat → Int32) × (Nat → Int32))) (hK27 : ∀ (v2 v4 v5 v6 v7 : Int32) (lI lC lT lR : Nat → Int32) (lth lro lsp lle lco lou : Int32) (sB sO : Nat → Int32), K27 v2 v4 v5 v6 v7 lI lC lT lR lth lro lsp lle lco lou sB sO sh sw sr bK bZ bL bM bi bg bh = some (r, lI', lC', lT', lR', lth', lro', lsp', lle', lco', lou', sB', sO') → SJ p l e rL_putItem s m (List.toArray [Value.ref l0, Value.ref s0, Value.int p1, Value.int p2, Value.int p3]) below meth c A (dC, dI) 8 Q (wdLS cI cZ cB l0 l1 l2 l3 l4 s0 s1 s2 b0 b1 b2 b3 b4 lI lC lT lR lth lro lsp lle lex lco lou sB sO sh sw sr bK bZ bL bM bi bg bh) [(0, .ref l0), (1, .ref s0), (2, .int v2), (4, .int v4), (5, .int v5), (6, .int v6), (7, .int v7)] 27 []) (v2 v4 v5 v6 v7 : Int32) (lI lC lT lR : Nat → Int32) (lth lro lsp lle lco lou : Int32) (sB sO : Nat → Int32), fL_putItem_b77 K27 v2 v4 v5 v6 v7 lI lC lT lR lth lro lsp lle lco lou sB sO sh sw sr bK bZ bL bM bi bg bh = some (r, lI', lC', lT', lR', lth', lro', lsp', lle', lco', lou', sB', sO') → SJ p l e rL_putItem s m (List.toArray [Value.ref l0, Value.ref s0, Value.int p1, Value.int p2, Value.int p3]) below meth c A (dC, dI) 8 Q (wdLS cI cZ cB l0 l1 l2 l3 l4 s0 s1 s2 b0 b1 b2 b3 b4 lI lC lT lR lth lro lsp lle lex lco lou sB sO sh sw sr bK bZ bL bM bi bg bh) [(0, .ref l0), (1, .ref s0), (2, .int v2), (4, .int v4), (5, .int v5), (6, .int v6), (7, .int v7)] 77 [] := by
    intro K27 hK27 v2 v4 v5 v6 v7 lI lC lT lR lth lro lsp lle lco lou sB sO hf
    unfold fL_putItem_b77 at hf
    refine sj_aload_n C dL_putItem_77 0 rfl rfl ?_
    refine sj_iload_n C dL_putItem_78 2 rfl rfl ?_
    refine sj_iload C dL_putItem_79 4 rfl ?_
    refine sj_iload C dL_putItem_81 6 rfl ?_
    refine sj_if_ne C 91 dL_putItem_83 (by decide) (fun c_83 => ?_) (fun c_83 => ?_)
    · have hf := (if_neg c_83).symm.trans hf
      refine sj_iconst C dL_putItem_91 ki_0 ?_
      exact sj_lv [0, 1, 2, 3, 4, 5, 6] rfl (hb_92 K27 hK27 v2 v4 v5 v6 v7 v2 v5 0 lI lC lT lR lth lro lsp lle lco lou sB sO hf)
    · have hf := (if_pos c_83).symm.trans hf
      refine sj_iload C dL_putItem_86 3 rfl ?_
      refine sj_goto C 92 dL_putItem_88 (by decide) ?_
      exact sj_lv [0, 1, 2, 3, 4, 5, 6] rfl (hb_92 K27 hK27 v2 v4 v5 v6 v7 v2 v5 v4 lI lC lT lR lth lro lsp lle lco lou sB sO hf)
  have hb_27 : ∀ (n : Nat) (v2 v4 v5 v6 v7 : Int32) (lI lC lT lR : Nat → Int32) (lth lro lsp lle lco lou : Int32) (sB sO : Nat → Int32), fL_putItem_b27 n v2 v4 v5 v6 v7 lI lC lT lR lth lro lsp lle lco lou sB sO sh sw sr bK bZ bL bM bi bg bh = some (r, lI', lC', lT', lR', lth', lro', lsp', lle', lco', lou', sB', sO') → SJ p l e rL_putItem s m (List.toArray [Value.ref l0, Value.ref s0, Value.int p1, Value.int p2, Value.int p3]) below meth c A (dC, dI) 8 Q (wdLS cI cZ cB l0 l1 l2 l3 l4 s0 s1 s2 b0 b1 b2 b3 b4 lI lC lT lR lth lro lsp lle lex lco lou sB sO sh sw sr bK bZ bL bM bi bg bh) [(0, .ref l0), (1, .ref s0), (2, .int v2), (4, .int v4), (5, .int v5), (6, .int v6), (7, .int v7)] 27 [] := by
    intro n
    induction n with
    | zero => intro v2 v4 v5 v6 v7 lI lC lT lR lth lro lsp lle lco lou sB sO hf; cases hf
    | succ n IH =>
      intro v2 v4 v5 v6 v7 lI lC lT lR lth lro lsp lle lco lou sB sO hf
      unfold fL_putItem_b27 at hf
      refine sj_iload C dL_putItem_27 6 rfl ?_
      refine sj_aload_n C dL_putItem_29 0 rfl rfl ?_
      refine sj_get C nL_in 0 rfl rfl 0 (by decide) wd_125 rfl rfl dL_putItem_30 ?_
      refine sj_iload_n C dL_putItem_33 2 rfl rfl ?_
      obtain ⟨r_34, hq_34, hf⟩ := bd1_some hf
      refine sj_callVi (w1 := (wdLS cI cZ cB l0 l1 l2 l3 l4 s0 s1 s2 b0 b1 b2 b3 b4 lI lC lT lR lth lro lsp lle lex lco lou sB sO sh sw sr bK bZ bL bM bi bg bh)) (q0 := 0) C "StepColumns$Book" (cB_thingsOf l dC dI cI cZ cB b0 b1 b2 b3 b4 bK bZ bL bM bi bg bh v2 r_34 hq_34) wd_326 wd_266 wd_267 wd_36 wd_268 hB_thingsOf rfl rfl ⟨Nat.le_of_ble_eq_true rfl, Nat.le_of_ble_eq_true rfl⟩ [8, 9, 10, 11, 12] [0, 1, 2, 3, 4, 5, 6, 7] ⟨rfl, rfl, rfl, rfl, rfl, rfl, kv_13_8_9_10_11_12⟩ rfl rfl rfl rfl rfl (Nat.le_of_ble_eq_true rfl) dL_putItem_34 ?_
      refine sj_icmp_ge C 114 dL_putItem_37 (by decide) (fun c_37 => ?_) (fun c_37 => ?_)
      · have hf := (if_pos c_37).symm.trans hf
        refine sj_iload C dL_putItem_114 4 rfl ?_
        cases hf
        exact hQ 116 _ dL_putItem_116
      · have hf := (if_neg c_37).symm.trans hf
        refine sj_iload C dL_putItem_40 6 rfl ?_
        refine sj_iload C dL_putItem_42 5 rfl ?_
        refine sj_icmp_ne C 77 dL_putItem_44 (by decide) (fun c_44 => ?_) (fun c_44 => ?_)
        · have hf := (if_neg c_44).symm.trans hf
          exact sj_lv [0, 1, 2, 3, 4, 5, 6] rfl (hb_77 (fL_putItem_b27 n) IH v2 v4 v5 v6 v7 lI lC lT lR lth lro lsp lle lco lou sB sO hf)
        · have hf := (if_pos c_44).symm.trans hf
          refine sj_aload_n C dL_putItem_47 0 rfl rfl ?_
          refine sj_iload C dL_putItem_48 4 rfl ?_
          obtain ⟨lle_50, lco_50, hq_50, hf⟩ := bd2_some hf
          refine sj_callVv (w1 := (wdLS cI cZ cB l0 l1 l2 l3 l4 s0 s1 s2 b0 b1 b2 b3 b4 lI lC lT lR lth lro lsp lle_50 lex lco_50 lou sB sO sh sw sr bK bZ bL bM bi bg bh)) (q0 := 0) C "StepColumns$Laying" (cL_openColumn l dC dI cI cZ cB l0 l1 l2 l3 l4 b0 b1 b2 b3 b4 lI lC lT lR lth lro lsp lle lex lco lou bK bZ bL bM bi bg bh v5 lle_50 lco_50 hq_50) wd_314 wd_316 wd_9 wd_38 wd_317 hL_openColumn rfl rfl ⟨Nat.le_of_ble_eq_true rfl, Nat.le_of_ble_eq_true rfl⟩ [0, 1, 2, 3, 4, 8, 9, 10, 11, 12] [5, 6, 7] ⟨rfl, rfl, rfl, rfl, rfl, rfl, kv_13_0_1_2_3_4_8_9_10_11_12⟩ rfl rfl rfl rfl rfl (Nat.le_of_ble_eq_true rfl) dL_putItem_50 ?_
          refine sj_aload_n C dL_putItem_53 0 rfl rfl ?_
          refine sj_dup C dL_putItem_54 rfl ?_
          refine sj_get C nL_in 0 rfl rfl 7 (by decide) wd_132 rfl rfl dL_putItem_55 ?_
          refine sj_iconst C dL_putItem_58 ki_1 ?_
          refine sj_iadd C dL_putItem_59 ?_
          refine sj_put (w' := (wdLS cI cZ cB l0 l1 l2 l3 l4 s0 s1 s2 b0 b1 b2 b3 b4 lI lC lT lR lth lro ((lsp + 1)) lle_50 lex lco_50 lou sB sO sh sw sr bK bZ bL bM bi bg bh)) C nL_in nL_ty nL_ok nL_nm 0 rfl rfl 7 (by decide) wd_132 rfl rfl rfl rfl (Nat.le_of_ble_eq_true rfl) dL_putItem_60 rfl ?_
          refine sj_iconst C dL_putItem_63 ki_0 ?_
          refine sj_istore (lv' := [(5, .int 0), (0, .ref l0), (1, .ref s0), (2, .int v2), (4, .int v4), (6, .int v6), (7, .int v7)]) C dL_putItem_64 (by decide) rfl ?_
          refine sj_aload_n C dL_putItem_66 2 rfl rfl ?_
          refine sj_iload_n C dL_putItem_67 3 rfl rfl ?_
          refine sj_iload C dL_putItem_68 6 rfl ?_
          refine sj_iload C dL_putItem_70 0 rfl ?_
          obtain ⟨r_72, sB_72, sO_72, hq_72, hf⟩ := bd3_some hf
          refine sj_callVi (w1 := (wdLS cI cZ cB l0 l1 l2 l3 l4 s0 s1 s2 b0 b1 b2 b3 b4 lI lC lT lR lth lro ((lsp + 1)) lle_50 lex lco_50 lou sB_72 sO_72 sh sw sr bK bZ bL bM bi bg bh)) (q0 := 0) C "StepColumns$Scale" (cS_breakBehind l dC dI cI cZ cB s0 s1 s2 b0 b1 b2 b3 b4 sB sO sh sw sr bK bZ bL bM bi bg bh v2 v7 0 r_72 sB_72 sO_72 hq_72) wd_322 wd_323 wd_324 wd_37 wd_325 hS_breakBehind rfl rfl ⟨Nat.le_of_ble_eq_true rfl, Nat.le_of_ble_eq_true rfl⟩ [5, 6, 7, 8, 9, 10, 11, 12] [0, 1, 2, 3, 4] ⟨rfl, rfl, rfl, rfl, rfl, rfl, kv_13_5_6_7_8_9_10_11_12⟩ rfl rfl rfl rfl rfl (Nat.le_of_ble_eq_true rfl) dL_putItem_72 ?_
          refine sj_istore (lv' := [(6, .int r_72), (5, .int 0), (0, .ref l0), (1, .ref s0), (2, .int v2), (4, .int v4), (7, .int v7)]) C dL_putItem_75 (by decide) rfl ?_
          exact sj_lv [2, 3, 4, 5, 1, 0, 6] rfl (hb_77 (fL_putItem_b27 n) IH v2 v4 0 r_72 v7 lI lC lT lR lth lro (lsp + 1) lle_50 lco_50 lou sB_72 sO_72 hf)
  unfold fL_putItem at hf
  change SJ p l e rL_putItem s m (List.toArray [Value.ref l0, Value.ref s0, Value.int p1, Value.int p2, Value.int p3]) below meth c A (dC, dI) 8 Q (wdLS cI cZ cB l0 l1 l2 l3 l4 s0 s1 s2 b0 b1 b2 b3 b4 lI lC lT lR lth lro lsp lle lex lco lou sB sO sh sw sr bK bZ bL bM bi bg bh) [(0, .ref l0), (1, .ref s0), (2, .int p1), (3, .int p2), (4, .int p3)] 0 []
  refine sj_iload_n C dL_putItem_0 3 rfl rfl ?_
  refine sj_istore (lv' := [(5, .int p2), (0, .ref l0), (1, .ref s0), (2, .int p1), (3, .int p2), (4, .int p3)]) C dL_putItem_1 (by decide) rfl ?_
  refine sj_aload_n C dL_putItem_3 2 rfl rfl ?_
  refine sj_iload_n C dL_putItem_4 3 rfl rfl ?_
  refine sj_iconst C dL_putItem_5 ki_0 ?_
  refine sj_iload C dL_putItem_6 0 rfl ?_
  obtain ⟨r_8, sB_8, sO_8, hq_8, hf⟩ := bd3_some hf
  refine sj_callVi (w1 := (wdLS cI cZ cB l0 l1 l2 l3 l4 s0 s1 s2 b0 b1 b2 b3 b4 lI lC lT lR lth lro lsp lle lex lco lou sB_8 sO_8 sh sw sr bK bZ bL bM bi bg bh)) (q0 := 0) C "StepColumns$Scale" (cS_breakBehind l dC dI cI cZ cB s0 s1 s2 b0 b1 b2 b3 b4 sB sO sh sw sr bK bZ bL bM bi bg bh p1 0 p2 r_8 sB_8 sO_8 hq_8) wd_322 wd_323 wd_324 wd_37 wd_325 hS_breakBehind rfl rfl ⟨Nat.le_of_ble_eq_true rfl, Nat.le_of_ble_eq_true rfl⟩ [5, 6, 7, 8, 9, 10, 11, 12] [0, 1, 2, 3, 4] ⟨rfl, rfl, rfl, rfl, rfl, rfl, kv_13_5_6_7_8_9_10_11_12⟩ rfl rfl rfl rfl rfl (Nat.le_of_ble_eq_true rfl) dL_putItem_8 ?_
  refine sj_istore (lv' := [(6, .int r_8), (5, .int p2), (0, .ref l0), (1, .ref s0), (2, .int p1), (3, .int p2), (4, .int p3)]) C dL_putItem_11 (by decide) rfl ?_
  refine sj_aload_n C dL_putItem_13 2 rfl rfl ?_
  refine sj_dup C dL_putItem_14 rfl ?_
  refine sj_get C nL_in 0 rfl rfl 6 (by decide) wd_131 rfl rfl dL_putItem_15 ?_
  refine sj_iload C dL_putItem_18 6 rfl ?_
  refine sj_iadd C dL_putItem_20 ?_
  refine sj_put (w' := (wdLS cI cZ cB l0 l1 l2 l3 l4 s0 s1 s2 b0 b1 b2 b3 b4 lI lC lT lR lth ((lro + p3)) lsp lle lex lco lou sB_8 sO_8 sh sw sr bK bZ bL bM bi bg bh)) C nL_in nL_ty nL_ok nL_nm 0 rfl rfl 6 (by decide) wd_131 rfl rfl rfl rfl (Nat.le_of_ble_eq_true rfl) dL_putItem_21 rfl ?_
  refine sj_iconst C dL_putItem_24 ki_0 ?_
  refine sj_istore (lv' := [(7, .int 0), (6, .int r_8), (5, .int p2), (0, .ref l0), (1, .ref s0), (2, .int p1), (3, .int p2), (4, .int p3)]) C dL_putItem_25 (by decide) rfl ?_
  exact sj_lv [3, 4, 5, 7, 2, 1, 0] rfl (hb_27 fu p1 p3 p2 r_8 0 lI lC lT lR lth (lro + p3) lsp lle lco lou sB_8 sO_8 hf)
abbrev rL_follow : Room := { frames := 112, cells := 0, slots := 0, locals := 2251 }
set_option maxHeartbeats 4000000 in
set_option maxRecDepth 100000 in
theorem cL_follow (l : Launch) (dC : Nat → ClassId) (dI : Nat → Nat → Nat) (cI cZ cB : ClassId) (l0 l1 l2 l3 l4 s0 s1 s2 b0 b1 b2 b3 b4 : Nat) (lI lC lT lR : Nat → Int32) (lth lro lsp lle lex lco lou : Int32) (sB sO : Nat → Int32) (sh sw sr : Int32) (bK bZ bL bM : Nat → Int32) (bi bg bh : Int32) (lI' : Nat → Int32) (lC' : Nat → Int32) (lT' : Nat → Int32) (lR' : Nat → Int32) (lth' : Int32) (lro' : Int32) (lsp' : Int32) (lle' : Int32) (lco' : Int32) (lou' : Int32) (sB' : Nat → Int32) (sO' : Nat → Int32) (hf : fL_follow lI lC lT lR lth lro lsp lle lco lou sB sO sh sw sr bK bZ bL bM bi bg bh = some (lI', lC', lT', lR', lth', lro', lsp', lle', lco', lou', sB', sO')) : MV l yL_follow wL_follow rL_follow (dC, dI) (tyl cI cZ cB) [Value.ref l0, Value.ref s0] (wdLS cI cZ cB l0 l1 l2 l3 l4 s0 s1 s2 b0 b1 b2 b3 b4 lI lC lT lR lth lro lsp lle lex lco lou sB sO sh sw sr bK bZ bL bM bi bg bh) (wdLS cI cZ cB l0 l1 l2 l3 l4 s0 s1 s2 b0 b1 b2 b3 b4 lI' lC' lT' lR' lth' lro' lsp' lle' lex lco' lou' sB' sO' sh sw sr bK bZ bL bM bi bg bh) := by
  refine MV_of "StepColumns$Laying" rfl (by decide) (Nat.le_of_ble_eq_true rfl) ?_
  intro p e s m below meth c A Q C hQ
  have hb_123 : ∀ (t1 t2 : Int32) (lI lC lT lR : Nat → Int32) (lth lro lsp lle lco lou : Int32) (sB sO : Nat → Int32), fL_follow_b123 t1 t2 lI lC lT lR lth lro lsp lle lco lou sB sO sh sw sr bK bZ bL bM bi bg bh = some (lI', lC', lT', lR', lth', lro', lsp', lle', lco', lou', sB', sO') → SJ p l e rL_follow s m (List.toArray [Value.ref l0, Value.ref s0]) below meth c A (dC, dI) 5 Q (wdLS cI cZ cB l0 l1 l2 l3 l4 s0 s1 s2 b0 b1 b2 b3 b4 lI lC lT lR lth lro lsp lle lex lco lou sB sO sh sw sr bK bZ bL bM bi bg bh) [] 123 [.int t2, .int t1, .ref l0] := by
    intro t1 t2 lI lC lT lR lth lro lsp lle lco lou sB sO hf
    unfold fL_follow_b123 at hf
    refine sj_iadd C dL_follow_123 ?_
    refine sj_put (w' := (wdLS cI cZ cB l0 l1 l2 l3 l4 s0 s1 s2 b0 b1 b2 b3 b4 lI lC lT lR lth lro lsp ((t1 + t2)) lex lco lou sB sO sh sw sr bK bZ bL bM bi bg bh)) C nL_in nL_ty nL_ok nL_nm 0 rfl rfl 8 (by decide) wd_133 rfl rfl rfl rfl (Nat.le_of_ble_eq_true rfl) dL_follow_124 rfl ?_
    cases hf
    exact hQ 127 _ dL_follow_127
  have hb_92 : ∀ (K34 : Int32 → Int32 → (Nat → Int32) → (Nat → Int32) → (Nat → Int32) → (Nat → Int32) → Int32 → Int32 → Int32 → Int32 → Int32 → Int32 → (Nat → Int32) → (Nat → Int32) → Int32 → Int32 → Int32 → (Nat → Int32) → (Nat → Int32) → (Nat → Int32) → (Nat → Int32) → Int32 → Int32 → Int32 → Option ((Nat → Int32) × (Nat → Int32) × (Nat → Int32) × (Nat → Int32) × Int32 × Int32 × Int32 × Int32 × Int32 × Int32 × (Nat → Int32) × (Nat → Int32))) (hK34 : ∀ (v2 v3 : Int32) (lI lC lT lR : Nat → Int32) (lth lro lsp lle lco lou : Int32) (sB sO : Nat → Int32), K34 v2 v3 lI lC lT lR lth lro lsp lle lco lou sB sO sh sw sr bK bZ bL bM bi bg bh = some (lI', lC', lT', lR', lth', lro', lsp', lle', lco', lou', sB', sO') → SJ p l e rL_follow s m (List.toArray [Value.ref l0, Value.ref s0]) below meth c A (dC, dI) 5 Q (wdLS cI cZ cB l0 l1 l2 l3 l4 s0 s1 s2 b0 b1 b2 b3 b4 lI lC lT lR lth lro lsp lle lex lco lou sB sO sh sw sr bK bZ bL bM bi bg bh) [(0, .ref l0), (1, .ref s0), (2, .int v2), (3, .int v3)] 34 []) (v2 v3 : Int32) (lI lC lT lR : Nat → Int32) (lth lro lsp lle lco lou : Int32) (sB sO : Nat → Int32), fL_follow_b92 K34 v2 v3 lI lC lT lR lth lro lsp lle lco lou sB sO sh sw sr bK bZ bL bM bi bg bh = some (lI', lC', lT', lR', lth', lro', lsp', lle', lco', lou', sB', sO') → SJ p l e rL_follow s m (List.toArray [Value.ref l0, Value.ref s0]) below meth c A (dC, dI) 5 Q (wdLS cI cZ cB l0 l1 l2 l3 l4 s0 s1 s2 b0 b1 b2 b3 b4 lI lC lT lR lth lro lsp lle lex lco lou sB sO sh sw sr bK bZ bL bM bi bg bh) [(0, .ref l0), (1, .ref s0), (2, .int v2), (3, .int v3)] 92 [] := by
    intro K34 hK34 v2 v3 lI lC lT lR lth lro lsp lle lco lou sB sO hf
    unfold fL_follow_b92 at hf
    refine sj_iinc (v := (v3 + 1)) (lv' := [(3, .int (v3 + 1)), (0, .ref l0), (1, .ref s0), (2, .int v2)]) C dL_follow_92 3 rfl (by rw [ki_1]) (by decide) rfl ?_
    refine sj_goto C 34 dL_follow_95 (by decide) ?_
    exact sj_lv [1, 2, 3, 0] rfl (hK34 v2 (v3 + 1) lI lC lT lR lth lro lsp lle lco lou sB sO hf)
  have hb_34 : ∀ (n : Nat) (v2 v3 : Int32) (lI lC lT lR : Nat → Int32) (lth lro lsp lle lco lou : Int32) (sB sO : Nat → Int32), fL_follow_b34 n v2 v3 lI lC lT lR lth lro lsp lle lco lou sB sO sh sw sr bK bZ bL bM bi bg bh = some (lI', lC', lT', lR', lth', lro', lsp', lle', lco', lou', sB', sO') → SJ p l e rL_follow s m (List.toArray [Value.ref l0, Value.ref s0]) below meth c A (dC, dI) 5 Q (wdLS cI cZ cB l0 l1 l2 l3 l4 s0 s1 s2 b0 b1 b2 b3 b4 lI lC lT lR lth lro lsp lle lex lco lou sB sO sh sw sr bK bZ bL bM bi bg bh) [(0, .ref l0), (1, .ref s0), (2, .int v2), (3, .int v3)] 34 [] := by
    intro n
    induction n with
    | zero => intro v2 v3 lI lC lT lR lth lro lsp lle lco lou sB sO hf; cases hf
    | succ n IH =>
      intro v2 v3 lI lC lT lR lth lro lsp lle lco lou sB sO hf
      unfold fL_follow_b34 at hf
      refine sj_iload_n C dL_follow_34 3 rfl rfl ?_
      refine sj_aload_n C dL_follow_35 0 rfl rfl ?_
      refine sj_get C nL_in 0 rfl rfl 0 (by decide) wd_125 rfl rfl dL_follow_36 ?_
      refine sj_get C nB_in 8 rfl rfl 4 (by decide) wd_69 rfl rfl dL_follow_39 ?_
      refine sj_icmp_ge C 98 dL_follow_42 (by decide) (fun c_42 => ?_) (fun c_42 => ?_)
      · have hf := (if_pos c_42).symm.trans hf
        refine sj_aload_n C dL_follow_98 0 rfl rfl ?_
        refine sj_dup C dL_follow_99 rfl ?_
        refine sj_get C nL_in 0 rfl rfl 8 (by decide) wd_133 rfl rfl dL_follow_100 ?_
        refine sj_aload_n C dL_follow_103 0 rfl rfl ?_
        refine sj_get C nL_in 0 rfl rfl 10 (by decide) wd_136 rfl rfl dL_follow_104 ?_
        refine sj_if_ne C 114 dL_follow_107 (by decide) (fun c_107 => ?_) (fun c_107 => ?_)
        · have hf := (if_neg c_107).symm.trans hf
          refine sj_aload_n C dL_follow_114 0 rfl rfl ?_
          refine sj_get C nL_in 0 rfl rfl 0 (by decide) wd_125 rfl rfl dL_follow_115 ?_
          refine sj_get C nB_in 8 rfl rfl 6 (by decide) wd_76 rfl rfl dL_follow_118 ?_
          refine sj_iload_n C dL_follow_121 2 rfl rfl ?_
          refine sj_isub C dL_follow_122 ?_
          exact sj_lv [] rfl (hb_123 lle (bh - v2) lI lC lT lR lth lro lsp lle lco lou sB sO hf)
        · have hf := (if_pos c_107).symm.trans hf
          refine sj_iconst C dL_follow_110 ki_0 ?_
          refine sj_goto C 123 dL_follow_111 (by decide) ?_
          exact sj_lv [] rfl (hb_123 lle 0 lI lC lT lR lth lro lsp lle lco lou sB sO hf)
      · have hf := (if_neg c_42).symm.trans hf
        refine sj_aload_n C dL_follow_45 1 rfl rfl ?_
        refine sj_iload_n C dL_follow_46 3 rfl rfl ?_
        refine sj_iload_n C dL_follow_47 2 rfl rfl ?_
        obtain ⟨r_48, sB_48, sO_48, hq_48, hf⟩ := bd3_some hf
        refine sj_callVi (w1 := (wdLS cI cZ cB l0 l1 l2 l3 l4 s0 s1 s2 b0 b1 b2 b3 b4 lI lC lT lR lth lro lsp lle lex lco lou sB_48 sO_48 sh sw sr bK bZ bL bM bi bg bh)) (q0 := 0) C "StepColumns$Scale" (cS_opens l dC dI cI cZ cB s0 s1 s2 b0 b1 b2 b3 b4 sB sO sh sw sr bK bZ bL bM bi bg bh v3 v2 r_48 sB_48 sO_48 hq_48) wd_310 wd_311 wd_312 wd_37 wd_313 hS_opens rfl rfl ⟨Nat.le_of_ble_eq_true rfl, Nat.le_of_ble_eq_true rfl⟩ [5, 6, 7, 8, 9, 10, 11, 12] [0, 1, 2, 3, 4] ⟨rfl, rfl, rfl, rfl, rfl, rfl, kv_13_5_6_7_8_9_10_11_12⟩ rfl rfl rfl rfl rfl (Nat.le_of_ble_eq_true rfl) dL_follow_48 ?_
        refine sj_if_eq C 71 dL_follow_51 (by decide) (fun c_51 => ?_) (fun c_51 => ?_)
        · have hf := (if_pos c_51).symm.trans hf
          refine sj_aload_n C dL_follow_71 1 rfl rfl ?_
          refine sj_iload_n C dL_follow_72 3 rfl rfl ?_
          refine sj_iload_n C dL_follow_73 2 rfl rfl ?_
          obtain ⟨r_74, sB_74, sO_74, hq_74, hf⟩ := bd3_some hf
          refine sj_callVi (w1 := (wdLS cI cZ cB l0 l1 l2 l3 l4 s0 s1 s2 b0 b1 b2 b3 b4 lI lC lT lR lth lro lsp lle lex lco lou sB_74 sO_74 sh sw sr bK bZ bL bM bi bg bh)) (q0 := 0) C "StepColumns$Scale" (cS_roomBehind l dC dI cI cZ cB s0 s1 s2 b0 b1 b2 b3 b4 sB_48 sO_48 sh sw sr bK bZ bL bM bi bg bh v3 v2 r_74 sB_74 sO_74 hq_74) wd_333 wd_334 wd_335 wd_37 wd_336 hS_roomBehind rfl rfl ⟨Nat.le_of_ble_eq_true rfl, Nat.le_of_ble_eq_true rfl⟩ [5, 6, 7, 8, 9, 10, 11, 12] [0, 1, 2, 3, 4] ⟨rfl, rfl, rfl, rfl, rfl, rfl, kv_13_5_6_7_8_9_10_11_12⟩ rfl rfl rfl rfl rfl (Nat.le_of_ble_eq_true rfl) dL_follow_74 ?_
          refine sj_istore (lv' := [(4, .int r_74), (0, .ref l0), (1, .ref s0), (2, .int v2), (3, .int v3)]) C dL_follow_77 (by decide) rfl ?_
          refine sj_aload_n C dL_follow_79 1 rfl rfl ?_
          refine sj_aload_n C dL_follow_80 2 rfl rfl ?_
          refine sj_iload_n C dL_follow_81 4 rfl rfl ?_
          refine sj_iload_n C dL_follow_82 3 rfl rfl ?_
          refine sj_iload C dL_follow_83 0 rfl ?_
          refine sj_iadd C dL_follow_85 ?_
          refine sj_iload C dL_follow_86 0 rfl ?_
          obtain ⟨r_88, lI_88, lC_88, lT_88, lR_88, lth_88, lro_88, lsp_88, lle_88, lco_88, lou_88, sB_88, sO_88, hq_88, hf⟩ := bd13_some hf
          refine sj_callVi (w1 := (wdLS cI cZ cB l0 l1 l2 l3 l4 s0 s1 s2 b0 b1 b2 b3 b4 lI_88 lC_88 lT_88 lR_88 lth_88 lro_88 lsp_88 lle_88 lex lco_88 lou_88 sB_88 sO_88 sh sw sr bK bZ bL bM bi bg bh)) (q0 := 0) C "StepColumns$Laying" (cL_putItem l dC dI cI cZ cB l0 l1 l2 l3 l4 s0 s1 s2 b0 b1 b2 b3 b4 lI lC lT lR lth lro lsp lle lex lco lou sB_74 sO_74 sh sw sr bK bZ bL bM bi bg bh v3 (v2 + r_74) r_74 r_88 lI_88 lC_88 lT_88 lR_88 lth_88 lro_88 lsp_88 lle_88 lco_88 lou_88 sB_88 sO_88 hq_88) wd_318 wd_320 wd_10 wd_38 wd_321 hL_putItem rfl rfl ⟨Nat.le_of_ble_eq_true rfl, Nat.le_of_ble_eq_true rfl⟩ [0, 1, 2, 3, 4, 5, 6, 7, 8, 9, 10, 11, 12] [] ⟨rfl, rfl, rfl, rfl, rfl, rfl, kv_13_0_1_2_3_4_5_6_7_8_9_10_11_12⟩ rfl rfl rfl rfl rfl (Nat.le_of_ble_eq_true rfl) dL_follow_88 ?_
          refine sj_istore_n (lv' := [(2, .int r_88), (4, .int r_74), (0, .ref l0), (1, .ref s0), (3, .int v3)]) C dL_follow_91 rfl (by decide) rfl ?_
          exact sj_lv [2, 3, 0, 4] rfl (hb_92 (fL_follow_b34 n) IH r_88 v3 lI_88 lC_88 lT_88 lR_88 lth_88 lro_88 lsp_88 lle_88 lco_88 lou_88 sB_88 sO_88 hf)
        · have hf := (if_neg c_51).symm.trans hf
          refine sj_aload_n C dL_follow_54 0 rfl rfl ?_
          refine sj_iload_n C dL_follow_55 2 rfl rfl ?_
          obtain ⟨lle_56, lco_56, hq_56, hf⟩ := bd2_some hf
          refine sj_callVv (w1 := (wdLS cI cZ cB l0 l1 l2 l3 l4 s0 s1 s2 b0 b1 b2 b3 b4 lI lC lT lR lth lro lsp lle_56 lex lco_56 lou sB_48 sO_48 sh sw sr bK bZ bL bM bi bg bh)) (q0 := 0) C "StepColumns$Laying" (cL_openColumn l dC dI cI cZ cB l0 l1 l2 l3 l4 b0 b1 b2 b3 b4 lI lC lT lR lth lro lsp lle lex lco lou bK bZ bL bM bi bg bh v2 lle_56 lco_56 hq_56) wd_314 wd_316 wd_9 wd_38 wd_317 hL_openColumn rfl rfl ⟨Nat.le_of_ble_eq_true rfl, Nat.le_of_ble_eq_true rfl⟩ [0, 1, 2, 3, 4, 8, 9, 10, 11, 12] [5, 6, 7] ⟨rfl, rfl, rfl, rfl, rfl, rfl, kv_13_0_1_2_3_4_8_9_10_11_12⟩ rfl rfl rfl rfl rfl (Nat.le_of_ble_eq_true rfl) dL_follow_56 ?_
          refine sj_aload_n C dL_follow_59 0 rfl rfl ?_
          refine sj_aload_n C dL_follow_60 1 rfl rfl ?_
          refine sj_iload_n C dL_follow_61 3 rfl rfl ?_
          refine sj_iconst C dL_follow_62 ki_0 ?_
          refine sj_iconst C dL_follow_63 ki_0 ?_
          obtain ⟨r_64, lI_64, lC_64, lT_64, lR_64, lth_64, lro_64, lsp_64, lle_64, lco_64, lou_64, sB_64, sO_64, hq_64, hf⟩ := bd13_some hf
          refine sj_callVi (w1 := (wdLS cI cZ cB l0 l1 l2 l3 l4 s0 s1 s2 b0 b1 b2 b3 b4 lI_64 lC_64 lT_64 lR_64 lth_64 lro_64 lsp_64 lle_64 lex lco_64 lou_64 sB_64 sO_64 sh sw sr bK bZ bL bM bi bg bh)) (q0 := 0) C "StepColumns$Laying" (cL_putItem l dC dI cI cZ cB l0 l1 l2 l3 l4 s0 s1 s2 b0 b1 b2 b3 b4 lI lC lT lR lth lro lsp lle_56 lex lco_56 lou sB_48 sO_48 sh sw sr bK bZ bL bM bi bg bh v3 0 0 r_64 lI_64 lC_64 lT_64 lR_64 lth_64 lro_64 lsp_64 lle_64 lco_64 lou_64 sB_64 sO_64 hq_64) wd_318 wd_320 wd_10 wd_38 wd_321 hL_putItem rfl rfl ⟨Nat.le_of_ble_eq_true rfl, Nat.le_of_ble_eq_true rfl⟩ [0, 1, 2, 3, 4, 5, 6, 7, 8, 9, 10, 11, 12] [] ⟨rfl, rfl, rfl, rfl, rfl, rfl, kv_13_0_1_2_3_4_5_6_7_8_9_10_11_12⟩ rfl rfl rfl rfl rfl (Nat.le_of_ble_eq_true rfl) dL_follow_64 ?_
          refine sj_istore_n (lv' := [(2, .int r_64), (0, .ref l0), (1, .ref s0), (3, .int v3)]) C dL_follow_67 rfl (by decide) rfl ?_
          refine sj_goto C 92 dL_follow_68 (by decide) ?_
          exact sj_lv [1, 2, 0, 3] rfl (hb_92 (fL_follow_b34 n) IH r_64 v3 lI_64 lC_64 lT_64 lR_64 lth_64 lro_64 lsp_64 lle_64 lco_64 lou_64 sB_64 sO_64 hf)
  unfold fL_follow at hf
  change SJ p l e rL_follow s m (List.toArray [Value.ref l0, Value.ref s0]) below meth c A (dC, dI) 5 Q (wdLS cI cZ cB l0 l1 l2 l3 l4 s0 s1 s2 b0 b1 b2 b3 b4 lI lC lT lR lth lro lsp lle lex lco lou sB sO sh sw sr bK bZ bL bM bi bg bh) [(0, .ref l0), (1, .ref s0)] 0 []
  refine sj_aload_n C dL_follow_0 0 rfl rfl ?_
  refine sj_iconst C dL_follow_1 ki_0 ?_
  refine sj_put (w' := (wdLS cI cZ cB l0 l1 l2 l3 l4 s0 s1 s2 b0 b1 b2 b3 b4 lI lC lT lR 0 lro lsp lle lex lco lou sB sO sh sw sr bK bZ bL bM bi bg bh)) C nL_in nL_ty nL_ok nL_nm 0 rfl rfl 5 (by decide) wd_130 rfl rfl rfl rfl (Nat.le_of_ble_eq_true rfl) dL_follow_2 rfl ?_
  refine sj_aload_n C dL_follow_5 0 rfl rfl ?_
  refine sj_iconst C dL_follow_6 ki_0 ?_
  refine sj_put (w' := (wdLS cI cZ cB l0 l1 l2 l3 l4 s0 s1 s2 b0 b1 b2 b3 b4 lI lC lT lR 0 lro lsp lle lex 0 lou sB sO sh sw sr bK bZ bL bM bi bg bh)) C nL_in nL_ty nL_ok nL_nm 0 rfl rfl 10 (by decide) wd_136 rfl rfl rfl rfl (Nat.le_of_ble_eq_true rfl) dL_follow_7 rfl ?_
  refine sj_aload_n C dL_follow_10 0 rfl rfl ?_
  refine sj_iconst C dL_follow_11 ki_0 ?_
  refine sj_put (w' := (wdLS cI cZ cB l0 l1 l2 l3 l4 s0 s1 s2 b0 b1 b2 b3 b4 lI lC lT lR 0 lro lsp lle lex 0 0 sB sO sh sw sr bK bZ bL bM bi bg bh)) C nL_in nL_ty nL_ok nL_nm 0 rfl rfl 11 (by decide) wd_138 rfl rfl rfl rfl (Nat.le_of_ble_eq_true rfl) dL_follow_12 rfl ?_
  refine sj_aload_n C dL_follow_15 0 rfl rfl ?_
  refine sj_iconst C dL_follow_16 ki_0 ?_
  refine sj_put (w' := (wdLS cI cZ cB l0 l1 l2 l3 l4 s0 s1 s2 b0 b1 b2 b3 b4 lI lC lT lR 0 0 lsp lle lex 0 0 sB sO sh sw sr bK bZ bL bM bi bg bh)) C nL_in nL_ty nL_ok nL_nm 0 rfl rfl 6 (by decide) wd_131 rfl rfl rfl rfl (Nat.le_of_ble_eq_true rfl) dL_follow_17 rfl ?_
  refine sj_aload_n C dL_follow_20 0 rfl rfl ?_
  refine sj_iconst C dL_follow_21 ki_0 ?_
  refine sj_put (w' := (wdLS cI cZ cB l0 l1 l2 l3 l4 s0 s1 s2 b0 b1 b2 b3 b4 lI lC lT lR 0 0 0 lle lex 0 0 sB sO sh sw sr bK bZ bL bM bi bg bh)) C nL_in nL_ty nL_ok nL_nm 0 rfl rfl 7 (by decide) wd_132 rfl rfl rfl rfl (Nat.le_of_ble_eq_true rfl) dL_follow_22 rfl ?_
  refine sj_aload_n C dL_follow_25 0 rfl rfl ?_
  refine sj_iconst C dL_follow_26 ki_0 ?_
  refine sj_put (w' := (wdLS cI cZ cB l0 l1 l2 l3 l4 s0 s1 s2 b0 b1 b2 b3 b4 lI lC lT lR 0 0 0 0 lex 0 0 sB sO sh sw sr bK bZ bL bM bi bg bh)) C nL_in nL_ty nL_ok nL_nm 0 rfl rfl 8 (by decide) wd_133 rfl rfl rfl rfl (Nat.le_of_ble_eq_true rfl) dL_follow_27 rfl ?_
  refine sj_iconst C dL_follow_30 ki_0 ?_
  refine sj_istore_n (lv' := [(2, .int 0), (0, .ref l0), (1, .ref s0)]) C dL_follow_31 rfl (by decide) rfl ?_
  refine sj_iconst C dL_follow_32 ki_0 ?_
  refine sj_istore_n (lv' := [(3, .int 0), (2, .int 0), (0, .ref l0), (1, .ref s0)]) C dL_follow_33 rfl (by decide) rfl ?_
  exact sj_lv [2, 3, 1, 0] rfl (hb_34 fu 0 0 lI lC lT lR 0 0 0 0 0 0 sB sO hf)
abbrev rL_total : Room := { frames := 0, cells := 0, slots := 0, locals := 0 }
set_option maxHeartbeats 4000000 in
set_option maxRecDepth 100000 in
theorem cL_total (l : Launch) (dC : Nat → ClassId) (dI : Nat → Nat → Nat) (cI cZ cB : ClassId) (l0 l1 l2 l3 l4 b0 b1 b2 b3 b4 : Nat) (lI lC lT lR : Nat → Int32) (lth lro lsp lle lex lco lou : Int32) (bK bZ bL bM : Nat → Int32) (bi bg bh : Int32) (p1 : Int32) (r : Int32)  (hf : fL_total p1 lro lsp lle lco lou = some r) : MI l yL_total wL_total rL_total (dC, dI) (tyl cI cZ cB) [Value.ref l0, Value.int p1] (wdL cI cZ cB l0 l1 l2 l3 l4 b0 b1 b2 b3 b4 lI lC lT lR lth lro lsp lle lex lco lou bK bZ bL bM bi bg bh) (wdL cI cZ cB l0 l1 l2 l3 l4 b0 b1 b2 b3 b4 lI lC lT lR lth lro lsp lle lex lco lou bK bZ bL bM bi bg bh) r := by
  refine MI_of "StepColumns$Laying" rfl (by decide) (Nat.le_of_ble_eq_true rfl) ?_
  intro p e s m below meth c A Q C hQ
  unfold fL_total at hf
  change SJ p l e rL_total s m (List.toArray [Value.ref l0, Value.int p1]) below meth c A (dC, dI) 2 Q (wdL cI cZ cB l0 l1 l2 l3 l4 b0 b1 b2 b3 b4 lI lC lT lR lth lro lsp lle lex lco lou bK bZ bL bM bi bg bh) [(0, .ref l0), (1, .int p1)] 0 []
  refine sj_iload_n C dL_total_0 1 rfl rfl ?_
  by_cases c_1_0 : p1 = 0
  · have hf := (if_pos c_1_0).symm.trans hf
    refine sj_tabIn (off := 31) C 32 0 c_1_0 dL_total_1 (by decide +kernel) (by decide +kernel) (by decide +kernel) (by decide) ?_
    refine sj_aload_n C dL_total_32 0 rfl rfl ?_
    refine sj_get C nL_in 0 rfl rfl 10 (by decide) wd_136 rfl rfl dL_total_33 ?_
    cases hf
    exact hQ 36 _ dL_total_36
  have hf := (if_neg c_1_0).symm.trans hf
  by_cases c_1_1 : p1 = 1
  · have hf := (if_pos c_1_1).symm.trans hf
    refine sj_tabIn (off := 36) C 37 1 c_1_1 dL_total_1 (by decide +kernel) (by decide +kernel) (by decide +kernel) (by decide) ?_
    refine sj_aload_n C dL_total_37 0 rfl rfl ?_
    refine sj_get C nL_in 0 rfl rfl 11 (by decide) wd_138 rfl rfl dL_total_38 ?_
    cases hf
    exact hQ 41 _ dL_total_41
  have hf := (if_neg c_1_1).symm.trans hf
  by_cases c_1_2 : p1 = 2
  · have hf := (if_pos c_1_2).symm.trans hf
    refine sj_tabIn (off := 41) C 42 2 c_1_2 dL_total_1 (by decide +kernel) (by decide +kernel) (by decide +kernel) (by decide) ?_
    refine sj_aload_n C dL_total_42 0 rfl rfl ?_
    refine sj_get C nL_in 0 rfl rfl 6 (by decide) wd_131 rfl rfl dL_total_43 ?_
    cases hf
    exact hQ 46 _ dL_total_46
  have hf := (if_neg c_1_2).symm.trans hf
  by_cases c_1_3 : p1 = 3
  · have hf := (if_pos c_1_3).symm.trans hf
    refine sj_tabIn (off := 46) C 47 3 c_1_3 dL_total_1 (by decide +kernel) (by decide +kernel) (by decide +kernel) (by decide) ?_
    refine sj_aload_n C dL_total_47 0 rfl rfl ?_
    refine sj_get C nL_in 0 rfl rfl 7 (by decide) wd_132 rfl rfl dL_total_48 ?_
    cases hf
    exact hQ 51 _ dL_total_51
  have hf := (if_neg c_1_3).symm.trans hf
  have e_0 : ¬ (p1).toInt = 0 := fun h => c_1_0 (sw_inj h (by decide +kernel))
  have e_1 : ¬ (p1).toInt = 1 := fun h => c_1_1 (sw_inj h (by decide +kernel))
  have e_2 : ¬ (p1).toInt = 2 := fun h => c_1_2 (sw_inj h (by decide +kernel))
  have e_3 : ¬ (p1).toInt = 3 := fun h => c_1_3 (sw_inj h (by decide +kernel))
  refine sj_tabOut C 52 dL_total_1 (by omega) (by decide) ?_
  refine sj_aload_n C dL_total_52 0 rfl rfl ?_
  refine sj_get C nL_in 0 rfl rfl 8 (by decide) wd_133 rfl rfl dL_total_53 ?_
  cases hf
  exact hQ 56 _ dL_total_56
abbrev rL_ofThing : Room := { frames := 1, cells := 0, slots := 0, locals := 21 }
set_option maxHeartbeats 4000000 in
set_option maxRecDepth 100000 in
theorem cL_ofThing (l : Launch) (dC : Nat → ClassId) (dI : Nat → Nat → Nat) (cI cZ cB : ClassId) (l0 l1 l2 l3 l4 b0 b1 b2 b3 b4 : Nat) (lI lC lT lR : Nat → Int32) (lth lro lsp lle lex lco lou : Int32) (bK bZ bL bM : Nat → Int32) (bi bg bh : Int32) (p1 p2 : Int32) (r : Int32)  (hf : fL_ofThing p1 p2 lC lT lR lth bg = some r) : MI l yL_ofThing wL_ofThing rL_ofThing (dC, dI) (tyl cI cZ cB) [Value.ref l0, Value.int p1, Value.int p2] (wdL cI cZ cB l0 l1 l2 l3 l4 b0 b1 b2 b3 b4 lI lC lT lR lth lro lsp lle lex lco lou bK bZ bL bM bi bg bh) (wdL cI cZ cB l0 l1 l2 l3 l4 b0 b1 b2 b3 b4 lI lC lT lR lth lro lsp lle lex lco lou bK bZ bL bM bi bg bh) r := by
  refine MI_of "StepColumns$Laying" rfl (by decide) (Nat.le_of_ble_eq_true rfl) ?_
  intro p e s m below meth c A Q C hQ
  have hb_12 : fL_ofThing_b12 lC lT lR lth bg = some r → SJ p l e rL_ofThing s m (List.toArray [Value.ref l0, Value.int p1, Value.int p2]) below meth c A (dC, dI) 3 Q (wdL cI cZ cB l0 l1 l2 l3 l4 b0 b1 b2 b3 b4 lI lC lT lR lth lro lsp lle lex lco lou bK bZ bL bM bi bg bh) [] 12 [] := by
    intro  hf
    unfold fL_ofThing_b12 at hf
    refine sj_bipush C dL_ofThing_12 kb_m6 ?_
    cases hf
    exact hQ 14 _ dL_ofThing_14
  unfold fL_ofThing at hf
  change SJ p l e rL_ofThing s m (List.toArray [Value.ref l0, Value.int p1, Value.int p2]) below meth c A (dC, dI) 3 Q (wdL cI cZ cB l0 l1 l2 l3 l4 b0 b1 b2 b3 b4 lI lC lT lR lth lro lsp lle lex lco lou bK bZ bL bM bi bg bh) [(0, .ref l0), (1, .int p1), (2, .int p2)] 0 []
  refine sj_iload_n C dL_ofThing_0 1 rfl rfl ?_
  refine sj_if_lt C 12 dL_ofThing_1 (by decide) (fun c_1 => ?_) (fun c_1 => ?_)
  · have hf := (if_pos c_1).symm.trans hf
    exact sj_lv [] rfl (hb_12 hf)
  · have hf := (if_neg c_1).symm.trans hf
    refine sj_iload_n C dL_ofThing_4 1 rfl rfl ?_
    refine sj_aload_n C dL_ofThing_5 0 rfl rfl ?_
    refine sj_get C nL_in 0 rfl rfl 5 (by decide) wd_130 rfl rfl dL_ofThing_6 ?_
    refine sj_icmp_lt C 15 dL_ofThing_9 (by decide) (fun c_9 => ?_) (fun c_9 => ?_)
    · have hf := (if_pos c_9).symm.trans hf
      refine sj_iload_n C dL_ofThing_15 2 rfl rfl ?_
      by_cases c_16_0 : p2 = 0
      · have hf := (if_pos c_16_0).symm.trans hf
        refine sj_tabIn (off := 28) C 44 0 c_16_0 dL_ofThing_16 (by decide +kernel) (by decide +kernel) (by decide +kernel) (by decide) ?_
        refine sj_aload_n C dL_ofThing_44 0 rfl rfl ?_
        refine sj_get C nL_in 0 rfl rfl 2 (by decide) wd_127 rfl rfl dL_ofThing_45 ?_
        refine sj_iload_n C dL_ofThing_48 1 rfl rfl ?_
        obtain ⟨h_49, hf⟩ := in_some hf
        refine sj_iald C 2 0 rfl rfl h_49 rfl dL_ofThing_49 ?_
        cases hf
        exact hQ 50 _ dL_ofThing_50
      have hf := (if_neg c_16_0).symm.trans hf
      by_cases c_16_1 : p2 = 1
      · have hf := (if_pos c_16_1).symm.trans hf
        refine sj_tabIn (off := 35) C 51 1 c_16_1 dL_ofThing_16 (by decide +kernel) (by decide +kernel) (by decide +kernel) (by decide) ?_
        refine sj_aload_n C dL_ofThing_51 0 rfl rfl ?_
        refine sj_get C nL_in 0 rfl rfl 3 (by decide) wd_128 rfl rfl dL_ofThing_52 ?_
        refine sj_iload_n C dL_ofThing_55 1 rfl rfl ?_
        obtain ⟨h_56, hf⟩ := in_some hf
        refine sj_iald C 3 0 rfl rfl h_56 rfl dL_ofThing_56 ?_
        cases hf
        exact hQ 57 _ dL_ofThing_57
      have hf := (if_neg c_16_1).symm.trans hf
      by_cases c_16_2 : p2 = 2
      · have hf := (if_pos c_16_2).symm.trans hf
        refine sj_tabIn (off := 42) C 58 2 c_16_2 dL_ofThing_16 (by decide +kernel) (by decide +kernel) (by decide +kernel) (by decide) ?_
        refine sj_aload_n C dL_ofThing_58 0 rfl rfl ?_
        refine sj_get C nL_in 0 rfl rfl 4 (by decide) wd_129 rfl rfl dL_ofThing_59 ?_
        refine sj_iload_n C dL_ofThing_62 1 rfl rfl ?_
        obtain ⟨h_63, hf⟩ := in_some hf
        refine sj_iald C 4 0 rfl rfl h_63 rfl dL_ofThing_63 ?_
        cases hf
        exact hQ 64 _ dL_ofThing_64
      have hf := (if_neg c_16_2).symm.trans hf
      have e_0 : ¬ (p2).toInt = 0 := fun h => c_16_0 (sw_inj h (by decide +kernel))
      have e_1 : ¬ (p2).toInt = 1 := fun h => c_16_1 (sw_inj h (by decide +kernel))
      have e_2 : ¬ (p2).toInt = 2 := fun h => c_16_2 (sw_inj h (by decide +kernel))
      refine sj_tabOut C 65 dL_ofThing_16 (by omega) (by decide) ?_
      refine sj_aload_n C dL_ofThing_65 0 rfl rfl ?_
      refine sj_get C nL_in 0 rfl rfl 0 (by decide) wd_125 rfl rfl dL_ofThing_66 ?_
      refine sj_aload_n C dL_ofThing_69 0 rfl rfl ?_
      refine sj_get C nL_in 0 rfl rfl 3 (by decide) wd_128 rfl rfl dL_ofThing_70 ?_
      refine sj_iload_n C dL_ofThing_73 1 rfl rfl ?_
      obtain ⟨h_74, hf⟩ := in_some hf
      refine sj_iald C 3 0 rfl rfl h_74 rfl dL_ofThing_74 ?_
      obtain ⟨r_75, hq_75, hf⟩ := bd1_some hf
      refine sj_callVi (w1 := (wdL cI cZ cB l0 l1 l2 l3 l4 b0 b1 b2 b3 b4 lI lC lT lR lth lro lsp lle lex lco lou bK bZ bL bM bi bg bh)) (q0 := 0) C "StepColumns$Book" (cB_beyondGrid l dC dI cI cZ cB b0 b1 b2 b3 b4 bK bZ bL bM bi bg bh (lT p1.toNatClampNeg) r_75 hq_75) wd_355 wd_356 wd_357 wd_36 wd_358 hB_beyondGrid rfl rfl ⟨Nat.le_of_ble_eq_true rfl, Nat.le_of_ble_eq_true rfl⟩ [5, 6, 7, 8, 9] [0, 1, 2, 3, 4] ⟨rfl, rfl, rfl, rfl, rfl, rfl, kv_10_5_6_7_8_9⟩ rfl rfl rfl rfl rfl (Nat.le_of_ble_eq_true rfl) dL_ofThing_75 ?_
      cases hf
      exact hQ 78 _ dL_ofThing_78
    · have hf := (if_neg c_9).symm.trans hf
      exact sj_lv [] rfl (hb_12 hf)
abbrev rL_firstThing : Room := { frames := 0, cells := 0, slots := 0, locals := 0 }
set_option maxHeartbeats 4000000 in
set_option maxRecDepth 100000 in
theorem cL_firstThing (l : Launch) (dC : Nat → ClassId) (dI : Nat → Nat → Nat) (cI cZ cB : ClassId) (l0 l1 l2 l3 l4 b0 b1 b2 b3 b4 : Nat) (lI lC lT lR : Nat → Int32) (lth lro lsp lle lex lco lou : Int32) (bK bZ bL bM : Nat → Int32) (bi bg bh : Int32) (p1 : Int32) (r : Int32)  (hf : fL_firstThing p1 lC lth = some r) : MI l yL_firstThing wL_firstThing rL_firstThing (dC, dI) (tyl cI cZ cB) [Value.ref l0, Value.int p1] (wdL cI cZ cB l0 l1 l2 l3 l4 b0 b1 b2 b3 b4 lI lC lT lR lth lro lsp lle lex lco lou bK bZ bL bM bi bg bh) (wdL cI cZ cB l0 l1 l2 l3 l4 b0 b1 b2 b3 b4 lI lC lT lR lth lro lsp lle lex lco lou bK bZ bL bM bi bg bh) r := by
  refine MI_of "StepColumns$Laying" rfl (by decide) (Nat.le_of_ble_eq_true rfl) ?_
  intro p e s m below meth c A Q C hQ
  have hb_26 : ∀ (v2 : Int32), fL_firstThing_b26 v2 lC lth = some r → SJ p l e rL_firstThing s m (List.toArray [Value.ref l0, Value.int p1]) below meth c A (dC, dI) 3 Q (wdL cI cZ cB l0 l1 l2 l3 l4 b0 b1 b2 b3 b4 lI lC lT lR lth lro lsp lle lex lco lou bK bZ bL bM bi bg bh) [(2, .int v2)] 26 [] := by
    intro v2 hf
    unfold fL_firstThing_b26 at hf
    refine sj_iload_n C dL_firstThing_26 0 rfl rfl ?_
    cases hf
    exact hQ 27 _ dL_firstThing_27
  have hb_2 : ∀ (n : Nat) (v1 v2 : Int32), fL_firstThing_b2 n v1 v2 lC lth = some r → SJ p l e rL_firstThing s m (List.toArray [Value.ref l0, Value.int p1]) below meth c A (dC, dI) 3 Q (wdL cI cZ cB l0 l1 l2 l3 l4 b0 b1 b2 b3 b4 lI lC lT lR lth lro lsp lle lex lco lou bK bZ bL bM bi bg bh) [(0, .ref l0), (1, .int v1), (2, .int v2)] 2 [] := by
    intro n
    induction n with
    | zero => intro v1 v2 hf; cases hf
    | succ n IH =>
      intro v1 v2 hf
      unfold fL_firstThing_b2 at hf
      refine sj_iload_n C dL_firstThing_2 2 rfl rfl ?_
      refine sj_aload_n C dL_firstThing_3 0 rfl rfl ?_
      refine sj_get C nL_in 0 rfl rfl 5 (by decide) wd_130 rfl rfl dL_firstThing_4 ?_
      refine sj_icmp_ge C 26 dL_firstThing_7 (by decide) (fun c_7 => ?_) (fun c_7 => ?_)
      · have hf := (if_pos c_7).symm.trans hf
        exact sj_lv [2] rfl (hb_26 v2 hf)
      · have hf := (if_neg c_7).symm.trans hf
        refine sj_aload_n C dL_firstThing_10 0 rfl rfl ?_
        refine sj_get C nL_in 0 rfl rfl 2 (by decide) wd_127 rfl rfl dL_firstThing_11 ?_
        refine sj_iload_n C dL_firstThing_14 2 rfl rfl ?_
        obtain ⟨h_15, hf⟩ := in_some hf
        refine sj_iald C 2 0 rfl rfl h_15 rfl dL_firstThing_15 ?_
        refine sj_iload_n C dL_firstThing_16 1 rfl rfl ?_
        refine sj_icmp_ge C 26 dL_firstThing_17 (by decide) (fun c_17 => ?_) (fun c_17 => ?_)
        · have hf := (if_pos c_17).symm.trans hf
          exact sj_lv [2] rfl (hb_26 v2 hf)
        · have hf := (if_neg c_17).symm.trans hf
          refine sj_iinc (v := (v2 + 1)) (lv' := [(2, .int (v2 + 1)), (0, .ref l0), (1, .int v1)]) C dL_firstThing_20 2 rfl (by rw [ki_1]) (by decide) rfl ?_
          refine sj_goto C 2 dL_firstThing_23 (by decide) ?_
          exact sj_lv [1, 2, 0] rfl (IH v1 (v2 + 1) hf)
  unfold fL_firstThing at hf
  change SJ p l e rL_firstThing s m (List.toArray [Value.ref l0, Value.int p1]) below meth c A (dC, dI) 3 Q (wdL cI cZ cB l0 l1 l2 l3 l4 b0 b1 b2 b3 b4 lI lC lT lR lth lro lsp lle lex lco lou bK bZ bL bM bi bg bh) [(0, .ref l0), (1, .int p1)] 0 []
  refine sj_iconst C dL_firstThing_0 ki_0 ?_
  refine sj_istore_n (lv' := [(2, .int 0), (0, .ref l0), (1, .int p1)]) C dL_firstThing_1 rfl (by decide) rfl ?_
  exact sj_lv [1, 2, 0] rfl (hb_2 fu p1 0 hf)
abbrev rL_outAmong : Room := { frames := 1, cells := 0, slots := 0, locals := 22 }
set_option maxHeartbeats 4000000 in
set_option maxRecDepth 100000 in
theorem cL_outAmong (l : Launch) (dC : Nat → ClassId) (dI : Nat → Nat → Nat) (cI cZ cB : ClassId) (l0 l1 l2 l3 l4 b0 b1 b2 b3 b4 : Nat) (lI lC lT lR : Nat → Int32) (lth lro lsp lle lex lco lou : Int32) (bK bZ bL bM : Nat → Int32) (bi bg bh : Int32) (p1 p2 : Int32) (r : Int32)  (hf : fL_outAmong p1 p2 lI lT bK bg = some r) : MI l yL_outAmong wL_outAmong rL_outAmong (dC, dI) (tyl cI cZ cB) [Value.ref l0, Value.int p1, Value.int p2] (wdL cI cZ cB l0 l1 l2 l3 l4 b0 b1 b2 b3 b4 lI lC lT lR lth lro lsp lle lex lco lou bK bZ bL bM bi bg bh) (wdL cI cZ cB l0 l1 l2 l3 l4 b0 b1 b2 b3 b4 lI lC lT lR lth lro lsp lle lex lco lou bK bZ bL bM bi bg bh) r := by
  refine MI_of "StepColumns$Laying" rfl (by decide) (Nat.le_of_ble_eq_true rfl) ?_
  intro p e s m below meth c A Q C hQ
  have hb_38 : ∀ (K5 : Int32 → Int32 → Int32 → (Nat → Int32) → (Nat → Int32) → (Nat → Int32) → Int32 → Option (Int32)) (hK5 : ∀ (v2 v3 v4 : Int32) , K5 v2 v3 v4 lI lT bK bg = some r → SJ p l e rL_outAmong s m (List.toArray [Value.ref l0, Value.int p1, Value.int p2]) below meth c A (dC, dI) 5 Q (wdL cI cZ cB l0 l1 l2 l3 l4 b0 b1 b2 b3 b4 lI lC lT lR lth lro lsp lle lex lco lou bK bZ bL bM bi bg bh) [(0, .ref l0), (2, .int v2), (3, .int v3), (4, .int v4)] 5 []) (v2 v3 v4 : Int32), fL_outAmong_b38 K5 v2 v3 v4 lI lT bK bg = some r → SJ p l e rL_outAmong s m (List.toArray [Value.ref l0, Value.int p1, Value.int p2]) below meth c A (dC, dI) 5 Q (wdL cI cZ cB l0 l1 l2 l3 l4 b0 b1 b2 b3 b4 lI lC lT lR lth lro lsp lle lex lco lou bK bZ bL bM bi bg bh) [(0, .ref l0), (2, .int v2), (3, .int v3), (4, .int v4)] 38 [] := by
    intro K5 hK5 v2 v3 v4 hf
    unfold fL_outAmong_b38 at hf
    refine sj_iinc (v := (v4 + 1)) (lv' := [(4, .int (v4 + 1)), (0, .ref l0), (2, .int v2), (3, .int v3)]) C dL_outAmong_38 3 rfl (by rw [ki_1]) (by decide) rfl ?_
    refine sj_goto C 5 dL_outAmong_41 (by decide) ?_
    exact sj_lv [1, 2, 3, 0] rfl (hK5 v2 v3 (v4 + 1) hf)
  have hb_5 : ∀ (n : Nat) (v2 v3 v4 : Int32), fL_outAmong_b5 n v2 v3 v4 lI lT bK bg = some r → SJ p l e rL_outAmong s m (List.toArray [Value.ref l0, Value.int p1, Value.int p2]) below meth c A (dC, dI) 5 Q (wdL cI cZ cB l0 l1 l2 l3 l4 b0 b1 b2 b3 b4 lI lC lT lR lth lro lsp lle lex lco lou bK bZ bL bM bi bg bh) [(0, .ref l0), (2, .int v2), (3, .int v3), (4, .int v4)] 5 [] := by
    intro n
    induction n with
    | zero => intro v2 v3 v4 hf; cases hf
    | succ n IH =>
      intro v2 v3 v4 hf
      unfold fL_outAmong_b5 at hf
      refine sj_iload C dL_outAmong_5 3 rfl ?_
      refine sj_iload_n C dL_outAmong_7 1 rfl rfl ?_
      refine sj_icmp_gt C 44 dL_outAmong_8 (by decide) (fun c_8 => ?_) (fun c_8 => ?_)
      · have hf := (if_pos c_8).symm.trans hf
        refine sj_iload_n C dL_outAmong_44 2 rfl rfl ?_
        cases hf
        exact hQ 45 _ dL_outAmong_45
      · have hf := (if_neg c_8).symm.trans hf
        refine sj_aload_n C dL_outAmong_11 0 rfl rfl ?_
        refine sj_get C nL_in 0 rfl rfl 0 (by decide) wd_125 rfl rfl dL_outAmong_12 ?_
        refine sj_aload_n C dL_outAmong_15 0 rfl rfl ?_
        refine sj_get C nL_in 0 rfl rfl 1 (by decide) wd_126 rfl rfl dL_outAmong_16 ?_
        refine sj_iload C dL_outAmong_19 3 rfl ?_
        obtain ⟨h_21, hf⟩ := in_some hf
        refine sj_iald C 1 0 rfl rfl h_21 rfl dL_outAmong_21 ?_
        refine sj_aload_n C dL_outAmong_22 0 rfl rfl ?_
        refine sj_get C nL_in 0 rfl rfl 3 (by decide) wd_128 rfl rfl dL_outAmong_23 ?_
        refine sj_iload C dL_outAmong_26 3 rfl ?_
        obtain ⟨h_28, hf⟩ := in_some hf
        refine sj_iald C 3 0 rfl rfl h_28 rfl dL_outAmong_28 ?_
        obtain ⟨r_29, hq_29, hf⟩ := bd1_some hf
        refine sj_callVi (w1 := (wdL cI cZ cB l0 l1 l2 l3 l4 b0 b1 b2 b3 b4 lI lC lT lR lth lro lsp lle lex lco lou bK bZ bL bM bi bg bh)) (q0 := 0) C "StepColumns$Book" (cB_isOut l dC dI cI cZ cB b0 b1 b2 b3 b4 bK bZ bL bM bi bg bh (lI v4.toNatClampNeg) (lT v4.toNatClampNeg) r_29 hq_29) wd_331 wd_287 wd_288 wd_36 wd_289 hB_isOut rfl rfl ⟨Nat.le_of_ble_eq_true rfl, Nat.le_of_ble_eq_true rfl⟩ [5, 6, 7, 8, 9] [0, 1, 2, 3, 4] ⟨rfl, rfl, rfl, rfl, rfl, rfl, kv_10_5_6_7_8_9⟩ rfl rfl rfl rfl rfl (Nat.le_of_ble_eq_true rfl) dL_outAmong_29 ?_
        refine sj_if_eq C 38 dL_outAmong_32 (by decide) (fun c_32 => ?_) (fun c_32 => ?_)
        · have hf := (if_pos c_32).symm.trans hf
          exact sj_lv [0, 1, 2, 3] rfl (hb_38 (fL_outAmong_b5 n) IH v2 v3 v4 hf)
        · have hf := (if_neg c_32).symm.trans hf
          refine sj_iinc (v := (v3 + 1)) (lv' := [(3, .int (v3 + 1)), (0, .ref l0), (2, .int v2), (4, .int v4)]) C dL_outAmong_35 2 rfl (by rw [ki_1]) (by decide) rfl ?_
          exact sj_lv [1, 2, 0, 3] rfl (hb_38 (fL_outAmong_b5 n) IH v2 (v3 + 1) v4 hf)
  unfold fL_outAmong at hf
  change SJ p l e rL_outAmong s m (List.toArray [Value.ref l0, Value.int p1, Value.int p2]) below meth c A (dC, dI) 5 Q (wdL cI cZ cB l0 l1 l2 l3 l4 b0 b1 b2 b3 b4 lI lC lT lR lth lro lsp lle lex lco lou bK bZ bL bM bi bg bh) [(0, .ref l0), (1, .int p1), (2, .int p2)] 0 []
  refine sj_iconst C dL_outAmong_0 ki_0 ?_
  refine sj_istore_n (lv' := [(3, .int 0), (0, .ref l0), (1, .int p1), (2, .int p2)]) C dL_outAmong_1 rfl (by decide) rfl ?_
  refine sj_iload_n C dL_outAmong_2 2 rfl rfl ?_
  refine sj_istore (lv' := [(4, .int p1), (3, .int 0), (0, .ref l0), (1, .int p1), (2, .int p2)]) C dL_outAmong_3 (by decide) rfl ?_
  exact sj_lv [2, 4, 1, 0] rfl (hb_5 fu p2 0 p1 hf)
abbrev rL_ofColumn : Room := { frames := 2, cells := 0, slots := 0, locals := 46 }
set_option maxHeartbeats 4000000 in
set_option maxRecDepth 100000 in
theorem cL_ofColumn (l : Launch) (dC : Nat → ClassId) (dI : Nat → Nat → Nat) (cI cZ cB : ClassId) (l0 l1 l2 l3 l4 b0 b1 b2 b3 b4 : Nat) (lI lC lT lR : Nat → Int32) (lth lro lsp lle lex lco lou : Int32) (bK bZ bL bM : Nat → Int32) (bi bg bh : Int32) (p1 p2 : Int32) (r : Int32)  (hf : fL_ofColumn p1 p2 lI lC lT lth bK bZ bg = some r) : MI l yL_ofColumn wL_ofColumn rL_ofColumn (dC, dI) (tyl cI cZ cB) [Value.ref l0, Value.int p1, Value.int p2] (wdL cI cZ cB l0 l1 l2 l3 l4 b0 b1 b2 b3 b4 lI lC lT lR lth lro lsp lle lex lco lou bK bZ bL bM bi bg bh) (wdL cI cZ cB l0 l1 l2 l3 l4 b0 b1 b2 b3 b4 lI lC lT lR lth lro lsp lle lex lco lou bK bZ bL bM bi bg bh) r := by
  refine MI_of "StepColumns$Laying" rfl (by decide) (Nat.le_of_ble_eq_true rfl) ?_
  intro p e s m below meth c A Q C hQ
  have hb_27 : fL_ofColumn_b27 lI lC lT lth bK bZ bg = some r → SJ p l e rL_ofColumn s m (List.toArray [Value.ref l0, Value.int p1, Value.int p2]) below meth c A (dC, dI) 5 Q (wdL cI cZ cB l0 l1 l2 l3 l4 b0 b1 b2 b3 b4 lI lC lT lR lth lro lsp lle lex lco lou bK bZ bL bM bi bg bh) [] 27 [] := by
    intro  hf
    unfold fL_ofColumn_b27 at hf
    refine sj_bipush C dL_ofColumn_27 kb_m6 ?_
    cases hf
    exact hQ 29 _ dL_ofColumn_29
  unfold fL_ofColumn at hf
  change SJ p l e rL_ofColumn s m (List.toArray [Value.ref l0, Value.int p1, Value.int p2]) below meth c A (dC, dI) 5 Q (wdL cI cZ cB l0 l1 l2 l3 l4 b0 b1 b2 b3 b4 lI lC lT lR lth lro lsp lle lex lco lou bK bZ bL bM bi bg bh) [(0, .ref l0), (1, .int p1), (2, .int p2)] 0 []
  refine sj_aload_n C dL_ofColumn_0 0 rfl rfl ?_
  refine sj_iload_n C dL_ofColumn_1 1 rfl rfl ?_
  obtain ⟨r_2, hq_2, hf⟩ := bd1_some hf
  refine sj_callVi (w1 := (wdL cI cZ cB l0 l1 l2 l3 l4 b0 b1 b2 b3 b4 lI lC lT lR lth lro lsp lle lex lco lou bK bZ bL bM bi bg bh)) (q0 := 0) C "StepColumns$Laying" (cL_firstThing l dC dI cI cZ cB l0 l1 l2 l3 l4 b0 b1 b2 b3 b4 lI lC lT lR lth lro lsp lle lex lco lou bK bZ bL bM bi bg bh p1 r_2 hq_2) wd_367 wd_369 wd_12 wd_38 wd_370 hL_firstThing rfl rfl ⟨Nat.le_of_ble_eq_true rfl, Nat.le_of_ble_eq_true rfl⟩ [0, 1, 2, 3, 4, 5, 6, 7, 8, 9] [] ⟨rfl, rfl, rfl, rfl, rfl, rfl, kv_10_0_1_2_3_4_5_6_7_8_9⟩ rfl rfl rfl rfl rfl (Nat.le_of_ble_eq_true rfl) dL_ofColumn_2 ?_
  refine sj_istore_n (lv' := [(3, .int r_2), (0, .ref l0), (1, .int p1), (2, .int p2)]) C dL_ofColumn_5 rfl (by decide) rfl ?_
  refine sj_aload_n C dL_ofColumn_6 1 rfl rfl ?_
  refine sj_iload_n C dL_ofColumn_7 2 rfl rfl ?_
  refine sj_iconst C dL_ofColumn_8 ki_1 ?_
  refine sj_iadd C dL_ofColumn_9 ?_
  obtain ⟨r_10, hq_10, hf⟩ := bd1_some hf
  refine sj_callVi (w1 := (wdL cI cZ cB l0 l1 l2 l3 l4 b0 b1 b2 b3 b4 lI lC lT lR lth lro lsp lle lex lco lou bK bZ bL bM bi bg bh)) (q0 := 0) C "StepColumns$Laying" (cL_firstThing l dC dI cI cZ cB l0 l1 l2 l3 l4 b0 b1 b2 b3 b4 lI lC lT lR lth lro lsp lle lex lco lou bK bZ bL bM bi bg bh (p1 + 1) r_10 hq_10) wd_367 wd_369 wd_12 wd_38 wd_370 hL_firstThing rfl rfl ⟨Nat.le_of_ble_eq_true rfl, Nat.le_of_ble_eq_true rfl⟩ [0, 1, 2, 3, 4, 5, 6, 7, 8, 9] [] ⟨rfl, rfl, rfl, rfl, rfl, rfl, kv_10_0_1_2_3_4_5_6_7_8_9⟩ rfl rfl rfl rfl rfl (Nat.le_of_ble_eq_true rfl) dL_ofColumn_10 ?_
  refine sj_iconst C dL_ofColumn_13 ki_1 ?_
  refine sj_isub C dL_ofColumn_14 ?_
  refine sj_istore (lv' := [(4, .int (r_10 - 1)), (3, .int r_2), (0, .ref l0), (1, .int p1), (2, .int p2)]) C dL_ofColumn_15 (by decide) rfl ?_
  refine sj_iload_n C dL_ofColumn_17 1 rfl rfl ?_
  refine sj_if_lt C 27 dL_ofColumn_18 (by decide) (fun c_18 => ?_) (fun c_18 => ?_)
  · have hf := (if_pos c_18).symm.trans hf
    exact sj_lv [] rfl (hb_27 hf)
  · have hf := (if_neg c_18).symm.trans hf
    refine sj_iload C dL_ofColumn_21 0 rfl ?_
    refine sj_iload_n C dL_ofColumn_23 1 rfl rfl ?_
    refine sj_icmp_ge C 30 dL_ofColumn_24 (by decide) (fun c_24 => ?_) (fun c_24 => ?_)
    · have hf := (if_pos c_24).symm.trans hf
      refine sj_iload_n C dL_ofColumn_30 4 rfl rfl ?_
      by_cases c_31_0 : p2 = 0
      · have hf := (if_pos c_31_0).symm.trans hf
        refine sj_tabIn (off := 29) C 60 0 c_31_0 dL_ofColumn_31 (by decide +kernel) (by decide +kernel) (by decide +kernel) (by decide) ?_
        refine sj_iload C dL_ofColumn_60 0 rfl ?_
        refine sj_iload_n C dL_ofColumn_62 1 rfl rfl ?_
        refine sj_isub C dL_ofColumn_63 ?_
        refine sj_iconst C dL_ofColumn_64 ki_1 ?_
        refine sj_iadd C dL_ofColumn_65 ?_
        cases hf
        exact hQ 66 _ dL_ofColumn_66
      have hf := (if_neg c_31_0).symm.trans hf
      by_cases c_31_1 : p2 = 1
      · have hf := (if_pos c_31_1).symm.trans hf
        refine sj_tabIn (off := 36) C 67 1 c_31_1 dL_ofColumn_31 (by decide +kernel) (by decide +kernel) (by decide +kernel) (by decide) ?_
        refine sj_aload_n C dL_ofColumn_67 2 rfl rfl ?_
        refine sj_get C nL_in 0 rfl rfl 3 (by decide) wd_128 rfl rfl dL_ofColumn_68 ?_
        refine sj_iload C dL_ofColumn_71 0 rfl ?_
        obtain ⟨h_73, hf⟩ := in_some hf
        refine sj_iald C 3 0 rfl rfl h_73 rfl dL_ofColumn_73 ?_
        refine sj_aload_n C dL_ofColumn_74 2 rfl rfl ?_
        refine sj_get C nL_in 0 rfl rfl 0 (by decide) wd_125 rfl rfl dL_ofColumn_75 ?_
        refine sj_aload_n C dL_ofColumn_78 2 rfl rfl ?_
        refine sj_get C nL_in 0 rfl rfl 1 (by decide) wd_126 rfl rfl dL_ofColumn_79 ?_
        refine sj_iload C dL_ofColumn_82 0 rfl ?_
        obtain ⟨h_84, hf⟩ := in_some hf
        refine sj_iald C 1 0 rfl rfl h_84 rfl dL_ofColumn_84 ?_
        obtain ⟨r_85, hq_85, hf⟩ := bd1_some hf
        refine sj_callVi (w1 := (wdL cI cZ cB l0 l1 l2 l3 l4 b0 b1 b2 b3 b4 lI lC lT lR lth lro lsp lle lex lco lou bK bZ bL bM bi bg bh)) (q0 := 0) C "StepColumns$Book" (cB_tall l dC dI cI cZ cB b0 b1 b2 b3 b4 bK bZ bL bM bi bg bh (lI (r_10 - 1).toNatClampNeg) r_85 hq_85) wd_332 wd_283 wd_284 wd_36 wd_285 hB_tall rfl rfl ⟨Nat.le_of_ble_eq_true rfl, Nat.le_of_ble_eq_true rfl⟩ [5, 6, 7, 8, 9] [0, 1, 2, 3, 4] ⟨rfl, rfl, rfl, rfl, rfl, rfl, kv_10_5_6_7_8_9⟩ rfl rfl rfl rfl rfl (Nat.le_of_ble_eq_true rfl) dL_ofColumn_85 ?_
        refine sj_iadd C dL_ofColumn_88 ?_
        cases hf
        exact hQ 89 _ dL_ofColumn_89
      have hf := (if_neg c_31_1).symm.trans hf
      by_cases c_31_2 : p2 = 2
      · have hf := (if_pos c_31_2).symm.trans hf
        refine sj_tabIn (off := 59) C 90 2 c_31_2 dL_ofColumn_31 (by decide +kernel) (by decide +kernel) (by decide +kernel) (by decide) ?_
        refine sj_aload_n C dL_ofColumn_90 2 rfl rfl ?_
        refine sj_iload_n C dL_ofColumn_91 1 rfl rfl ?_
        refine sj_iload C dL_ofColumn_92 0 rfl ?_
        obtain ⟨r_94, hq_94, hf⟩ := bd1_some hf
        refine sj_callVi (w1 := (wdL cI cZ cB l0 l1 l2 l3 l4 b0 b1 b2 b3 b4 lI lC lT lR lth lro lsp lle lex lco lou bK bZ bL bM bi bg bh)) (q0 := 0) C "StepColumns$Laying" (cL_outAmong l dC dI cI cZ cB l0 l1 l2 l3 l4 b0 b1 b2 b3 b4 lI lC lT lR lth lro lsp lle lex lco lou bK bZ bL bM bi bg bh r_2 (r_10 - 1) r_94 hq_94) wd_371 wd_373 wd_13 wd_38 wd_374 hL_outAmong rfl rfl ⟨Nat.le_of_ble_eq_true rfl, Nat.le_of_ble_eq_true rfl⟩ [0, 1, 2, 3, 4, 5, 6, 7, 8, 9] [] ⟨rfl, rfl, rfl, rfl, rfl, rfl, kv_10_0_1_2_3_4_5_6_7_8_9⟩ rfl rfl rfl rfl rfl (Nat.le_of_ble_eq_true rfl) dL_ofColumn_94 ?_
        cases hf
        exact hQ 97 _ dL_ofColumn_97
      have hf := (if_neg c_31_2).symm.trans hf
      by_cases c_31_3 : p2 = 3
      · have hf := (if_pos c_31_3).symm.trans hf
        refine sj_tabIn (off := 67) C 98 3 c_31_3 dL_ofColumn_31 (by decide +kernel) (by decide +kernel) (by decide +kernel) (by decide) ?_
        refine sj_aload_n C dL_ofColumn_98 2 rfl rfl ?_
        refine sj_get C nL_in 0 rfl rfl 1 (by decide) wd_126 rfl rfl dL_ofColumn_99 ?_
        refine sj_iload_n C dL_ofColumn_102 1 rfl rfl ?_
        obtain ⟨h_103, hf⟩ := in_some hf
        refine sj_iald C 1 0 rfl rfl h_103 rfl dL_ofColumn_103 ?_
        cases hf
        exact hQ 104 _ dL_ofColumn_104
      have hf := (if_neg c_31_3).symm.trans hf
      have e_0 : ¬ (p2).toInt = 0 := fun h => c_31_0 (sw_inj h (by decide +kernel))
      have e_1 : ¬ (p2).toInt = 1 := fun h => c_31_1 (sw_inj h (by decide +kernel))
      have e_2 : ¬ (p2).toInt = 2 := fun h => c_31_2 (sw_inj h (by decide +kernel))
      have e_3 : ¬ (p2).toInt = 3 := fun h => c_31_3 (sw_inj h (by decide +kernel))
      refine sj_tabOut C 105 dL_ofColumn_31 (by omega) (by decide) ?_
      refine sj_aload_n C dL_ofColumn_105 2 rfl rfl ?_
      refine sj_get C nL_in 0 rfl rfl 1 (by decide) wd_126 rfl rfl dL_ofColumn_106 ?_
      refine sj_iload C dL_ofColumn_109 0 rfl ?_
      obtain ⟨h_111, hf⟩ := in_some hf
      refine sj_iald C 1 0 rfl rfl h_111 rfl dL_ofColumn_111 ?_
      cases hf
      exact hQ 112 _ dL_ofColumn_112
    · have hf := (if_neg c_24).symm.trans hf
      exact sj_lv [] rfl (hb_27 hf)
abbrev rL_isLine : Room := { frames := 0, cells := 0, slots := 0, locals := 0 }
set_option maxHeartbeats 4000000 in
set_option maxRecDepth 100000 in
theorem cL_isLine (l : Launch) (dC : Nat → ClassId) (dI : Nat → Nat → Nat) (cI cZ cB : ClassId) (l0 l1 l2 l3 l4 b0 b1 b2 b3 b4 : Nat) (lI lC lT lR : Nat → Int32) (lth lro lsp lle lex lco lou : Int32) (bK bZ bL bM : Nat → Int32) (bi bg bh : Int32) (p1 : Int32) (r : Int32)  (hf : fL_isLine p1 lI bK = some r) : MI l yL_isLine wL_isLine rL_isLine (dC, dI) (tyl cI cZ cB) [Value.ref l0, Value.int p1] (wdL cI cZ cB l0 l1 l2 l3 l4 b0 b1 b2 b3 b4 lI lC lT lR lth lro lsp lle lex lco lou bK bZ bL bM bi bg bh) (wdL cI cZ cB l0 l1 l2 l3 l4 b0 b1 b2 b3 b4 lI lC lT lR lth lro lsp lle lex lco lou bK bZ bL bM bi bg bh) r := by
  refine MZ_of "StepColumns$Laying" rfl (by decide) (Nat.le_of_ble_eq_true rfl) ?_
  intro p e s m below meth c A Q C hQ
  have hb_22 : ∀ (t0 : Int32), fL_isLine_b22 t0 lI bK = some r → SJ p l e rL_isLine s m (List.toArray [Value.ref l0, Value.int p1]) below meth c A (dC, dI) 2 Q (wdL cI cZ cB l0 l1 l2 l3 l4 b0 b1 b2 b3 b4 lI lC lT lR lth lro lsp lle lex lco lou bK bZ bL bM bi bg bh) [] 22 [.int t0] := by
    intro t0 hf
    unfold fL_isLine_b22 at hf
    obtain ⟨h_22, hf⟩ := in_some hf
    cases hf
    exact hQ 22 _ (Decidable.not_not.mp h_22) dL_isLine_22
  unfold fL_isLine at hf
  change SJ p l e rL_isLine s m (List.toArray [Value.ref l0, Value.int p1]) below meth c A (dC, dI) 2 Q (wdL cI cZ cB l0 l1 l2 l3 l4 b0 b1 b2 b3 b4 lI lC lT lR lth lro lsp lle lex lco lou bK bZ bL bM bi bg bh) [(0, .ref l0), (1, .int p1)] 0 []
  refine sj_aload_n C dL_isLine_0 0 rfl rfl ?_
  refine sj_get C nL_in 0 rfl rfl 0 (by decide) wd_125 rfl rfl dL_isLine_1 ?_
  refine sj_get C nB_in 5 rfl rfl 0 (by decide) wd_58 rfl rfl dL_isLine_4 ?_
  refine sj_aload_n C dL_isLine_7 0 rfl rfl ?_
  refine sj_get C nL_in 0 rfl rfl 1 (by decide) wd_126 rfl rfl dL_isLine_8 ?_
  refine sj_iload_n C dL_isLine_11 1 rfl rfl ?_
  obtain ⟨h_12, hf⟩ := in_some hf
  refine sj_iald C 1 0 rfl rfl h_12 rfl dL_isLine_12 ?_
  obtain ⟨h_13, hf⟩ := in_some hf
  refine sj_iald C 6 0 rfl rfl h_13 rfl dL_isLine_13 ?_
  refine sj_if_ne C 21 dL_isLine_14 (by decide) (fun c_14 => ?_) (fun c_14 => ?_)
  · have hf := (if_neg c_14).symm.trans hf
    refine sj_iconst C dL_isLine_21 ki_0 ?_
    exact sj_lv [] rfl (hb_22 0 hf)
  · have hf := (if_pos c_14).symm.trans hf
    refine sj_iconst C dL_isLine_17 ki_1 ?_
    refine sj_goto C 22 dL_isLine_18 (by decide) ?_
    exact sj_lv [] rfl (hb_22 1 hf)
abbrev rL_meetings : Room := { frames := 1, cells := 0, slots := 0, locals := 22 }
set_option maxHeartbeats 4000000 in
set_option maxRecDepth 100000 in
theorem cL_meetings (l : Launch) (dC : Nat → ClassId) (dI : Nat → Nat → Nat) (cI cZ cB : ClassId) (l0 l1 l2 l3 l4 b0 b1 b2 b3 b4 : Nat) (lI lC lT lR : Nat → Int32) (lth lro lsp lle lex lco lou : Int32) (bK bZ bL bM : Nat → Int32) (bi bg bh : Int32) (p1 : Int32) (r : Int32)  (hf : fL_meetings p1 lI lC lT lth bK = some r) : MI l yL_meetings wL_meetings rL_meetings (dC, dI) (tyl cI cZ cB) [Value.ref l0, Value.int p1] (wdL cI cZ cB l0 l1 l2 l3 l4 b0 b1 b2 b3 b4 lI lC lT lR lth lro lsp lle lex lco lou bK bZ bL bM bi bg bh) (wdL cI cZ cB l0 l1 l2 l3 l4 b0 b1 b2 b3 b4 lI lC lT lR lth lro lsp lle lex lco lou bK bZ bL bM bi bg bh) r := by
  refine MI_of "StepColumns$Laying" rfl (by decide) (Nat.le_of_ble_eq_true rfl) ?_
  intro p e s m below meth c A Q C hQ
  have hb_102 : ∀ (v5 : Int32), fL_meetings_b102 v5 lI lC lT lth bK = some r → SJ p l e rL_meetings s m (List.toArray [Value.ref l0, Value.int p1]) below meth c A (dC, dI) 7 Q (wdL cI cZ cB l0 l1 l2 l3 l4 b0 b1 b2 b3 b4 lI lC lT lR lth lro lsp lle lex lco lou bK bZ bL bM bi bg bh) [(5, .int v5)] 102 [] := by
    intro v5 hf
    unfold fL_meetings_b102 at hf
    refine sj_iload C dL_meetings_102 0 rfl ?_
    cases hf
    exact hQ 104 _ dL_meetings_104
  have hb_99 : ∀ (K20 : Int32 → Int32 → Int32 → Int32 → Int32 → (Nat → Int32) → (Nat → Int32) → (Nat → Int32) → Int32 → (Nat → Int32) → Option (Int32)) (hK20 : ∀ (v1 v2 v3 v4 v5 : Int32) , K20 v1 v2 v3 v4 v5 lI lC lT lth bK = some r → SJ p l e rL_meetings s m (List.toArray [Value.ref l0, Value.int p1]) below meth c A (dC, dI) 7 Q (wdL cI cZ cB l0 l1 l2 l3 l4 b0 b1 b2 b3 b4 lI lC lT lR lth lro lsp lle lex lco lou bK bZ bL bM bi bg bh) [(0, .ref l0), (1, .int v1), (2, .int v2), (3, .int v3), (4, .int v4), (5, .int v5)] 20 []) (v1 v2 v3 v4 v5 : Int32), fL_meetings_b99 K20 v1 v2 v3 v4 v5 lI lC lT lth bK = some r → SJ p l e rL_meetings s m (List.toArray [Value.ref l0, Value.int p1]) below meth c A (dC, dI) 7 Q (wdL cI cZ cB l0 l1 l2 l3 l4 b0 b1 b2 b3 b4 lI lC lT lR lth lro lsp lle lex lco lou bK bZ bL bM bi bg bh) [(0, .ref l0), (1, .int v1), (2, .int v2), (3, .int v3), (4, .int v4), (5, .int v5)] 99 [] := by
    intro K20 hK20 v1 v2 v3 v4 v5 hf
    unfold fL_meetings_b99 at hf
    refine sj_goto C 20 dL_meetings_99 (by decide) ?_
    exact sj_lv [0, 1, 2, 3, 4, 5] rfl (hK20 v1 v2 v3 v4 v5 hf)
  have hb_85 : ∀ (K20 : Int32 → Int32 → Int32 → Int32 → Int32 → (Nat → Int32) → (Nat → Int32) → (Nat → Int32) → Int32 → (Nat → Int32) → Option (Int32)) (hK20 : ∀ (v1 v2 v3 v4 v5 : Int32) , K20 v1 v2 v3 v4 v5 lI lC lT lth bK = some r → SJ p l e rL_meetings s m (List.toArray [Value.ref l0, Value.int p1]) below meth c A (dC, dI) 7 Q (wdL cI cZ cB l0 l1 l2 l3 l4 b0 b1 b2 b3 b4 lI lC lT lR lth lro lsp lle lex lco lou bK bZ bL bM bi bg bh) [(0, .ref l0), (1, .int v1), (2, .int v2), (3, .int v3), (4, .int v4), (5, .int v5)] 20 []) (v1 v2 v3 v4 v5 v6 : Int32), fL_meetings_b85 K20 v1 v2 v3 v4 v5 v6 lI lC lT lth bK = some r → SJ p l e rL_meetings s m (List.toArray [Value.ref l0, Value.int p1]) below meth c A (dC, dI) 7 Q (wdL cI cZ cB l0 l1 l2 l3 l4 b0 b1 b2 b3 b4 lI lC lT lR lth lro lsp lle lex lco lou bK bZ bL bM bi bg bh) [(0, .ref l0), (1, .int v1), (2, .int v2), (3, .int v3), (4, .int v4), (5, .int v5), (6, .int v6)] 85 [] := by
    intro K20 hK20 v1 v2 v3 v4 v5 v6 hf
    unfold fL_meetings_b85 at hf
    refine sj_iload C dL_meetings_85 6 rfl ?_
    refine sj_if_gt C 96 dL_meetings_87 (by decide) (fun c_87 => ?_) (fun c_87 => ?_)
    · have hf := (if_pos c_87).symm.trans hf
      refine sj_iinc (v := (v3 + 1)) (lv' := [(3, .int (v3 + 1)), (0, .ref l0), (1, .int v1), (2, .int v2), (4, .int v4), (5, .int v5), (6, .int v6)]) C dL_meetings_96 3 rfl (by rw [ki_1]) (by decide) rfl ?_
      exact sj_lv [1, 2, 3, 0, 4, 5] rfl (hb_99 K20 hK20 v1 v2 (v3 + 1) v4 v5 hf)
    · have hf := (if_neg c_87).symm.trans hf
      refine sj_iinc (v := (v2 + 1)) (lv' := [(2, .int (v2 + 1)), (0, .ref l0), (1, .int v1), (3, .int v3), (4, .int v4), (5, .int v5), (6, .int v6)]) C dL_meetings_90 2 rfl (by rw [ki_1]) (by decide) rfl ?_
      refine sj_goto C 99 dL_meetings_93 (by decide) ?_
      exact sj_lv [1, 2, 0, 3, 4, 5] rfl (hb_99 K20 hK20 v1 (v2 + 1) v3 v4 v5 hf)
  have hb_20 : ∀ (n : Nat) (v1 v2 v3 v4 v5 : Int32), fL_meetings_b20 n v1 v2 v3 v4 v5 lI lC lT lth bK = some r → SJ p l e rL_meetings s m (List.toArray [Value.ref l0, Value.int p1]) below meth c A (dC, dI) 7 Q (wdL cI cZ cB l0 l1 l2 l3 l4 b0 b1 b2 b3 b4 lI lC lT lR lth lro lsp lle lex lco lou bK bZ bL bM bi bg bh) [(0, .ref l0), (1, .int v1), (2, .int v2), (3, .int v3), (4, .int v4), (5, .int v5)] 20 [] := by
    intro n
    induction n with
    | zero => intro v1 v2 v3 v4 v5 hf; cases hf
    | succ n IH =>
      intro v1 v2 v3 v4 v5 hf
      unfold fL_meetings_b20 at hf
      refine sj_iload_n C dL_meetings_20 2 rfl rfl ?_
      refine sj_iload C dL_meetings_21 4 rfl ?_
      refine sj_icmp_ge C 102 dL_meetings_23 (by decide) (fun c_23 => ?_) (fun c_23 => ?_)
      · have hf := (if_pos c_23).symm.trans hf
        exact sj_lv [5] rfl (hb_102 v5 hf)
      · have hf := (if_neg c_23).symm.trans hf
        refine sj_iload_n C dL_meetings_26 3 rfl rfl ?_
        refine sj_aload_n C dL_meetings_27 0 rfl rfl ?_
        refine sj_get C nL_in 0 rfl rfl 5 (by decide) wd_130 rfl rfl dL_meetings_28 ?_
        refine sj_icmp_ge C 102 dL_meetings_31 (by decide) (fun c_31 => ?_) (fun c_31 => ?_)
        · have hf := (if_pos c_31).symm.trans hf
          exact sj_lv [5] rfl (hb_102 v5 hf)
        · have hf := (if_neg c_31).symm.trans hf
          refine sj_aload_n C dL_meetings_34 0 rfl rfl ?_
          refine sj_get C nL_in 0 rfl rfl 2 (by decide) wd_127 rfl rfl dL_meetings_35 ?_
          refine sj_iload_n C dL_meetings_38 3 rfl rfl ?_
          obtain ⟨h_39, hf⟩ := in_some hf
          refine sj_iald C 2 0 rfl rfl h_39 rfl dL_meetings_39 ?_
          refine sj_iload_n C dL_meetings_40 1 rfl rfl ?_
          refine sj_iconst C dL_meetings_41 ki_1 ?_
          refine sj_iadd C dL_meetings_42 ?_
          refine sj_icmp_ne C 102 dL_meetings_43 (by decide) (fun c_43 => ?_) (fun c_43 => ?_)
          · have hf := (if_neg c_43).symm.trans hf
            exact sj_lv [5] rfl (hb_102 v5 hf)
          · have hf := (if_pos c_43).symm.trans hf
            refine sj_aload_n C dL_meetings_46 0 rfl rfl ?_
            refine sj_get C nL_in 0 rfl rfl 3 (by decide) wd_128 rfl rfl dL_meetings_47 ?_
            refine sj_iload_n C dL_meetings_50 2 rfl rfl ?_
            obtain ⟨h_51, hf⟩ := in_some hf
            refine sj_iald C 3 0 rfl rfl h_51 rfl dL_meetings_51 ?_
            refine sj_aload_n C dL_meetings_52 0 rfl rfl ?_
            refine sj_get C nL_in 0 rfl rfl 3 (by decide) wd_128 rfl rfl dL_meetings_53 ?_
            refine sj_iload_n C dL_meetings_56 3 rfl rfl ?_
            obtain ⟨h_57, hf⟩ := in_some hf
            refine sj_iald C 3 0 rfl rfl h_57 rfl dL_meetings_57 ?_
            refine sj_isub C dL_meetings_58 ?_
            refine sj_istore (lv' := [(6, .int ((lT v2.toNatClampNeg) - (lT v3.toNatClampNeg))), (0, .ref l0), (1, .int v1), (2, .int v2), (3, .int v3), (4, .int v4), (5, .int v5)]) C dL_meetings_59 (by decide) rfl ?_
            refine sj_iload C dL_meetings_61 0 rfl ?_
            refine sj_if_ne C 85 dL_meetings_63 (by decide) (fun c_63 => ?_) (fun c_63 => ?_)
            · have hf := (if_neg c_63).symm.trans hf
              exact sj_lv [1, 2, 3, 4, 5, 6, 0] rfl (hb_85 (fL_meetings_b20 n) IH v1 v2 v3 v4 v5 ((lT v2.toNatClampNeg) - (lT v3.toNatClampNeg)) hf)
            · have hf := (if_pos c_63).symm.trans hf
              refine sj_aload_n C dL_meetings_66 1 rfl rfl ?_
              refine sj_iload_n C dL_meetings_67 3 rfl rfl ?_
              obtain ⟨r_68, hq_68, hf⟩ := bd1_some hf
              refine sj_callVi (w1 := (wdL cI cZ cB l0 l1 l2 l3 l4 b0 b1 b2 b3 b4 lI lC lT lR lth lro lsp lle lex lco lou bK bZ bL bM bi bg bh)) (q0 := 0) C "StepColumns$Laying" (cL_isLine l dC dI cI cZ cB l0 l1 l2 l3 l4 b0 b1 b2 b3 b4 lI lC lT lR lth lro lsp lle lex lco lou bK bZ bL bM bi bg bh v2 r_68 hq_68) wd_383 wd_385 wd_14 wd_38 wd_386 hL_isLine rfl rfl ⟨Nat.le_of_ble_eq_true rfl, Nat.le_of_ble_eq_true rfl⟩ [0, 1, 2, 3, 4, 5, 6, 7, 8, 9] [] ⟨rfl, rfl, rfl, rfl, rfl, rfl, kv_10_0_1_2_3_4_5_6_7_8_9⟩ rfl rfl rfl rfl rfl (Nat.le_of_ble_eq_true rfl) dL_meetings_68 ?_
              refine sj_if_eq C 85 dL_meetings_71 (by decide) (fun c_71 => ?_) (fun c_71 => ?_)
              · have hf := (if_pos c_71).symm.trans hf
                exact sj_lv [1, 2, 3, 4, 5, 6, 0] rfl (hb_85 (fL_meetings_b20 n) IH v1 v2 v3 v4 v5 ((lT v2.toNatClampNeg) - (lT v3.toNatClampNeg)) hf)
              · have hf := (if_neg c_71).symm.trans hf
                refine sj_aload_n C dL_meetings_74 1 rfl rfl ?_
                refine sj_iload_n C dL_meetings_75 4 rfl rfl ?_
                obtain ⟨r_76, hq_76, hf⟩ := bd1_some hf
                refine sj_callVi (w1 := (wdL cI cZ cB l0 l1 l2 l3 l4 b0 b1 b2 b3 b4 lI lC lT lR lth lro lsp lle lex lco lou bK bZ bL bM bi bg bh)) (q0 := 0) C "StepColumns$Laying" (cL_isLine l dC dI cI cZ cB l0 l1 l2 l3 l4 b0 b1 b2 b3 b4 lI lC lT lR lth lro lsp lle lex lco lou bK bZ bL bM bi bg bh v3 r_76 hq_76) wd_383 wd_385 wd_14 wd_38 wd_386 hL_isLine rfl rfl ⟨Nat.le_of_ble_eq_true rfl, Nat.le_of_ble_eq_true rfl⟩ [0, 1, 2, 3, 4, 5, 6, 7, 8, 9] [] ⟨rfl, rfl, rfl, rfl, rfl, rfl, kv_10_0_1_2_3_4_5_6_7_8_9⟩ rfl rfl rfl rfl rfl (Nat.le_of_ble_eq_true rfl) dL_meetings_76 ?_
                refine sj_if_eq C 85 dL_meetings_79 (by decide) (fun c_79 => ?_) (fun c_79 => ?_)
                · have hf := (if_pos c_79).symm.trans hf
                  exact sj_lv [1, 2, 3, 4, 5, 6, 0] rfl (hb_85 (fL_meetings_b20 n) IH v1 v2 v3 v4 v5 ((lT v2.toNatClampNeg) - (lT v3.toNatClampNeg)) hf)
                · have hf := (if_neg c_79).symm.trans hf
                  refine sj_iinc (v := (v5 + 1)) (lv' := [(5, .int (v5 + 1)), (6, .int ((lT v2.toNatClampNeg) - (lT v3.toNatClampNeg))), (0, .ref l0), (1, .int v1), (2, .int v2), (3, .int v3), (4, .int v4)]) C dL_meetings_82 6 rfl (by rw [ki_1]) (by decide) rfl ?_
                  exact sj_lv [2, 3, 4, 5, 6, 0, 1] rfl (hb_85 (fL_meetings_b20 n) IH v1 v2 v3 v4 (v5 + 1) ((lT v2.toNatClampNeg) - (lT v3.toNatClampNeg)) hf)
  unfold fL_meetings at hf
  change SJ p l e rL_meetings s m (List.toArray [Value.ref l0, Value.int p1]) below meth c A (dC, dI) 7 Q (wdL cI cZ cB l0 l1 l2 l3 l4 b0 b1 b2 b3 b4 lI lC lT lR lth lro lsp lle lex lco lou bK bZ bL bM bi bg bh) [(0, .ref l0), (1, .int p1)] 0 []
  refine sj_aload_n C dL_meetings_0 0 rfl rfl ?_
  refine sj_iload_n C dL_meetings_1 1 rfl rfl ?_
  obtain ⟨r_2, hq_2, hf⟩ := bd1_some hf
  refine sj_callVi (w1 := (wdL cI cZ cB l0 l1 l2 l3 l4 b0 b1 b2 b3 b4 lI lC lT lR lth lro lsp lle lex lco lou bK bZ bL bM bi bg bh)) (q0 := 0) C "StepColumns$Laying" (cL_firstThing l dC dI cI cZ cB l0 l1 l2 l3 l4 b0 b1 b2 b3 b4 lI lC lT lR lth lro lsp lle lex lco lou bK bZ bL bM bi bg bh p1 r_2 hq_2) wd_367 wd_369 wd_12 wd_38 wd_370 hL_firstThing rfl rfl ⟨Nat.le_of_ble_eq_true rfl, Nat.le_of_ble_eq_true rfl⟩ [0, 1, 2, 3, 4, 5, 6, 7, 8, 9] [] ⟨rfl, rfl, rfl, rfl, rfl, rfl, kv_10_0_1_2_3_4_5_6_7_8_9⟩ rfl rfl rfl rfl rfl (Nat.le_of_ble_eq_true rfl) dL_meetings_2 ?_
  refine sj_istore_n (lv' := [(2, .int r_2), (0, .ref l0), (1, .int p1)]) C dL_meetings_5 rfl (by decide) rfl ?_
  refine sj_aload_n C dL_meetings_6 1 rfl rfl ?_
  refine sj_iload_n C dL_meetings_7 2 rfl rfl ?_
  refine sj_iconst C dL_meetings_8 ki_1 ?_
  refine sj_iadd C dL_meetings_9 ?_
  obtain ⟨r_10, hq_10, hf⟩ := bd1_some hf
  refine sj_callVi (w1 := (wdL cI cZ cB l0 l1 l2 l3 l4 b0 b1 b2 b3 b4 lI lC lT lR lth lro lsp lle lex lco lou bK bZ bL bM bi bg bh)) (q0 := 0) C "StepColumns$Laying" (cL_firstThing l dC dI cI cZ cB l0 l1 l2 l3 l4 b0 b1 b2 b3 b4 lI lC lT lR lth lro lsp lle lex lco lou bK bZ bL bM bi bg bh (p1 + 1) r_10 hq_10) wd_367 wd_369 wd_12 wd_38 wd_370 hL_firstThing rfl rfl ⟨Nat.le_of_ble_eq_true rfl, Nat.le_of_ble_eq_true rfl⟩ [0, 1, 2, 3, 4, 5, 6, 7, 8, 9] [] ⟨rfl, rfl, rfl, rfl, rfl, rfl, kv_10_0_1_2_3_4_5_6_7_8_9⟩ rfl rfl rfl rfl rfl (Nat.le_of_ble_eq_true rfl) dL_meetings_10 ?_
  refine sj_istore_n (lv' := [(3, .int r_10), (2, .int r_2), (0, .ref l0), (1, .int p1)]) C dL_meetings_13 rfl (by decide) rfl ?_
  refine sj_iload_n C dL_meetings_14 0 rfl rfl ?_
  refine sj_istore (lv' := [(4, .int r_10), (3, .int r_10), (2, .int r_2), (0, .ref l0), (1, .int p1)]) C dL_meetings_15 (by decide) rfl ?_
  refine sj_iconst C dL_meetings_17 ki_0 ?_
  refine sj_istore (lv' := [(5, .int 0), (4, .int r_10), (3, .int r_10), (2, .int r_2), (0, .ref l0), (1, .int p1)]) C dL_meetings_18 (by decide) rfl ?_
  exact sj_lv [4, 5, 3, 2, 1, 0] rfl (hb_20 fu p1 r_2 r_10 r_10 0 hf)
