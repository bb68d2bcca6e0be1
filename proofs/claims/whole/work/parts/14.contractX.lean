abbrev rX_sizeFits : Room := { frames := 0, cells := 0, slots := 0, locals := 0 }
set_option maxHeartbeats 4000000 in
set_option maxRecDepth 100000 in
theorem cX_sizeFits (l : Launch) (dC : Nat → ClassId) (dI : Nat → Nat → Nat) (cI cZ cB : ClassId)  (p1 p2 : Int32) (r : Int32)  (hf : fX_sizeFits p1 p2 = some r) : MI l yX_sizeFits wX_sizeFits rX_sizeFits (dC, dI) (tyl cI cZ cB) [Value.int p1, Value.int p2] [] [] r := by
  refine MZ_of "StepColumns" rfl (by decide) (Nat.le_of_ble_eq_true rfl) ?_
  intro p e s m below meth c A Q C hQ
  have hb_25 : ∀ (t0 : Int32), fX_sizeFits_b25 t0 = some r → SJ p l e rX_sizeFits s m (List.toArray [Value.int p1, Value.int p2]) below meth c A (dC, dI) 2 Q [] [] 25 [.int t0] := by
    intro t0 hf
    unfold fX_sizeFits_b25 at hf
    obtain ⟨h_25, hf⟩ := in_some hf
    cases hf
    exact hQ 25 _ (Decidable.not_not.mp h_25) dX_sizeFits_25
  have hb_24 : fX_sizeFits_b24  = some r → SJ p l e rX_sizeFits s m (List.toArray [Value.int p1, Value.int p2]) below meth c A (dC, dI) 2 Q [] [] 24 [] := by
    intro  hf
    unfold fX_sizeFits_b24 at hf
    refine sj_iconst C dX_sizeFits_24 ki_0 ?_
    exact sj_lv [] rfl (hb_25 0 hf)
  have hb_17 : ∀ (t0 t1 : Int32), fX_sizeFits_b17 t0 t1 = some r → SJ p l e rX_sizeFits s m (List.toArray [Value.int p1, Value.int p2]) below meth c A (dC, dI) 2 Q [] [] 17 [.int t1, .int t0] := by
    intro t0 t1 hf
    unfold fX_sizeFits_b17 at hf
    refine sj_icmp_gt C 24 dX_sizeFits_17 (by decide) (fun c_17 => ?_) (fun c_17 => ?_)
    · have hf := (if_pos c_17).symm.trans hf
      exact sj_lv [] rfl (hb_24 hf)
    · have hf := (if_neg c_17).symm.trans hf
      refine sj_iconst C dX_sizeFits_20 ki_1 ?_
      refine sj_goto C 25 dX_sizeFits_21 (by decide) ?_
      exact sj_lv [] rfl (hb_25 1 hf)
  unfold fX_sizeFits at hf
  change SJ p l e rX_sizeFits s m (List.toArray [Value.int p1, Value.int p2]) below meth c A (dC, dI) 2 Q [] [(0, .int p1), (1, .int p2)] 0 []
  refine sj_iload_n C dX_sizeFits_0 1 rfl rfl ?_
  refine sj_iconst C dX_sizeFits_1 ki_1 ?_
  refine sj_icmp_lt C 24 dX_sizeFits_2 (by decide) (fun c_2 => ?_) (fun c_2 => ?_)
  · have hf := (if_pos c_2).symm.trans hf
    exact sj_lv [] rfl (hb_24 hf)
  · have hf := (if_neg c_2).symm.trans hf
    refine sj_iload_n C dX_sizeFits_5 1 rfl rfl ?_
    refine sj_iload_n C dX_sizeFits_6 0 rfl rfl ?_
    refine sj_if_ne C 15 dX_sizeFits_7 (by decide) (fun c_7 => ?_) (fun c_7 => ?_)
    · have hf := (if_neg c_7).symm.trans hf
      refine sj_bipush C dX_sizeFits_15 kb_80 ?_
      exact sj_lv [] rfl (hb_17 p2 80 hf)
    · have hf := (if_pos c_7).symm.trans hf
      refine sj_bipush C dX_sizeFits_10 kb_12 ?_
      refine sj_goto C 17 dX_sizeFits_12 (by decide) ?_
      exact sj_lv [] rfl (hb_17 p2 12 hf)
abbrev rX_boundsFit : Room := { frames := 0, cells := 0, slots := 0, locals := 0 }
set_option maxHeartbeats 4000000 in
set_option maxRecDepth 100000 in
theorem cX_boundsFit (l : Launch) (dC : Nat → ClassId) (dI : Nat → Nat → Nat) (cI cZ cB : ClassId)  (p1 p2 : Int32) (r : Int32)  (hf : fX_boundsFit p1 p2 = some r) : MI l yX_boundsFit wX_boundsFit rX_boundsFit (dC, dI) (tyl cI cZ cB) [Value.int p1, Value.int p2] [] [] r := by
  refine MZ_of "StepColumns" rfl (by decide) (Nat.le_of_ble_eq_true rfl) ?_
  intro p e s m below meth c A Q C hQ
  have hb_20 : ∀ (t0 : Int32), fX_boundsFit_b20 t0 = some r → SJ p l e rX_boundsFit s m (List.toArray [Value.int p1, Value.int p2]) below meth c A (dC, dI) 2 Q [] [] 20 [.int t0] := by
    intro t0 hf
    unfold fX_boundsFit_b20 at hf
    obtain ⟨h_20, hf⟩ := in_some hf
    cases hf
    exact hQ 20 _ (Decidable.not_not.mp h_20) dX_boundsFit_20
  have hb_19 : fX_boundsFit_b19  = some r → SJ p l e rX_boundsFit s m (List.toArray [Value.int p1, Value.int p2]) below meth c A (dC, dI) 2 Q [] [] 19 [] := by
    intro  hf
    unfold fX_boundsFit_b19 at hf
    refine sj_iconst C dX_boundsFit_19 ki_0 ?_
    exact sj_lv [] rfl (hb_20 0 hf)
  unfold fX_boundsFit at hf
  change SJ p l e rX_boundsFit s m (List.toArray [Value.int p1, Value.int p2]) below meth c A (dC, dI) 2 Q [] [(0, .int p1), (1, .int p2)] 0 []
  refine sj_iload_n C dX_boundsFit_0 0 rfl rfl ?_
  refine sj_if_lt C 19 dX_boundsFit_1 (by decide) (fun c_1 => ?_) (fun c_1 => ?_)
  · have hf := (if_pos c_1).symm.trans hf
    exact sj_lv [] rfl (hb_19 hf)
  · have hf := (if_neg c_1).symm.trans hf
    refine sj_iload_n C dX_boundsFit_4 0 rfl rfl ?_
    refine sj_iload_n C dX_boundsFit_5 1 rfl rfl ?_
    refine sj_icmp_gt C 19 dX_boundsFit_6 (by decide) (fun c_6 => ?_) (fun c_6 => ?_)
    · have hf := (if_pos c_6).symm.trans hf
      exact sj_lv [] rfl (hb_19 hf)
    · have hf := (if_neg c_6).symm.trans hf
      refine sj_iload_n C dX_boundsFit_9 1 rfl rfl ?_
      refine sj_bipush C dX_boundsFit_10 kb_30 ?_
      refine sj_icmp_gt C 19 dX_boundsFit_12 (by decide) (fun c_12 => ?_) (fun c_12 => ?_)
      · have hf := (if_pos c_12).symm.trans hf
        exact sj_lv [] rfl (hb_19 hf)
      · have hf := (if_neg c_12).symm.trans hf
        refine sj_iconst C dX_boundsFit_15 ki_1 ?_
        refine sj_goto C 20 dX_boundsFit_16 (by decide) ?_
        exact sj_lv [] rfl (hb_20 1 hf)
abbrev rX_add : Room := { frames := 1, cells := 0, slots := 0, locals := 25 }
set_option maxHeartbeats 4000000 in
set_option maxRecDepth 100000 in
theorem cX_add (l : Launch) (dC : Nat → ClassId) (dI : Nat → Nat → Nat) (cI cZ cB : ClassId) (x0 x1 b0 b1 b2 b3 b4 s0 s1 s2 l0 l1 l2 l3 l4 : Nat) (xk xl : Int32) (bK bZ bL bM : Nat → Int32) (bi bg bh : Int32) (sB sO : Nat → Int32) (sh sw sr : Int32) (lI lC lT lR : Nat → Int32) (lth lro lsp lle lex lco lou : Int32) (p1 p2 p3 p4 : Int32) (r : Int32) (xl' : Int32) (bK' : Nat → Int32) (bZ' : Nat → Int32) (bL' : Nat → Int32) (bM' : Nat → Int32) (bi' : Int32) (hf : fX_add p1 p2 p3 p4 xl bK bZ bL bM bi = some (r, xl', bK', bZ', bL', bM', bi')) : MI l yX_add wX_add rX_add (dC, dI) (tyl cI cZ cB) [Value.ref x0, Value.int p1, Value.int p2, Value.int p3, Value.int p4] (wdX cI cZ cB x0 x1 b0 b1 b2 b3 b4 s0 s1 s2 l0 l1 l2 l3 l4 xk xl bK bZ bL bM bi bg bh sB sO sh sw sr lI lC lT lR lth lro lsp lle lex lco lou) (wdX cI cZ cB x0 x1 b0 b1 b2 b3 b4 s0 s1 s2 l0 l1 l2 l3 l4 xk xl' bK' bZ' bL' bM' bi' bg bh sB sO sh sw sr lI lC lT lR lth lro lsp lle lex lco lou) r := by
  refine MI_of "StepColumns" rfl (by decide) (Nat.le_of_ble_eq_true rfl) ?_
  intro p e s m below meth c A Q C hQ
  have hb_17 : ∀ (xl : Int32) (bK bZ bL bM : Nat → Int32) (bi : Int32), fX_add_b17 xl bK bZ bL bM bi = some (r, xl', bK', bZ', bL', bM', bi') → SJ p l e rX_add s m (List.toArray [Value.ref x0, Value.int p1, Value.int p2, Value.int p3, Value.int p4]) below meth c A (dC, dI) 5 Q (wdX cI cZ cB x0 x1 b0 b1 b2 b3 b4 s0 s1 s2 l0 l1 l2 l3 l4 xk xl bK bZ bL bM bi bg bh sB sO sh sw sr lI lC lT lR lth lro lsp lle lex lco lou) [] 17 [] := by
    intro xl bK bZ bL bM bi hf
    unfold fX_add_b17 at hf
    refine sj_bipush C dX_add_17 kb_m2 ?_
    cases hf
    exact hQ 19 _ dX_add_19
  have hb_81 : ∀ (t1 t2 t3 t4 : Int32) (xl : Int32) (bK bZ bL bM : Nat → Int32) (bi : Int32), fX_add_b81 t1 t2 t3 t4 xl bK bZ bL bM bi = some (r, xl', bK', bZ', bL', bM', bi') → SJ p l e rX_add s m (List.toArray [Value.ref x0, Value.int p1, Value.int p2, Value.int p3, Value.int p4]) below meth c A (dC, dI) 5 Q (wdX cI cZ cB x0 x1 b0 b1 b2 b3 b4 s0 s1 s2 l0 l1 l2 l3 l4 xk xl bK bZ bL bM bi bg bh sB sO sh sw sr lI lC lT lR lth lro lsp lle lex lco lou) [] 81 [.int t4, .int t3, .int t2, .int t1, .ref b0] := by
    intro t1 t2 t3 t4 xl bK bZ bL bM bi hf
    unfold fX_add_b81 at hf
    obtain ⟨r_81, bK_81, bZ_81, bL_81, bM_81, bi_81, hq_81, hf⟩ := bd6_some hf
    refine sj_callVi (w1 := (wdX cI cZ cB x0 x1 b0 b1 b2 b3 b4 s0 s1 s2 l0 l1 l2 l3 l4 xk xl bK_81 bZ_81 bL_81 bM_81 bi_81 bg bh sB sO sh sw sr lI lC lT lR lth lro lsp lle lex lco lou)) (q0 := 0) C "StepColumns$Book" (cB_append l dC dI cI cZ cB b0 b1 b2 b3 b4 bK bZ bL bM bi bg bh t1 t2 t3 t4 r_81 bK_81 bZ_81 bL_81 bM_81 bi_81 hq_81) wd_195 wd_196 wd_197 wd_36 wd_198 hB_append rfl rfl ⟨Nat.le_of_ble_eq_true rfl, Nat.le_of_ble_eq_true rfl⟩ [1, 2, 3, 4, 5] [0, 6, 7, 8, 9, 10, 11, 12, 13] ⟨rfl, rfl, rfl, rfl, rfl, rfl, kv_14_1_2_3_4_5⟩ rfl rfl rfl rfl rfl (Nat.le_of_ble_eq_true rfl) dX_add_81 ?_
    cases hf
    exact hQ 84 _ dX_add_84
  have hb_71 : ∀ (v1 v4 t1 t2 t3 : Int32) (xl : Int32) (bK bZ bL bM : Nat → Int32) (bi : Int32), fX_add_b71 v1 v4 t1 t2 t3 xl bK bZ bL bM bi = some (r, xl', bK', bZ', bL', bM', bi') → SJ p l e rX_add s m (List.toArray [Value.ref x0, Value.int p1, Value.int p2, Value.int p3, Value.int p4]) below meth c A (dC, dI) 5 Q (wdX cI cZ cB x0 x1 b0 b1 b2 b3 b4 s0 s1 s2 l0 l1 l2 l3 l4 xk xl bK bZ bL bM bi bg bh sB sO sh sw sr lI lC lT lR lth lro lsp lle lex lco lou) [(1, .int v1), (4, .int v4)] 71 [.int t3, .int t2, .int t1, .ref b0] := by
    intro v1 v4 t1 t2 t3 xl bK bZ bL bM bi hf
    unfold fX_add_b71 at hf
    refine sj_iload_n C dX_add_71 0 rfl rfl ?_
    refine sj_if_ne C 79 dX_add_72 (by decide) (fun c_72 => ?_) (fun c_72 => ?_)
    · have hf := (if_neg c_72).symm.trans hf
      refine sj_iload C dX_add_79 1 rfl ?_
      exact sj_lv [] rfl (hb_81 t1 t2 t3 v4 xl bK bZ bL bM bi hf)
    · have hf := (if_pos c_72).symm.trans hf
      refine sj_iconst C dX_add_75 ki_0 ?_
      refine sj_goto C 81 dX_add_76 (by decide) ?_
      exact sj_lv [] rfl (hb_81 t1 t2 t3 0 xl bK bZ bL bM bi hf)
  have hb_36 : ∀ (v1 v2 v3 v4 : Int32) (xl : Int32) (bK bZ bL bM : Nat → Int32) (bi : Int32), fX_add_b36 v1 v2 v3 v4 xl bK bZ bL bM bi = some (r, xl', bK', bZ', bL', bM', bi') → SJ p l e rX_add s m (List.toArray [Value.ref x0, Value.int p1, Value.int p2, Value.int p3, Value.int p4]) below meth c A (dC, dI) 5 Q (wdX cI cZ cB x0 x1 b0 b1 b2 b3 b4 s0 s1 s2 l0 l1 l2 l3 l4 xk xl bK bZ bL bM bi bg bh sB sO sh sw sr lI lC lT lR lth lro lsp lle lex lco lou) [(0, .ref x0), (1, .int v1), (2, .int v2), (3, .int v3), (4, .int v4)] 36 [] := by
    intro v1 v2 v3 v4 xl bK bZ bL bM bi hf
    unfold fX_add_b36 at hf
    refine sj_aload_n C dX_add_36 0 rfl rfl ?_
    refine sj_get C nX_in 0 rfl rfl 0 (by decide) wd_166 rfl rfl dX_add_37 ?_
    refine sj_get C nB_in 1 rfl rfl 4 (by decide) wd_70 rfl rfl dX_add_40 ?_
    refine sj_bipush C dX_add_43 kb_12 ?_
    refine sj_icmp_lt C 51 dX_add_45 (by decide) (fun c_45 => ?_) (fun c_45 => ?_)
    · have hf := (if_pos c_45).symm.trans hf
      refine sj_aload_n C dX_add_51 0 rfl rfl ?_
      refine sj_iconst C dX_add_52 ki_0 ?_
      refine sj_put (w' := (wdX cI cZ cB x0 x1 b0 b1 b2 b3 b4 s0 s1 s2 l0 l1 l2 l3 l4 xk 0 bK bZ bL bM bi bg bh sB sO sh sw sr lI lC lT lR lth lro lsp lle lex lco lou)) C nX_in nX_ty nX_ok nX_nm 0 rfl rfl 5 (by decide) wd_171 rfl rfl (z01_nar (Or.inl rfl)) (z01_fit (Or.inl rfl)) (Nat.le_of_ble_eq_true rfl) dX_add_53 rfl ?_
      refine sj_aload_n C dX_add_56 0 rfl rfl ?_
      refine sj_get C nX_in 0 rfl rfl 0 (by decide) wd_166 rfl rfl dX_add_57 ?_
      refine sj_iload_n C dX_add_60 1 rfl rfl ?_
      refine sj_iload_n C dX_add_61 2 rfl rfl ?_
      refine sj_iload_n C dX_add_62 1 rfl rfl ?_
      refine sj_if_ne C 70 dX_add_63 (by decide) (fun c_63 => ?_) (fun c_63 => ?_)
      · have hf := (if_neg c_63).symm.trans hf
        refine sj_iload_n C dX_add_70 3 rfl rfl ?_
        exact sj_lv [1, 4] rfl (hb_71 v1 v4 v1 v2 v3 0 bK bZ bL bM bi hf)
      · have hf := (if_pos c_63).symm.trans hf
        refine sj_iconst C dX_add_66 ki_0 ?_
        refine sj_goto C 71 dX_add_67 (by decide) ?_
        exact sj_lv [1, 4] rfl (hb_71 v1 v4 v1 v2 0 0 bK bZ bL bM bi hf)
    · have hf := (if_neg c_45).symm.trans hf
      refine sj_bipush C dX_add_48 kb_m4 ?_
      cases hf
      exact hQ 50 _ dX_add_50
  unfold fX_add at hf
  change SJ p l e rX_add s m (List.toArray [Value.ref x0, Value.int p1, Value.int p2, Value.int p3, Value.int p4]) below meth c A (dC, dI) 5 Q (wdX cI cZ cB x0 x1 b0 b1 b2 b3 b4 s0 s1 s2 l0 l1 l2 l3 l4 xk xl bK bZ bL bM bi bg bh sB sO sh sw sr lI lC lT lR lth lro lsp lle lex lco lou) [(0, .ref x0), (1, .int p1), (2, .int p2), (3, .int p3), (4, .int p4)] 0 []
  refine sj_iload_n C dX_add_0 1 rfl rfl ?_
  refine sj_if_lt C 17 dX_add_1 (by decide) (fun c_1 => ?_) (fun c_1 => ?_)
  · have hf := (if_pos c_1).symm.trans hf
    exact sj_lv [] rfl (hb_17 xl bK bZ bL bM bi hf)
  · have hf := (if_neg c_1).symm.trans hf
    refine sj_iload_n C dX_add_4 1 rfl rfl ?_
    refine sj_iconst C dX_add_5 ki_2 ?_
    refine sj_icmp_gt C 17 dX_add_6 (by decide) (fun c_6 => ?_) (fun c_6 => ?_)
    · have hf := (if_pos c_6).symm.trans hf
      exact sj_lv [] rfl (hb_17 xl bK bZ bL bM bi hf)
    · have hf := (if_neg c_6).symm.trans hf
      refine sj_iload_n C dX_add_9 1 rfl rfl ?_
      refine sj_iload_n C dX_add_10 2 rfl rfl ?_
      obtain ⟨r_11, hq_11, hf⟩ := bd1_some hf
      refine sj_callSi (w1 := (wdX cI cZ cB x0 x1 b0 b1 b2 b3 b4 s0 s1 s2 l0 l1 l2 l3 l4 xk xl bK bZ bL bM bi bg bh sB sO sh sw sr lI lC lT lR lth lro lsp lle lex lco lou)) C "StepColumns" (cX_sizeFits l dC dI cI cZ cB   p1 p2 r_11 hq_11) wd_189 wd_190 wd_35 wd_191 hX_sizeFits rfl rfl ⟨Nat.le_of_ble_eq_true rfl, Nat.le_of_ble_eq_true rfl⟩ [] [0, 1, 2, 3, 4, 5, 6, 7, 8, 9, 10, 11, 12, 13] ⟨rfl, rfl, rfl, rfl, rfl, rfl, kv_14_⟩ rfl rfl (Nat.le_of_ble_eq_true rfl) dX_add_11 ?_
      refine sj_if_ne C 20 dX_add_14 (by decide) (fun c_14 => ?_) (fun c_14 => ?_)
      · have hf := (if_neg c_14).symm.trans hf
        refine sj_iload_n C dX_add_20 1 rfl rfl ?_
        refine sj_if_eq C 36 dX_add_21 (by decide) (fun c_21 => ?_) (fun c_21 => ?_)
        · have hf := (if_pos c_21).symm.trans hf
          exact sj_lv [0, 1, 2, 3, 4] rfl (hb_36 p1 p2 p3 p4 xl bK bZ bL bM bi hf)
        · have hf := (if_neg c_21).symm.trans hf
          refine sj_iload_n C dX_add_24 3 rfl rfl ?_
          refine sj_iload C dX_add_25 4 rfl ?_
          obtain ⟨r_27, hq_27, hf⟩ := bd1_some hf
          refine sj_callSi (w1 := (wdX cI cZ cB x0 x1 b0 b1 b2 b3 b4 s0 s1 s2 l0 l1 l2 l3 l4 xk xl bK bZ bL bM bi bg bh sB sO sh sw sr lI lC lT lR lth lro lsp lle lex lco lou)) C "StepColumns" (cX_boundsFit l dC dI cI cZ cB   p3 p4 r_27 hq_27) wd_192 wd_193 wd_35 wd_194 hX_boundsFit rfl rfl ⟨Nat.le_of_ble_eq_true rfl, Nat.le_of_ble_eq_true rfl⟩ [] [0, 1, 2, 3, 4, 5, 6, 7, 8, 9, 10, 11, 12, 13] ⟨rfl, rfl, rfl, rfl, rfl, rfl, kv_14_⟩ rfl rfl (Nat.le_of_ble_eq_true rfl) dX_add_27 ?_
          refine sj_if_ne C 36 dX_add_30 (by decide) (fun c_30 => ?_) (fun c_30 => ?_)
          · have hf := (if_neg c_30).symm.trans hf
            exact sj_lv [0, 1, 2, 3, 4] rfl (hb_36 p1 p2 p3 p4 xl bK bZ bL bM bi hf)
          · have hf := (if_pos c_30).symm.trans hf
            refine sj_bipush C dX_add_33 kb_m2 ?_
            cases hf
            exact hQ 35 _ dX_add_35
      · have hf := (if_pos c_14).symm.trans hf
        exact sj_lv [] rfl (hb_17 xl bK bZ bL bM bi hf)
abbrev rX_changeFits : Room := { frames := 1, cells := 0, slots := 0, locals := 21 }
set_option maxHeartbeats 4000000 in
set_option maxRecDepth 100000 in
theorem cX_changeFits (l : Launch) (dC : Nat → ClassId) (dI : Nat → Nat → Nat) (cI cZ cB : ClassId) (x0 x1 b0 b1 b2 b3 b4 s0 s1 s2 l0 l1 l2 l3 l4 : Nat) (xk xl : Int32) (bK bZ bL bM : Nat → Int32) (bi bg bh : Int32) (sB sO : Nat → Int32) (sh sw sr : Int32) (lI lC lT lR : Nat → Int32) (lth lro lsp lle lex lco lou : Int32) (p1 p2 p3 : Int32) (r : Int32)  (hf : fX_changeFits p1 p2 p3 bK bL bM = some r) : MI l yX_changeFits wX_changeFits rX_changeFits (dC, dI) (tyl cI cZ cB) [Value.ref x0, Value.int p1, Value.int p2, Value.int p3] (wdX cI cZ cB x0 x1 b0 b1 b2 b3 b4 s0 s1 s2 l0 l1 l2 l3 l4 xk xl bK bZ bL bM bi bg bh sB sO sh sw sr lI lC lT lR lth lro lsp lle lex lco lou) (wdX cI cZ cB x0 x1 b0 b1 b2 b3 b4 s0 s1 s2 l0 l1 l2 l3 l4 xk xl bK bZ bL bM bi bg bh sB sO sh sw sr lI lC lT lR lth lro lsp lle lex lco lou) r := by
  refine MZ_of "StepColumns" rfl (by decide) (Nat.le_of_ble_eq_true rfl) ?_
  intro p e s m below meth c A Q C hQ
  have hb_78 : ∀ (t0 : Int32), fX_changeFits_b78 t0 bK bL bM = some r → SJ p l e rX_changeFits s m (List.toArray [Value.ref x0, Value.int p1, Value.int p2, Value.int p3]) below meth c A (dC, dI) 4 Q (wdX cI cZ cB x0 x1 b0 b1 b2 b3 b4 s0 s1 s2 l0 l1 l2 l3 l4 xk xl bK bZ bL bM bi bg bh sB sO sh sw sr lI lC lT lR lth lro lsp lle lex lco lou) [] 78 [.int t0] := by
    intro t0 hf
    unfold fX_changeFits_b78 at hf
    obtain ⟨h_78, hf⟩ := in_some hf
    cases hf
    exact hQ 78 _ (Decidable.not_not.mp h_78) dX_changeFits_78
  have hb_77 : fX_changeFits_b77 bK bL bM = some r → SJ p l e rX_changeFits s m (List.toArray [Value.ref x0, Value.int p1, Value.int p2, Value.int p3]) below meth c A (dC, dI) 4 Q (wdX cI cZ cB x0 x1 b0 b1 b2 b3 b4 s0 s1 s2 l0 l1 l2 l3 l4 xk xl bK bZ bL bM bi bg bh sB sO sh sw sr lI lC lT lR lth lro lsp lle lex lco lou) [] 77 [] := by
    intro  hf
    unfold fX_changeFits_b77 at hf
    refine sj_iconst C dX_changeFits_77 ki_0 ?_
    exact sj_lv [] rfl (hb_78 0 hf)
  unfold fX_changeFits at hf
  change SJ p l e rX_changeFits s m (List.toArray [Value.ref x0, Value.int p1, Value.int p2, Value.int p3]) below meth c A (dC, dI) 4 Q (wdX cI cZ cB x0 x1 b0 b1 b2 b3 b4 s0 s1 s2 l0 l1 l2 l3 l4 xk xl bK bZ bL bM bi bg bh sB sO sh sw sr lI lC lT lR lth lro lsp lle lex lco lou) [(0, .ref x0), (1, .int p1), (2, .int p2), (3, .int p3)] 0 []
  refine sj_iload_n C dX_changeFits_0 2 rfl rfl ?_
  refine sj_iconst C dX_changeFits_1 ki_1 ?_
  refine sj_icmp_ne C 19 dX_changeFits_2 (by decide) (fun c_2 => ?_) (fun c_2 => ?_)
  · have hf := (if_neg c_2).symm.trans hf
    refine sj_aload_n C dX_changeFits_19 0 rfl rfl ?_
    refine sj_get C nX_in 0 rfl rfl 0 (by decide) wd_166 rfl rfl dX_changeFits_20 ?_
    refine sj_get C nB_in 1 rfl rfl 0 (by decide) wd_59 rfl rfl dX_changeFits_23 ?_
    refine sj_iload_n C dX_changeFits_26 1 rfl rfl ?_
    obtain ⟨h_27, hf⟩ := in_some hf
    refine sj_iald C 2 0 rfl rfl h_27 rfl dX_changeFits_27 ?_
    refine sj_if_ne C 33 dX_changeFits_28 (by decide) (fun c_28 => ?_) (fun c_28 => ?_)
    · have hf := (if_neg c_28).symm.trans hf
      refine sj_iload_n C dX_changeFits_33 2 rfl rfl ?_
      refine sj_iconst C dX_changeFits_34 ki_2 ?_
      refine sj_icmp_ne C 52 dX_changeFits_35 (by decide) (fun c_35 => ?_) (fun c_35 => ?_)
      · have hf := (if_neg c_35).symm.trans hf
        refine sj_iload_n C dX_changeFits_52 2 rfl rfl ?_
        refine sj_iconst C dX_changeFits_53 ki_3 ?_
        refine sj_icmp_ne C 77 dX_changeFits_54 (by decide) (fun c_54 => ?_) (fun c_54 => ?_)
        · have hf := (if_neg c_54).symm.trans hf
          exact sj_lv [] rfl (hb_77 hf)
        · have hf := (if_pos c_54).symm.trans hf
          refine sj_aload_n C dX_changeFits_57 0 rfl rfl ?_
          refine sj_get C nX_in 0 rfl rfl 0 (by decide) wd_166 rfl rfl dX_changeFits_58 ?_
          refine sj_get C nB_in 1 rfl rfl 2 (by decide) wd_64 rfl rfl dX_changeFits_61 ?_
          refine sj_iload_n C dX_changeFits_64 1 rfl rfl ?_
          obtain ⟨h_65, hf⟩ := in_some hf
          refine sj_iald C 4 0 rfl rfl h_65 rfl dX_changeFits_65 ?_
          refine sj_iload_n C dX_changeFits_66 3 rfl rfl ?_
          obtain ⟨r_67, hq_67, hf⟩ := bd1_some hf
          refine sj_callSi (w1 := (wdX cI cZ cB x0 x1 b0 b1 b2 b3 b4 s0 s1 s2 l0 l1 l2 l3 l4 xk xl bK bZ bL bM bi bg bh sB sO sh sw sr lI lC lT lR lth lro lsp lle lex lco lou)) C "StepColumns" (cX_boundsFit l dC dI cI cZ cB   (bL p1.toNatClampNeg) p3 r_67 hq_67) wd_192 wd_193 wd_35 wd_194 hX_boundsFit rfl rfl ⟨Nat.le_of_ble_eq_true rfl, Nat.le_of_ble_eq_true rfl⟩ [] [0, 1, 2, 3, 4, 5, 6, 7, 8, 9, 10, 11, 12, 13] ⟨rfl, rfl, rfl, rfl, rfl, rfl, kv_14_⟩ rfl rfl (Nat.le_of_ble_eq_true rfl) dX_changeFits_67 ?_
          refine sj_if_eq C 77 dX_changeFits_70 (by decide) (fun c_70 => ?_) (fun c_70 => ?_)
          · have hf := (if_pos c_70).symm.trans hf
            exact sj_lv [] rfl (hb_77 hf)
          · have hf := (if_neg c_70).symm.trans hf
            refine sj_iconst C dX_changeFits_73 ki_1 ?_
            refine sj_goto C 78 dX_changeFits_74 (by decide) ?_
            exact sj_lv [] rfl (hb_78 1 hf)
      · have hf := (if_pos c_35).symm.trans hf
        refine sj_iload_n C dX_changeFits_38 3 rfl rfl ?_
        refine sj_aload_n C dX_changeFits_39 0 rfl rfl ?_
        refine sj_get C nX_in 0 rfl rfl 0 (by decide) wd_166 rfl rfl dX_changeFits_40 ?_
        refine sj_get C nB_in 1 rfl rfl 3 (by decide) wd_67 rfl rfl dX_changeFits_43 ?_
        refine sj_iload_n C dX_changeFits_46 1 rfl rfl ?_
        obtain ⟨h_47, hf⟩ := in_some hf
        refine sj_iald C 5 0 rfl rfl h_47 rfl dX_changeFits_47 ?_
        obtain ⟨r_48, hq_48, hf⟩ := bd1_some hf
        refine sj_callSi (w1 := (wdX cI cZ cB x0 x1 b0 b1 b2 b3 b4 s0 s1 s2 l0 l1 l2 l3 l4 xk xl bK bZ bL bM bi bg bh sB sO sh sw sr lI lC lT lR lth lro lsp lle lex lco lou)) C "StepColumns" (cX_boundsFit l dC dI cI cZ cB   p3 (bM p1.toNatClampNeg) r_48 hq_48) wd_192 wd_193 wd_35 wd_194 hX_boundsFit rfl rfl ⟨Nat.le_of_ble_eq_true rfl, Nat.le_of_ble_eq_true rfl⟩ [] [0, 1, 2, 3, 4, 5, 6, 7, 8, 9, 10, 11, 12, 13] ⟨rfl, rfl, rfl, rfl, rfl, rfl, kv_14_⟩ rfl rfl (Nat.le_of_ble_eq_true rfl) dX_changeFits_48 ?_
        obtain ⟨h_51, hf⟩ := in_some hf
        cases hf
        exact hQ 51 _ (Decidable.not_not.mp h_51) dX_changeFits_51
    · have hf := (if_pos c_28).symm.trans hf
      refine sj_iconst C dX_changeFits_31 ki_0 ?_
      cases hf
      exact hQ 32 _ (Or.inl rfl) dX_changeFits_32
  · have hf := (if_pos c_2).symm.trans hf
    refine sj_aload_n C dX_changeFits_5 0 rfl rfl ?_
    refine sj_get C nX_in 0 rfl rfl 0 (by decide) wd_166 rfl rfl dX_changeFits_6 ?_
    refine sj_get C nB_in 1 rfl rfl 0 (by decide) wd_59 rfl rfl dX_changeFits_9 ?_
    refine sj_iload_n C dX_changeFits_12 1 rfl rfl ?_
    obtain ⟨h_13, hf⟩ := in_some hf
    refine sj_iald C 2 0 rfl rfl h_13 rfl dX_changeFits_13 ?_
    refine sj_iload_n C dX_changeFits_14 3 rfl rfl ?_
    obtain ⟨r_15, hq_15, hf⟩ := bd1_some hf
    refine sj_callSi (w1 := (wdX cI cZ cB x0 x1 b0 b1 b2 b3 b4 s0 s1 s2 l0 l1 l2 l3 l4 xk xl bK bZ bL bM bi bg bh sB sO sh sw sr lI lC lT lR lth lro lsp lle lex lco lou)) C "StepColumns" (cX_sizeFits l dC dI cI cZ cB   (bK p1.toNatClampNeg) p3 r_15 hq_15) wd_189 wd_190 wd_35 wd_191 hX_sizeFits rfl rfl ⟨Nat.le_of_ble_eq_true rfl, Nat.le_of_ble_eq_true rfl⟩ [] [0, 1, 2, 3, 4, 5, 6, 7, 8, 9, 10, 11, 12, 13] ⟨rfl, rfl, rfl, rfl, rfl, rfl, kv_14_⟩ rfl rfl (Nat.le_of_ble_eq_true rfl) dX_changeFits_15 ?_
    obtain ⟨h_18, hf⟩ := in_some hf
    cases hf
    exact hQ 18 _ (Decidable.not_not.mp h_18) dX_changeFits_18
abbrev rX_change : Room := { frames := 2, cells := 0, slots := 0, locals := 44 }
set_option maxHeartbeats 4000000 in
set_option maxRecDepth 100000 in
theorem cX_change (l : Launch) (dC : Nat → ClassId) (dI : Nat → Nat → Nat) (cI cZ cB : ClassId) (x0 x1 b0 b1 b2 b3 b4 s0 s1 s2 l0 l1 l2 l3 l4 : Nat) (xk xl : Int32) (bK bZ bL bM : Nat → Int32) (bi bg bh : Int32) (sB sO : Nat → Int32) (sh sw sr : Int32) (lI lC lT lR : Nat → Int32) (lth lro lsp lle lex lco lou : Int32) (p1 p2 p3 : Int32) (r : Int32) (xl' : Int32) (bZ' : Nat → Int32) (bL' : Nat → Int32) (bM' : Nat → Int32) (hf : fX_change p1 p2 p3 xl bK bZ bL bM bi = some (r, xl', bZ', bL', bM')) : MI l yX_change wX_change rX_change (dC, dI) (tyl cI cZ cB) [Value.ref x0, Value.int p1, Value.int p2, Value.int p3] (wdX cI cZ cB x0 x1 b0 b1 b2 b3 b4 s0 s1 s2 l0 l1 l2 l3 l4 xk xl bK bZ bL bM bi bg bh sB sO sh sw sr lI lC lT lR lth lro lsp lle lex lco lou) (wdX cI cZ cB x0 x1 b0 b1 b2 b3 b4 s0 s1 s2 l0 l1 l2 l3 l4 xk xl' bK bZ' bL' bM' bi bg bh sB sO sh sw sr lI lC lT lR lth lro lsp lle lex lco lou) r := by
  refine MI_of "StepColumns" rfl (by decide) (Nat.le_of_ble_eq_true rfl) ?_
  intro p e s m below meth c A Q C hQ
  unfold fX_change at hf
  change SJ p l e rX_change s m (List.toArray [Value.ref x0, Value.int p1, Value.int p2, Value.int p3]) below meth c A (dC, dI) 5 Q (wdX cI cZ cB x0 x1 b0 b1 b2 b3 b4 s0 s1 s2 l0 l1 l2 l3 l4 xk xl bK bZ bL bM bi bg bh sB sO sh sw sr lI lC lT lR lth lro lsp lle lex lco lou) [(0, .ref x0), (1, .int p1), (2, .int p2), (3, .int p3)] 0 []
  refine sj_aload_n C dX_change_0 0 rfl rfl ?_
  refine sj_get C nX_in 0 rfl rfl 0 (by decide) wd_166 rfl rfl dX_change_1 ?_
  refine sj_iload_n C dX_change_4 1 rfl rfl ?_
  obtain ⟨r_5, hq_5, hf⟩ := bd1_some hf
  refine sj_callVi (w1 := (wdX cI cZ cB x0 x1 b0 b1 b2 b3 b4 s0 s1 s2 l0 l1 l2 l3 l4 xk xl bK bZ bL bM bi bg bh sB sO sh sw sr lI lC lT lR lth lro lsp lle lex lco lou)) (q0 := 0) C "StepColumns$Book" (cB_has l dC dI cI cZ cB b0 b1 b2 b3 b4 bK bZ bL bM bi bg bh p1 r_5 hq_5) wd_203 wd_204 wd_205 wd_36 wd_206 hB_has rfl rfl ⟨Nat.le_of_ble_eq_true rfl, Nat.le_of_ble_eq_true rfl⟩ [1, 2, 3, 4, 5] [0, 6, 7, 8, 9, 10, 11, 12, 13] ⟨rfl, rfl, rfl, rfl, rfl, rfl, kv_14_1_2_3_4_5⟩ rfl rfl rfl rfl rfl (Nat.le_of_ble_eq_true rfl) dX_change_5 ?_
  refine sj_if_ne C 13 dX_change_8 (by decide) (fun c_8 => ?_) (fun c_8 => ?_)
  · have hf := (if_neg c_8).symm.trans hf
    refine sj_aload_n C dX_change_13 0 rfl rfl ?_
    refine sj_iload_n C dX_change_14 1 rfl rfl ?_
    refine sj_iload_n C dX_change_15 2 rfl rfl ?_
    refine sj_iload_n C dX_change_16 3 rfl rfl ?_
    obtain ⟨r_17, hq_17, hf⟩ := bd1_some hf
    refine sj_callVi (w1 := (wdX cI cZ cB x0 x1 b0 b1 b2 b3 b4 s0 s1 s2 l0 l1 l2 l3 l4 xk xl bK bZ bL bM bi bg bh sB sO sh sw sr lI lC lT lR lth lro lsp lle lex lco lou)) (q0 := 0) C "StepColumns" (cX_changeFits l dC dI cI cZ cB x0 x1 b0 b1 b2 b3 b4 s0 s1 s2 l0 l1 l2 l3 l4 xk xl bK bZ bL bM bi bg bh sB sO sh sw sr lI lC lT lR lth lro lsp lle lex lco lou p1 p2 p3 r_17 hq_17) wd_207 wd_209 wd_0 wd_35 wd_210 hX_changeFits rfl rfl ⟨Nat.le_of_ble_eq_true rfl, Nat.le_of_ble_eq_true rfl⟩ [0, 1, 2, 3, 4, 5, 6, 7, 8, 9, 10, 11, 12, 13] [] ⟨rfl, rfl, rfl, rfl, rfl, rfl, kv_14_0_1_2_3_4_5_6_7_8_9_10_11_12_13⟩ rfl rfl rfl rfl rfl (Nat.le_of_ble_eq_true rfl) dX_change_17 ?_
    refine sj_if_ne C 26 dX_change_20 (by decide) (fun c_20 => ?_) (fun c_20 => ?_)
    · have hf := (if_neg c_20).symm.trans hf
      refine sj_aload_n C dX_change_26 0 rfl rfl ?_
      refine sj_iconst C dX_change_27 ki_0 ?_
      refine sj_put (w' := (wdX cI cZ cB x0 x1 b0 b1 b2 b3 b4 s0 s1 s2 l0 l1 l2 l3 l4 xk 0 bK bZ bL bM bi bg bh sB sO sh sw sr lI lC lT lR lth lro lsp lle lex lco lou)) C nX_in nX_ty nX_ok nX_nm 0 rfl rfl 5 (by decide) wd_171 rfl rfl (z01_nar (Or.inl rfl)) (z01_fit (Or.inl rfl)) (Nat.le_of_ble_eq_true rfl) dX_change_28 rfl ?_
      refine sj_aload_n C dX_change_31 0 rfl rfl ?_
      refine sj_get C nX_in 0 rfl rfl 0 (by decide) wd_166 rfl rfl dX_change_32 ?_
      refine sj_iload_n C dX_change_35 1 rfl rfl ?_
      refine sj_iload_n C dX_change_36 2 rfl rfl ?_
      obtain ⟨r_37, hq_37, hf⟩ := bd1_some hf
      refine sj_callVi (w1 := (wdX cI cZ cB x0 x1 b0 b1 b2 b3 b4 s0 s1 s2 l0 l1 l2 l3 l4 xk 0 bK bZ bL bM bi bg bh sB sO sh sw sr lI lC lT lR lth lro lsp lle lex lco lou)) (q0 := 0) C "StepColumns$Book" (cB_number l dC dI cI cZ cB b0 b1 b2 b3 b4 bK bZ bL bM bi bg bh p1 p2 r_37 hq_37) wd_211 wd_212 wd_213 wd_36 wd_214 hB_number rfl rfl ⟨Nat.le_of_ble_eq_true rfl, Nat.le_of_ble_eq_true rfl⟩ [1, 2, 3, 4, 5] [0, 6, 7, 8, 9, 10, 11, 12, 13] ⟨rfl, rfl, rfl, rfl, rfl, rfl, kv_14_1_2_3_4_5⟩ rfl rfl rfl rfl rfl (Nat.le_of_ble_eq_true rfl) dX_change_37 ?_
      refine sj_istore (lv' := [(4, .int r_37), (0, .ref x0), (1, .int p1), (2, .int p2), (3, .int p3)]) C dX_change_40 (by decide) rfl ?_
      refine sj_aload_n C dX_change_42 1 rfl rfl ?_
      refine sj_get C nX_in 0 rfl rfl 0 (by decide) wd_166 rfl rfl dX_change_43 ?_
      refine sj_iload_n C dX_change_46 2 rfl rfl ?_
      refine sj_iload_n C dX_change_47 3 rfl rfl ?_
      refine sj_iload_n C dX_change_48 4 rfl rfl ?_
      obtain ⟨bZ_49, bL_49, bM_49, hq_49, hf⟩ := bd3_some hf
      refine sj_callVv (w1 := (wdX cI cZ cB x0 x1 b0 b1 b2 b3 b4 s0 s1 s2 l0 l1 l2 l3 l4 xk 0 bK bZ_49 bL_49 bM_49 bi bg bh sB sO sh sw sr lI lC lT lR lth lro lsp lle lex lco lou)) (q0 := 0) C "StepColumns$Book" (cB_write l dC dI cI cZ cB b0 b1 b2 b3 b4 bK bZ bL bM bi bg bh p1 p2 p3 bZ_49 bL_49 bM_49 hq_49) wd_215 wd_216 wd_217 wd_36 wd_218 hB_write rfl rfl ⟨Nat.le_of_ble_eq_true rfl, Nat.le_of_ble_eq_true rfl⟩ [1, 2, 3, 4, 5] [0, 6, 7, 8, 9, 10, 11, 12, 13] ⟨rfl, rfl, rfl, rfl, rfl, rfl, kv_14_1_2_3_4_5⟩ rfl rfl rfl rfl rfl (Nat.le_of_ble_eq_true rfl) dX_change_49 ?_
      refine sj_iload C dX_change_52 0 rfl ?_
      cases hf
      exact hQ 54 _ dX_change_54
    · have hf := (if_pos c_20).symm.trans hf
      refine sj_bipush C dX_change_23 kb_m2 ?_
      cases hf
      exact hQ 25 _ dX_change_25
  · have hf := (if_pos c_8).symm.trans hf
    refine sj_iconst C dX_change_11 ki_m1 ?_
    cases hf
    exact hQ 12 _ dX_change_12
abbrev rX_remove : Room := { frames := 2, cells := 0, slots := 0, locals := 46 }
set_option maxHeartbeats 4000000 in
set_option maxRecDepth 100000 in
theorem cX_remove (l : Launch) (dC : Nat → ClassId) (dI : Nat → Nat → Nat) (cI cZ cB : ClassId) (x0 x1 b0 b1 b2 b3 b4 s0 s1 s2 l0 l1 l2 l3 l4 : Nat) (xk xl : Int32) (bK bZ bL bM : Nat → Int32) (bi bg bh : Int32) (sB sO : Nat → Int32) (sh sw sr : Int32) (lI lC lT lR : Nat → Int32) (lth lro lsp lle lex lco lou : Int32) (p1 : Int32) (r : Int32) (xl' : Int32) (bK' : Nat → Int32) (bZ' : Nat → Int32) (bL' : Nat → Int32) (bM' : Nat → Int32) (bi' : Int32) (hf : fX_remove p1 xl bK bZ bL bM bi = some (r, xl', bK', bZ', bL', bM', bi')) : MI l yX_remove wX_remove rX_remove (dC, dI) (tyl cI cZ cB) [Value.ref x0, Value.int p1] (wdX cI cZ cB x0 x1 b0 b1 b2 b3 b4 s0 s1 s2 l0 l1 l2 l3 l4 xk xl bK bZ bL bM bi bg bh sB sO sh sw sr lI lC lT lR lth lro lsp lle lex lco lou) (wdX cI cZ cB x0 x1 b0 b1 b2 b3 b4 s0 s1 s2 l0 l1 l2 l3 l4 xk xl' bK' bZ' bL' bM' bi' bg bh sB sO sh sw sr lI lC lT lR lth lro lsp lle lex lco lou) r := by
  refine MI_of "StepColumns" rfl (by decide) (Nat.le_of_ble_eq_true rfl) ?_
  intro p e s m below meth c A Q C hQ
  unfold fX_remove at hf
  change SJ p l e rX_remove s m (List.toArray [Value.ref x0, Value.int p1]) below meth c A (dC, dI) 2 Q (wdX cI cZ cB x0 x1 b0 b1 b2 b3 b4 s0 s1 s2 l0 l1 l2 l3 l4 xk xl bK bZ bL bM bi bg bh sB sO sh sw sr lI lC lT lR lth lro lsp lle lex lco lou) [(0, .ref x0), (1, .int p1)] 0 []
  refine sj_aload_n C dX_remove_0 0 rfl rfl ?_
  refine sj_get C nX_in 0 rfl rfl 0 (by decide) wd_166 rfl rfl dX_remove_1 ?_
  refine sj_iload_n C dX_remove_4 1 rfl rfl ?_
  obtain ⟨r_5, hq_5, hf⟩ := bd1_some hf
  refine sj_callVi (w1 := (wdX cI cZ cB x0 x1 b0 b1 b2 b3 b4 s0 s1 s2 l0 l1 l2 l3 l4 xk xl bK bZ bL bM bi bg bh sB sO sh sw sr lI lC lT lR lth lro lsp lle lex lco lou)) (q0 := 0) C "StepColumns$Book" (cB_has l dC dI cI cZ cB b0 b1 b2 b3 b4 bK bZ bL bM bi bg bh p1 r_5 hq_5) wd_203 wd_204 wd_205 wd_36 wd_206 hB_has rfl rfl ⟨Nat.le_of_ble_eq_true rfl, Nat.le_of_ble_eq_true rfl⟩ [1, 2, 3, 4, 5] [0, 6, 7, 8, 9, 10, 11, 12, 13] ⟨rfl, rfl, rfl, rfl, rfl, rfl, kv_14_1_2_3_4_5⟩ rfl rfl rfl rfl rfl (Nat.le_of_ble_eq_true rfl) dX_remove_5 ?_
  refine sj_if_ne C 13 dX_remove_8 (by decide) (fun c_8 => ?_) (fun c_8 => ?_)
  · have hf := (if_neg c_8).symm.trans hf
    refine sj_aload_n C dX_remove_13 0 rfl rfl ?_
    refine sj_iconst C dX_remove_14 ki_0 ?_
    refine sj_put (w' := (wdX cI cZ cB x0 x1 b0 b1 b2 b3 b4 s0 s1 s2 l0 l1 l2 l3 l4 xk 0 bK bZ bL bM bi bg bh sB sO sh sw sr lI lC lT lR lth lro lsp lle lex lco lou)) C nX_in nX_ty nX_ok nX_nm 0 rfl rfl 5 (by decide) wd_171 rfl rfl (z01_nar (Or.inl rfl)) (z01_fit (Or.inl rfl)) (Nat.le_of_ble_eq_true rfl) dX_remove_15 rfl ?_
    refine sj_aload_n C dX_remove_18 0 rfl rfl ?_
    refine sj_get C nX_in 0 rfl rfl 0 (by decide) wd_166 rfl rfl dX_remove_19 ?_
    refine sj_iload_n C dX_remove_22 1 rfl rfl ?_
    refine sj_aload_n C dX_remove_23 0 rfl rfl ?_
    refine sj_get C nX_in 0 rfl rfl 0 (by decide) wd_166 rfl rfl dX_remove_24 ?_
    refine sj_get C nB_in 1 rfl rfl 4 (by decide) wd_70 rfl rfl dX_remove_27 ?_
    refine sj_iconst C dX_remove_30 ki_1 ?_
    refine sj_isub C dX_remove_31 ?_
    obtain ⟨bK_32, bZ_32, bL_32, bM_32, hq_32, hf⟩ := bd4_some hf
    refine sj_callVv (w1 := (wdX cI cZ cB x0 x1 b0 b1 b2 b3 b4 s0 s1 s2 l0 l1 l2 l3 l4 xk 0 bK_32 bZ_32 bL_32 bM_32 bi bg bh sB sO sh sw sr lI lC lT lR lth lro lsp lle lex lco lou)) (q0 := 0) C "StepColumns$Book" (cB_shift l dC dI cI cZ cB b0 b1 b2 b3 b4 bK bZ bL bM bi bg bh p1 (bi - 1) bK_32 bZ_32 bL_32 bM_32 hq_32) wd_223 wd_224 wd_225 wd_36 wd_226 hB_shift rfl rfl ⟨Nat.le_of_ble_eq_true rfl, Nat.le_of_ble_eq_true rfl⟩ [1, 2, 3, 4, 5] [0, 6, 7, 8, 9, 10, 11, 12, 13] ⟨rfl, rfl, rfl, rfl, rfl, rfl, kv_14_1_2_3_4_5⟩ rfl rfl rfl rfl rfl (Nat.le_of_ble_eq_true rfl) dX_remove_32 ?_
    refine sj_aload_n C dX_remove_35 0 rfl rfl ?_
    refine sj_get C nX_in 0 rfl rfl 0 (by decide) wd_166 rfl rfl dX_remove_36 ?_
    refine sj_dup C dX_remove_39 rfl ?_
    refine sj_get C nB_in 1 rfl rfl 4 (by decide) wd_70 rfl rfl dX_remove_40 ?_
    refine sj_iconst C dX_remove_43 ki_1 ?_
    refine sj_isub C dX_remove_44 ?_
    refine sj_put (w' := (wdX cI cZ cB x0 x1 b0 b1 b2 b3 b4 s0 s1 s2 l0 l1 l2 l3 l4 xk 0 bK_32 bZ_32 bL_32 bM_32 ((bi - 1)) bg bh sB sO sh sw sr lI lC lT lR lth lro lsp lle lex lco lou)) C nB_in nB_ty nB_ok nB_nm 1 rfl rfl 4 (by decide) wd_70 rfl rfl rfl rfl (Nat.le_of_ble_eq_true rfl) dX_remove_45 rfl ?_
    refine sj_aload_n C dX_remove_48 0 rfl rfl ?_
    refine sj_get C nX_in 0 rfl rfl 0 (by decide) wd_166 rfl rfl dX_remove_49 ?_
    refine sj_get C nB_in 1 rfl rfl 4 (by decide) wd_70 rfl rfl dX_remove_52 ?_
    cases hf
    exact hQ 55 _ dX_remove_55
  · have hf := (if_pos c_8).symm.trans hf
    refine sj_iconst C dX_remove_11 ki_m1 ?_
    cases hf
    exact hQ 12 _ dX_remove_12
abbrev rX_move : Room := { frames := 2, cells := 0, slots := 0, locals := 46 }
set_option maxHeartbeats 4000000 in
set_option maxRecDepth 100000 in
theorem cX_move (l : Launch) (dC : Nat → ClassId) (dI : Nat → Nat → Nat) (cI cZ cB : ClassId) (x0 x1 b0 b1 b2 b3 b4 s0 s1 s2 l0 l1 l2 l3 l4 : Nat) (xk xl : Int32) (bK bZ bL bM : Nat → Int32) (bi bg bh : Int32) (sB sO : Nat → Int32) (sh sw sr : Int32) (lI lC lT lR : Nat → Int32) (lth lro lsp lle lex lco lou : Int32) (p1 p2 : Int32) (r : Int32) (xl' : Int32) (bK' : Nat → Int32) (bZ' : Nat → Int32) (bL' : Nat → Int32) (bM' : Nat → Int32) (hf : fX_move p1 p2 xl bK bZ bL bM bi = some (r, xl', bK', bZ', bL', bM')) : MI l yX_move wX_move rX_move (dC, dI) (tyl cI cZ cB) [Value.ref x0, Value.int p1, Value.int p2] (wdX cI cZ cB x0 x1 b0 b1 b2 b3 b4 s0 s1 s2 l0 l1 l2 l3 l4 xk xl bK bZ bL bM bi bg bh sB sO sh sw sr lI lC lT lR lth lro lsp lle lex lco lou) (wdX cI cZ cB x0 x1 b0 b1 b2 b3 b4 s0 s1 s2 l0 l1 l2 l3 l4 xk xl' bK' bZ' bL' bM' bi bg bh sB sO sh sw sr lI lC lT lR lth lro lsp lle lex lco lou) r := by
  refine MI_of "StepColumns" rfl (by decide) (Nat.le_of_ble_eq_true rfl) ?_
  intro p e s m below meth c A Q C hQ
  unfold fX_move at hf
  change SJ p l e rX_move s m (List.toArray [Value.ref x0, Value.int p1, Value.int p2]) below meth c A (dC, dI) 3 Q (wdX cI cZ cB x0 x1 b0 b1 b2 b3 b4 s0 s1 s2 l0 l1 l2 l3 l4 xk xl bK bZ bL bM bi bg bh sB sO sh sw sr lI lC lT lR lth lro lsp lle lex lco lou) [(0, .ref x0), (1, .int p1), (2, .int p2)] 0 []
  refine sj_aload_n C dX_move_0 0 rfl rfl ?_
  refine sj_get C nX_in 0 rfl rfl 0 (by decide) wd_166 rfl rfl dX_move_1 ?_
  refine sj_iload_n C dX_move_4 1 rfl rfl ?_
  obtain ⟨r_5, hq_5, hf⟩ := bd1_some hf
  refine sj_callVi (w1 := (wdX cI cZ cB x0 x1 b0 b1 b2 b3 b4 s0 s1 s2 l0 l1 l2 l3 l4 xk xl bK bZ bL bM bi bg bh sB sO sh sw sr lI lC lT lR lth lro lsp lle lex lco lou)) (q0 := 0) C "StepColumns$Book" (cB_has l dC dI cI cZ cB b0 b1 b2 b3 b4 bK bZ bL bM bi bg bh p1 r_5 hq_5) wd_203 wd_204 wd_205 wd_36 wd_206 hB_has rfl rfl ⟨Nat.le_of_ble_eq_true rfl, Nat.le_of_ble_eq_true rfl⟩ [1, 2, 3, 4, 5] [0, 6, 7, 8, 9, 10, 11, 12, 13] ⟨rfl, rfl, rfl, rfl, rfl, rfl, kv_14_1_2_3_4_5⟩ rfl rfl rfl rfl rfl (Nat.le_of_ble_eq_true rfl) dX_move_5 ?_
  refine sj_if_ne C 13 dX_move_8 (by decide) (fun c_8 => ?_) (fun c_8 => ?_)
  · have hf := (if_neg c_8).symm.trans hf
    refine sj_aload_n C dX_move_13 0 rfl rfl ?_
    refine sj_get C nX_in 0 rfl rfl 0 (by decide) wd_166 rfl rfl dX_move_14 ?_
    refine sj_iload_n C dX_move_17 2 rfl rfl ?_
    obtain ⟨r_18, hq_18, hf⟩ := bd1_some hf
    refine sj_callVi (w1 := (wdX cI cZ cB x0 x1 b0 b1 b2 b3 b4 s0 s1 s2 l0 l1 l2 l3 l4 xk xl bK bZ bL bM bi bg bh sB sO sh sw sr lI lC lT lR lth lro lsp lle lex lco lou)) (q0 := 0) C "StepColumns$Book" (cB_has l dC dI cI cZ cB b0 b1 b2 b3 b4 bK bZ bL bM bi bg bh p2 r_18 hq_18) wd_203 wd_204 wd_205 wd_36 wd_206 hB_has rfl rfl ⟨Nat.le_of_ble_eq_true rfl, Nat.le_of_ble_eq_true rfl⟩ [1, 2, 3, 4, 5] [0, 6, 7, 8, 9, 10, 11, 12, 13] ⟨rfl, rfl, rfl, rfl, rfl, rfl, kv_14_1_2_3_4_5⟩ rfl rfl rfl rfl rfl (Nat.le_of_ble_eq_true rfl) dX_move_18 ?_
    refine sj_if_ne C 27 dX_move_21 (by decide) (fun c_21 => ?_) (fun c_21 => ?_)
    · have hf := (if_neg c_21).symm.trans hf
      refine sj_aload_n C dX_move_27 0 rfl rfl ?_
      refine sj_iconst C dX_move_28 ki_0 ?_
      refine sj_put (w' := (wdX cI cZ cB x0 x1 b0 b1 b2 b3 b4 s0 s1 s2 l0 l1 l2 l3 l4 xk 0 bK bZ bL bM bi bg bh sB sO sh sw sr lI lC lT lR lth lro lsp lle lex lco lou)) C nX_in nX_ty nX_ok nX_nm 0 rfl rfl 5 (by decide) wd_171 rfl rfl (z01_nar (Or.inl rfl)) (z01_fit (Or.inl rfl)) (Nat.le_of_ble_eq_true rfl) dX_move_29 rfl ?_
      refine sj_aload_n C dX_move_32 0 rfl rfl ?_
      refine sj_get C nX_in 0 rfl rfl 0 (by decide) wd_166 rfl rfl dX_move_33 ?_
      refine sj_iload_n C dX_move_36 1 rfl rfl ?_
      refine sj_iload_n C dX_move_37 2 rfl rfl ?_
      obtain ⟨bK_38, bZ_38, bL_38, bM_38, hq_38, hf⟩ := bd4_some hf
      refine sj_callVv (w1 := (wdX cI cZ cB x0 x1 b0 b1 b2 b3 b4 s0 s1 s2 l0 l1 l2 l3 l4 xk 0 bK_38 bZ_38 bL_38 bM_38 bi bg bh sB sO sh sw sr lI lC lT lR lth lro lsp lle lex lco lou)) (q0 := 0) C "StepColumns$Book" (cB_shift l dC dI cI cZ cB b0 b1 b2 b3 b4 bK bZ bL bM bi bg bh p1 p2 bK_38 bZ_38 bL_38 bM_38 hq_38) wd_223 wd_224 wd_225 wd_36 wd_226 hB_shift rfl rfl ⟨Nat.le_of_ble_eq_true rfl, Nat.le_of_ble_eq_true rfl⟩ [1, 2, 3, 4, 5] [0, 6, 7, 8, 9, 10, 11, 12, 13] ⟨rfl, rfl, rfl, rfl, rfl, rfl, kv_14_1_2_3_4_5⟩ rfl rfl rfl rfl rfl (Nat.le_of_ble_eq_true rfl) dX_move_38 ?_
      refine sj_iconst C dX_move_41 ki_1 ?_
      cases hf
      exact hQ 42 _ dX_move_42
    · have hf := (if_pos c_21).symm.trans hf
      refine sj_bipush C dX_move_24 kb_m2 ?_
      cases hf
      exact hQ 26 _ dX_move_26
  · have hf := (if_pos c_8).symm.trans hf
    refine sj_iconst C dX_move_11 ki_m1 ?_
    cases hf
    exact hQ 12 _ dX_move_12
abbrev rX_set : Room := { frames := 0, cells := 0, slots := 0, locals := 0 }
set_option maxHeartbeats 4000000 in
set_option maxRecDepth 100000 in
theorem cX_set (l : Launch) (dC : Nat → ClassId) (dI : Nat → Nat → Nat) (cI cZ cB : ClassId) (x0 x1 b0 b1 b2 b3 b4 s0 s1 s2 l0 l1 l2 l3 l4 : Nat) (xk xl : Int32) (bK bZ bL bM : Nat → Int32) (bi bg bh : Int32) (sB sO : Nat → Int32) (sh sw sr : Int32) (lI lC lT lR : Nat → Int32) (lth lro lsp lle lex lco lou : Int32) (p1 p2 : Int32) (r : Int32) (xl' : Int32) (bg' : Int32) (bh' : Int32) (hf : fX_set p1 p2 xl bg bh = some (r, xl', bg', bh')) : MI l yX_set wX_set rX_set (dC, dI) (tyl cI cZ cB) [Value.ref x0, Value.int p1, Value.int p2] (wdX cI cZ cB x0 x1 b0 b1 b2 b3 b4 s0 s1 s2 l0 l1 l2 l3 l4 xk xl bK bZ bL bM bi bg bh sB sO sh sw sr lI lC lT lR lth lro lsp lle lex lco lou) (wdX cI cZ cB x0 x1 b0 b1 b2 b3 b4 s0 s1 s2 l0 l1 l2 l3 l4 xk xl' bK bZ bL bM bi bg' bh' sB sO sh sw sr lI lC lT lR lth lro lsp lle lex lco lou) r := by
  refine MI_of "StepColumns" rfl (by decide) (Nat.le_of_ble_eq_true rfl) ?_
  intro p e s m below meth c A Q C hQ
  have hb_71 : ∀ (xl bg bh : Int32), fX_set_b71 xl bg bh = some (r, xl', bg', bh') → SJ p l e rX_set s m (List.toArray [Value.ref x0, Value.int p1, Value.int p2]) below meth c A (dC, dI) 4 Q (wdX cI cZ cB x0 x1 b0 b1 b2 b3 b4 s0 s1 s2 l0 l1 l2 l3 l4 xk xl bK bZ bL bM bi bg bh sB sO sh sw sr lI lC lT lR lth lro lsp lle lex lco lou) [] 71 [] := by
    intro xl bg bh hf
    unfold fX_set_b71 at hf
    refine sj_bipush C dX_set_71 kb_m2 ?_
    cases hf
    exact hQ 73 _ dX_set_73
  have hb_74 : ∀ (v3 : Int32) (xl bg bh : Int32), fX_set_b74 v3 xl bg bh = some (r, xl', bg', bh') → SJ p l e rX_set s m (List.toArray [Value.ref x0, Value.int p1, Value.int p2]) below meth c A (dC, dI) 4 Q (wdX cI cZ cB x0 x1 b0 b1 b2 b3 b4 s0 s1 s2 l0 l1 l2 l3 l4 xk xl bK bZ bL bM bi bg bh sB sO sh sw sr lI lC lT lR lth lro lsp lle lex lco lou) [(0, .ref x0), (3, .int v3)] 74 [] := by
    intro v3 xl bg bh hf
    unfold fX_set_b74 at hf
    refine sj_aload_n C dX_set_74 0 rfl rfl ?_
    refine sj_iconst C dX_set_75 ki_0 ?_
    refine sj_put (w' := (wdX cI cZ cB x0 x1 b0 b1 b2 b3 b4 s0 s1 s2 l0 l1 l2 l3 l4 xk 0 bK bZ bL bM bi bg bh sB sO sh sw sr lI lC lT lR lth lro lsp lle lex lco lou)) C nX_in nX_ty nX_ok nX_nm 0 rfl rfl 5 (by decide) wd_171 rfl rfl (z01_nar (Or.inl rfl)) (z01_fit (Or.inl rfl)) (Nat.le_of_ble_eq_true rfl) dX_set_76 rfl ?_
    refine sj_iload_n C dX_set_79 1 rfl rfl ?_
    cases hf
    exact hQ 80 _ dX_set_80
  have hb_34 : ∀ (v1 v2 : Int32) (xl bg bh : Int32), fX_set_b34 v1 v2 xl bg bh = some (r, xl', bg', bh') → SJ p l e rX_set s m (List.toArray [Value.ref x0, Value.int p1, Value.int p2]) below meth c A (dC, dI) 4 Q (wdX cI cZ cB x0 x1 b0 b1 b2 b3 b4 s0 s1 s2 l0 l1 l2 l3 l4 xk xl bK bZ bL bM bi bg bh sB sO sh sw sr lI lC lT lR lth lro lsp lle lex lco lou) [(0, .ref x0), (1, .int v1), (2, .int v2)] 34 [] := by
    intro v1 v2 xl bg bh hf
    unfold fX_set_b34 at hf
    refine sj_iload_n C dX_set_34 1 rfl rfl ?_
    refine sj_iconst C dX_set_35 ki_1 ?_
    refine sj_icmp_ne C 71 dX_set_36 (by decide) (fun c_36 => ?_) (fun c_36 => ?_)
    · have hf := (if_neg c_36).symm.trans hf
      exact sj_lv [] rfl (hb_71 xl bg bh hf)
    · have hf := (if_pos c_36).symm.trans hf
      refine sj_iload_n C dX_set_39 2 rfl rfl ?_
      refine sj_bipush C dX_set_40 kb_12 ?_
      refine sj_icmp_lt C 71 dX_set_42 (by decide) (fun c_42 => ?_) (fun c_42 => ?_)
      · have hf := (if_pos c_42).symm.trans hf
        exact sj_lv [] rfl (hb_71 xl bg bh hf)
      · have hf := (if_neg c_42).symm.trans hf
        refine sj_iload_n C dX_set_45 2 rfl rfl ?_
        refine sj_sipush C dX_set_46 ks_200 ?_
        refine sj_icmp_gt C 71 dX_set_49 (by decide) (fun c_49 => ?_) (fun c_49 => ?_)
        · have hf := (if_pos c_49).symm.trans hf
          exact sj_lv [] rfl (hb_71 xl bg bh hf)
        · have hf := (if_neg c_49).symm.trans hf
          refine sj_aload_n C dX_set_52 0 rfl rfl ?_
          refine sj_get C nX_in 0 rfl rfl 0 (by decide) wd_166 rfl rfl dX_set_53 ?_
          refine sj_get C nB_in 1 rfl rfl 6 (by decide) wd_77 rfl rfl dX_set_56 ?_
          refine sj_istore_n (lv' := [(3, .int bh), (0, .ref x0), (1, .int v1), (2, .int v2)]) C dX_set_59 rfl (by decide) rfl ?_
          refine sj_aload_n C dX_set_60 1 rfl rfl ?_
          refine sj_get C nX_in 0 rfl rfl 0 (by decide) wd_166 rfl rfl dX_set_61 ?_
          refine sj_iload_n C dX_set_64 3 rfl rfl ?_
          refine sj_put (w' := (wdX cI cZ cB x0 x1 b0 b1 b2 b3 b4 s0 s1 s2 l0 l1 l2 l3 l4 xk xl bK bZ bL bM bi bg v2 sB sO sh sw sr lI lC lT lR lth lro lsp lle lex lco lou)) C nB_in nB_ty nB_ok nB_nm 1 rfl rfl 6 (by decide) wd_77 rfl rfl rfl rfl (Nat.le_of_ble_eq_true rfl) dX_set_65 rfl ?_
          refine sj_goto C 74 dX_set_68 (by decide) ?_
          exact sj_lv [1, 0] rfl (hb_74 bh xl bg v2 hf)
  unfold fX_set at hf
  change SJ p l e rX_set s m (List.toArray [Value.ref x0, Value.int p1, Value.int p2]) below meth c A (dC, dI) 4 Q (wdX cI cZ cB x0 x1 b0 b1 b2 b3 b4 s0 s1 s2 l0 l1 l2 l3 l4 xk xl bK bZ bL bM bi bg bh sB sO sh sw sr lI lC lT lR lth lro lsp lle lex lco lou) [(0, .ref x0), (1, .int p1), (2, .int p2)] 0 []
  refine sj_iload_n C dX_set_0 1 rfl rfl ?_
  refine sj_if_ne C 34 dX_set_1 (by decide) (fun c_1 => ?_) (fun c_1 => ?_)
  · have hf := (if_neg c_1).symm.trans hf
    exact sj_lv [0, 1, 2] rfl (hb_34 p1 p2 xl bg bh hf)
  · have hf := (if_pos c_1).symm.trans hf
    refine sj_iload_n C dX_set_4 2 rfl rfl ?_
    refine sj_iconst C dX_set_5 ki_3 ?_
    refine sj_icmp_lt C 34 dX_set_6 (by decide) (fun c_6 => ?_) (fun c_6 => ?_)
    · have hf := (if_pos c_6).symm.trans hf
      exact sj_lv [0, 1, 2] rfl (hb_34 p1 p2 xl bg bh hf)
    · have hf := (if_neg c_6).symm.trans hf
      refine sj_iload_n C dX_set_9 2 rfl rfl ?_
      refine sj_bipush C dX_set_10 kb_20 ?_
      refine sj_icmp_gt C 34 dX_set_12 (by decide) (fun c_12 => ?_) (fun c_12 => ?_)
      · have hf := (if_pos c_12).symm.trans hf
        exact sj_lv [0, 1, 2] rfl (hb_34 p1 p2 xl bg bh hf)
      · have hf := (if_neg c_12).symm.trans hf
        refine sj_aload_n C dX_set_15 0 rfl rfl ?_
        refine sj_get C nX_in 0 rfl rfl 0 (by decide) wd_166 rfl rfl dX_set_16 ?_
        refine sj_get C nB_in 1 rfl rfl 5 (by decide) wd_73 rfl rfl dX_set_19 ?_
        refine sj_istore_n (lv' := [(3, .int bg), (0, .ref x0), (1, .int p1), (2, .int p2)]) C dX_set_22 rfl (by decide) rfl ?_
        refine sj_aload_n C dX_set_23 1 rfl rfl ?_
        refine sj_get C nX_in 0 rfl rfl 0 (by decide) wd_166 rfl rfl dX_set_24 ?_
        refine sj_iload_n C dX_set_27 3 rfl rfl ?_
        refine sj_put (w' := (wdX cI cZ cB x0 x1 b0 b1 b2 b3 b4 s0 s1 s2 l0 l1 l2 l3 l4 xk xl bK bZ bL bM bi p2 bh sB sO sh sw sr lI lC lT lR lth lro lsp lle lex lco lou)) C nB_in nB_ty nB_ok nB_nm 1 rfl rfl 5 (by decide) wd_73 rfl rfl rfl rfl (Nat.le_of_ble_eq_true rfl) dX_set_28 rfl ?_
        refine sj_goto C 74 dX_set_31 (by decide) ?_
        exact sj_lv [1, 0] rfl (hb_74 bg xl p2 bh hf)
abbrev rX_item : Room := { frames := 1, cells := 0, slots := 0, locals := 22 }
set_option maxHeartbeats 4000000 in
set_option maxRecDepth 100000 in
theorem cX_item (l : Launch) (dC : Nat → ClassId) (dI : Nat → Nat → Nat) (cI cZ cB : ClassId) (x0 x1 b0 b1 b2 b3 b4 s0 s1 s2 l0 l1 l2 l3 l4 : Nat) (xk xl : Int32) (bK bZ bL bM : Nat → Int32) (bi bg bh : Int32) (sB sO : Nat → Int32) (sh sw sr : Int32) (lI lC lT lR : Nat → Int32) (lth lro lsp lle lex lco lou : Int32) (p1 p2 : Int32) (r : Int32)  (hf : fX_item p1 p2 bK bZ bL bM bi = some r) : MI l yX_item wX_item rX_item (dC, dI) (tyl cI cZ cB) [Value.ref x0, Value.int p1, Value.int p2] (wdX cI cZ cB x0 x1 b0 b1 b2 b3 b4 s0 s1 s2 l0 l1 l2 l3 l4 xk xl bK bZ bL bM bi bg bh sB sO sh sw sr lI lC lT lR lth lro lsp lle lex lco lou) (wdX cI cZ cB x0 x1 b0 b1 b2 b3 b4 s0 s1 s2 l0 l1 l2 l3 l4 xk xl bK bZ bL bM bi bg bh sB sO sh sw sr lI lC lT lR lth lro lsp lle lex lco lou) r := by
  refine MI_of "StepColumns" rfl (by decide) (Nat.le_of_ble_eq_true rfl) ?_
  intro p e s m below meth c A Q C hQ
  have hb_36 : ∀ (t0 : Int32), fX_item_b36 t0 bK bZ bL bM bi = some r → SJ p l e rX_item s m (List.toArray [Value.ref x0, Value.int p1, Value.int p2]) below meth c A (dC, dI) 3 Q (wdX cI cZ cB x0 x1 b0 b1 b2 b3 b4 s0 s1 s2 l0 l1 l2 l3 l4 xk xl bK bZ bL bM bi bg bh sB sO sh sw sr lI lC lT lR lth lro lsp lle lex lco lou) [] 36 [.int t0] := by
    intro t0 hf
    unfold fX_item_b36 at hf
    cases hf
    exact hQ 36 _ dX_item_36
  have hb_22 : fX_item_b22 bK bZ bL bM bi = some r → SJ p l e rX_item s m (List.toArray [Value.ref x0, Value.int p1, Value.int p2]) below meth c A (dC, dI) 3 Q (wdX cI cZ cB x0 x1 b0 b1 b2 b3 b4 s0 s1 s2 l0 l1 l2 l3 l4 xk xl bK bZ bL bM bi bg bh sB sO sh sw sr lI lC lT lR lth lro lsp lle lex lco lou) [] 22 [] := by
    intro  hf
    unfold fX_item_b22 at hf
    refine sj_bipush C dX_item_22 kb_m2 ?_
    refine sj_goto C 36 dX_item_24 (by decide) ?_
    exact sj_lv [] rfl (hb_36 (-2) hf)
  unfold fX_item at hf
  change SJ p l e rX_item s m (List.toArray [Value.ref x0, Value.int p1, Value.int p2]) below meth c A (dC, dI) 3 Q (wdX cI cZ cB x0 x1 b0 b1 b2 b3 b4 s0 s1 s2 l0 l1 l2 l3 l4 xk xl bK bZ bL bM bi bg bh sB sO sh sw sr lI lC lT lR lth lro lsp lle lex lco lou) [(0, .ref x0), (1, .int p1), (2, .int p2)] 0 []
  refine sj_aload_n C dX_item_0 0 rfl rfl ?_
  refine sj_get C nX_in 0 rfl rfl 0 (by decide) wd_166 rfl rfl dX_item_1 ?_
  refine sj_iload_n C dX_item_4 1 rfl rfl ?_
  obtain ⟨r_5, hq_5, hf⟩ := bd1_some hf
  refine sj_callVi (w1 := (wdX cI cZ cB x0 x1 b0 b1 b2 b3 b4 s0 s1 s2 l0 l1 l2 l3 l4 xk xl bK bZ bL bM bi bg bh sB sO sh sw sr lI lC lT lR lth lro lsp lle lex lco lou)) (q0 := 0) C "StepColumns$Book" (cB_has l dC dI cI cZ cB b0 b1 b2 b3 b4 bK bZ bL bM bi bg bh p1 r_5 hq_5) wd_203 wd_204 wd_205 wd_36 wd_206 hB_has rfl rfl ⟨Nat.le_of_ble_eq_true rfl, Nat.le_of_ble_eq_true rfl⟩ [1, 2, 3, 4, 5] [0, 6, 7, 8, 9, 10, 11, 12, 13] ⟨rfl, rfl, rfl, rfl, rfl, rfl, kv_14_1_2_3_4_5⟩ rfl rfl rfl rfl rfl (Nat.le_of_ble_eq_true rfl) dX_item_5 ?_
  refine sj_if_ne C 13 dX_item_8 (by decide) (fun c_8 => ?_) (fun c_8 => ?_)
  · have hf := (if_neg c_8).symm.trans hf
    refine sj_iload_n C dX_item_13 2 rfl rfl ?_
    refine sj_if_lt C 22 dX_item_14 (by decide) (fun c_14 => ?_) (fun c_14 => ?_)
    · have hf := (if_pos c_14).symm.trans hf
      exact sj_lv [] rfl (hb_22 hf)
    · have hf := (if_neg c_14).symm.trans hf
      refine sj_iload_n C dX_item_17 2 rfl rfl ?_
      refine sj_iconst C dX_item_18 ki_3 ?_
      refine sj_icmp_le C 27 dX_item_19 (by decide) (fun c_19 => ?_) (fun c_19 => ?_)
      · have hf := (if_pos c_19).symm.trans hf
        refine sj_aload_n C dX_item_27 0 rfl rfl ?_
        refine sj_get C nX_in 0 rfl rfl 0 (by decide) wd_166 rfl rfl dX_item_28 ?_
        refine sj_iload_n C dX_item_31 1 rfl rfl ?_
        refine sj_iload_n C dX_item_32 2 rfl rfl ?_
        obtain ⟨r_33, hq_33, hf⟩ := bd1_some hf
        refine sj_callVi (w1 := (wdX cI cZ cB x0 x1 b0 b1 b2 b3 b4 s0 s1 s2 l0 l1 l2 l3 l4 xk xl bK bZ bL bM bi bg bh sB sO sh sw sr lI lC lT lR lth lro lsp lle lex lco lou)) (q0 := 0) C "StepColumns$Book" (cB_number l dC dI cI cZ cB b0 b1 b2 b3 b4 bK bZ bL bM bi bg bh p1 p2 r_33 hq_33) wd_211 wd_212 wd_213 wd_36 wd_214 hB_number rfl rfl ⟨Nat.le_of_ble_eq_true rfl, Nat.le_of_ble_eq_true rfl⟩ [1, 2, 3, 4, 5] [0, 6, 7, 8, 9, 10, 11, 12, 13] ⟨rfl, rfl, rfl, rfl, rfl, rfl, kv_14_1_2_3_4_5⟩ rfl rfl rfl rfl rfl (Nat.le_of_ble_eq_true rfl) dX_item_33 ?_
        exact sj_lv [] rfl (hb_36 r_33 hf)
      · have hf := (if_neg c_19).symm.trans hf
        exact sj_lv [] rfl (hb_22 hf)
  · have hf := (if_pos c_8).symm.trans hf
    refine sj_iconst C dX_item_11 ki_m1 ?_
    cases hf
    exact hQ 12 _ dX_item_12
abbrev rX_layBest : Room := { frames := 113, cells := 0, slots := 0, locals := 2275 }
set_option maxHeartbeats 4000000 in
set_option maxRecDepth 100000 in
theorem cX_layBest (l : Launch) (dC : Nat → ClassId) (dI : Nat → Nat → Nat) (cI cZ cB : ClassId) (x0 x1 b0 b1 b2 b3 b4 s0 s1 s2 l0 l1 l2 l3 l4 : Nat) (xk xl : Int32) (bK bZ bL bM : Nat → Int32) (bi bg bh : Int32) (sB sO : Nat → Int32) (sh sw sr : Int32) (lI lC lT lR : Nat → Int32) (lth lro lsp lle lex lco lou : Int32) (r : Int32) (xl' : Int32) (sB' : Nat → Int32) (sO' : Nat → Int32) (sh' : Int32) (sw' : Int32) (sr' : Int32) (lI' : Nat → Int32) (lC' : Nat → Int32) (lT' : Nat → Int32) (lR' : Nat → Int32) (lth' : Int32) (lro' : Int32) (lsp' : Int32) (lle' : Int32) (lex' : Int32) (lco' : Int32) (lou' : Int32) (hf : fX_layBest xl bK bZ bL bM bi bg bh sB sO sh sw sr lI lC lT lR lth lro lsp lle lex lco lou = some (r, xl', sB', sO', sh', sw', sr', lI', lC', lT', lR', lth', lro', lsp', lle', lex', lco', lou')) : MI l yX_layBest wX_layBest rX_layBest (dC, dI) (tyl cI cZ cB) [Value.ref x0] (wdX cI cZ cB x0 x1 b0 b1 b2 b3 b4 s0 s1 s2 l0 l1 l2 l3 l4 xk xl bK bZ bL bM bi bg bh sB sO sh sw sr lI lC lT lR lth lro lsp lle lex lco lou) (wdX cI cZ cB x0 x1 b0 b1 b2 b3 b4 s0 s1 s2 l0 l1 l2 l3 l4 xk xl' bK bZ bL bM bi bg bh sB' sO' sh' sw' sr' lI' lC' lT' lR' lth' lro' lsp' lle' lex' lco' lou') r := by
  refine MZ_of "StepColumns" rfl (by decide) (Nat.le_of_ble_eq_true rfl) ?_
  intro p e s m below meth c A Q C hQ
  have hb_58 : ∀ (xl : Int32) (sB sO : Nat → Int32) (sh sw sr : Int32) (lI lC lT lR : Nat → Int32) (lth lro lsp lle lex lco lou : Int32), fX_layBest_b58 xl bK bZ bL bM bi bg bh sB sO sh sw sr lI lC lT lR lth lro lsp lle lex lco lou = some (r, xl', sB', sO', sh', sw', sr', lI', lC', lT', lR', lth', lro', lsp', lle', lex', lco', lou') → SJ p l e rX_layBest s m (List.toArray [Value.ref x0]) below meth c A (dC, dI) 1 Q (wdX cI cZ cB x0 x1 b0 b1 b2 b3 b4 s0 s1 s2 l0 l1 l2 l3 l4 xk xl bK bZ bL bM bi bg bh sB sO sh sw sr lI lC lT lR lth lro lsp lle lex lco lou) [(0, .ref x0)] 58 [] := by
    intro xl sB sO sh sw sr lI lC lT lR lth lro lsp lle lex lco lou hf
    unfold fX_layBest_b58 at hf
    refine sj_aload_n C dX_layBest_58 0 rfl rfl ?_
    refine sj_get C nX_in 0 rfl rfl 2 (by decide) wd_168 rfl rfl dX_layBest_59 ?_
    refine sj_get C nL_in 9 rfl rfl 9 (by decide) wd_135 rfl rfl dX_layBest_62 ?_
    obtain ⟨h_65, hf⟩ := in_some hf
    cases hf
    exact hQ 65 _ (Decidable.not_not.mp h_65) dX_layBest_65
  have hb_53 : ∀ (xl : Int32) (sB sO : Nat → Int32) (sh sw sr : Int32) (lI lC lT lR : Nat → Int32) (lth lro lsp lle lex lco lou : Int32), fX_layBest_b53 xl bK bZ bL bM bi bg bh sB sO sh sw sr lI lC lT lR lth lro lsp lle lex lco lou = some (r, xl', sB', sO', sh', sw', sr', lI', lC', lT', lR', lth', lro', lsp', lle', lex', lco', lou') → SJ p l e rX_layBest s m (List.toArray [Value.ref x0]) below meth c A (dC, dI) 1 Q (wdX cI cZ cB x0 x1 b0 b1 b2 b3 b4 s0 s1 s2 l0 l1 l2 l3 l4 xk xl bK bZ bL bM bi bg bh sB sO sh sw sr lI lC lT lR lth lro lsp lle lex lco lou) [(0, .ref x0)] 53 [] := by
    intro xl sB sO sh sw sr lI lC lT lR lth lro lsp lle lex lco lou hf
    unfold fX_layBest_b53 at hf
    refine sj_aload_n C dX_layBest_53 0 rfl rfl ?_
    refine sj_iconst C dX_layBest_54 ki_1 ?_
    refine sj_put (w' := (wdX cI cZ cB x0 x1 b0 b1 b2 b3 b4 s0 s1 s2 l0 l1 l2 l3 l4 xk 1 bK bZ bL bM bi bg bh sB sO sh sw sr lI lC lT lR lth lro lsp lle lex lco lou)) C nX_in nX_ty nX_ok nX_nm 0 rfl rfl 5 (by decide) wd_171 rfl rfl (z01_nar (Or.inr rfl)) (z01_fit (Or.inr rfl)) (Nat.le_of_ble_eq_true rfl) dX_layBest_55 rfl ?_
    exact sj_lv [0] rfl (hb_58 1 sB sO sh sw sr lI lC lT lR lth lro lsp lle lex lco lou hf)
  have hb_29 : ∀ (t1 : Int32) (xl : Int32) (sB sO : Nat → Int32) (sh sw sr : Int32) (lI lC lT lR : Nat → Int32) (lth lro lsp lle lex lco lou : Int32), fX_layBest_b29 t1 xl bK bZ bL bM bi bg bh sB sO sh sw sr lI lC lT lR lth lro lsp lle lex lco lou = some (r, xl', sB', sO', sh', sw', sr', lI', lC', lT', lR', lth', lro', lsp', lle', lex', lco', lou') → SJ p l e rX_layBest s m (List.toArray [Value.ref x0]) below meth c A (dC, dI) 1 Q (wdX cI cZ cB x0 x1 b0 b1 b2 b3 b4 s0 s1 s2 l0 l1 l2 l3 l4 xk xl bK bZ bL bM bi bg bh sB sO sh sw sr lI lC lT lR lth lro lsp lle lex lco lou) [(0, .ref x0)] 29 [.int t1, .ref l0] := by
    intro t1 xl sB sO sh sw sr lI lC lT lR lth lro lsp lle lex lco lou hf
    unfold fX_layBest_b29 at hf
    obtain ⟨h_29, hf⟩ := in_some hf
    have h_29 := Decidable.not_not.mp h_29
    refine sj_put (w' := (wdX cI cZ cB x0 x1 b0 b1 b2 b3 b4 s0 s1 s2 l0 l1 l2 l3 l4 xk xl bK bZ bL bM bi bg bh sB sO sh sw sr lI lC lT lR lth lro lsp lle t1 lco lou)) C nL_in nL_ty nL_ok nL_nm 9 rfl rfl 9 (by decide) wd_135 rfl rfl (z01_nar h_29) (z01_fit h_29) (Nat.le_of_ble_eq_true rfl) dX_layBest_29 rfl ?_
    refine sj_aload_n C dX_layBest_32 0 rfl rfl ?_
    refine sj_get C nX_in 0 rfl rfl 2 (by decide) wd_168 rfl rfl dX_layBest_33 ?_
    refine sj_get C nL_in 9 rfl rfl 9 (by decide) wd_135 rfl rfl dX_layBest_36 ?_
    refine sj_if_eq C 53 dX_layBest_39 (by decide) (fun c_39 => ?_) (fun c_39 => ?_)
    · have hf := (if_pos c_39).symm.trans hf
      exact sj_lv [0] rfl (hb_53 xl sB sO sh sw sr lI lC lT lR lth lro lsp lle t1 lco lou hf)
    · have hf := (if_neg c_39).symm.trans hf
      refine sj_aload_n C dX_layBest_42 0 rfl rfl ?_
      refine sj_get C nX_in 0 rfl rfl 2 (by decide) wd_168 rfl rfl dX_layBest_43 ?_
      refine sj_aload_n C dX_layBest_46 0 rfl rfl ?_
      refine sj_get C nX_in 0 rfl rfl 1 (by decide) wd_167 rfl rfl dX_layBest_47 ?_
      obtain ⟨lI_50, lC_50, lT_50, lR_50, lth_50, lro_50, lsp_50, lle_50, lco_50, lou_50, sB_50, sO_50, hq_50, hf⟩ := bd12_some hf
      refine sj_callVv (w1 := (wdX cI cZ cB x0 x1 b0 b1 b2 b3 b4 s0 s1 s2 l0 l1 l2 l3 l4 xk xl bK bZ bL bM bi bg bh sB_50 sO_50 sh sw sr lI_50 lC_50 lT_50 lR_50 lth_50 lro_50 lsp_50 lle_50 t1 lco_50 lou_50)) (q0 := 0) C "StepColumns$Laying" (cL_follow l dC dI cI cZ cB l0 l1 l2 l3 l4 s0 s1 s2 b0 b1 b2 b3 b4 lI lC lT lR lth lro lsp lle t1 lco lou sB sO sh sw sr bK bZ bL bM bi bg bh  lI_50 lC_50 lT_50 lR_50 lth_50 lro_50 lsp_50 lle_50 lco_50 lou_50 sB_50 sO_50 hq_50) wd_306 wd_307 wd_308 wd_38 wd_309 hL_follow rfl rfl ⟨Nat.le_of_ble_eq_true rfl, Nat.le_of_ble_eq_true rfl⟩ [9, 10, 11, 12, 13, 6, 7, 8, 1, 2, 3, 4, 5] [0] ⟨rfl, rfl, rfl, rfl, rfl, rfl, kv_14_9_10_11_12_13_6_7_8_1_2_3_4_5⟩ rfl rfl rfl rfl rfl (Nat.le_of_ble_eq_true rfl) dX_layBest_50 ?_
      exact sj_lv [0] rfl (hb_53 xl sB_50 sO_50 sh sw sr lI_50 lC_50 lT_50 lR_50 lth_50 lro_50 lsp_50 lle_50 t1 lco_50 lou_50 hf)
  unfold fX_layBest at hf
  change SJ p l e rX_layBest s m (List.toArray [Value.ref x0]) below meth c A (dC, dI) 1 Q (wdX cI cZ cB x0 x1 b0 b1 b2 b3 b4 s0 s1 s2 l0 l1 l2 l3 l4 xk xl bK bZ bL bM bi bg bh sB sO sh sw sr lI lC lT lR lth lro lsp lle lex lco lou) [(0, .ref x0)] 0 []
  refine sj_aload_n C dX_layBest_0 0 rfl rfl ?_
  refine sj_get C nX_in 0 rfl rfl 5 (by decide) wd_171 rfl rfl dX_layBest_1 ?_
  refine sj_if_ne C 58 dX_layBest_4 (by decide) (fun c_4 => ?_) (fun c_4 => ?_)
  · have hf := (if_neg c_4).symm.trans hf
    exact sj_lv [0] rfl (hb_58 xl sB sO sh sw sr lI lC lT lR lth lro lsp lle lex lco lou hf)
  · have hf := (if_pos c_4).symm.trans hf
    refine sj_aload_n C dX_layBest_7 0 rfl rfl ?_
    refine sj_get C nX_in 0 rfl rfl 2 (by decide) wd_168 rfl rfl dX_layBest_8 ?_
    refine sj_aload_n C dX_layBest_11 0 rfl rfl ?_
    refine sj_get C nX_in 0 rfl rfl 1 (by decide) wd_167 rfl rfl dX_layBest_12 ?_
    refine sj_iconst C dX_layBest_15 ki_m1 ?_
    obtain ⟨r_16, sB_16, sO_16, sh_16, sw_16, sr_16, hq_16, hf⟩ := bd6_some hf
    refine sj_callVi (w1 := (wdX cI cZ cB x0 x1 b0 b1 b2 b3 b4 s0 s1 s2 l0 l1 l2 l3 l4 xk xl bK bZ bL bM bi bg bh sB_16 sO_16 sh_16 sw_16 sr_16 lI lC lT lR lth lro lsp lle lex lco lou)) (q0 := 0) C "StepColumns$Scale" (cS_weigh l dC dI cI cZ cB s0 s1 s2 b0 b1 b2 b3 b4 sB sO sh sw sr bK bZ bL bM bi bg bh (-1) r_16 sB_16 sO_16 sh_16 sw_16 sr_16 hq_16) wd_250 wd_251 wd_252 wd_37 wd_253 hS_weigh rfl rfl ⟨Nat.le_of_ble_eq_true rfl, Nat.le_of_ble_eq_true rfl⟩ [6, 7, 8, 1, 2, 3, 4, 5] [0, 9, 10, 11, 12, 13] ⟨rfl, rfl, rfl, rfl, rfl, rfl, kv_14_6_7_8_1_2_3_4_5⟩ rfl rfl rfl rfl rfl (Nat.le_of_ble_eq_true rfl) dX_layBest_16 ?_
    refine sj_ldc C wd_305 dX_layBest_19 ?_
    refine sj_icmp_ge C 28 dX_layBest_21 (by decide) (fun c_21 => ?_) (fun c_21 => ?_)
    · have hf := (if_pos c_21).symm.trans hf
      refine sj_iconst C dX_layBest_28 ki_0 ?_
      exact sj_lv [0] rfl (hb_29 0 xl sB_16 sO_16 sh_16 sw_16 sr_16 lI lC lT lR lth lro lsp lle lex lco lou hf)
    · have hf := (if_neg c_21).symm.trans hf
      refine sj_iconst C dX_layBest_24 ki_1 ?_
      refine sj_goto C 29 dX_layBest_25 (by decide) ?_
      exact sj_lv [0] rfl (hb_29 1 xl sB_16 sO_16 sh_16 sw_16 sr_16 lI lC lT lR lth lro lsp lle lex lco lou hf)
abbrev rX_best : Room := { frames := 114, cells := 0, slots := 0, locals := 2295 }
set_option maxHeartbeats 4000000 in
set_option maxRecDepth 100000 in
theorem cX_best (l : Launch) (dC : Nat → ClassId) (dI : Nat → Nat → Nat) (cI cZ cB : ClassId) (x0 x1 b0 b1 b2 b3 b4 s0 s1 s2 l0 l1 l2 l3 l4 : Nat) (xk xl : Int32) (bK bZ bL bM : Nat → Int32) (bi bg bh : Int32) (sB sO : Nat → Int32) (sh sw sr : Int32) (lI lC lT lR : Nat → Int32) (lth lro lsp lle lex lco lou : Int32) (p1 : Int32) (r : Int32) (xl' : Int32) (sB' : Nat → Int32) (sO' : Nat → Int32) (sh' : Int32) (sw' : Int32) (sr' : Int32) (lI' : Nat → Int32) (lC' : Nat → Int32) (lT' : Nat → Int32) (lR' : Nat → Int32) (lth' : Int32) (lro' : Int32) (lsp' : Int32) (lle' : Int32) (lex' : Int32) (lco' : Int32) (lou' : Int32) (hf : fX_best p1 xl bK bZ bL bM bi bg bh sB sO sh sw sr lI lC lT lR lth lro lsp lle lex lco lou = some (r, xl', sB', sO', sh', sw', sr', lI', lC', lT', lR', lth', lro', lsp', lle', lex', lco', lou')) : MI l yX_best wX_best rX_best (dC, dI) (tyl cI cZ cB) [Value.ref x0, Value.int p1] (wdX cI cZ cB x0 x1 b0 b1 b2 b3 b4 s0 s1 s2 l0 l1 l2 l3 l4 xk xl bK bZ bL bM bi bg bh sB sO sh sw sr lI lC lT lR lth lro lsp lle lex lco lou) (wdX cI cZ cB x0 x1 b0 b1 b2 b3 b4 s0 s1 s2 l0 l1 l2 l3 l4 xk xl' bK bZ bL bM bi bg bh sB' sO' sh' sw' sr' lI' lC' lT' lR' lth' lro' lsp' lle' lex' lco' lou') r := by
  refine MI_of "StepColumns" rfl (by decide) (Nat.le_of_ble_eq_true rfl) ?_
  intro p e s m below meth c A Q C hQ
  have hb_9 : ∀ (xl : Int32) (sB sO : Nat → Int32) (sh sw sr : Int32) (lI lC lT lR : Nat → Int32) (lth lro lsp lle lex lco lou : Int32), fX_best_b9 xl bK bZ bL bM bi bg bh sB sO sh sw sr lI lC lT lR lth lro lsp lle lex lco lou = some (r, xl', sB', sO', sh', sw', sr', lI', lC', lT', lR', lth', lro', lsp', lle', lex', lco', lou') → SJ p l e rX_best s m (List.toArray [Value.ref x0, Value.int p1]) below meth c A (dC, dI) 2 Q (wdX cI cZ cB x0 x1 b0 b1 b2 b3 b4 s0 s1 s2 l0 l1 l2 l3 l4 xk xl bK bZ bL bM bi bg bh sB sO sh sw sr lI lC lT lR lth lro lsp lle lex lco lou) [] 9 [] := by
    intro xl sB sO sh sw sr lI lC lT lR lth lro lsp lle lex lco lou hf
    unfold fX_best_b9 at hf
    refine sj_bipush C dX_best_9 kb_m2 ?_
    cases hf
    exact hQ 11 _ dX_best_11
  have hb_32 : ∀ (t0 : Int32) (xl : Int32) (sB sO : Nat → Int32) (sh sw sr : Int32) (lI lC lT lR : Nat → Int32) (lth lro lsp lle lex lco lou : Int32), fX_best_b32 t0 xl bK bZ bL bM bi bg bh sB sO sh sw sr lI lC lT lR lth lro lsp lle lex lco lou = some (r, xl', sB', sO', sh', sw', sr', lI', lC', lT', lR', lth', lro', lsp', lle', lex', lco', lou') → SJ p l e rX_best s m (List.toArray [Value.ref x0, Value.int p1]) below meth c A (dC, dI) 2 Q (wdX cI cZ cB x0 x1 b0 b1 b2 b3 b4 s0 s1 s2 l0 l1 l2 l3 l4 xk xl bK bZ bL bM bi bg bh sB sO sh sw sr lI lC lT lR lth lro lsp lle lex lco lou) [] 32 [.int t0] := by
    intro t0 xl sB sO sh sw sr lI lC lT lR lth lro lsp lle lex lco lou hf
    unfold fX_best_b32 at hf
    cases hf
    exact hQ 32 _ dX_best_32
  unfold fX_best at hf
  change SJ p l e rX_best s m (List.toArray [Value.ref x0, Value.int p1]) below meth c A (dC, dI) 2 Q (wdX cI cZ cB x0 x1 b0 b1 b2 b3 b4 s0 s1 s2 l0 l1 l2 l3 l4 xk xl bK bZ bL bM bi bg bh sB sO sh sw sr lI lC lT lR lth lro lsp lle lex lco lou) [(0, .ref x0), (1, .int p1)] 0 []
  refine sj_iload_n C dX_best_0 1 rfl rfl ?_
  refine sj_if_lt C 9 dX_best_1 (by decide) (fun c_1 => ?_) (fun c_1 => ?_)
  · have hf := (if_pos c_1).symm.trans hf
    exact sj_lv [] rfl (hb_9 xl sB sO sh sw sr lI lC lT lR lth lro lsp lle lex lco lou hf)
  · have hf := (if_neg c_1).symm.trans hf
    refine sj_iload_n C dX_best_4 1 rfl rfl ?_
    refine sj_iconst C dX_best_5 ki_4 ?_
    refine sj_icmp_le C 12 dX_best_6 (by decide) (fun c_6 => ?_) (fun c_6 => ?_)
    · have hf := (if_pos c_6).symm.trans hf
      refine sj_aload_n C dX_best_12 0 rfl rfl ?_
      obtain ⟨r_13, xl_13, sB_13, sO_13, sh_13, sw_13, sr_13, lI_13, lC_13, lT_13, lR_13, lth_13, lro_13, lsp_13, lle_13, lex_13, lco_13, lou_13, hq_13, hf⟩ := bd18_some hf
      refine sj_callVi (w1 := (wdX cI cZ cB x0 x1 b0 b1 b2 b3 b4 s0 s1 s2 l0 l1 l2 l3 l4 xk xl_13 bK bZ bL bM bi bg bh sB_13 sO_13 sh_13 sw_13 sr_13 lI_13 lC_13 lT_13 lR_13 lth_13 lro_13 lsp_13 lle_13 lex_13 lco_13 lou_13)) (q0 := 0) C "StepColumns" (cX_layBest l dC dI cI cZ cB x0 x1 b0 b1 b2 b3 b4 s0 s1 s2 l0 l1 l2 l3 l4 xk xl bK bZ bL bM bi bg bh sB sO sh sw sr lI lC lT lR lth lro lsp lle lex lco lou  r_13 xl_13 sB_13 sO_13 sh_13 sw_13 sr_13 lI_13 lC_13 lT_13 lR_13 lth_13 lro_13 lsp_13 lle_13 lex_13 lco_13 lou_13 hq_13) wd_246 wd_248 wd_1 wd_35 wd_249 hX_layBest rfl rfl ⟨Nat.le_of_ble_eq_true rfl, Nat.le_of_ble_eq_true rfl⟩ [0, 1, 2, 3, 4, 5, 6, 7, 8, 9, 10, 11, 12, 13] [] ⟨rfl, rfl, rfl, rfl, rfl, rfl, kv_14_0_1_2_3_4_5_6_7_8_9_10_11_12_13⟩ rfl rfl rfl rfl rfl (Nat.le_of_ble_eq_true rfl) dX_best_13 ?_
      refine sj_if_eq C 30 dX_best_16 (by decide) (fun c_16 => ?_) (fun c_16 => ?_)
      · have hf := (if_pos c_16).symm.trans hf
        refine sj_bipush C dX_best_30 kb_m6 ?_
        exact sj_lv [] rfl (hb_32 (-6) xl_13 sB_13 sO_13 sh_13 sw_13 sr_13 lI_13 lC_13 lT_13 lR_13 lth_13 lro_13 lsp_13 lle_13 lex_13 lco_13 lou_13 hf)
      · have hf := (if_neg c_16).symm.trans hf
        refine sj_aload_n C dX_best_19 0 rfl rfl ?_
        refine sj_get C nX_in 0 rfl rfl 2 (by decide) wd_168 rfl rfl dX_best_20 ?_
        refine sj_iload_n C dX_best_23 1 rfl rfl ?_
        obtain ⟨r_24, hq_24, hf⟩ := bd1_some hf
        refine sj_callVi (w1 := (wdX cI cZ cB x0 x1 b0 b1 b2 b3 b4 s0 s1 s2 l0 l1 l2 l3 l4 xk xl_13 bK bZ bL bM bi bg bh sB_13 sO_13 sh_13 sw_13 sr_13 lI_13 lC_13 lT_13 lR_13 lth_13 lro_13 lsp_13 lle_13 lex_13 lco_13 lou_13)) (q0 := 0) C "StepColumns$Laying" (cL_total l dC dI cI cZ cB l0 l1 l2 l3 l4 b0 b1 b2 b3 b4 lI_13 lC_13 lT_13 lR_13 lth_13 lro_13 lsp_13 lle_13 lex_13 lco_13 lou_13 bK bZ bL bM bi bg bh p1 r_24 hq_24) wd_337 wd_338 wd_339 wd_38 wd_340 hL_total rfl rfl ⟨Nat.le_of_ble_eq_true rfl, Nat.le_of_ble_eq_true rfl⟩ [9, 10, 11, 12, 13, 1, 2, 3, 4, 5] [0, 6, 7, 8] ⟨rfl, rfl, rfl, rfl, rfl, rfl, kv_14_9_10_11_12_13_1_2_3_4_5⟩ rfl rfl rfl rfl rfl (Nat.le_of_ble_eq_true rfl) dX_best_24 ?_
        refine sj_goto C 32 dX_best_27 (by decide) ?_
        exact sj_lv [] rfl (hb_32 r_24 xl_13 sB_13 sO_13 sh_13 sw_13 sr_13 lI_13 lC_13 lT_13 lR_13 lth_13 lro_13 lsp_13 lle_13 lex_13 lco_13 lou_13 hf)
    · have hf := (if_neg c_6).symm.trans hf
      exact sj_lv [] rfl (hb_9 xl sB sO sh sw sr lI lC lT lR lth lro lsp lle lex lco lou hf)
abbrev rX_place : Room := { frames := 114, cells := 0, slots := 0, locals := 2295 }
set_option maxHeartbeats 4000000 in
set_option maxRecDepth 100000 in
theorem cX_place (l : Launch) (dC : Nat → ClassId) (dI : Nat → Nat → Nat) (cI cZ cB : ClassId) (x0 x1 b0 b1 b2 b3 b4 s0 s1 s2 l0 l1 l2 l3 l4 : Nat) (xk xl : Int32) (bK bZ bL bM : Nat → Int32) (bi bg bh : Int32) (sB sO : Nat → Int32) (sh sw sr : Int32) (lI lC lT lR : Nat → Int32) (lth lro lsp lle lex lco lou : Int32) (p1 p2 p3 : Int32) (r : Int32) (xl' : Int32) (sB' : Nat → Int32) (sO' : Nat → Int32) (sh' : Int32) (sw' : Int32) (sr' : Int32) (lI' : Nat → Int32) (lC' : Nat → Int32) (lT' : Nat → Int32) (lR' : Nat → Int32) (lth' : Int32) (lro' : Int32) (lsp' : Int32) (lle' : Int32) (lex' : Int32) (lco' : Int32) (lou' : Int32) (hf : fX_place p1 p2 p3 xl bK bZ bL bM bi bg bh sB sO sh sw sr lI lC lT lR lth lro lsp lle lex lco lou = some (r, xl', sB', sO', sh', sw', sr', lI', lC', lT', lR', lth', lro', lsp', lle', lex', lco', lou')) : MI l yX_place wX_place rX_place (dC, dI) (tyl cI cZ cB) [Value.ref x0, Value.int p1, Value.int p2, Value.int p3] (wdX cI cZ cB x0 x1 b0 b1 b2 b3 b4 s0 s1 s2 l0 l1 l2 l3 l4 xk xl bK bZ bL bM bi bg bh sB sO sh sw sr lI lC lT lR lth lro lsp lle lex lco lou) (wdX cI cZ cB x0 x1 b0 b1 b2 b3 b4 s0 s1 s2 l0 l1 l2 l3 l4 xk xl' bK bZ bL bM bi bg bh sB' sO' sh' sw' sr' lI' lC' lT' lR' lth' lro' lsp' lle' lex' lco' lou') r := by
  refine MI_of "StepColumns" rfl (by decide) (Nat.le_of_ble_eq_true rfl) ?_
  intro p e s m below meth c A Q C hQ
  have hb_22 : ∀ (xl : Int32) (sB sO : Nat → Int32) (sh sw sr : Int32) (lI lC lT lR : Nat → Int32) (lth lro lsp lle lex lco lou : Int32), fX_place_b22 xl bK bZ bL bM bi bg bh sB sO sh sw sr lI lC lT lR lth lro lsp lle lex lco lou = some (r, xl', sB', sO', sh', sw', sr', lI', lC', lT', lR', lth', lro', lsp', lle', lex', lco', lou') → SJ p l e rX_place s m (List.toArray [Value.ref x0, Value.int p1, Value.int p2, Value.int p3]) below meth c A (dC, dI) 4 Q (wdX cI cZ cB x0 x1 b0 b1 b2 b3 b4 s0 s1 s2 l0 l1 l2 l3 l4 xk xl bK bZ bL bM bi bg bh sB sO sh sw sr lI lC lT lR lth lro lsp lle lex lco lou) [] 22 [] := by
    intro xl sB sO sh sw sr lI lC lT lR lth lro lsp lle lex lco lou hf
    unfold fX_place_b22 at hf
    refine sj_bipush C dX_place_22 kb_m2 ?_
    cases hf
    exact hQ 24 _ dX_place_24
  have hb_48 : ∀ (xl : Int32) (sB sO : Nat → Int32) (sh sw sr : Int32) (lI lC lT lR : Nat → Int32) (lth lro lsp lle lex lco lou : Int32), fX_place_b48 xl bK bZ bL bM bi bg bh sB sO sh sw sr lI lC lT lR lth lro lsp lle lex lco lou = some (r, xl', sB', sO', sh', sw', sr', lI', lC', lT', lR', lth', lro', lsp', lle', lex', lco', lou') → SJ p l e rX_place s m (List.toArray [Value.ref x0, Value.int p1, Value.int p2, Value.int p3]) below meth c A (dC, dI) 4 Q (wdX cI cZ cB x0 x1 b0 b1 b2 b3 b4 s0 s1 s2 l0 l1 l2 l3 l4 xk xl bK bZ bL bM bi bg bh sB sO sh sw sr lI lC lT lR lth lro lsp lle lex lco lou) [] 48 [] := by
    intro xl sB sO sh sw sr lI lC lT lR lth lro lsp lle lex lco lou hf
    unfold fX_place_b48 at hf
    refine sj_bipush C dX_place_48 kb_m6 ?_
    cases hf
    exact hQ 50 _ dX_place_50
  unfold fX_place at hf
  change SJ p l e rX_place s m (List.toArray [Value.ref x0, Value.int p1, Value.int p2, Value.int p3]) below meth c A (dC, dI) 4 Q (wdX cI cZ cB x0 x1 b0 b1 b2 b3 b4 s0 s1 s2 l0 l1 l2 l3 l4 xk xl bK bZ bL bM bi bg bh sB sO sh sw sr lI lC lT lR lth lro lsp lle lex lco lou) [(0, .ref x0), (1, .int p1), (2, .int p2), (3, .int p3)] 0 []
  refine sj_aload_n C dX_place_0 0 rfl rfl ?_
  refine sj_get C nX_in 0 rfl rfl 0 (by decide) wd_166 rfl rfl dX_place_1 ?_
  refine sj_iload_n C dX_place_4 1 rfl rfl ?_
  obtain ⟨r_5, hq_5, hf⟩ := bd1_some hf
  refine sj_callVi (w1 := (wdX cI cZ cB x0 x1 b0 b1 b2 b3 b4 s0 s1 s2 l0 l1 l2 l3 l4 xk xl bK bZ bL bM bi bg bh sB sO sh sw sr lI lC lT lR lth lro lsp lle lex lco lou)) (q0 := 0) C "StepColumns$Book" (cB_has l dC dI cI cZ cB b0 b1 b2 b3 b4 bK bZ bL bM bi bg bh p1 r_5 hq_5) wd_203 wd_204 wd_205 wd_36 wd_206 hB_has rfl rfl ⟨Nat.le_of_ble_eq_true rfl, Nat.le_of_ble_eq_true rfl⟩ [1, 2, 3, 4, 5] [0, 6, 7, 8, 9, 10, 11, 12, 13] ⟨rfl, rfl, rfl, rfl, rfl, rfl, kv_14_1_2_3_4_5⟩ rfl rfl rfl rfl rfl (Nat.le_of_ble_eq_true rfl) dX_place_5 ?_
  refine sj_if_ne C 13 dX_place_8 (by decide) (fun c_8 => ?_) (fun c_8 => ?_)
  · have hf := (if_neg c_8).symm.trans hf
    refine sj_iload_n C dX_place_13 3 rfl rfl ?_
    refine sj_if_lt C 22 dX_place_14 (by decide) (fun c_14 => ?_) (fun c_14 => ?_)
    · have hf := (if_pos c_14).symm.trans hf
      exact sj_lv [] rfl (hb_22 xl sB sO sh sw sr lI lC lT lR lth lro lsp lle lex lco lou hf)
    · have hf := (if_neg c_14).symm.trans hf
      refine sj_iload_n C dX_place_17 3 rfl rfl ?_
      refine sj_iconst C dX_place_18 ki_3 ?_
      refine sj_icmp_le C 25 dX_place_19 (by decide) (fun c_19 => ?_) (fun c_19 => ?_)
      · have hf := (if_pos c_19).symm.trans hf
        refine sj_iload_n C dX_place_25 2 rfl rfl ?_
        refine sj_if_lt C 48 dX_place_26 (by decide) (fun c_26 => ?_) (fun c_26 => ?_)
        · have hf := (if_pos c_26).symm.trans hf
          exact sj_lv [] rfl (hb_48 xl sB sO sh sw sr lI lC lT lR lth lro lsp lle lex lco lou hf)
        · have hf := (if_neg c_26).symm.trans hf
          refine sj_iload_n C dX_place_29 2 rfl rfl ?_
          refine sj_aload_n C dX_place_30 0 rfl rfl ?_
          refine sj_get C nX_in 0 rfl rfl 0 (by decide) wd_166 rfl rfl dX_place_31 ?_
          refine sj_iload_n C dX_place_34 1 rfl rfl ?_
          obtain ⟨r_35, hq_35, hf⟩ := bd1_some hf
          refine sj_callVi (w1 := (wdX cI cZ cB x0 x1 b0 b1 b2 b3 b4 s0 s1 s2 l0 l1 l2 l3 l4 xk xl bK bZ bL bM bi bg bh sB sO sh sw sr lI lC lT lR lth lro lsp lle lex lco lou)) (q0 := 0) C "StepColumns$Book" (cB_thingsOf l dC dI cI cZ cB b0 b1 b2 b3 b4 bK bZ bL bM bi bg bh p1 r_35 hq_35) wd_345 wd_266 wd_267 wd_36 wd_268 hB_thingsOf rfl rfl ⟨Nat.le_of_ble_eq_true rfl, Nat.le_of_ble_eq_true rfl⟩ [1, 2, 3, 4, 5] [0, 6, 7, 8, 9, 10, 11, 12, 13] ⟨rfl, rfl, rfl, rfl, rfl, rfl, kv_14_1_2_3_4_5⟩ rfl rfl rfl rfl rfl (Nat.le_of_ble_eq_true rfl) dX_place_35 ?_
          refine sj_icmp_ge C 48 dX_place_38 (by decide) (fun c_38 => ?_) (fun c_38 => ?_)
          · have hf := (if_pos c_38).symm.trans hf
            exact sj_lv [] rfl (hb_48 xl sB sO sh sw sr lI lC lT lR lth lro lsp lle lex lco lou hf)
          · have hf := (if_neg c_38).symm.trans hf
            refine sj_aload_n C dX_place_41 0 rfl rfl ?_
            obtain ⟨r_42, xl_42, sB_42, sO_42, sh_42, sw_42, sr_42, lI_42, lC_42, lT_42, lR_42, lth_42, lro_42, lsp_42, lle_42, lex_42, lco_42, lou_42, hq_42, hf⟩ := bd18_some hf
            refine sj_callVi (w1 := (wdX cI cZ cB x0 x1 b0 b1 b2 b3 b4 s0 s1 s2 l0 l1 l2 l3 l4 xk xl_42 bK bZ bL bM bi bg bh sB_42 sO_42 sh_42 sw_42 sr_42 lI_42 lC_42 lT_42 lR_42 lth_42 lro_42 lsp_42 lle_42 lex_42 lco_42 lou_42)) (q0 := 0) C "StepColumns" (cX_layBest l dC dI cI cZ cB x0 x1 b0 b1 b2 b3 b4 s0 s1 s2 l0 l1 l2 l3 l4 xk xl bK bZ bL bM bi bg bh sB sO sh sw sr lI lC lT lR lth lro lsp lle lex lco lou  r_42 xl_42 sB_42 sO_42 sh_42 sw_42 sr_42 lI_42 lC_42 lT_42 lR_42 lth_42 lro_42 lsp_42 lle_42 lex_42 lco_42 lou_42 hq_42) wd_246 wd_248 wd_1 wd_35 wd_249 hX_layBest rfl rfl ⟨Nat.le_of_ble_eq_true rfl, Nat.le_of_ble_eq_true rfl⟩ [0, 1, 2, 3, 4, 5, 6, 7, 8, 9, 10, 11, 12, 13] [] ⟨rfl, rfl, rfl, rfl, rfl, rfl, kv_14_0_1_2_3_4_5_6_7_8_9_10_11_12_13⟩ rfl rfl rfl rfl rfl (Nat.le_of_ble_eq_true rfl) dX_place_42 ?_
            refine sj_if_ne C 51 dX_place_45 (by decide) (fun c_45 => ?_) (fun c_45 => ?_)
            · have hf := (if_neg c_45).symm.trans hf
              refine sj_aload_n C dX_place_51 0 rfl rfl ?_
              refine sj_get C nX_in 0 rfl rfl 2 (by decide) wd_168 rfl rfl dX_place_52 ?_
              refine sj_aload_n C dX_place_55 0 rfl rfl ?_
              refine sj_get C nX_in 0 rfl rfl 0 (by decide) wd_166 rfl rfl dX_place_56 ?_
              refine sj_iload_n C dX_place_59 1 rfl rfl ?_
              obtain ⟨r_60, hq_60, hf⟩ := bd1_some hf
              refine sj_callVi (w1 := (wdX cI cZ cB x0 x1 b0 b1 b2 b3 b4 s0 s1 s2 l0 l1 l2 l3 l4 xk xl_42 bK bZ bL bM bi bg bh sB_42 sO_42 sh_42 sw_42 sr_42 lI_42 lC_42 lT_42 lR_42 lth_42 lro_42 lsp_42 lle_42 lex_42 lco_42 lou_42)) (q0 := 0) C "StepColumns$Book" (cB_thingsBefore l dC dI cI cZ cB b0 b1 b2 b3 b4 bK bZ bL bM bi bg bh p1 r_60 hq_60) wd_346 wd_347 wd_348 wd_36 wd_349 hB_thingsBefore rfl rfl ⟨Nat.le_of_ble_eq_true rfl, Nat.le_of_ble_eq_true rfl⟩ [1, 2, 3, 4, 5] [0, 6, 7, 8, 9, 10, 11, 12, 13] ⟨rfl, rfl, rfl, rfl, rfl, rfl, kv_14_1_2_3_4_5⟩ rfl rfl rfl rfl rfl (Nat.le_of_ble_eq_true rfl) dX_place_60 ?_
              refine sj_iload_n C dX_place_63 2 rfl rfl ?_
              refine sj_iadd C dX_place_64 ?_
              refine sj_iload_n C dX_place_65 3 rfl rfl ?_
              obtain ⟨r_66, hq_66, hf⟩ := bd1_some hf
              refine sj_callVi (w1 := (wdX cI cZ cB x0 x1 b0 b1 b2 b3 b4 s0 s1 s2 l0 l1 l2 l3 l4 xk xl_42 bK bZ bL bM bi bg bh sB_42 sO_42 sh_42 sw_42 sr_42 lI_42 lC_42 lT_42 lR_42 lth_42 lro_42 lsp_42 lle_42 lex_42 lco_42 lou_42)) (q0 := 0) C "StepColumns$Laying" (cL_ofThing l dC dI cI cZ cB l0 l1 l2 l3 l4 b0 b1 b2 b3 b4 lI_42 lC_42 lT_42 lR_42 lth_42 lro_42 lsp_42 lle_42 lex_42 lco_42 lou_42 bK bZ bL bM bi bg bh (r_60 + p2) p3 r_66 hq_66) wd_351 wd_352 wd_353 wd_38 wd_354 hL_ofThing rfl rfl ⟨Nat.le_of_ble_eq_true rfl, Nat.le_of_ble_eq_true rfl⟩ [9, 10, 11, 12, 13, 1, 2, 3, 4, 5] [0, 6, 7, 8] ⟨rfl, rfl, rfl, rfl, rfl, rfl, kv_14_9_10_11_12_13_1_2_3_4_5⟩ rfl rfl rfl rfl rfl (Nat.le_of_ble_eq_true rfl) dX_place_66 ?_
              cases hf
              exact hQ 69 _ dX_place_69
            · have hf := (if_pos c_45).symm.trans hf
              exact sj_lv [] rfl (hb_48 xl_42 sB_42 sO_42 sh_42 sw_42 sr_42 lI_42 lC_42 lT_42 lR_42 lth_42 lro_42 lsp_42 lle_42 lex_42 lco_42 lou_42 hf)
      · have hf := (if_neg c_19).symm.trans hf
        exact sj_lv [] rfl (hb_22 xl sB sO sh sw sr lI lC lT lR lth lro lsp lle lex lco lou hf)
  · have hf := (if_pos c_8).symm.trans hf
    refine sj_iconst C dX_place_11 ki_m1 ?_
    cases hf
    exact hQ 12 _ dX_place_12
abbrev rX_column : Room := { frames := 114, cells := 0, slots := 0, locals := 2295 }
set_option maxHeartbeats 4000000 in
set_option maxRecDepth 100000 in
theorem cX_column (l : Launch) (dC : Nat → ClassId) (dI : Nat → Nat → Nat) (cI cZ cB : ClassId) (x0 x1 b0 b1 b2 b3 b4 s0 s1 s2 l0 l1 l2 l3 l4 : Nat) (xk xl : Int32) (bK bZ bL bM : Nat → Int32) (bi bg bh : Int32) (sB sO : Nat → Int32) (sh sw sr : Int32) (lI lC lT lR : Nat → Int32) (lth lro lsp lle lex lco lou : Int32) (p1 p2 : Int32) (r : Int32) (xl' : Int32) (sB' : Nat → Int32) (sO' : Nat → Int32) (sh' : Int32) (sw' : Int32) (sr' : Int32) (lI' : Nat → Int32) (lC' : Nat → Int32) (lT' : Nat → Int32) (lR' : Nat → Int32) (lth' : Int32) (lro' : Int32) (lsp' : Int32) (lle' : Int32) (lex' : Int32) (lco' : Int32) (lou' : Int32) (hf : fX_column p1 p2 xl bK bZ bL bM bi bg bh sB sO sh sw sr lI lC lT lR lth lro lsp lle lex lco lou = some (r, xl', sB', sO', sh', sw', sr', lI', lC', lT', lR', lth', lro', lsp', lle', lex', lco', lou')) : MI l yX_column wX_column rX_column (dC, dI) (tyl cI cZ cB) [Value.ref x0, Value.int p1, Value.int p2] (wdX cI cZ cB x0 x1 b0 b1 b2 b3 b4 s0 s1 s2 l0 l1 l2 l3 l4 xk xl bK bZ bL bM bi bg bh sB sO sh sw sr lI lC lT lR lth lro lsp lle lex lco lou) (wdX cI cZ cB x0 x1 b0 b1 b2 b3 b4 s0 s1 s2 l0 l1 l2 l3 l4 xk xl' bK bZ bL bM bi bg bh sB' sO' sh' sw' sr' lI' lC' lT' lR' lth' lro' lsp' lle' lex' lco' lou') r := by
  refine MI_of "StepColumns" rfl (by decide) (Nat.le_of_ble_eq_true rfl) ?_
  intro p e s m below meth c A Q C hQ
  have hb_9 : ∀ (xl : Int32) (sB sO : Nat → Int32) (sh sw sr : Int32) (lI lC lT lR : Nat → Int32) (lth lro lsp lle lex lco lou : Int32), fX_column_b9 xl bK bZ bL bM bi bg bh sB sO sh sw sr lI lC lT lR lth lro lsp lle lex lco lou = some (r, xl', sB', sO', sh', sw', sr', lI', lC', lT', lR', lth', lro', lsp', lle', lex', lco', lou') → SJ p l e rX_column s m (List.toArray [Value.ref x0, Value.int p1, Value.int p2]) below meth c A (dC, dI) 3 Q (wdX cI cZ cB x0 x1 b0 b1 b2 b3 b4 s0 s1 s2 l0 l1 l2 l3 l4 xk xl bK bZ bL bM bi bg bh sB sO sh sw sr lI lC lT lR lth lro lsp lle lex lco lou) [] 9 [] := by
    intro xl sB sO sh sw sr lI lC lT lR lth lro lsp lle lex lco lou hf
    unfold fX_column_b9 at hf
    refine sj_bipush C dX_column_9 kb_m2 ?_
    cases hf
    exact hQ 11 _ dX_column_11
  have hb_34 : ∀ (xl : Int32) (sB sO : Nat → Int32) (sh sw sr : Int32) (lI lC lT lR : Nat → Int32) (lth lro lsp lle lex lco lou : Int32), fX_column_b34 xl bK bZ bL bM bi bg bh sB sO sh sw sr lI lC lT lR lth lro lsp lle lex lco lou = some (r, xl', sB', sO', sh', sw', sr', lI', lC', lT', lR', lth', lro', lsp', lle', lex', lco', lou') → SJ p l e rX_column s m (List.toArray [Value.ref x0, Value.int p1, Value.int p2]) below meth c A (dC, dI) 3 Q (wdX cI cZ cB x0 x1 b0 b1 b2 b3 b4 s0 s1 s2 l0 l1 l2 l3 l4 xk xl bK bZ bL bM bi bg bh sB sO sh sw sr lI lC lT lR lth lro lsp lle lex lco lou) [] 34 [] := by
    intro xl sB sO sh sw sr lI lC lT lR lth lro lsp lle lex lco lou hf
    unfold fX_column_b34 at hf
    refine sj_bipush C dX_column_34 kb_m6 ?_
    cases hf
    exact hQ 36 _ dX_column_36
  unfold fX_column at hf
  change SJ p l e rX_column s m (List.toArray [Value.ref x0, Value.int p1, Value.int p2]) below meth c A (dC, dI) 3 Q (wdX cI cZ cB x0 x1 b0 b1 b2 b3 b4 s0 s1 s2 l0 l1 l2 l3 l4 xk xl bK bZ bL bM bi bg bh sB sO sh sw sr lI lC lT lR lth lro lsp lle lex lco lou) [(0, .ref x0), (1, .int p1), (2, .int p2)] 0 []
  refine sj_iload_n C dX_column_0 2 rfl rfl ?_
  refine sj_if_lt C 9 dX_column_1 (by decide) (fun c_1 => ?_) (fun c_1 => ?_)
  · have hf := (if_pos c_1).symm.trans hf
    exact sj_lv [] rfl (hb_9 xl sB sO sh sw sr lI lC lT lR lth lro lsp lle lex lco lou hf)
  · have hf := (if_neg c_1).symm.trans hf
    refine sj_iload_n C dX_column_4 2 rfl rfl ?_
    refine sj_iconst C dX_column_5 ki_4 ?_
    refine sj_icmp_le C 12 dX_column_6 (by decide) (fun c_6 => ?_) (fun c_6 => ?_)
    · have hf := (if_pos c_6).symm.trans hf
      refine sj_aload_n C dX_column_12 0 rfl rfl ?_
      obtain ⟨r_13, xl_13, sB_13, sO_13, sh_13, sw_13, sr_13, lI_13, lC_13, lT_13, lR_13, lth_13, lro_13, lsp_13, lle_13, lex_13, lco_13, lou_13, hq_13, hf⟩ := bd18_some hf
      refine sj_callVi (w1 := (wdX cI cZ cB x0 x1 b0 b1 b2 b3 b4 s0 s1 s2 l0 l1 l2 l3 l4 xk xl_13 bK bZ bL bM bi bg bh sB_13 sO_13 sh_13 sw_13 sr_13 lI_13 lC_13 lT_13 lR_13 lth_13 lro_13 lsp_13 lle_13 lex_13 lco_13 lou_13)) (q0 := 0) C "StepColumns" (cX_layBest l dC dI cI cZ cB x0 x1 b0 b1 b2 b3 b4 s0 s1 s2 l0 l1 l2 l3 l4 xk xl bK bZ bL bM bi bg bh sB sO sh sw sr lI lC lT lR lth lro lsp lle lex lco lou  r_13 xl_13 sB_13 sO_13 sh_13 sw_13 sr_13 lI_13 lC_13 lT_13 lR_13 lth_13 lro_13 lsp_13 lle_13 lex_13 lco_13 lou_13 hq_13) wd_246 wd_248 wd_1 wd_35 wd_249 hX_layBest rfl rfl ⟨Nat.le_of_ble_eq_true rfl, Nat.le_of_ble_eq_true rfl⟩ [0, 1, 2, 3, 4, 5, 6, 7, 8, 9, 10, 11, 12, 13] [] ⟨rfl, rfl, rfl, rfl, rfl, rfl, kv_14_0_1_2_3_4_5_6_7_8_9_10_11_12_13⟩ rfl rfl rfl rfl rfl (Nat.le_of_ble_eq_true rfl) dX_column_13 ?_
      refine sj_if_eq C 34 dX_column_16 (by decide) (fun c_16 => ?_) (fun c_16 => ?_)
      · have hf := (if_pos c_16).symm.trans hf
        exact sj_lv [] rfl (hb_34 xl_13 sB_13 sO_13 sh_13 sw_13 sr_13 lI_13 lC_13 lT_13 lR_13 lth_13 lro_13 lsp_13 lle_13 lex_13 lco_13 lou_13 hf)
      · have hf := (if_neg c_16).symm.trans hf
        refine sj_iload_n C dX_column_19 1 rfl rfl ?_
        refine sj_if_lt C 34 dX_column_20 (by decide) (fun c_20 => ?_) (fun c_20 => ?_)
        · have hf := (if_pos c_20).symm.trans hf
          exact sj_lv [] rfl (hb_34 xl_13 sB_13 sO_13 sh_13 sw_13 sr_13 lI_13 lC_13 lT_13 lR_13 lth_13 lro_13 lsp_13 lle_13 lex_13 lco_13 lou_13 hf)
        · have hf := (if_neg c_20).symm.trans hf
          refine sj_iload_n C dX_column_23 1 rfl rfl ?_
          refine sj_aload_n C dX_column_24 0 rfl rfl ?_
          refine sj_get C nX_in 0 rfl rfl 2 (by decide) wd_168 rfl rfl dX_column_25 ?_
          refine sj_get C nL_in 9 rfl rfl 10 (by decide) wd_137 rfl rfl dX_column_28 ?_
          refine sj_icmp_lt C 37 dX_column_31 (by decide) (fun c_31 => ?_) (fun c_31 => ?_)
          · have hf := (if_pos c_31).symm.trans hf
            refine sj_aload_n C dX_column_37 0 rfl rfl ?_
            refine sj_get C nX_in 0 rfl rfl 2 (by decide) wd_168 rfl rfl dX_column_38 ?_
            refine sj_iload_n C dX_column_41 1 rfl rfl ?_
            refine sj_iload_n C dX_column_42 2 rfl rfl ?_
            obtain ⟨r_43, hq_43, hf⟩ := bd1_some hf
            refine sj_callVi (w1 := (wdX cI cZ cB x0 x1 b0 b1 b2 b3 b4 s0 s1 s2 l0 l1 l2 l3 l4 xk xl_13 bK bZ bL bM bi bg bh sB_13 sO_13 sh_13 sw_13 sr_13 lI_13 lC_13 lT_13 lR_13 lth_13 lro_13 lsp_13 lle_13 lex_13 lco_13 lou_13)) (q0 := 0) C "StepColumns$Laying" (cL_ofColumn l dC dI cI cZ cB l0 l1 l2 l3 l4 b0 b1 b2 b3 b4 lI_13 lC_13 lT_13 lR_13 lth_13 lro_13 lsp_13 lle_13 lex_13 lco_13 lou_13 bK bZ bL bM bi bg bh p1 p2 r_43 hq_43) wd_363 wd_364 wd_365 wd_38 wd_366 hL_ofColumn rfl rfl ⟨Nat.le_of_ble_eq_true rfl, Nat.le_of_ble_eq_true rfl⟩ [9, 10, 11, 12, 13, 1, 2, 3, 4, 5] [0, 6, 7, 8] ⟨rfl, rfl, rfl, rfl, rfl, rfl, kv_14_9_10_11_12_13_1_2_3_4_5⟩ rfl rfl rfl rfl rfl (Nat.le_of_ble_eq_true rfl) dX_column_43 ?_
            cases hf
            exact hQ 46 _ dX_column_46
          · have hf := (if_neg c_31).symm.trans hf
            exact sj_lv [] rfl (hb_34 xl_13 sB_13 sO_13 sh_13 sw_13 sr_13 lI_13 lC_13 lT_13 lR_13 lth_13 lro_13 lsp_13 lle_13 lex_13 lco_13 lou_13 hf)
    · have hf := (if_neg c_6).symm.trans hf
      exact sj_lv [] rfl (hb_9 xl sB sO sh sw sr lI lC lT lR lth lro lsp lle lex lco lou hf)
abbrev rX_meet : Room := { frames := 114, cells := 0, slots := 0, locals := 2295 }
set_option maxHeartbeats 4000000 in
set_option maxRecDepth 100000 in
theorem cX_meet (l : Launch) (dC : Nat → ClassId) (dI : Nat → Nat → Nat) (cI cZ cB : ClassId) (x0 x1 b0 b1 b2 b3 b4 s0 s1 s2 l0 l1 l2 l3 l4 : Nat) (xk xl : Int32) (bK bZ bL bM : Nat → Int32) (bi bg bh : Int32) (sB sO : Nat → Int32) (sh sw sr : Int32) (lI lC lT lR : Nat → Int32) (lth lro lsp lle lex lco lou : Int32) (p1 : Int32) (r : Int32) (xl' : Int32) (sB' : Nat → Int32) (sO' : Nat → Int32) (sh' : Int32) (sw' : Int32) (sr' : Int32) (lI' : Nat → Int32) (lC' : Nat → Int32) (lT' : Nat → Int32) (lR' : Nat → Int32) (lth' : Int32) (lro' : Int32) (lsp' : Int32) (lle' : Int32) (lex' : Int32) (lco' : Int32) (lou' : Int32) (hf : fX_meet p1 xl bK bZ bL bM bi bg bh sB sO sh sw sr lI lC lT lR lth lro lsp lle lex lco lou = some (r, xl', sB', sO', sh', sw', sr', lI', lC', lT', lR', lth', lro', lsp', lle', lex', lco', lou')) : MI l yX_meet wX_meet rX_meet (dC, dI) (tyl cI cZ cB) [Value.ref x0, Value.int p1] (wdX cI cZ cB x0 x1 b0 b1 b2 b3 b4 s0 s1 s2 l0 l1 l2 l3 l4 xk xl bK bZ bL bM bi bg bh sB sO sh sw sr lI lC lT lR lth lro lsp lle lex lco lou) (wdX cI cZ cB x0 x1 b0 b1 b2 b3 b4 s0 s1 s2 l0 l1 l2 l3 l4 xk xl' bK bZ bL bM bi bg bh sB' sO' sh' sw' sr' lI' lC' lT' lR' lth' lro' lsp' lle' lex' lco' lou') r := by
  refine MI_of "StepColumns" rfl (by decide) (Nat.le_of_ble_eq_true rfl) ?_
  intro p e s m below meth c A Q C hQ
  have hb_26 : ∀ (xl : Int32) (sB sO : Nat → Int32) (sh sw sr : Int32) (lI lC lT lR : Nat → Int32) (lth lro lsp lle lex lco lou : Int32), fX_meet_b26 xl bK bZ bL bM bi bg bh sB sO sh sw sr lI lC lT lR lth lro lsp lle lex lco lou = some (r, xl', sB', sO', sh', sw', sr', lI', lC', lT', lR', lth', lro', lsp', lle', lex', lco', lou') → SJ p l e rX_meet s m (List.toArray [Value.ref x0, Value.int p1]) below meth c A (dC, dI) 2 Q (wdX cI cZ cB x0 x1 b0 b1 b2 b3 b4 s0 s1 s2 l0 l1 l2 l3 l4 xk xl bK bZ bL bM bi bg bh sB sO sh sw sr lI lC lT lR lth lro lsp lle lex lco lou) [] 26 [] := by
    intro xl sB sO sh sw sr lI lC lT lR lth lro lsp lle lex lco lou hf
    unfold fX_meet_b26 at hf
    refine sj_bipush C dX_meet_26 kb_m6 ?_
    cases hf
    exact hQ 28 _ dX_meet_28
  unfold fX_meet at hf
  change SJ p l e rX_meet s m (List.toArray [Value.ref x0, Value.int p1]) below meth c A (dC, dI) 2 Q (wdX cI cZ cB x0 x1 b0 b1 b2 b3 b4 s0 s1 s2 l0 l1 l2 l3 l4 xk xl bK bZ bL bM bi bg bh sB sO sh sw sr lI lC lT lR lth lro lsp lle lex lco lou) [(0, .ref x0), (1, .int p1)] 0 []
  refine sj_aload_n C dX_meet_0 0 rfl rfl ?_
  obtain ⟨r_1, xl_1, sB_1, sO_1, sh_1, sw_1, sr_1, lI_1, lC_1, lT_1, lR_1, lth_1, lro_1, lsp_1, lle_1, lex_1, lco_1, lou_1, hq_1, hf⟩ := bd18_some hf
  refine sj_callVi (w1 := (wdX cI cZ cB x0 x1 b0 b1 b2 b3 b4 s0 s1 s2 l0 l1 l2 l3 l4 xk xl_1 bK bZ bL bM bi bg bh sB_1 sO_1 sh_1 sw_1 sr_1 lI_1 lC_1 lT_1 lR_1 lth_1 lro_1 lsp_1 lle_1 lex_1 lco_1 lou_1)) (q0 := 0) C "StepColumns" (cX_layBest l dC dI cI cZ cB x0 x1 b0 b1 b2 b3 b4 s0 s1 s2 l0 l1 l2 l3 l4 xk xl bK bZ bL bM bi bg bh sB sO sh sw sr lI lC lT lR lth lro lsp lle lex lco lou  r_1 xl_1 sB_1 sO_1 sh_1 sw_1 sr_1 lI_1 lC_1 lT_1 lR_1 lth_1 lro_1 lsp_1 lle_1 lex_1 lco_1 lou_1 hq_1) wd_246 wd_248 wd_1 wd_35 wd_249 hX_layBest rfl rfl ⟨Nat.le_of_ble_eq_true rfl, Nat.le_of_ble_eq_true rfl⟩ [0, 1, 2, 3, 4, 5, 6, 7, 8, 9, 10, 11, 12, 13] [] ⟨rfl, rfl, rfl, rfl, rfl, rfl, kv_14_0_1_2_3_4_5_6_7_8_9_10_11_12_13⟩ rfl rfl rfl rfl rfl (Nat.le_of_ble_eq_true rfl) dX_meet_1 ?_
  refine sj_if_eq C 26 dX_meet_4 (by decide) (fun c_4 => ?_) (fun c_4 => ?_)
  · have hf := (if_pos c_4).symm.trans hf
    exact sj_lv [] rfl (hb_26 xl_1 sB_1 sO_1 sh_1 sw_1 sr_1 lI_1 lC_1 lT_1 lR_1 lth_1 lro_1 lsp_1 lle_1 lex_1 lco_1 lou_1 hf)
  · have hf := (if_neg c_4).symm.trans hf
    refine sj_iload_n C dX_meet_7 1 rfl rfl ?_
    refine sj_if_lt C 26 dX_meet_8 (by decide) (fun c_8 => ?_) (fun c_8 => ?_)
    · have hf := (if_pos c_8).symm.trans hf
      exact sj_lv [] rfl (hb_26 xl_1 sB_1 sO_1 sh_1 sw_1 sr_1 lI_1 lC_1 lT_1 lR_1 lth_1 lro_1 lsp_1 lle_1 lex_1 lco_1 lou_1 hf)
    · have hf := (if_neg c_8).symm.trans hf
      refine sj_iload_n C dX_meet_11 1 rfl rfl ?_
      refine sj_aload_n C dX_meet_12 0 rfl rfl ?_
      refine sj_get C nX_in 0 rfl rfl 2 (by decide) wd_168 rfl rfl dX_meet_13 ?_
      refine sj_get C nL_in 9 rfl rfl 10 (by decide) wd_137 rfl rfl dX_meet_16 ?_
      refine sj_iconst C dX_meet_19 ki_1 ?_
      refine sj_iadd C dX_meet_20 ?_
      refine sj_iconst C dX_meet_21 ki_2 ?_
      refine sj_idiv C dX_meet_22 kz_2 ?_
      refine sj_icmp_lt C 29 dX_meet_23 (by decide) (fun c_23 => ?_) (fun c_23 => ?_)
      · have hf := (if_pos c_23).symm.trans hf
        refine sj_aload_n C dX_meet_29 0 rfl rfl ?_
        refine sj_get C nX_in 0 rfl rfl 2 (by decide) wd_168 rfl rfl dX_meet_30 ?_
        refine sj_iconst C dX_meet_33 ki_2 ?_
        refine sj_iload_n C dX_meet_34 1 rfl rfl ?_
        refine sj_imul C dX_meet_35 ?_
        obtain ⟨r_36, hq_36, hf⟩ := bd1_some hf
        refine sj_callVi (w1 := (wdX cI cZ cB x0 x1 b0 b1 b2 b3 b4 s0 s1 s2 l0 l1 l2 l3 l4 xk xl_1 bK bZ bL bM bi bg bh sB_1 sO_1 sh_1 sw_1 sr_1 lI_1 lC_1 lT_1 lR_1 lth_1 lro_1 lsp_1 lle_1 lex_1 lco_1 lou_1)) (q0 := 0) C "StepColumns$Laying" (cL_meetings l dC dI cI cZ cB l0 l1 l2 l3 l4 b0 b1 b2 b3 b4 lI_1 lC_1 lT_1 lR_1 lth_1 lro_1 lsp_1 lle_1 lex_1 lco_1 lou_1 bK bZ bL bM bi bg bh (2 * p1) r_36 hq_36) wd_379 wd_380 wd_381 wd_38 wd_382 hL_meetings rfl rfl ⟨Nat.le_of_ble_eq_true rfl, Nat.le_of_ble_eq_true rfl⟩ [9, 10, 11, 12, 13, 1, 2, 3, 4, 5] [0, 6, 7, 8] ⟨rfl, rfl, rfl, rfl, rfl, rfl, kv_14_9_10_11_12_13_1_2_3_4_5⟩ rfl rfl rfl rfl rfl (Nat.le_of_ble_eq_true rfl) dX_meet_36 ?_
        cases hf
        exact hQ 39 _ dX_meet_39
      · have hf := (if_neg c_23).symm.trans hf
        exact sj_lv [] rfl (hb_26 xl_1 sB_1 sO_1 sh_1 sw_1 sr_1 lI_1 lC_1 lT_1 lR_1 lth_1 lro_1 lsp_1 lle_1 lex_1 lco_1 lou_1 hf)
abbrev rX_reliefBy : Room := { frames := 113, cells := 0, slots := 0, locals := 2263 }
set_option maxHeartbeats 4000000 in
set_option maxRecDepth 100000 in
theorem cX_reliefBy (l : Launch) (dC : Nat → ClassId) (dI : Nat → Nat → Nat) (cI cZ cB : ClassId) (x0 x1 b0 b1 b2 b3 b4 s0 s1 s2 l0 l1 l2 l3 l4 : Nat) (xk xl : Int32) (bK bZ bL bM : Nat → Int32) (bi bg bh : Int32) (sB sO : Nat → Int32) (sh sw sr : Int32) (lI lC lT lR : Nat → Int32) (lth lro lsp lle lex lco lou : Int32) (p1 : Int32) (r : Int32) (sB' : Nat → Int32) (sO' : Nat → Int32) (sh' : Int32) (sw' : Int32) (sr' : Int32) (hf : fX_reliefBy p1 bK bZ bL bM bi bg bh sB sO sh sw sr lou = some (r, sB', sO', sh', sw', sr')) : MI l yX_reliefBy wX_reliefBy rX_reliefBy (dC, dI) (tyl cI cZ cB) [Value.ref x0, Value.int p1] (wdX cI cZ cB x0 x1 b0 b1 b2 b3 b4 s0 s1 s2 l0 l1 l2 l3 l4 xk xl bK bZ bL bM bi bg bh sB sO sh sw sr lI lC lT lR lth lro lsp lle lex lco lou) (wdX cI cZ cB x0 x1 b0 b1 b2 b3 b4 s0 s1 s2 l0 l1 l2 l3 l4 xk xl bK bZ bL bM bi bg bh sB' sO' sh' sw' sr' lI lC lT lR lth lro lsp lle lex lco lou) r := by
  refine MI_of "StepColumns" rfl (by decide) (Nat.le_of_ble_eq_true rfl) ?_
  intro p e s m below meth c A Q C hQ
  unfold fX_reliefBy at hf
  change SJ p l e rX_reliefBy s m (List.toArray [Value.ref x0, Value.int p1]) below meth c A (dC, dI) 3 Q (wdX cI cZ cB x0 x1 b0 b1 b2 b3 b4 s0 s1 s2 l0 l1 l2 l3 l4 xk xl bK bZ bL bM bi bg bh sB sO sh sw sr lI lC lT lR lth lro lsp lle lex lco lou) [(0, .ref x0), (1, .int p1)] 0 []
  refine sj_aload_n C dX_reliefBy_0 0 rfl rfl ?_
  refine sj_get C nX_in 0 rfl rfl 0 (by decide) wd_166 rfl rfl dX_reliefBy_1 ?_
  refine sj_get C nB_in 1 rfl rfl 3 (by decide) wd_67 rfl rfl dX_reliefBy_4 ?_
  refine sj_iload_n C dX_reliefBy_7 1 rfl rfl ?_
  obtain ⟨h_8, hf⟩ := in_some hf
  refine sj_iald C 5 0 rfl rfl h_8 rfl dX_reliefBy_8 ?_
  refine sj_bipush C dX_reliefBy_9 kb_30 ?_
  refine sj_icmp_ne C 16 dX_reliefBy_11 (by decide) (fun c_11 => ?_) (fun c_11 => ?_)
  · have hf := (if_neg c_11).symm.trans hf
    refine sj_aload_n C dX_reliefBy_16 0 rfl rfl ?_
    refine sj_get C nX_in 0 rfl rfl 1 (by decide) wd_167 rfl rfl dX_reliefBy_17 ?_
    refine sj_iload_n C dX_reliefBy_20 1 rfl rfl ?_
    obtain ⟨r_21, sB_21, sO_21, sh_21, sw_21, sr_21, hq_21, hf⟩ := bd6_some hf
    refine sj_callVi (w1 := (wdX cI cZ cB x0 x1 b0 b1 b2 b3 b4 s0 s1 s2 l0 l1 l2 l3 l4 xk xl bK bZ bL bM bi bg bh sB_21 sO_21 sh_21 sw_21 sr_21 lI lC lT lR lth lro lsp lle lex lco lou)) (q0 := 0) C "StepColumns$Scale" (cS_weigh l dC dI cI cZ cB s0 s1 s2 b0 b1 b2 b3 b4 sB sO sh sw sr bK bZ bL bM bi bg bh p1 r_21 sB_21 sO_21 sh_21 sw_21 sr_21 hq_21) wd_250 wd_251 wd_252 wd_37 wd_253 hS_weigh rfl rfl ⟨Nat.le_of_ble_eq_true rfl, Nat.le_of_ble_eq_true rfl⟩ [6, 7, 8, 1, 2, 3, 4, 5] [0, 9, 10, 11, 12, 13] ⟨rfl, rfl, rfl, rfl, rfl, rfl, kv_14_6_7_8_1_2_3_4_5⟩ rfl rfl rfl rfl rfl (Nat.le_of_ble_eq_true rfl) dX_reliefBy_21 ?_
    refine sj_istore_n (lv' := [(2, .int r_21), (0, .ref x0), (1, .int p1)]) C dX_reliefBy_24 rfl (by decide) rfl ?_
    refine sj_aload_n C dX_reliefBy_25 1 rfl rfl ?_
    refine sj_get C nX_in 0 rfl rfl 2 (by decide) wd_168 rfl rfl dX_reliefBy_26 ?_
    refine sj_get C nL_in 9 rfl rfl 11 (by decide) wd_139 rfl rfl dX_reliefBy_29 ?_
    refine sj_iload_n C dX_reliefBy_32 0 rfl rfl ?_
    refine sj_ldc C wd_395 dX_reliefBy_33 ?_
    refine sj_irem C dX_reliefBy_35 kz_1048576 ?_
    refine sj_sipush C dX_reliefBy_36 ks_1024 ?_
    refine sj_idiv C dX_reliefBy_39 kz_1024 ?_
    refine sj_isub C dX_reliefBy_40 ?_
    cases hf
    exact hQ 41 _ dX_reliefBy_41
  · have hf := (if_pos c_11).symm.trans hf
    refine sj_iconst C dX_reliefBy_14 ki_0 ?_
    cases hf
    exact hQ 15 _ dX_reliefBy_15
abbrev rX_relief : Room := { frames := 114, cells := 0, slots := 0, locals := 2295 }
set_option maxHeartbeats 4000000 in
set_option maxRecDepth 100000 in
theorem cX_relief (l : Launch) (dC : Nat → ClassId) (dI : Nat → Nat → Nat) (cI cZ cB : ClassId) (x0 x1 b0 b1 b2 b3 b4 s0 s1 s2 l0 l1 l2 l3 l4 : Nat) (xk xl : Int32) (bK bZ bL bM : Nat → Int32) (bi bg bh : Int32) (sB sO : Nat → Int32) (sh sw sr : Int32) (lI lC lT lR : Nat → Int32) (lth lro lsp lle lex lco lou : Int32) (p1 : Int32) (r : Int32) (xl' : Int32) (sB' : Nat → Int32) (sO' : Nat → Int32) (sh' : Int32) (sw' : Int32) (sr' : Int32) (lI' : Nat → Int32) (lC' : Nat → Int32) (lT' : Nat → Int32) (lR' : Nat → Int32) (lth' : Int32) (lro' : Int32) (lsp' : Int32) (lle' : Int32) (lex' : Int32) (lco' : Int32) (lou' : Int32) (hf : fX_relief p1 xl bK bZ bL bM bi bg bh sB sO sh sw sr lI lC lT lR lth lro lsp lle lex lco lou = some (r, xl', sB', sO', sh', sw', sr', lI', lC', lT', lR', lth', lro', lsp', lle', lex', lco', lou')) : MI l yX_relief wX_relief rX_relief (dC, dI) (tyl cI cZ cB) [Value.ref x0, Value.int p1] (wdX cI cZ cB x0 x1 b0 b1 b2 b3 b4 s0 s1 s2 l0 l1 l2 l3 l4 xk xl bK bZ bL bM bi bg bh sB sO sh sw sr lI lC lT lR lth lro lsp lle lex lco lou) (wdX cI cZ cB x0 x1 b0 b1 b2 b3 b4 s0 s1 s2 l0 l1 l2 l3 l4 xk xl' bK bZ bL bM bi bg bh sB' sO' sh' sw' sr' lI' lC' lT' lR' lth' lro' lsp' lle' lex' lco' lou') r := by
  refine MI_of "StepColumns" rfl (by decide) (Nat.le_of_ble_eq_true rfl) ?_
  intro p e s m below meth c A Q C hQ
  have hb_49 : ∀ (t0 : Int32) (xl : Int32) (sB sO : Nat → Int32) (sh sw sr : Int32) (lI lC lT lR : Nat → Int32) (lth lro lsp lle lex lco lou : Int32), fX_relief_b49 t0 xl bK bZ bL bM bi bg bh sB sO sh sw sr lI lC lT lR lth lro lsp lle lex lco lou = some (r, xl', sB', sO', sh', sw', sr', lI', lC', lT', lR', lth', lro', lsp', lle', lex', lco', lou') → SJ p l e rX_relief s m (List.toArray [Value.ref x0, Value.int p1]) below meth c A (dC, dI) 2 Q (wdX cI cZ cB x0 x1 b0 b1 b2 b3 b4 s0 s1 s2 l0 l1 l2 l3 l4 xk xl bK bZ bL bM bi bg bh sB sO sh sw sr lI lC lT lR lth lro lsp lle lex lco lou) [] 49 [.int t0] := by
    intro t0 xl sB sO sh sw sr lI lC lT lR lth lro lsp lle lex lco lou hf
    unfold fX_relief_b49 at hf
    cases hf
    exact hQ 49 _ dX_relief_49
  unfold fX_relief at hf
  change SJ p l e rX_relief s m (List.toArray [Value.ref x0, Value.int p1]) below meth c A (dC, dI) 2 Q (wdX cI cZ cB x0 x1 b0 b1 b2 b3 b4 s0 s1 s2 l0 l1 l2 l3 l4 xk xl bK bZ bL bM bi bg bh sB sO sh sw sr lI lC lT lR lth lro lsp lle lex lco lou) [(0, .ref x0), (1, .int p1)] 0 []
  refine sj_aload_n C dX_relief_0 0 rfl rfl ?_
  refine sj_get C nX_in 0 rfl rfl 0 (by decide) wd_166 rfl rfl dX_relief_1 ?_
  refine sj_iload_n C dX_relief_4 1 rfl rfl ?_
  obtain ⟨r_5, hq_5, hf⟩ := bd1_some hf
  refine sj_callVi (w1 := (wdX cI cZ cB x0 x1 b0 b1 b2 b3 b4 s0 s1 s2 l0 l1 l2 l3 l4 xk xl bK bZ bL bM bi bg bh sB sO sh sw sr lI lC lT lR lth lro lsp lle lex lco lou)) (q0 := 0) C "StepColumns$Book" (cB_has l dC dI cI cZ cB b0 b1 b2 b3 b4 bK bZ bL bM bi bg bh p1 r_5 hq_5) wd_203 wd_204 wd_205 wd_36 wd_206 hB_has rfl rfl ⟨Nat.le_of_ble_eq_true rfl, Nat.le_of_ble_eq_true rfl⟩ [1, 2, 3, 4, 5] [0, 6, 7, 8, 9, 10, 11, 12, 13] ⟨rfl, rfl, rfl, rfl, rfl, rfl, kv_14_1_2_3_4_5⟩ rfl rfl rfl rfl rfl (Nat.le_of_ble_eq_true rfl) dX_relief_5 ?_
  refine sj_if_ne C 13 dX_relief_8 (by decide) (fun c_8 => ?_) (fun c_8 => ?_)
  · have hf := (if_neg c_8).symm.trans hf
    refine sj_aload_n C dX_relief_13 0 rfl rfl ?_
    refine sj_get C nX_in 0 rfl rfl 0 (by decide) wd_166 rfl rfl dX_relief_14 ?_
    refine sj_get C nB_in 1 rfl rfl 0 (by decide) wd_59 rfl rfl dX_relief_17 ?_
    refine sj_iload_n C dX_relief_20 1 rfl rfl ?_
    obtain ⟨h_21, hf⟩ := in_some hf
    refine sj_iald C 2 0 rfl rfl h_21 rfl dX_relief_21 ?_
    refine sj_if_ne C 28 dX_relief_22 (by decide) (fun c_22 => ?_) (fun c_22 => ?_)
    · have hf := (if_neg c_22).symm.trans hf
      refine sj_aload_n C dX_relief_28 0 rfl rfl ?_
      obtain ⟨r_29, xl_29, sB_29, sO_29, sh_29, sw_29, sr_29, lI_29, lC_29, lT_29, lR_29, lth_29, lro_29, lsp_29, lle_29, lex_29, lco_29, lou_29, hq_29, hf⟩ := bd18_some hf
      refine sj_callVi (w1 := (wdX cI cZ cB x0 x1 b0 b1 b2 b3 b4 s0 s1 s2 l0 l1 l2 l3 l4 xk xl_29 bK bZ bL bM bi bg bh sB_29 sO_29 sh_29 sw_29 sr_29 lI_29 lC_29 lT_29 lR_29 lth_29 lro_29 lsp_29 lle_29 lex_29 lco_29 lou_29)) (q0 := 0) C "StepColumns" (cX_layBest l dC dI cI cZ cB x0 x1 b0 b1 b2 b3 b4 s0 s1 s2 l0 l1 l2 l3 l4 xk xl bK bZ bL bM bi bg bh sB sO sh sw sr lI lC lT lR lth lro lsp lle lex lco lou  r_29 xl_29 sB_29 sO_29 sh_29 sw_29 sr_29 lI_29 lC_29 lT_29 lR_29 lth_29 lro_29 lsp_29 lle_29 lex_29 lco_29 lou_29 hq_29) wd_246 wd_248 wd_1 wd_35 wd_249 hX_layBest rfl rfl ⟨Nat.le_of_ble_eq_true rfl, Nat.le_of_ble_eq_true rfl⟩ [0, 1, 2, 3, 4, 5, 6, 7, 8, 9, 10, 11, 12, 13] [] ⟨rfl, rfl, rfl, rfl, rfl, rfl, kv_14_0_1_2_3_4_5_6_7_8_9_10_11_12_13⟩ rfl rfl rfl rfl rfl (Nat.le_of_ble_eq_true rfl) dX_relief_29 ?_
      refine sj_if_eq C 47 dX_relief_32 (by decide) (fun c_32 => ?_) (fun c_32 => ?_)
      · have hf := (if_pos c_32).symm.trans hf
        refine sj_bipush C dX_relief_47 kb_m6 ?_
        exact sj_lv [] rfl (hb_49 (-6) xl_29 sB_29 sO_29 sh_29 sw_29 sr_29 lI_29 lC_29 lT_29 lR_29 lth_29 lro_29 lsp_29 lle_29 lex_29 lco_29 lou_29 hf)
      · have hf := (if_neg c_32).symm.trans hf
        refine sj_sipush C dX_relief_35 ks_1000 ?_
        refine sj_aload_n C dX_relief_38 0 rfl rfl ?_
        refine sj_iload_n C dX_relief_39 1 rfl rfl ?_
        obtain ⟨r_40, sB_40, sO_40, sh_40, sw_40, sr_40, hq_40, hf⟩ := bd6_some hf
        refine sj_callVi (w1 := (wdX cI cZ cB x0 x1 b0 b1 b2 b3 b4 s0 s1 s2 l0 l1 l2 l3 l4 xk xl_29 bK bZ bL bM bi bg bh sB_40 sO_40 sh_40 sw_40 sr_40 lI_29 lC_29 lT_29 lR_29 lth_29 lro_29 lsp_29 lle_29 lex_29 lco_29 lou_29)) (q0 := 0) C "StepColumns" (cX_reliefBy l dC dI cI cZ cB x0 x1 b0 b1 b2 b3 b4 s0 s1 s2 l0 l1 l2 l3 l4 xk xl_29 bK bZ bL bM bi bg bh sB_29 sO_29 sh_29 sw_29 sr_29 lI_29 lC_29 lT_29 lR_29 lth_29 lro_29 lsp_29 lle_29 lex_29 lco_29 lou_29 p1 r_40 sB_40 sO_40 sh_40 sw_40 sr_40 hq_40) wd_391 wd_393 wd_15 wd_35 wd_394 hX_reliefBy rfl rfl ⟨Nat.le_of_ble_eq_true rfl, Nat.le_of_ble_eq_true rfl⟩ [0, 1, 2, 3, 4, 5, 6, 7, 8, 9, 10, 11, 12, 13] [] ⟨rfl, rfl, rfl, rfl, rfl, rfl, kv_14_0_1_2_3_4_5_6_7_8_9_10_11_12_13⟩ rfl rfl rfl rfl rfl (Nat.le_of_ble_eq_true rfl) dX_relief_40 ?_
        refine sj_iadd C dX_relief_43 ?_
        refine sj_goto C 49 dX_relief_44 (by decide) ?_
        exact sj_lv [] rfl (hb_49 (1000 + r_40) xl_29 sB_40 sO_40 sh_40 sw_40 sr_40 lI_29 lC_29 lT_29 lR_29 lth_29 lro_29 lsp_29 lle_29 lex_29 lco_29 lou_29 hf)
    · have hf := (if_pos c_22).symm.trans hf
      refine sj_bipush C dX_relief_25 kb_m2 ?_
      cases hf
      exact hQ 27 _ dX_relief_27
  · have hf := (if_pos c_8).symm.trans hf
    refine sj_iconst C dX_relief_11 ki_m1 ?_
    cases hf
    exact hQ 12 _ dX_relief_12
abbrev rX_culprit : Room := { frames := 114, cells := 0, slots := 0, locals := 2295 }
set_option maxHeartbeats 4000000 in
set_option maxRecDepth 100000 in
theorem cX_culprit (l : Launch) (dC : Nat → ClassId) (dI : Nat → Nat → Nat) (cI cZ cB : ClassId) (x0 x1 b0 b1 b2 b3 b4 s0 s1 s2 l0 l1 l2 l3 l4 : Nat) (xk xl : Int32) (bK bZ bL bM : Nat → Int32) (bi bg bh : Int32) (sB sO : Nat → Int32) (sh sw sr : Int32) (lI lC lT lR : Nat → Int32) (lth lro lsp lle lex lco lou : Int32) (r : Int32) (xl' : Int32) (sB' : Nat → Int32) (sO' : Nat → Int32) (sh' : Int32) (sw' : Int32) (sr' : Int32) (lI' : Nat → Int32) (lC' : Nat → Int32) (lT' : Nat → Int32) (lR' : Nat → Int32) (lth' : Int32) (lro' : Int32) (lsp' : Int32) (lle' : Int32) (lex' : Int32) (lco' : Int32) (lou' : Int32) (hf : fX_culprit xl bK bZ bL bM bi bg bh sB sO sh sw sr lI lC lT lR lth lro lsp lle lex lco lou = some (r, xl', sB', sO', sh', sw', sr', lI', lC', lT', lR', lth', lro', lsp', lle', lex', lco', lou')) : MI l yX_culprit wX_culprit rX_culprit (dC, dI) (tyl cI cZ cB) [Value.ref x0] (wdX cI cZ cB x0 x1 b0 b1 b2 b3 b4 s0 s1 s2 l0 l1 l2 l3 l4 xk xl bK bZ bL bM bi bg bh sB sO sh sw sr lI lC lT lR lth lro lsp lle lex lco lou) (wdX cI cZ cB x0 x1 b0 b1 b2 b3 b4 s0 s1 s2 l0 l1 l2 l3 l4 xk xl' bK bZ bL bM bi bg bh sB' sO' sh' sw' sr' lI' lC' lT' lR' lth' lro' lsp' lle' lex' lco' lou') r := by
  refine MI_of "StepColumns" rfl (by decide) (Nat.le_of_ble_eq_true rfl) ?_
  intro p e s m below meth c A Q C hQ
  have hb_79 : ∀ (v1 : Int32) (xl : Int32) (sB sO : Nat → Int32) (sh sw sr : Int32) (lI lC lT lR : Nat → Int32) (lth lro lsp lle lex lco lou : Int32), fX_culprit_b79 v1 xl bK bZ bL bM bi bg bh sB sO sh sw sr lI lC lT lR lth lro lsp lle lex lco lou = some (r, xl', sB', sO', sh', sw', sr', lI', lC', lT', lR', lth', lro', lsp', lle', lex', lco', lou') → SJ p l e rX_culprit s m (List.toArray [Value.ref x0]) below meth c A (dC, dI) 5 Q (wdX cI cZ cB x0 x1 b0 b1 b2 b3 b4 s0 s1 s2 l0 l1 l2 l3 l4 xk xl bK bZ bL bM bi bg bh sB sO sh sw sr lI lC lT lR lth lro lsp lle lex lco lou) [(1, .int v1)] 79 [] := by
    intro v1 xl sB sO sh sw sr lI lC lT lR lth lro lsp lle lex lco lou hf
    unfold fX_culprit_b79 at hf
    refine sj_iload_n C dX_culprit_79 0 rfl rfl ?_
    cases hf
    exact hQ 80 _ dX_culprit_80
  have hb_73 : ∀ (K17 : Int32 → Int32 → Int32 → Int32 → (Nat → Int32) → (Nat → Int32) → (Nat → Int32) → (Nat → Int32) → Int32 → Int32 → Int32 → (Nat → Int32) → (Nat → Int32) → Int32 → Int32 → Int32 → (Nat → Int32) → (Nat → Int32) → (Nat → Int32) → (Nat → Int32) → Int32 → Int32 → Int32 → Int32 → Int32 → Int32 → Int32 → Option (Int32 × Int32 × (Nat → Int32) × (Nat → Int32) × Int32 × Int32 × Int32 × (Nat → Int32) × (Nat → Int32) × (Nat → Int32) × (Nat → Int32) × Int32 × Int32 × Int32 × Int32 × Int32 × Int32 × Int32)) (hK17 : ∀ (v1 v2 v3 : Int32) (xl : Int32) (sB sO : Nat → Int32) (sh sw sr : Int32) (lI lC lT lR : Nat → Int32) (lth lro lsp lle lex lco lou : Int32), K17 v1 v2 v3 xl bK bZ bL bM bi bg bh sB sO sh sw sr lI lC lT lR lth lro lsp lle lex lco lou = some (r, xl', sB', sO', sh', sw', sr', lI', lC', lT', lR', lth', lro', lsp', lle', lex', lco', lou') → SJ p l e rX_culprit s m (List.toArray [Value.ref x0]) below meth c A (dC, dI) 5 Q (wdX cI cZ cB x0 x1 b0 b1 b2 b3 b4 s0 s1 s2 l0 l1 l2 l3 l4 xk xl bK bZ bL bM bi bg bh sB sO sh sw sr lI lC lT lR lth lro lsp lle lex lco lou) [(0, .ref x0), (1, .int v1), (2, .int v2), (3, .int v3)] 17 []) (v1 v2 v3 : Int32) (xl : Int32) (sB sO : Nat → Int32) (sh sw sr : Int32) (lI lC lT lR : Nat → Int32) (lth lro lsp lle lex lco lou : Int32), fX_culprit_b73 K17 v1 v2 v3 xl bK bZ bL bM bi bg bh sB sO sh sw sr lI lC lT lR lth lro lsp lle lex lco lou = some (r, xl', sB', sO', sh', sw', sr', lI', lC', lT', lR', lth', lro', lsp', lle', lex', lco', lou') → SJ p l e rX_culprit s m (List.toArray [Value.ref x0]) below meth c A (dC, dI) 5 Q (wdX cI cZ cB x0 x1 b0 b1 b2 b3 b4 s0 s1 s2 l0 l1 l2 l3 l4 xk xl bK bZ bL bM bi bg bh sB sO sh sw sr lI lC lT lR lth lro lsp lle lex lco lou) [(0, .ref x0), (1, .int v1), (2, .int v2), (3, .int v3)] 73 [] := by
    intro K17 hK17 v1 v2 v3 xl sB sO sh sw sr lI lC lT lR lth lro lsp lle lex lco lou hf
    unfold fX_culprit_b73 at hf
    refine sj_iinc (v := (v3 + 1)) (lv' := [(3, .int (v3 + 1)), (0, .ref x0), (1, .int v1), (2, .int v2)]) C dX_culprit_73 3 rfl (by rw [ki_1]) (by decide) rfl ?_
    refine sj_goto C 17 dX_culprit_76 (by decide) ?_
    exact sj_lv [1, 2, 3, 0] rfl (hK17 v1 v2 (v3 + 1) xl sB sO sh sw sr lI lC lT lR lth lro lsp lle lex lco lou hf)
  have hb_60 : ∀ (K17 : Int32 → Int32 → Int32 → Int32 → (Nat → Int32) → (Nat → Int32) → (Nat → Int32) → (Nat → Int32) → Int32 → Int32 → Int32 → (Nat → Int32) → (Nat → Int32) → Int32 → Int32 → Int32 → (Nat → Int32) → (Nat → Int32) → (Nat → Int32) → (Nat → Int32) → Int32 → Int32 → Int32 → Int32 → Int32 → Int32 → Int32 → Option (Int32 × Int32 × (Nat → Int32) × (Nat → Int32) × Int32 × Int32 × Int32 × (Nat → Int32) × (Nat → Int32) × (Nat → Int32) × (Nat → Int32) × Int32 × Int32 × Int32 × Int32 × Int32 × Int32 × Int32)) (hK17 : ∀ (v1 v2 v3 : Int32) (xl : Int32) (sB sO : Nat → Int32) (sh sw sr : Int32) (lI lC lT lR : Nat → Int32) (lth lro lsp lle lex lco lou : Int32), K17 v1 v2 v3 xl bK bZ bL bM bi bg bh sB sO sh sw sr lI lC lT lR lth lro lsp lle lex lco lou = some (r, xl', sB', sO', sh', sw', sr', lI', lC', lT', lR', lth', lro', lsp', lle', lex', lco', lou') → SJ p l e rX_culprit s m (List.toArray [Value.ref x0]) below meth c A (dC, dI) 5 Q (wdX cI cZ cB x0 x1 b0 b1 b2 b3 b4 s0 s1 s2 l0 l1 l2 l3 l4 xk xl bK bZ bL bM bi bg bh sB sO sh sw sr lI lC lT lR lth lro lsp lle lex lco lou) [(0, .ref x0), (1, .int v1), (2, .int v2), (3, .int v3)] 17 []) (v1 v2 v3 t0 : Int32) (xl : Int32) (sB sO : Nat → Int32) (sh sw sr : Int32) (lI lC lT lR : Nat → Int32) (lth lro lsp lle lex lco lou : Int32), fX_culprit_b60 K17 v1 v2 v3 t0 xl bK bZ bL bM bi bg bh sB sO sh sw sr lI lC lT lR lth lro lsp lle lex lco lou = some (r, xl', sB', sO', sh', sw', sr', lI', lC', lT', lR', lth', lro', lsp', lle', lex', lco', lou') → SJ p l e rX_culprit s m (List.toArray [Value.ref x0]) below meth c A (dC, dI) 5 Q (wdX cI cZ cB x0 x1 b0 b1 b2 b3 b4 s0 s1 s2 l0 l1 l2 l3 l4 xk xl bK bZ bL bM bi bg bh sB sO sh sw sr lI lC lT lR lth lro lsp lle lex lco lou) [(0, .ref x0), (1, .int v1), (2, .int v2), (3, .int v3)] 60 [.int t0] := by
    intro K17 hK17 v1 v2 v3 t0 xl sB sO sh sw sr lI lC lT lR lth lro lsp lle lex lco lou hf
    unfold fX_culprit_b60 at hf
    refine sj_istore (lv' := [(4, .int t0), (0, .ref x0), (1, .int v1), (2, .int v2), (3, .int v3)]) C dX_culprit_60 (by decide) rfl ?_
    refine sj_iload C dX_culprit_62 0 rfl ?_
    refine sj_iload_n C dX_culprit_64 3 rfl rfl ?_
    refine sj_icmp_le C 73 dX_culprit_65 (by decide) (fun c_65 => ?_) (fun c_65 => ?_)
    · have hf := (if_pos c_65).symm.trans hf
      exact sj_lv [1, 2, 3, 4] rfl (hb_73 K17 hK17 v1 v2 v3 xl sB sO sh sw sr lI lC lT lR lth lro lsp lle lex lco lou hf)
    · have hf := (if_neg c_65).symm.trans hf
      refine sj_iload C dX_culprit_68 0 rfl ?_
      refine sj_istore_n (lv' := [(2, .int t0), (4, .int t0), (0, .ref x0), (1, .int v1), (3, .int v3)]) C dX_culprit_70 rfl (by decide) rfl ?_
      refine sj_iload_n C dX_culprit_71 4 rfl rfl ?_
      refine sj_istore_n (lv' := [(1, .int v3), (2, .int t0), (4, .int t0), (0, .ref x0), (3, .int v3)]) C dX_culprit_72 rfl (by decide) rfl ?_
      exact sj_lv [3, 0, 1, 4] rfl (hb_73 K17 hK17 v3 t0 v3 xl sB sO sh sw sr lI lC lT lR lth lro lsp lle lex lco lou hf)
  have hb_17 : ∀ (n : Nat) (v1 v2 v3 : Int32) (xl : Int32) (sB sO : Nat → Int32) (sh sw sr : Int32) (lI lC lT lR : Nat → Int32) (lth lro lsp lle lex lco lou : Int32), fX_culprit_b17 n v1 v2 v3 xl bK bZ bL bM bi bg bh sB sO sh sw sr lI lC lT lR lth lro lsp lle lex lco lou = some (r, xl', sB', sO', sh', sw', sr', lI', lC', lT', lR', lth', lro', lsp', lle', lex', lco', lou') → SJ p l e rX_culprit s m (List.toArray [Value.ref x0]) below meth c A (dC, dI) 5 Q (wdX cI cZ cB x0 x1 b0 b1 b2 b3 b4 s0 s1 s2 l0 l1 l2 l3 l4 xk xl bK bZ bL bM bi bg bh sB sO sh sw sr lI lC lT lR lth lro lsp lle lex lco lou) [(0, .ref x0), (1, .int v1), (2, .int v2), (3, .int v3)] 17 [] := by
    intro n
    induction n with
    | zero => intro v1 v2 v3 xl sB sO sh sw sr lI lC lT lR lth lro lsp lle lex lco lou hf; cases hf
    | succ n IH =>
      intro v1 v2 v3 xl sB sO sh sw sr lI lC lT lR lth lro lsp lle lex lco lou hf
      unfold fX_culprit_b17 at hf
      refine sj_iload_n C dX_culprit_17 3 rfl rfl ?_
      refine sj_aload_n C dX_culprit_18 0 rfl rfl ?_
      refine sj_get C nX_in 0 rfl rfl 0 (by decide) wd_166 rfl rfl dX_culprit_19 ?_
      refine sj_get C nB_in 1 rfl rfl 4 (by decide) wd_70 rfl rfl dX_culprit_22 ?_
      refine sj_icmp_ge C 79 dX_culprit_25 (by decide) (fun c_25 => ?_) (fun c_25 => ?_)
      · have hf := (if_pos c_25).symm.trans hf
        exact sj_lv [1] rfl (hb_79 v1 xl sB sO sh sw sr lI lC lT lR lth lro lsp lle lex lco lou hf)
      · have hf := (if_neg c_25).symm.trans hf
        refine sj_iload_n C dX_culprit_28 2 rfl rfl ?_
        refine sj_aload_n C dX_culprit_29 0 rfl rfl ?_
        refine sj_get C nX_in 0 rfl rfl 2 (by decide) wd_168 rfl rfl dX_culprit_30 ?_
        refine sj_get C nL_in 9 rfl rfl 11 (by decide) wd_139 rfl rfl dX_culprit_33 ?_
        refine sj_icmp_ge C 79 dX_culprit_36 (by decide) (fun c_36 => ?_) (fun c_36 => ?_)
        · have hf := (if_pos c_36).symm.trans hf
          exact sj_lv [1] rfl (hb_79 v1 xl sB sO sh sw sr lI lC lT lR lth lro lsp lle lex lco lou hf)
        · have hf := (if_neg c_36).symm.trans hf
          refine sj_aload_n C dX_culprit_39 0 rfl rfl ?_
          refine sj_get C nX_in 0 rfl rfl 0 (by decide) wd_166 rfl rfl dX_culprit_40 ?_
          refine sj_get C nB_in 1 rfl rfl 0 (by decide) wd_59 rfl rfl dX_culprit_43 ?_
          refine sj_iload_n C dX_culprit_46 3 rfl rfl ?_
          obtain ⟨h_47, hf⟩ := in_some hf
          refine sj_iald C 2 0 rfl rfl h_47 rfl dX_culprit_47 ?_
          refine sj_if_ne C 55 dX_culprit_48 (by decide) (fun c_48 => ?_) (fun c_48 => ?_)
          · have hf := (if_neg c_48).symm.trans hf
            refine sj_aload_n C dX_culprit_55 0 rfl rfl ?_
            refine sj_iload_n C dX_culprit_56 3 rfl rfl ?_
            obtain ⟨r_57, sB_57, sO_57, sh_57, sw_57, sr_57, hq_57, hf⟩ := bd6_some hf
            refine sj_callVi (w1 := (wdX cI cZ cB x0 x1 b0 b1 b2 b3 b4 s0 s1 s2 l0 l1 l2 l3 l4 xk xl bK bZ bL bM bi bg bh sB_57 sO_57 sh_57 sw_57 sr_57 lI lC lT lR lth lro lsp lle lex lco lou)) (q0 := 0) C "StepColumns" (cX_reliefBy l dC dI cI cZ cB x0 x1 b0 b1 b2 b3 b4 s0 s1 s2 l0 l1 l2 l3 l4 xk xl bK bZ bL bM bi bg bh sB sO sh sw sr lI lC lT lR lth lro lsp lle lex lco lou v3 r_57 sB_57 sO_57 sh_57 sw_57 sr_57 hq_57) wd_391 wd_393 wd_15 wd_35 wd_394 hX_reliefBy rfl rfl ⟨Nat.le_of_ble_eq_true rfl, Nat.le_of_ble_eq_true rfl⟩ [0, 1, 2, 3, 4, 5, 6, 7, 8, 9, 10, 11, 12, 13] [] ⟨rfl, rfl, rfl, rfl, rfl, rfl, kv_14_0_1_2_3_4_5_6_7_8_9_10_11_12_13⟩ rfl rfl rfl rfl rfl (Nat.le_of_ble_eq_true rfl) dX_culprit_57 ?_
            exact sj_lv [0, 1, 2, 3] rfl (hb_60 (fX_culprit_b17 n) IH v1 v2 v3 r_57 xl sB_57 sO_57 sh_57 sw_57 sr_57 lI lC lT lR lth lro lsp lle lex lco lou hf)
          · have hf := (if_pos c_48).symm.trans hf
            refine sj_iconst C dX_culprit_51 ki_0 ?_
            refine sj_goto C 60 dX_culprit_52 (by decide) ?_
            exact sj_lv [0, 1, 2, 3] rfl (hb_60 (fX_culprit_b17 n) IH v1 v2 v3 0 xl sB sO sh sw sr lI lC lT lR lth lro lsp lle lex lco lou hf)
  unfold fX_culprit at hf
  change SJ p l e rX_culprit s m (List.toArray [Value.ref x0]) below meth c A (dC, dI) 5 Q (wdX cI cZ cB x0 x1 b0 b1 b2 b3 b4 s0 s1 s2 l0 l1 l2 l3 l4 xk xl bK bZ bL bM bi bg bh sB sO sh sw sr lI lC lT lR lth lro lsp lle lex lco lou) [(0, .ref x0)] 0 []
  refine sj_aload_n C dX_culprit_0 0 rfl rfl ?_
  obtain ⟨r_1, xl_1, sB_1, sO_1, sh_1, sw_1, sr_1, lI_1, lC_1, lT_1, lR_1, lth_1, lro_1, lsp_1, lle_1, lex_1, lco_1, lou_1, hq_1, hf⟩ := bd18_some hf
  refine sj_callVi (w1 := (wdX cI cZ cB x0 x1 b0 b1 b2 b3 b4 s0 s1 s2 l0 l1 l2 l3 l4 xk xl_1 bK bZ bL bM bi bg bh sB_1 sO_1 sh_1 sw_1 sr_1 lI_1 lC_1 lT_1 lR_1 lth_1 lro_1 lsp_1 lle_1 lex_1 lco_1 lou_1)) (q0 := 0) C "StepColumns" (cX_layBest l dC dI cI cZ cB x0 x1 b0 b1 b2 b3 b4 s0 s1 s2 l0 l1 l2 l3 l4 xk xl bK bZ bL bM bi bg bh sB sO sh sw sr lI lC lT lR lth lro lsp lle lex lco lou  r_1 xl_1 sB_1 sO_1 sh_1 sw_1 sr_1 lI_1 lC_1 lT_1 lR_1 lth_1 lro_1 lsp_1 lle_1 lex_1 lco_1 lou_1 hq_1) wd_246 wd_248 wd_1 wd_35 wd_249 hX_layBest rfl rfl ⟨Nat.le_of_ble_eq_true rfl, Nat.le_of_ble_eq_true rfl⟩ [0, 1, 2, 3, 4, 5, 6, 7, 8, 9, 10, 11, 12, 13] [] ⟨rfl, rfl, rfl, rfl, rfl, rfl, kv_14_0_1_2_3_4_5_6_7_8_9_10_11_12_13⟩ rfl rfl rfl rfl rfl (Nat.le_of_ble_eq_true rfl) dX_culprit_1 ?_
  refine sj_if_ne C 10 dX_culprit_4 (by decide) (fun c_4 => ?_) (fun c_4 => ?_)
  · have hf := (if_neg c_4).symm.trans hf
    refine sj_bipush C dX_culprit_10 kb_m6 ?_
    refine sj_istore_n (lv' := [(1, .int (-6)), (0, .ref x0)]) C dX_culprit_12 rfl (by decide) rfl ?_
    refine sj_iconst C dX_culprit_13 ki_0 ?_
    refine sj_istore_n (lv' := [(2, .int 0), (1, .int (-6)), (0, .ref x0)]) C dX_culprit_14 rfl (by decide) rfl ?_
    refine sj_iconst C dX_culprit_15 ki_0 ?_
    refine sj_istore_n (lv' := [(3, .int 0), (2, .int 0), (1, .int (-6)), (0, .ref x0)]) C dX_culprit_16 rfl (by decide) rfl ?_
    exact sj_lv [3, 2, 1, 0] rfl (hb_17 fu (-6) 0 0 xl_1 sB_1 sO_1 sh_1 sw_1 sr_1 lI_1 lC_1 lT_1 lR_1 lth_1 lro_1 lsp_1 lle_1 lex_1 lco_1 lou_1 hf)
  · have hf := (if_pos c_4).symm.trans hf
    refine sj_bipush C dX_culprit_7 kb_m6 ?_
    cases hf
    exact hQ 9 _ dX_culprit_9
abbrev rX_fit : Room := { frames := 113, cells := 0, slots := 0, locals := 2263 }
set_option maxHeartbeats 4000000 in
set_option maxRecDepth 100000 in
theorem cX_fit (l : Launch) (dC : Nat → ClassId) (dI : Nat → Nat → Nat) (cI cZ cB : ClassId) (x0 x1 b0 b1 b2 b3 b4 s0 s1 s2 l0 l1 l2 l3 l4 : Nat) (xk xl : Int32) (bK bZ bL bM : Nat → Int32) (bi bg bh : Int32) (sB sO : Nat → Int32) (sh sw sr : Int32) (lI lC lT lR : Nat → Int32) (lth lro lsp lle lex lco lou : Int32) (p1 : Int32) (r : Int32) (sB' : Nat → Int32) (sO' : Nat → Int32) (sh' : Int32) (sw' : Int32) (sr' : Int32) (hf : fX_fit p1 bK bZ bL bM bi bg sB sO sh sw sr = some (r, sB', sO', sh', sw', sr')) : MI l yX_fit wX_fit rX_fit (dC, dI) (tyl cI cZ cB) [Value.ref x0, Value.int p1] (wdX cI cZ cB x0 x1 b0 b1 b2 b3 b4 s0 s1 s2 l0 l1 l2 l3 l4 xk xl bK bZ bL bM bi bg bh sB sO sh sw sr lI lC lT lR lth lro lsp lle lex lco lou) (wdX cI cZ cB x0 x1 b0 b1 b2 b3 b4 s0 s1 s2 l0 l1 l2 l3 l4 xk xl bK bZ bL bM bi bg bh sB' sO' sh' sw' sr' lI lC lT lR lth lro lsp lle lex lco lou) r := by
  refine MI_of "StepColumns" rfl (by decide) (Nat.le_of_ble_eq_true rfl) ?_
  intro p e s m below meth c A Q C hQ
  have hb_11 : ∀ (sB sO : Nat → Int32) (sh sw sr : Int32), fX_fit_b11 bK bZ bL bM bi bg sB sO sh sw sr = some (r, sB', sO', sh', sw', sr') → SJ p l e rX_fit s m (List.toArray [Value.ref x0, Value.int p1]) below meth c A (dC, dI) 4 Q (wdX cI cZ cB x0 x1 b0 b1 b2 b3 b4 s0 s1 s2 l0 l1 l2 l3 l4 xk xl bK bZ bL bM bi bg bh sB sO sh sw sr lI lC lT lR lth lro lsp lle lex lco lou) [] 11 [] := by
    intro sB sO sh sw sr hf
    unfold fX_fit_b11 at hf
    refine sj_bipush C dX_fit_11 kb_m2 ?_
    cases hf
    exact hQ 13 _ dX_fit_13
  have hb_69 : ∀ (K39 : Int32 → Int32 → Int32 → (Nat → Int32) → (Nat → Int32) → (Nat → Int32) → (Nat → Int32) → Int32 → Int32 → (Nat → Int32) → (Nat → Int32) → Int32 → Int32 → Int32 → Option (Int32 × (Nat → Int32) × (Nat → Int32) × Int32 × Int32 × Int32)) (hK39 : ∀ (v1 v2 v3 : Int32) (sB sO : Nat → Int32) (sh sw sr : Int32), K39 v1 v2 v3 bK bZ bL bM bi bg sB sO sh sw sr = some (r, sB', sO', sh', sw', sr') → SJ p l e rX_fit s m (List.toArray [Value.ref x0, Value.int p1]) below meth c A (dC, dI) 4 Q (wdX cI cZ cB x0 x1 b0 b1 b2 b3 b4 s0 s1 s2 l0 l1 l2 l3 l4 xk xl bK bZ bL bM bi bg bh sB sO sh sw sr lI lC lT lR lth lro lsp lle lex lco lou) [(0, .ref x0), (1, .int v1), (2, .int v2), (3, .int v3)] 39 []) (v1 v2 v3 : Int32) (sB sO : Nat → Int32) (sh sw sr : Int32), fX_fit_b69 K39 v1 v2 v3 bK bZ bL bM bi bg sB sO sh sw sr = some (r, sB', sO', sh', sw', sr') → SJ p l e rX_fit s m (List.toArray [Value.ref x0, Value.int p1]) below meth c A (dC, dI) 4 Q (wdX cI cZ cB x0 x1 b0 b1 b2 b3 b4 s0 s1 s2 l0 l1 l2 l3 l4 xk xl bK bZ bL bM bi bg bh sB sO sh sw sr lI lC lT lR lth lro lsp lle lex lco lou) [(0, .ref x0), (1, .int v1), (2, .int v2), (3, .int v3)] 69 [] := by
    intro K39 hK39 v1 v2 v3 sB sO sh sw sr hf
    unfold fX_fit_b69 at hf
    refine sj_iload_n C dX_fit_69 3 rfl rfl ?_
    refine sj_iconst C dX_fit_70 ki_2 ?_
    refine sj_idiv C dX_fit_71 kz_2 ?_
    refine sj_istore_n (lv' := [(3, .int (v3 / 2)), (0, .ref x0), (1, .int v1), (2, .int v2)]) C dX_fit_72 rfl (by decide) rfl ?_
    refine sj_goto C 39 dX_fit_73 (by decide) ?_
    exact sj_lv [1, 2, 3, 0] rfl (hK39 v1 v2 (v3 / 2) sB sO sh sw sr hf)
  have hb_39 : ∀ (n : Nat) (v1 v2 v3 : Int32) (sB sO : Nat → Int32) (sh sw sr : Int32), fX_fit_b39 n v1 v2 v3 bK bZ bL bM bi bg sB sO sh sw sr = some (r, sB', sO', sh', sw', sr') → SJ p l e rX_fit s m (List.toArray [Value.ref x0, Value.int p1]) below meth c A (dC, dI) 4 Q (wdX cI cZ cB x0 x1 b0 b1 b2 b3 b4 s0 s1 s2 l0 l1 l2 l3 l4 xk xl bK bZ bL bM bi bg bh sB sO sh sw sr lI lC lT lR lth lro lsp lle lex lco lou) [(0, .ref x0), (1, .int v1), (2, .int v2), (3, .int v3)] 39 [] := by
    intro n
    induction n with
    | zero => intro v1 v2 v3 sB sO sh sw sr hf; cases hf
    | succ n IH =>
      intro v1 v2 v3 sB sO sh sw sr hf
      unfold fX_fit_b39 at hf
      refine sj_iload_n C dX_fit_39 3 rfl rfl ?_
      refine sj_if_le C 76 dX_fit_40 (by decide) (fun c_40 => ?_) (fun c_40 => ?_)
      · have hf := (if_pos c_40).symm.trans hf
        refine sj_iload_n C dX_fit_76 2 rfl rfl ?_
        cases hf
        exact hQ 77 _ dX_fit_77
      · have hf := (if_neg c_40).symm.trans hf
        refine sj_iload_n C dX_fit_43 2 rfl rfl ?_
        refine sj_iload_n C dX_fit_44 3 rfl rfl ?_
        refine sj_isub C dX_fit_45 ?_
        refine sj_bipush C dX_fit_46 kb_12 ?_
        refine sj_icmp_lt C 69 dX_fit_48 (by decide) (fun c_48 => ?_) (fun c_48 => ?_)
        · have hf := (if_pos c_48).symm.trans hf
          exact sj_lv [0, 1, 2, 3] rfl (hb_69 (fX_fit_b39 n) IH v1 v2 v3 sB sO sh sw sr hf)
        · have hf := (if_neg c_48).symm.trans hf
          refine sj_aload_n C dX_fit_51 0 rfl rfl ?_
          refine sj_get C nX_in 0 rfl rfl 1 (by decide) wd_167 rfl rfl dX_fit_52 ?_
          refine sj_iload_n C dX_fit_55 2 rfl rfl ?_
          refine sj_iload_n C dX_fit_56 3 rfl rfl ?_
          refine sj_isub C dX_fit_57 ?_
          obtain ⟨r_58, sB_58, sO_58, sh_58, sw_58, sr_58, hq_58, hf⟩ := bd6_some hf
          refine sj_callVi (w1 := (wdX cI cZ cB x0 x1 b0 b1 b2 b3 b4 s0 s1 s2 l0 l1 l2 l3 l4 xk xl bK bZ bL bM bi bg bh sB_58 sO_58 sh_58 sw_58 sr_58 lI lC lT lR lth lro lsp lle lex lco lou)) (q0 := 0) C "StepColumns$Scale" (cS_fewestColumns l dC dI cI cZ cB s0 s1 s2 b0 b1 b2 b3 b4 sB sO sh sw sr bK bZ bL bM bi bg bh (v2 - v3) r_58 sB_58 sO_58 sh_58 sw_58 sr_58 hq_58) wd_404 wd_405 wd_406 wd_37 wd_407 hS_fewestColumns rfl rfl ⟨Nat.le_of_ble_eq_true rfl, Nat.le_of_ble_eq_true rfl⟩ [6, 7, 8, 1, 2, 3, 4, 5] [0, 9, 10, 11, 12, 13] ⟨rfl, rfl, rfl, rfl, rfl, rfl, kv_14_6_7_8_1_2_3_4_5⟩ rfl rfl rfl rfl rfl (Nat.le_of_ble_eq_true rfl) dX_fit_58 ?_
          refine sj_iload_n C dX_fit_61 1 rfl rfl ?_
          refine sj_icmp_gt C 69 dX_fit_62 (by decide) (fun c_62 => ?_) (fun c_62 => ?_)
          · have hf := (if_pos c_62).symm.trans hf
            exact sj_lv [0, 1, 2, 3] rfl (hb_69 (fX_fit_b39 n) IH v1 v2 v3 sB_58 sO_58 sh_58 sw_58 sr_58 hf)
          · have hf := (if_neg c_62).symm.trans hf
            refine sj_iload_n C dX_fit_65 2 rfl rfl ?_
            refine sj_iload_n C dX_fit_66 3 rfl rfl ?_
            refine sj_isub C dX_fit_67 ?_
            refine sj_istore_n (lv' := [(2, .int (v2 - v3)), (0, .ref x0), (1, .int v1), (3, .int v3)]) C dX_fit_68 rfl (by decide) rfl ?_
            exact sj_lv [1, 2, 0, 3] rfl (hb_69 (fX_fit_b39 n) IH v1 (v2 - v3) v3 sB_58 sO_58 sh_58 sw_58 sr_58 hf)
  unfold fX_fit at hf
  change SJ p l e rX_fit s m (List.toArray [Value.ref x0, Value.int p1]) below meth c A (dC, dI) 4 Q (wdX cI cZ cB x0 x1 b0 b1 b2 b3 b4 s0 s1 s2 l0 l1 l2 l3 l4 xk xl bK bZ bL bM bi bg bh sB sO sh sw sr lI lC lT lR lth lro lsp lle lex lco lou) [(0, .ref x0), (1, .int p1)] 0 []
  refine sj_iload_n C dX_fit_0 1 rfl rfl ?_
  refine sj_if_lt C 11 dX_fit_1 (by decide) (fun c_1 => ?_) (fun c_1 => ?_)
  · have hf := (if_pos c_1).symm.trans hf
    exact sj_lv [] rfl (hb_11 sB sO sh sw sr hf)
  · have hf := (if_neg c_1).symm.trans hf
    refine sj_iload_n C dX_fit_4 1 rfl rfl ?_
    refine sj_sipush C dX_fit_5 ks_150 ?_
    refine sj_icmp_le C 14 dX_fit_8 (by decide) (fun c_8 => ?_) (fun c_8 => ?_)
    · have hf := (if_pos c_8).symm.trans hf
      refine sj_aload_n C dX_fit_14 0 rfl rfl ?_
      refine sj_get C nX_in 0 rfl rfl 1 (by decide) wd_167 rfl rfl dX_fit_15 ?_
      refine sj_sipush C dX_fit_18 ks_200 ?_
      obtain ⟨r_21, sB_21, sO_21, sh_21, sw_21, sr_21, hq_21, hf⟩ := bd6_some hf
      refine sj_callVi (w1 := (wdX cI cZ cB x0 x1 b0 b1 b2 b3 b4 s0 s1 s2 l0 l1 l2 l3 l4 xk xl bK bZ bL bM bi bg bh sB_21 sO_21 sh_21 sw_21 sr_21 lI lC lT lR lth lro lsp lle lex lco lou)) (q0 := 0) C "StepColumns$Scale" (cS_fewestColumns l dC dI cI cZ cB s0 s1 s2 b0 b1 b2 b3 b4 sB sO sh sw sr bK bZ bL bM bi bg bh 200 r_21 sB_21 sO_21 sh_21 sw_21 sr_21 hq_21) wd_404 wd_405 wd_406 wd_37 wd_407 hS_fewestColumns rfl rfl ⟨Nat.le_of_ble_eq_true rfl, Nat.le_of_ble_eq_true rfl⟩ [6, 7, 8, 1, 2, 3, 4, 5] [0, 9, 10, 11, 12, 13] ⟨rfl, rfl, rfl, rfl, rfl, rfl, kv_14_6_7_8_1_2_3_4_5⟩ rfl rfl rfl rfl rfl (Nat.le_of_ble_eq_true rfl) dX_fit_21 ?_
      refine sj_iload_n C dX_fit_24 1 rfl rfl ?_
      refine sj_icmp_le C 31 dX_fit_25 (by decide) (fun c_25 => ?_) (fun c_25 => ?_)
      · have hf := (if_pos c_25).symm.trans hf
        refine sj_sipush C dX_fit_31 ks_200 ?_
        refine sj_istore_n (lv' := [(2, .int 200), (0, .ref x0), (1, .int p1)]) C dX_fit_34 rfl (by decide) rfl ?_
        refine sj_sipush C dX_fit_35 ks_128 ?_
        refine sj_istore_n (lv' := [(3, .int 128), (2, .int 200), (0, .ref x0), (1, .int p1)]) C dX_fit_38 rfl (by decide) rfl ?_
        exact sj_lv [2, 3, 1, 0] rfl (hb_39 fu p1 200 128 sB_21 sO_21 sh_21 sw_21 sr_21 hf)
      · have hf := (if_neg c_25).symm.trans hf
        refine sj_bipush C dX_fit_28 kb_m6 ?_
        cases hf
        exact hQ 30 _ dX_fit_30
    · have hf := (if_neg c_8).symm.trans hf
      exact sj_lv [] rfl (hb_11 sB sO sh sw sr hf)
abbrev rX_image : Room := { frames := 1, cells := 0, slots := 0, locals := 22 }
set_option maxHeartbeats 4000000 in
set_option maxRecDepth 100000 in
theorem cX_image (l : Launch) (dC : Nat → ClassId) (dI : Nat → Nat → Nat) (cI cZ cB : ClassId) (x0 x1 s0 l0 b0 b1 b2 b3 b4 i0 i1 i2 i3 i4 j0 j1 j2 j3 j4 : Nat) (xk xl : Int32) (bK bZ bL bM : Nat → Int32) (bi bg bh : Int32) (iK iZ iL iM : Nat → Int32) (ii ig ih : Int32) (jK jZ jL jM : Nat → Int32) (ji jg jh : Int32) (p1 : Int32) (r : Int32) (xk' : Int32) (iK' : Nat → Int32) (iZ' : Nat → Int32) (iL' : Nat → Int32) (iM' : Nat → Int32) (ii' : Int32) (ig' : Int32) (ih' : Int32) (jK' : Nat → Int32) (jZ' : Nat → Int32) (jL' : Nat → Int32) (jM' : Nat → Int32) (ji' : Int32) (jg' : Int32) (jh' : Int32) (hf : fX_image p1 xk bK bZ bL bM bi bg bh iK iZ iL iM ii ig ih jK jZ jL jM ji jg jh = some (r, xk', iK', iZ', iL', iM', ii', ig', ih', jK', jZ', jL', jM', ji', jg', jh')) : MI l yX_image wX_image rX_image (dC, dI) (tyl cI cZ cB) [Value.ref x0, Value.int p1] (wdXI cI cZ cB x0 x1 s0 l0 b0 b1 b2 b3 b4 i0 i1 i2 i3 i4 j0 j1 j2 j3 j4 xk xl bK bZ bL bM bi bg bh iK iZ iL iM ii ig ih jK jZ jL jM ji jg jh) (wdXI cI cZ cB x0 x1 s0 l0 b0 b1 b2 b3 b4 i0 i1 i2 i3 i4 j0 j1 j2 j3 j4 xk' xl bK bZ bL bM bi bg bh iK' iZ' iL' iM' ii' ig' ih' jK' jZ' jL' jM' ji' jg' jh') r := by
  refine MI_of "StepColumns" rfl (by decide) (Nat.le_of_ble_eq_true rfl) ?_
  intro p e s m below meth c A Q C hQ
  have hb_9 : ∀ (xk : Int32) (iK iZ iL iM : Nat → Int32) (ii ig ih : Int32) (jK jZ jL jM : Nat → Int32) (ji jg jh : Int32), fX_image_b9 xk bK bZ bL bM bi bg bh iK iZ iL iM ii ig ih jK jZ jL jM ji jg jh = some (r, xk', iK', iZ', iL', iM', ii', ig', ih', jK', jZ', jL', jM', ji', jg', jh') → SJ p l e rX_image s m (List.toArray [Value.ref x0, Value.int p1]) below meth c A (dC, dI) 2 Q (wdXI cI cZ cB x0 x1 s0 l0 b0 b1 b2 b3 b4 i0 i1 i2 i3 i4 j0 j1 j2 j3 j4 xk xl bK bZ bL bM bi bg bh iK iZ iL iM ii ig ih jK jZ jL jM ji jg jh) [] 9 [] := by
    intro xk iK iZ iL iM ii ig ih jK jZ jL jM ji jg jh hf
    unfold fX_image_b9 at hf
    refine sj_bipush C dX_image_9 kb_m2 ?_
    cases hf
    exact hQ 11 _ dX_image_11
  unfold fX_image at hf
  change SJ p l e rX_image s m (List.toArray [Value.ref x0, Value.int p1]) below meth c A (dC, dI) 2 Q (wdXI cI cZ cB x0 x1 s0 l0 b0 b1 b2 b3 b4 i0 i1 i2 i3 i4 j0 j1 j2 j3 j4 xk xl bK bZ bL bM bi bg bh iK iZ iL iM ii ig ih jK jZ jL jM ji jg jh) [(0, .ref x0), (1, .int p1)] 0 []
  refine sj_iload_n C dX_image_0 1 rfl rfl ?_
  refine sj_if_lt C 9 dX_image_1 (by decide) (fun c_1 => ?_) (fun c_1 => ?_)
  · have hf := (if_pos c_1).symm.trans hf
    exact sj_lv [] rfl (hb_9 xk iK iZ iL iM ii ig ih jK jZ jL jM ji jg jh hf)
  · have hf := (if_neg c_1).symm.trans hf
    refine sj_iload_n C dX_image_4 1 rfl rfl ?_
    refine sj_iconst C dX_image_5 ki_2 ?_
    refine sj_icmp_lt C 12 dX_image_6 (by decide) (fun c_6 => ?_) (fun c_6 => ?_)
    · have hf := (if_pos c_6).symm.trans hf
      refine sj_aload_n C dX_image_12 0 rfl rfl ?_
      refine sj_get C nX_in 0 rfl rfl 3 (by decide) wd_169 rfl rfl dX_image_13 ?_
      refine sj_iload_n C dX_image_16 1 rfl rfl ?_
      by_cases c_17 : p1 = 0
      · have hf := (if_pos c_17).symm.trans hf
        refine sj_aald (b := i0) C 1 2 rfl rfl (by rw [c_17]; decide +kernel) (by rw [c_17, kc_0]; rfl) dX_image_17 ?_
        refine sj_aload_n C dX_image_18 0 rfl rfl ?_
        refine sj_get C nX_in 0 rfl rfl 0 (by decide) wd_166 rfl rfl dX_image_19 ?_
        obtain ⟨iK_22, iZ_22, iL_22, iM_22, ii_22, ig_22, ih_22, hq_22, hf⟩ := bd7_some hf
        refine sj_callVv (w1 := (wdXI cI cZ cB x0 x1 s0 l0 b0 b1 b2 b3 b4 i0 i1 i2 i3 i4 j0 j1 j2 j3 j4 xk xl bK bZ bL bM bi bg bh iK_22 iZ_22 iL_22 iM_22 ii_22 ig_22 ih_22 jK jZ jL jM ji jg jh)) (q0 := 0) C "StepColumns$Book" (cB_copy l dC dI cI cZ cB i0 i1 i2 i3 i4 b0 b1 b2 b3 b4 iK iZ iL iM ii ig ih bK bZ bL bM bi bg bh  iK_22 iZ_22 iL_22 iM_22 ii_22 ig_22 ih_22 hq_22) wd_412 wd_413 wd_414 wd_36 wd_415 hB_copy rfl rfl ⟨Nat.le_of_ble_eq_true rfl, Nat.le_of_ble_eq_true rfl⟩ [7, 8, 9, 10, 11, 2, 3, 4, 5, 6] [0, 1, 12, 13, 14, 15, 16] ⟨rfl, rfl, rfl, rfl, rfl, rfl, kv_17_7_8_9_10_11_2_3_4_5_6⟩ rfl rfl rfl rfl rfl (Nat.le_of_ble_eq_true rfl) dX_image_22 ?_
        refine sj_aload_n C dX_image_25 0 rfl rfl ?_
        refine sj_dup C dX_image_26 rfl ?_
        refine sj_get C nX_in 0 rfl rfl 4 (by decide) wd_170 rfl rfl dX_image_27 ?_
        refine sj_iconst C dX_image_30 ki_1 ?_
        refine sj_iload_n C dX_image_31 1 rfl rfl ?_
        refine sj_ishl C dX_image_32 ?_
        refine sj_ior C dX_image_33 ?_
        refine sj_put (w' := (wdXI cI cZ cB x0 x1 s0 l0 b0 b1 b2 b3 b4 i0 i1 i2 i3 i4 j0 j1 j2 j3 j4 ((xk ||| (1 <<< (p1 &&& 31)))) xl bK bZ bL bM bi bg bh iK_22 iZ_22 iL_22 iM_22 ii_22 ig_22 ih_22 jK jZ jL jM ji jg jh)) C nX_in nX_ty nX_ok nX_nm 0 rfl rfl 4 (by decide) wd_170 rfl rfl rfl rfl (Nat.le_of_ble_eq_true rfl) dX_image_34 rfl ?_
        refine sj_iconst C dX_image_37 ki_1 ?_
        cases hf
        exact hQ 38 _ dX_image_38
      have hf := (if_neg c_17).symm.trans hf
      by_cases e_17 : p1 = 1
      · have hf := (if_pos e_17).symm.trans hf
        refine sj_aald (b := j0) C 1 2 rfl rfl (by rw [e_17]; decide +kernel) (by rw [e_17, kc_1]; rfl) dX_image_17 ?_
        refine sj_aload_n C dX_image_18 0 rfl rfl ?_
        refine sj_get C nX_in 0 rfl rfl 0 (by decide) wd_166 rfl rfl dX_image_19 ?_
        obtain ⟨jK_22, jZ_22, jL_22, jM_22, ji_22, jg_22, jh_22, hq_22, hf⟩ := bd7_some hf
        refine sj_callVv (w1 := (wdXI cI cZ cB x0 x1 s0 l0 b0 b1 b2 b3 b4 i0 i1 i2 i3 i4 j0 j1 j2 j3 j4 xk xl bK bZ bL bM bi bg bh iK iZ iL iM ii ig ih jK_22 jZ_22 jL_22 jM_22 ji_22 jg_22 jh_22)) (q0 := 0) C "StepColumns$Book" (cB_copy l dC dI cI cZ cB j0 j1 j2 j3 j4 b0 b1 b2 b3 b4 jK jZ jL jM ji jg jh bK bZ bL bM bi bg bh  jK_22 jZ_22 jL_22 jM_22 ji_22 jg_22 jh_22 hq_22) wd_412 wd_413 wd_414 wd_36 wd_415 hB_copy rfl rfl ⟨Nat.le_of_ble_eq_true rfl, Nat.le_of_ble_eq_true rfl⟩ [12, 13, 14, 15, 16, 2, 3, 4, 5, 6] [0, 1, 7, 8, 9, 10, 11] ⟨rfl, rfl, rfl, rfl, rfl, rfl, kv_17_12_13_14_15_16_2_3_4_5_6⟩ rfl rfl rfl rfl rfl (Nat.le_of_ble_eq_true rfl) dX_image_22 ?_
        refine sj_aload_n C dX_image_25 0 rfl rfl ?_
        refine sj_dup C dX_image_26 rfl ?_
        refine sj_get C nX_in 0 rfl rfl 4 (by decide) wd_170 rfl rfl dX_image_27 ?_
        refine sj_iconst C dX_image_30 ki_1 ?_
        refine sj_iload_n C dX_image_31 1 rfl rfl ?_
        refine sj_ishl C dX_image_32 ?_
        refine sj_ior C dX_image_33 ?_
        refine sj_put (w' := (wdXI cI cZ cB x0 x1 s0 l0 b0 b1 b2 b3 b4 i0 i1 i2 i3 i4 j0 j1 j2 j3 j4 ((xk ||| (1 <<< (p1 &&& 31)))) xl bK bZ bL bM bi bg bh iK iZ iL iM ii ig ih jK_22 jZ_22 jL_22 jM_22 ji_22 jg_22 jh_22)) C nX_in nX_ty nX_ok nX_nm 0 rfl rfl 4 (by decide) wd_170 rfl rfl rfl rfl (Nat.le_of_ble_eq_true rfl) dX_image_34 rfl ?_
        refine sj_iconst C dX_image_37 ki_1 ?_
        cases hf
        exact hQ 38 _ dX_image_38
      have hf := (if_neg e_17).symm.trans hf
      cases hf
    · have hf := (if_neg c_6).symm.trans hf
      exact sj_lv [] rfl (hb_9 xk iK iZ iL iM ii ig ih jK jZ jL jM ji jg jh hf)
abbrev rX_restore : Room := { frames := 1, cells := 0, slots := 0, locals := 22 }
set_option maxHeartbeats 4000000 in
set_option maxRecDepth 100000 in
theorem cX_restore (l : Launch) (dC : Nat → ClassId) (dI : Nat → Nat → Nat) (cI cZ cB : ClassId) (x0 x1 s0 l0 b0 b1 b2 b3 b4 i0 i1 i2 i3 i4 j0 j1 j2 j3 j4 : Nat) (xk xl : Int32) (bK bZ bL bM : Nat → Int32) (bi bg bh : Int32) (iK iZ iL iM : Nat → Int32) (ii ig ih : Int32) (jK jZ jL jM : Nat → Int32) (ji jg jh : Int32) (p1 : Int32) (r : Int32) (xl' : Int32) (bK' : Nat → Int32) (bZ' : Nat → Int32) (bL' : Nat → Int32) (bM' : Nat → Int32) (bi' : Int32) (bg' : Int32) (bh' : Int32) (hf : fX_restore p1 xk xl bK bZ bL bM bi bg bh iK iZ iL iM ii ig ih jK jZ jL jM ji jg jh = some (r, xl', bK', bZ', bL', bM', bi', bg', bh')) : MI l yX_restore wX_restore rX_restore (dC, dI) (tyl cI cZ cB) [Value.ref x0, Value.int p1] (wdXI cI cZ cB x0 x1 s0 l0 b0 b1 b2 b3 b4 i0 i1 i2 i3 i4 j0 j1 j2 j3 j4 xk xl bK bZ bL bM bi bg bh iK iZ iL iM ii ig ih jK jZ jL jM ji jg jh) (wdXI cI cZ cB x0 x1 s0 l0 b0 b1 b2 b3 b4 i0 i1 i2 i3 i4 j0 j1 j2 j3 j4 xk xl' bK' bZ' bL' bM' bi' bg' bh' iK iZ iL iM ii ig ih jK jZ jL jM ji jg jh) r := by
  refine MI_of "StepColumns" rfl (by decide) (Nat.le_of_ble_eq_true rfl) ?_
  intro p e s m below meth c A Q C hQ
  have hb_9 : ∀ (xl : Int32) (bK bZ bL bM : Nat → Int32) (bi bg bh : Int32), fX_restore_b9 xk xl bK bZ bL bM bi bg bh iK iZ iL iM ii ig ih jK jZ jL jM ji jg jh = some (r, xl', bK', bZ', bL', bM', bi', bg', bh') → SJ p l e rX_restore s m (List.toArray [Value.ref x0, Value.int p1]) below meth c A (dC, dI) 2 Q (wdXI cI cZ cB x0 x1 s0 l0 b0 b1 b2 b3 b4 i0 i1 i2 i3 i4 j0 j1 j2 j3 j4 xk xl bK bZ bL bM bi bg bh iK iZ iL iM ii ig ih jK jZ jL jM ji jg jh) [] 9 [] := by
    intro xl bK bZ bL bM bi bg bh hf
    unfold fX_restore_b9 at hf
    refine sj_bipush C dX_restore_9 kb_m2 ?_
    cases hf
    exact hQ 11 _ dX_restore_11
  unfold fX_restore at hf
  change SJ p l e rX_restore s m (List.toArray [Value.ref x0, Value.int p1]) below meth c A (dC, dI) 2 Q (wdXI cI cZ cB x0 x1 s0 l0 b0 b1 b2 b3 b4 i0 i1 i2 i3 i4 j0 j1 j2 j3 j4 xk xl bK bZ bL bM bi bg bh iK iZ iL iM ii ig ih jK jZ jL jM ji jg jh) [(0, .ref x0), (1, .int p1)] 0 []
  refine sj_iload_n C dX_restore_0 1 rfl rfl ?_
  refine sj_if_lt C 9 dX_restore_1 (by decide) (fun c_1 => ?_) (fun c_1 => ?_)
  · have hf := (if_pos c_1).symm.trans hf
    exact sj_lv [] rfl (hb_9 xl bK bZ bL bM bi bg bh hf)
  · have hf := (if_neg c_1).symm.trans hf
    refine sj_iload_n C dX_restore_4 1 rfl rfl ?_
    refine sj_iconst C dX_restore_5 ki_2 ?_
    refine sj_icmp_lt C 12 dX_restore_6 (by decide) (fun c_6 => ?_) (fun c_6 => ?_)
    · have hf := (if_pos c_6).symm.trans hf
      refine sj_aload_n C dX_restore_12 0 rfl rfl ?_
      refine sj_get C nX_in 0 rfl rfl 4 (by decide) wd_170 rfl rfl dX_restore_13 ?_
      refine sj_iload_n C dX_restore_16 1 rfl rfl ?_
      refine sj_ishr C dX_restore_17 ?_
      refine sj_iconst C dX_restore_18 ki_1 ?_
      refine sj_iand C dX_restore_19 ?_
      refine sj_if_ne C 26 dX_restore_20 (by decide) (fun c_20 => ?_) (fun c_20 => ?_)
      · have hf := (if_neg c_20).symm.trans hf
        refine sj_aload_n C dX_restore_26 0 rfl rfl ?_
        refine sj_get C nX_in 0 rfl rfl 0 (by decide) wd_166 rfl rfl dX_restore_27 ?_
        refine sj_aload_n C dX_restore_30 0 rfl rfl ?_
        refine sj_get C nX_in 0 rfl rfl 3 (by decide) wd_169 rfl rfl dX_restore_31 ?_
        refine sj_iload_n C dX_restore_34 1 rfl rfl ?_
        by_cases c_35 : p1 = 0
        · have hf := (if_pos c_35).symm.trans hf
          refine sj_aald (b := i0) C 1 2 rfl rfl (by rw [c_35]; decide +kernel) (by rw [c_35, kc_0]; rfl) dX_restore_35 ?_
          obtain ⟨bK_36, bZ_36, bL_36, bM_36, bi_36, bg_36, bh_36, hq_36, hf⟩ := bd7_some hf
          refine sj_callVv (w1 := (wdXI cI cZ cB x0 x1 s0 l0 b0 b1 b2 b3 b4 i0 i1 i2 i3 i4 j0 j1 j2 j3 j4 xk xl bK_36 bZ_36 bL_36 bM_36 bi_36 bg_36 bh_36 iK iZ iL iM ii ig ih jK jZ jL jM ji jg jh)) (q0 := 0) C "StepColumns$Book" (cB_copy l dC dI cI cZ cB b0 b1 b2 b3 b4 i0 i1 i2 i3 i4 bK bZ bL bM bi bg bh iK iZ iL iM ii ig ih  bK_36 bZ_36 bL_36 bM_36 bi_36 bg_36 bh_36 hq_36) wd_412 wd_413 wd_414 wd_36 wd_415 hB_copy rfl rfl ⟨Nat.le_of_ble_eq_true rfl, Nat.le_of_ble_eq_true rfl⟩ [2, 3, 4, 5, 6, 7, 8, 9, 10, 11] [0, 1, 12, 13, 14, 15, 16] ⟨rfl, rfl, rfl, rfl, rfl, rfl, kv_17_2_3_4_5_6_7_8_9_10_11⟩ rfl rfl rfl rfl rfl (Nat.le_of_ble_eq_true rfl) dX_restore_36 ?_
          refine sj_aload_n C dX_restore_39 0 rfl rfl ?_
          refine sj_iconst C dX_restore_40 ki_0 ?_
          refine sj_put (w' := (wdXI cI cZ cB x0 x1 s0 l0 b0 b1 b2 b3 b4 i0 i1 i2 i3 i4 j0 j1 j2 j3 j4 xk 0 bK_36 bZ_36 bL_36 bM_36 bi_36 bg_36 bh_36 iK iZ iL iM ii ig ih jK jZ jL jM ji jg jh)) C nX_in nX_ty nX_ok nX_nm 0 rfl rfl 5 (by decide) wd_171 rfl rfl (z01_nar (Or.inl rfl)) (z01_fit (Or.inl rfl)) (Nat.le_of_ble_eq_true rfl) dX_restore_41 rfl ?_
          refine sj_iconst C dX_restore_44 ki_1 ?_
          cases hf
          exact hQ 45 _ dX_restore_45
        have hf := (if_neg c_35).symm.trans hf
        by_cases e_35 : p1 = 1
        · have hf := (if_pos e_35).symm.trans hf
          refine sj_aald (b := j0) C 1 2 rfl rfl (by rw [e_35]; decide +kernel) (by rw [e_35, kc_1]; rfl) dX_restore_35 ?_
          obtain ⟨bK_36, bZ_36, bL_36, bM_36, bi_36, bg_36, bh_36, hq_36, hf⟩ := bd7_some hf
          refine sj_callVv (w1 := (wdXI cI cZ cB x0 x1 s0 l0 b0 b1 b2 b3 b4 i0 i1 i2 i3 i4 j0 j1 j2 j3 j4 xk xl bK_36 bZ_36 bL_36 bM_36 bi_36 bg_36 bh_36 iK iZ iL iM ii ig ih jK jZ jL jM ji jg jh)) (q0 := 0) C "StepColumns$Book" (cB_copy l dC dI cI cZ cB b0 b1 b2 b3 b4 j0 j1 j2 j3 j4 bK bZ bL bM bi bg bh jK jZ jL jM ji jg jh  bK_36 bZ_36 bL_36 bM_36 bi_36 bg_36 bh_36 hq_36) wd_412 wd_413 wd_414 wd_36 wd_415 hB_copy rfl rfl ⟨Nat.le_of_ble_eq_true rfl, Nat.le_of_ble_eq_true rfl⟩ [2, 3, 4, 5, 6, 12, 13, 14, 15, 16] [0, 1, 7, 8, 9, 10, 11] ⟨rfl, rfl, rfl, rfl, rfl, rfl, kv_17_2_3_4_5_6_12_13_14_15_16⟩ rfl rfl rfl rfl rfl (Nat.le_of_ble_eq_true rfl) dX_restore_36 ?_
          refine sj_aload_n C dX_restore_39 0 rfl rfl ?_
          refine sj_iconst C dX_restore_40 ki_0 ?_
          refine sj_put (w' := (wdXI cI cZ cB x0 x1 s0 l0 b0 b1 b2 b3 b4 i0 i1 i2 i3 i4 j0 j1 j2 j3 j4 xk 0 bK_36 bZ_36 bL_36 bM_36 bi_36 bg_36 bh_36 iK iZ iL iM ii ig ih jK jZ jL jM ji jg jh)) C nX_in nX_ty nX_ok nX_nm 0 rfl rfl 5 (by decide) wd_171 rfl rfl (z01_nar (Or.inl rfl)) (z01_fit (Or.inl rfl)) (Nat.le_of_ble_eq_true rfl) dX_restore_41 rfl ?_
          refine sj_iconst C dX_restore_44 ki_1 ?_
          cases hf
          exact hQ 45 _ dX_restore_45
        have hf := (if_neg e_35).symm.trans hf
        cases hf
      · have hf := (if_pos c_20).symm.trans hf
        refine sj_bipush C dX_restore_23 kb_m3 ?_
        cases hf
        exact hQ 25 _ dX_restore_25
    · have hf := (if_neg c_6).symm.trans hf
      exact sj_lv [] rfl (hb_9 xl bK bZ bL bM bi bg bh hf)
abbrev rX_count : Room := { frames := 2, cells := 0, slots := 0, locals := 44 }
set_option maxHeartbeats 4000000 in
set_option maxRecDepth 100000 in
theorem cX_count (l : Launch) (dC : Nat → ClassId) (dI : Nat → Nat → Nat) (cI cZ cB : ClassId) (x0 x1 b0 b1 b2 b3 b4 s0 s1 s2 l0 l1 l2 l3 l4 : Nat) (xk xl : Int32) (bK bZ bL bM : Nat → Int32) (bi bg bh : Int32) (sB sO : Nat → Int32) (sh sw sr : Int32) (lI lC lT lR : Nat → Int32) (lth lro lsp lle lex lco lou : Int32) (p1 : Int32) (r : Int32)  (hf : fX_count p1 xk bK bZ bi bg bh = some r) : MI l yX_count wX_count rX_count (dC, dI) (tyl cI cZ cB) [Value.ref x0, Value.int p1] (wdX cI cZ cB x0 x1 b0 b1 b2 b3 b4 s0 s1 s2 l0 l1 l2 l3 l4 xk xl bK bZ bL bM bi bg bh sB sO sh sw sr lI lC lT lR lth lro lsp lle lex lco lou) (wdX cI cZ cB x0 x1 b0 b1 b2 b3 b4 s0 s1 s2 l0 l1 l2 l3 l4 xk xl bK bZ bL bM bi bg bh sB sO sh sw sr lI lC lT lR lth lro lsp lle lex lco lou) r := by
  refine MI_of "StepColumns" rfl (by decide) (Nat.le_of_ble_eq_true rfl) ?_
  intro p e s m below meth c A Q C hQ
  unfold fX_count at hf
  change SJ p l e rX_count s m (List.toArray [Value.ref x0, Value.int p1]) below meth c A (dC, dI) 2 Q (wdX cI cZ cB x0 x1 b0 b1 b2 b3 b4 s0 s1 s2 l0 l1 l2 l3 l4 xk xl bK bZ bL bM bi bg bh sB sO sh sw sr lI lC lT lR lth lro lsp lle lex lco lou) [(0, .ref x0), (1, .int p1)] 0 []
  refine sj_iload_n C dX_count_0 1 rfl rfl ?_
  by_cases c_1_0 : p1 = 0
  · have hf := (if_pos c_1_0).symm.trans hf
    refine sj_tabIn (off := 67) C 68 0 c_1_0 dX_count_1 (by decide +kernel) (by decide +kernel) (by decide +kernel) (by decide) ?_
    refine sj_aload_n C dX_count_68 0 rfl rfl ?_
    refine sj_get C nX_in 0 rfl rfl 0 (by decide) wd_166 rfl rfl dX_count_69 ?_
    refine sj_get C nB_in 1 rfl rfl 4 (by decide) wd_70 rfl rfl dX_count_72 ?_
    cases hf
    exact hQ 75 _ dX_count_75
  have hf := (if_neg c_1_0).symm.trans hf
  by_cases c_1_1 : p1 = 1
  · have hf := (if_pos c_1_1).symm.trans hf
    refine sj_tabIn (off := 75) C 76 1 c_1_1 dX_count_1 (by decide +kernel) (by decide +kernel) (by decide +kernel) (by decide) ?_
    refine sj_aload_n C dX_count_76 0 rfl rfl ?_
    refine sj_get C nX_in 0 rfl rfl 0 (by decide) wd_166 rfl rfl dX_count_77 ?_
    refine sj_aload_n C dX_count_80 0 rfl rfl ?_
    refine sj_get C nX_in 0 rfl rfl 0 (by decide) wd_166 rfl rfl dX_count_81 ?_
    refine sj_get C nB_in 1 rfl rfl 4 (by decide) wd_70 rfl rfl dX_count_84 ?_
    obtain ⟨r_87, hq_87, hf⟩ := bd1_some hf
    refine sj_callVi (w1 := (wdX cI cZ cB x0 x1 b0 b1 b2 b3 b4 s0 s1 s2 l0 l1 l2 l3 l4 xk xl bK bZ bL bM bi bg bh sB sO sh sw sr lI lC lT lR lth lro lsp lle lex lco lou)) (q0 := 0) C "StepColumns$Book" (cB_thingsBefore l dC dI cI cZ cB b0 b1 b2 b3 b4 bK bZ bL bM bi bg bh bi r_87 hq_87) wd_346 wd_347 wd_348 wd_36 wd_349 hB_thingsBefore rfl rfl ⟨Nat.le_of_ble_eq_true rfl, Nat.le_of_ble_eq_true rfl⟩ [1, 2, 3, 4, 5] [0, 6, 7, 8, 9, 10, 11, 12, 13] ⟨rfl, rfl, rfl, rfl, rfl, rfl, kv_14_1_2_3_4_5⟩ rfl rfl rfl rfl rfl (Nat.le_of_ble_eq_true rfl) dX_count_87 ?_
    cases hf
    exact hQ 90 _ dX_count_90
  have hf := (if_neg c_1_1).symm.trans hf
  by_cases c_1_2 : p1 = 2
  · have hf := (if_pos c_1_2).symm.trans hf
    refine sj_tabIn (off := 90) C 91 2 c_1_2 dX_count_1 (by decide +kernel) (by decide +kernel) (by decide +kernel) (by decide) ?_
    refine sj_aload_n C dX_count_91 0 rfl rfl ?_
    refine sj_get C nX_in 0 rfl rfl 0 (by decide) wd_166 rfl rfl dX_count_92 ?_
    refine sj_get C nB_in 1 rfl rfl 5 (by decide) wd_73 rfl rfl dX_count_95 ?_
    cases hf
    exact hQ 98 _ dX_count_98
  have hf := (if_neg c_1_2).symm.trans hf
  by_cases c_1_3 : p1 = 3
  · have hf := (if_pos c_1_3).symm.trans hf
    refine sj_tabIn (off := 98) C 99 3 c_1_3 dX_count_1 (by decide +kernel) (by decide +kernel) (by decide +kernel) (by decide) ?_
    refine sj_aload_n C dX_count_99 0 rfl rfl ?_
    refine sj_get C nX_in 0 rfl rfl 0 (by decide) wd_166 rfl rfl dX_count_100 ?_
    refine sj_get C nB_in 1 rfl rfl 6 (by decide) wd_77 rfl rfl dX_count_103 ?_
    cases hf
    exact hQ 106 _ dX_count_106
  have hf := (if_neg c_1_3).symm.trans hf
  by_cases c_1_4 : p1 = 4
  · have hf := (if_pos c_1_4).symm.trans hf
    refine sj_tabIn (off := 106) C 107 4 c_1_4 dX_count_1 (by decide +kernel) (by decide +kernel) (by decide +kernel) (by decide) ?_
    refine sj_aload_n C dX_count_107 0 rfl rfl ?_
    refine sj_get C nX_in 0 rfl rfl 4 (by decide) wd_170 rfl rfl dX_count_108 ?_
    cases hf
    exact hQ 111 _ dX_count_111
  have hf := (if_neg c_1_4).symm.trans hf
  by_cases c_1_10 : p1 = 10
  · have hf := (if_pos c_1_10).symm.trans hf
    refine sj_tabIn (off := 111) C 112 10 c_1_10 dX_count_1 (by decide +kernel) (by decide +kernel) (by decide +kernel) (by decide) ?_
    refine sj_aload_n C dX_count_112 0 rfl rfl ?_
    refine sj_get C nX_in 0 rfl rfl 0 (by decide) wd_166 rfl rfl dX_count_113 ?_
    refine sj_iconst C dX_count_116 ki_0 ?_
    obtain ⟨r_117, hq_117, hf⟩ := bd1_some hf
    refine sj_callVi (w1 := (wdX cI cZ cB x0 x1 b0 b1 b2 b3 b4 s0 s1 s2 l0 l1 l2 l3 l4 xk xl bK bZ bL bM bi bg bh sB sO sh sw sr lI lC lT lR lth lro lsp lle lex lco lou)) (q0 := 0) C "StepColumns$Book" (cB_itemsOf l dC dI cI cZ cB b0 b1 b2 b3 b4 bK bZ bL bM bi bg bh 0 r_117 hq_117) wd_424 wd_425 wd_426 wd_36 wd_427 hB_itemsOf rfl rfl ⟨Nat.le_of_ble_eq_true rfl, Nat.le_of_ble_eq_true rfl⟩ [1, 2, 3, 4, 5] [0, 6, 7, 8, 9, 10, 11, 12, 13] ⟨rfl, rfl, rfl, rfl, rfl, rfl, kv_14_1_2_3_4_5⟩ rfl rfl rfl rfl rfl (Nat.le_of_ble_eq_true rfl) dX_count_117 ?_
    cases hf
    exact hQ 120 _ dX_count_120
  have hf := (if_neg c_1_10).symm.trans hf
  by_cases c_1_11 : p1 = 11
  · have hf := (if_pos c_1_11).symm.trans hf
    refine sj_tabIn (off := 120) C 121 11 c_1_11 dX_count_1 (by decide +kernel) (by decide +kernel) (by decide +kernel) (by decide) ?_
    refine sj_aload_n C dX_count_121 0 rfl rfl ?_
    refine sj_get C nX_in 0 rfl rfl 0 (by decide) wd_166 rfl rfl dX_count_122 ?_
    refine sj_iconst C dX_count_125 ki_1 ?_
    obtain ⟨r_126, hq_126, hf⟩ := bd1_some hf
    refine sj_callVi (w1 := (wdX cI cZ cB x0 x1 b0 b1 b2 b3 b4 s0 s1 s2 l0 l1 l2 l3 l4 xk xl bK bZ bL bM bi bg bh sB sO sh sw sr lI lC lT lR lth lro lsp lle lex lco lou)) (q0 := 0) C "StepColumns$Book" (cB_itemsOf l dC dI cI cZ cB b0 b1 b2 b3 b4 bK bZ bL bM bi bg bh 1 r_126 hq_126) wd_424 wd_425 wd_426 wd_36 wd_427 hB_itemsOf rfl rfl ⟨Nat.le_of_ble_eq_true rfl, Nat.le_of_ble_eq_true rfl⟩ [1, 2, 3, 4, 5] [0, 6, 7, 8, 9, 10, 11, 12, 13] ⟨rfl, rfl, rfl, rfl, rfl, rfl, kv_14_1_2_3_4_5⟩ rfl rfl rfl rfl rfl (Nat.le_of_ble_eq_true rfl) dX_count_126 ?_
    cases hf
    exact hQ 129 _ dX_count_129
  have hf := (if_neg c_1_11).symm.trans hf
  by_cases c_1_12 : p1 = 12
  · have hf := (if_pos c_1_12).symm.trans hf
    refine sj_tabIn (off := 129) C 130 12 c_1_12 dX_count_1 (by decide +kernel) (by decide +kernel) (by decide +kernel) (by decide) ?_
    refine sj_aload_n C dX_count_130 0 rfl rfl ?_
    refine sj_get C nX_in 0 rfl rfl 0 (by decide) wd_166 rfl rfl dX_count_131 ?_
    refine sj_iconst C dX_count_134 ki_2 ?_
    obtain ⟨r_135, hq_135, hf⟩ := bd1_some hf
    refine sj_callVi (w1 := (wdX cI cZ cB x0 x1 b0 b1 b2 b3 b4 s0 s1 s2 l0 l1 l2 l3 l4 xk xl bK bZ bL bM bi bg bh sB sO sh sw sr lI lC lT lR lth lro lsp lle lex lco lou)) (q0 := 0) C "StepColumns$Book" (cB_itemsOf l dC dI cI cZ cB b0 b1 b2 b3 b4 bK bZ bL bM bi bg bh 2 r_135 hq_135) wd_424 wd_425 wd_426 wd_36 wd_427 hB_itemsOf rfl rfl ⟨Nat.le_of_ble_eq_true rfl, Nat.le_of_ble_eq_true rfl⟩ [1, 2, 3, 4, 5] [0, 6, 7, 8, 9, 10, 11, 12, 13] ⟨rfl, rfl, rfl, rfl, rfl, rfl, kv_14_1_2_3_4_5⟩ rfl rfl rfl rfl rfl (Nat.le_of_ble_eq_true rfl) dX_count_135 ?_
    cases hf
    exact hQ 138 _ dX_count_138
  have hf := (if_neg c_1_12).symm.trans hf
  have e_0 : ¬ (p1).toInt = 0 := fun h => c_1_0 (sw_inj h (by decide +kernel))
  have e_1 : ¬ (p1).toInt = 1 := fun h => c_1_1 (sw_inj h (by decide +kernel))
  have e_2 : ¬ (p1).toInt = 2 := fun h => c_1_2 (sw_inj h (by decide +kernel))
  have e_3 : ¬ (p1).toInt = 3 := fun h => c_1_3 (sw_inj h (by decide +kernel))
  have e_4 : ¬ (p1).toInt = 4 := fun h => c_1_4 (sw_inj h (by decide +kernel))
  have e_10 : ¬ (p1).toInt = 10 := fun h => c_1_10 (sw_inj h (by decide +kernel))
  have e_11 : ¬ (p1).toInt = 11 := fun h => c_1_11 (sw_inj h (by decide +kernel))
  have e_12 : ¬ (p1).toInt = 12 := fun h => c_1_12 (sw_inj h (by decide +kernel))
  by_cases e_5 : (p1).toInt = 5
  · refine sj_tabIn (off := 138) C 139 5 (sw_inj e_5 (by decide +kernel)) dX_count_1 (by decide +kernel) (by decide +kernel) (by decide +kernel) (by decide) ?_
    refine sj_bipush C dX_count_139 kb_m2 ?_
    cases hf
    exact hQ 141 _ dX_count_141
  by_cases e_6 : (p1).toInt = 6
  · refine sj_tabIn (off := 138) C 139 6 (sw_inj e_6 (by decide +kernel)) dX_count_1 (by decide +kernel) (by decide +kernel) (by decide +kernel) (by decide) ?_
    refine sj_bipush C dX_count_139 kb_m2 ?_
    cases hf
    exact hQ 141 _ dX_count_141
  by_cases e_7 : (p1).toInt = 7
  · refine sj_tabIn (off := 138) C 139 7 (sw_inj e_7 (by decide +kernel)) dX_count_1 (by decide +kernel) (by decide +kernel) (by decide +kernel) (by decide) ?_
    refine sj_bipush C dX_count_139 kb_m2 ?_
    cases hf
    exact hQ 141 _ dX_count_141
  by_cases e_8 : (p1).toInt = 8
  · refine sj_tabIn (off := 138) C 139 8 (sw_inj e_8 (by decide +kernel)) dX_count_1 (by decide +kernel) (by decide +kernel) (by decide +kernel) (by decide) ?_
    refine sj_bipush C dX_count_139 kb_m2 ?_
    cases hf
    exact hQ 141 _ dX_count_141
  by_cases e_9 : (p1).toInt = 9
  · refine sj_tabIn (off := 138) C 139 9 (sw_inj e_9 (by decide +kernel)) dX_count_1 (by decide +kernel) (by decide +kernel) (by decide +kernel) (by decide) ?_
    refine sj_bipush C dX_count_139 kb_m2 ?_
    cases hf
    exact hQ 141 _ dX_count_141
  refine sj_tabOut C 139 dX_count_1 (by omega) (by decide) ?_
  refine sj_bipush C dX_count_139 kb_m2 ?_
  cases hf
  exact hQ 141 _ dX_count_141
