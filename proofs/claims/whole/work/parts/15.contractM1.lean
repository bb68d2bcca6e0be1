abbrev rM_in : Room := { frames := 0, cells := 0, slots := 0, locals := 0 }
set_option maxHeartbeats 4000000 in
set_option maxRecDepth 100000 in
theorem cM_in (l : Launch) (dC : Nat → ClassId) (dI : Nat → Nat → Nat) (cI cZ cB : ClassId)  (p1 p2 p3 : Int32) (r : Int32)  (hf : fM_in p1 p2 p3 = some r) : MI l yM_in wM_in rM_in (dC, dI) (tyl cI cZ cB) [Value.int p1, Value.int p2, Value.int p3] [] [] r := by
  refine MZ_of "StepColumnsModel" rfl (by decide) (Nat.le_of_ble_eq_true rfl) ?_
  intro p e s m below meth c A Q C hQ
  have hb_15 : ∀ (t0 : Int32), fM_in_b15 t0 = some r → SJ p l e rM_in s m (List.toArray [Value.int p1, Value.int p2, Value.int p3]) below meth c A (dC, dI) 3 Q [] [] 15 [.int t0] := by
    intro t0 hf
    unfold fM_in_b15 at hf
    obtain ⟨h_15, hf⟩ := in_some hf
    cases hf
    exact hQ 15 _ (Decidable.not_not.mp h_15) dM_in_15
  have hb_14 : fM_in_b14  = some r → SJ p l e rM_in s m (List.toArray [Value.int p1, Value.int p2, Value.int p3]) below meth c A (dC, dI) 3 Q [] [] 14 [] := by
    intro  hf
    unfold fM_in_b14 at hf
    refine sj_iconst C dM_in_14 ki_0 ?_
    exact sj_lv [] rfl (hb_15 0 hf)
  unfold fM_in at hf
  change SJ p l e rM_in s m (List.toArray [Value.int p1, Value.int p2, Value.int p3]) below meth c A (dC, dI) 3 Q [] [(0, .int p1), (1, .int p2), (2, .int p3)] 0 []
  refine sj_iload_n C dM_in_0 0 rfl rfl ?_
  refine sj_iload_n C dM_in_1 1 rfl rfl ?_
  refine sj_icmp_lt C 14 dM_in_2 (by decide) (fun c_2 => ?_) (fun c_2 => ?_)
  · have hf := (if_pos c_2).symm.trans hf
    exact sj_lv [] rfl (hb_14 hf)
  · have hf := (if_neg c_2).symm.trans hf
    refine sj_iload_n C dM_in_5 0 rfl rfl ?_
    refine sj_iload_n C dM_in_6 2 rfl rfl ?_
    refine sj_icmp_gt C 14 dM_in_7 (by decide) (fun c_7 => ?_) (fun c_7 => ?_)
    · have hf := (if_pos c_7).symm.trans hf
      exact sj_lv [] rfl (hb_14 hf)
    · have hf := (if_neg c_7).symm.trans hf
      refine sj_iconst C dM_in_10 ki_1 ?_
      refine sj_goto C 15 dM_in_11 (by decide) ?_
      exact sj_lv [] rfl (hb_15 1 hf)
abbrev rM_isItem : Room := { frames := 1, cells := 0, slots := 0, locals := 22 }
set_option maxHeartbeats 4000000 in
set_option maxRecDepth 100000 in
theorem cM_isItem (l : Launch) (dC : Nat → ClassId) (dI : Nat → Nat → Nat) (cI cZ cB : ClassId) (g0 g1 g2 g3 g4 g5 g6 g7 g8 g9 g10 g11 : Nat) (gS gI gK gO gL gT gB gC gP gR gG : Nat → Int32) (gn : Int32) (p1 : Int32) (r : Int32)  (hf : fM_isItem p1 gS = some r) : MI l yM_isItem wM_isItem rM_isItem (dC, dI) (tyl cI cZ cB) [Value.ref g0, Value.int p1] (wdM cI cZ cB g0 g1 g2 g3 g4 g5 g6 g7 g8 g9 g10 g11 gS gI gK gO gL gT gB gC gP gR gG gn) (wdM cI cZ cB g0 g1 g2 g3 g4 g5 g6 g7 g8 g9 g10 g11 gS gI gK gO gL gT gB gC gP gR gG gn) r := by
  refine MZ_of "StepColumnsModel" rfl (by decide) (Nat.le_of_ble_eq_true rfl) ?_
  intro p e s m below meth c A Q C hQ
  unfold fM_isItem at hf
  change SJ p l e rM_isItem s m (List.toArray [Value.ref g0, Value.int p1]) below meth c A (dC, dI) 2 Q (wdM cI cZ cB g0 g1 g2 g3 g4 g5 g6 g7 g8 g9 g10 g11 gS gI gK gO gL gT gB gC gP gR gG gn) [(0, .ref g0), (1, .int p1)] 0 []
  refine sj_iload_n C dM_isItem_0 1 rfl rfl ?_
  refine sj_iconst C dM_isItem_1 ki_0 ?_
  refine sj_aload_n C dM_isItem_2 0 rfl rfl ?_
  refine sj_get C nM_in 0 rfl rfl 0 (by decide) wd_435 rfl rfl dM_isItem_3 ?_
  refine sj_bipush C dM_isItem_6 kb_50 ?_
  refine sj_iald C 1 0 rfl rfl kn_50_51 kc_50 dM_isItem_8 ?_
  refine sj_iconst C dM_isItem_9 ki_1 ?_
  refine sj_isub C dM_isItem_10 ?_
  obtain ⟨r_11, hq_11, hf⟩ := bd1_some hf
  refine sj_callSi (w1 := (wdM cI cZ cB g0 g1 g2 g3 g4 g5 g6 g7 g8 g9 g10 g11 gS gI gK gO gL gT gB gC gP gR gG gn)) C "StepColumnsModel" (cM_in l dC dI cI cZ cB   p1 0 ((gS 50) - 1) r_11 hq_11) wd_477 wd_478 wd_39 wd_479 hM_in rfl rfl ⟨Nat.le_of_ble_eq_true rfl, Nat.le_of_ble_eq_true rfl⟩ [] [0, 1, 2, 3, 4, 5, 6, 7, 8, 9, 10, 11] ⟨rfl, rfl, rfl, rfl, rfl, rfl, kv_12_⟩ rfl rfl (Nat.le_of_ble_eq_true rfl) dM_isItem_11 ?_
  obtain ⟨h_14, hf⟩ := in_some hf
  cases hf
  exact hQ 14 _ (Decidable.not_not.mp h_14) dM_isItem_14
abbrev rM_isSize : Room := { frames := 1, cells := 0, slots := 0, locals := 22 }
set_option maxHeartbeats 4000000 in
set_option maxRecDepth 100000 in
theorem cM_isSize (l : Launch) (dC : Nat → ClassId) (dI : Nat → Nat → Nat) (cI cZ cB : ClassId)  (p1 p2 : Int32) (r : Int32)  (hf : fM_isSize p1 p2 = some r) : MI l yM_isSize wM_isSize rM_isSize (dC, dI) (tyl cI cZ cB) [Value.int p1, Value.int p2] [] [] r := by
  refine MZ_of "StepColumnsModel" rfl (by decide) (Nat.le_of_ble_eq_true rfl) ?_
  intro p e s m below meth c A Q C hQ
  have hb_13 : ∀ (t0 t1 t2 : Int32), fM_isSize_b13 t0 t1 t2 = some r → SJ p l e rM_isSize s m (List.toArray [Value.int p1, Value.int p2]) below meth c A (dC, dI) 2 Q [] [] 13 [.int t2, .int t1, .int t0] := by
    intro t0 t1 t2 hf
    unfold fM_isSize_b13 at hf
    obtain ⟨r_13, hq_13, hf⟩ := bd1_some hf
    refine sj_callSi (w1 := []) C "StepColumnsModel" (cM_in l dC dI cI cZ cB   t0 t1 t2 r_13 hq_13) wd_477 wd_478 wd_39 wd_479 hM_in rfl rfl ⟨Nat.le_of_ble_eq_true rfl, Nat.le_of_ble_eq_true rfl⟩ [] [] ⟨rfl, rfl, rfl, rfl, rfl, rfl, kv_0_⟩ rfl rfl (Nat.le_of_ble_eq_true rfl) dM_isSize_13 ?_
    obtain ⟨h_16, hf⟩ := in_some hf
    cases hf
    exact hQ 16 _ (Decidable.not_not.mp h_16) dM_isSize_16
  unfold fM_isSize at hf
  change SJ p l e rM_isSize s m (List.toArray [Value.int p1, Value.int p2]) below meth c A (dC, dI) 2 Q [] [(0, .int p1), (1, .int p2)] 0 []
  refine sj_iload_n C dM_isSize_0 1 rfl rfl ?_
  refine sj_iconst C dM_isSize_1 ki_1 ?_
  refine sj_iload_n C dM_isSize_2 0 rfl rfl ?_
  refine sj_if_ne C 11 dM_isSize_3 (by decide) (fun c_3 => ?_) (fun c_3 => ?_)
  · have hf := (if_neg c_3).symm.trans hf
    refine sj_bipush C dM_isSize_11 kb_80 ?_
    exact sj_lv [] rfl (hb_13 p2 1 80 hf)
  · have hf := (if_pos c_3).symm.trans hf
    refine sj_bipush C dM_isSize_6 kb_12 ?_
    refine sj_goto C 13 dM_isSize_8 (by decide) ?_
    exact sj_lv [] rfl (hb_13 p2 1 12 hf)
abbrev rM_add : Room := { frames := 2, cells := 0, slots := 0, locals := 43 }
set_option maxHeartbeats 4000000 in
set_option maxRecDepth 100000 in
theorem cM_add (l : Launch) (dC : Nat → ClassId) (dI : Nat → Nat → Nat) (cI cZ cB : ClassId) (g0 g1 g2 g3 g4 g5 g6 g7 g8 g9 g10 g11 : Nat) (gS gI gK gO gL gT gB gC gP gR gG : Nat → Int32) (gn : Int32) (p1 p2 p3 p4 : Int32) (r : Int32) (gS' : Nat → Int32) (hf : fM_add p1 p2 p3 p4 gS = some (r, gS')) : MI l yM_add wM_add rM_add (dC, dI) (tyl cI cZ cB) [Value.ref g0, Value.int p1, Value.int p2, Value.int p3, Value.int p4] (wdM cI cZ cB g0 g1 g2 g3 g4 g5 g6 g7 g8 g9 g10 g11 gS gI gK gO gL gT gB gC gP gR gG gn) (wdM cI cZ cB g0 g1 g2 g3 g4 g5 g6 g7 g8 g9 g10 g11 gS' gI gK gO gL gT gB gC gP gR gG gn) r := by
  refine MI_of "StepColumnsModel" rfl (by decide) (Nat.le_of_ble_eq_true rfl) ?_
  intro p e s m below meth c A Q C hQ
  have hb_17 : ∀ (gS : Nat → Int32), fM_add_b17 gS = some (r, gS') → SJ p l e rM_add s m (List.toArray [Value.ref g0, Value.int p1, Value.int p2, Value.int p3, Value.int p4]) below meth c A (dC, dI) 6 Q (wdM cI cZ cB g0 g1 g2 g3 g4 g5 g6 g7 g8 g9 g10 g11 gS gI gK gO gL gT gB gC gP gR gG gn) [] 17 [] := by
    intro gS hf
    unfold fM_add_b17 at hf
    refine sj_bipush C dM_add_17 kb_m2 ?_
    cases hf
    exact hQ 19 _ dM_add_19
  have hb_130 : ∀ (v5 t1 t2 : Int32) (gS : Nat → Int32), fM_add_b130 v5 t1 t2 gS = some (r, gS') → SJ p l e rM_add s m (List.toArray [Value.ref g0, Value.int p1, Value.int p2, Value.int p3, Value.int p4]) below meth c A (dC, dI) 6 Q (wdM cI cZ cB g0 g1 g2 g3 g4 g5 g6 g7 g8 g9 g10 g11 gS gI gK gO gL gT gB gC gP gR gG gn) [(0, .ref g0), (5, .int v5)] 130 [.int t2, .int t1, .ref g1] := by
    intro v5 t1 t2 gS hf
    unfold fM_add_b130 at hf
    obtain ⟨h_130, hf⟩ := in_some hf
    refine sj_iast (w' := (wdM cI cZ cB g0 g1 g2 g3 g4 g5 g6 g7 g8 g9 g10 g11 ((upd gS t1.toNatClampNeg t2)) gI gK gO gL gT gB gC gP gR gG gn)) C 1 0 rfl rfl h_130 rfl dM_add_130 rfl ?_
    refine sj_aload_n C dM_add_131 0 rfl rfl ?_
    refine sj_get C nM_in 0 rfl rfl 0 (by decide) wd_435 rfl rfl dM_add_132 ?_
    refine sj_bipush C dM_add_135 kb_50 ?_
    refine sj_dup2 C dM_add_137 rfl rfl ?_
    refine sj_iald C 1 0 rfl rfl kn_50_51 kc_50 dM_add_138 ?_
    refine sj_iconst C dM_add_139 ki_1 ?_
    refine sj_iadd C dM_add_140 ?_
    refine sj_iast (w' := (wdM cI cZ cB g0 g1 g2 g3 g4 g5 g6 g7 g8 g9 g10 g11 ((upd (upd gS t1.toNatClampNeg t2) 50 (((upd gS t1.toNatClampNeg t2) 50) + 1))) gI gK gO gL gT gB gC gP gR gG gn)) C 1 0 rfl rfl kn_50_51 kc_50 dM_add_141 rfl ?_
    refine sj_iload C dM_add_142 1 rfl ?_
    cases hf
    exact hQ 144 _ dM_add_144
  have hb_110 : ∀ (v1 v4 v5 t1 t2 : Int32) (gS : Nat → Int32), fM_add_b110 v1 v4 v5 t1 t2 gS = some (r, gS') → SJ p l e rM_add s m (List.toArray [Value.ref g0, Value.int p1, Value.int p2, Value.int p3, Value.int p4]) below meth c A (dC, dI) 6 Q (wdM cI cZ cB g0 g1 g2 g3 g4 g5 g6 g7 g8 g9 g10 g11 gS gI gK gO gL gT gB gC gP gR gG gn) [(0, .ref g0), (1, .int v1), (4, .int v4), (5, .int v5)] 110 [.int t2, .int t1, .ref g1] := by
    intro v1 v4 v5 t1 t2 gS hf
    unfold fM_add_b110 at hf
    obtain ⟨h_110, hf⟩ := in_some hf
    refine sj_iast (w' := (wdM cI cZ cB g0 g1 g2 g3 g4 g5 g6 g7 g8 g9 g10 g11 ((upd gS t1.toNatClampNeg t2)) gI gK gO gL gT gB gC gP gR gG gn)) C 1 0 rfl rfl h_110 rfl dM_add_110 rfl ?_
    refine sj_aload_n C dM_add_111 0 rfl rfl ?_
    refine sj_get C nM_in 0 rfl rfl 0 (by decide) wd_435 rfl rfl dM_add_112 ?_
    refine sj_bipush C dM_add_115 kb_36 ?_
    refine sj_iload C dM_add_117 3 rfl ?_
    refine sj_iadd C dM_add_119 ?_
    refine sj_iload_n C dM_add_120 1 rfl rfl ?_
    refine sj_if_ne C 128 dM_add_121 (by decide) (fun c_121 => ?_) (fun c_121 => ?_)
    · have hf := (if_neg c_121).symm.trans hf
      refine sj_iload C dM_add_128 2 rfl ?_
      exact sj_lv [0, 3] rfl (hb_130 v5 (36 + v5) v4 (upd gS t1.toNatClampNeg t2) hf)
    · have hf := (if_pos c_121).symm.trans hf
      refine sj_iconst C dM_add_124 ki_0 ?_
      refine sj_goto C 130 dM_add_125 (by decide) ?_
      exact sj_lv [0, 3] rfl (hb_130 v5 (36 + v5) 0 (upd gS t1.toNatClampNeg t2) hf)
  have hb_54 : ∀ (v1 v2 v3 v4 : Int32) (gS : Nat → Int32), fM_add_b54 v1 v2 v3 v4 gS = some (r, gS') → SJ p l e rM_add s m (List.toArray [Value.ref g0, Value.int p1, Value.int p2, Value.int p3, Value.int p4]) below meth c A (dC, dI) 6 Q (wdM cI cZ cB g0 g1 g2 g3 g4 g5 g6 g7 g8 g9 g10 g11 gS gI gK gO gL gT gB gC gP gR gG gn) [(0, .ref g0), (1, .int v1), (2, .int v2), (3, .int v3), (4, .int v4)] 54 [] := by
    intro v1 v2 v3 v4 gS hf
    unfold fM_add_b54 at hf
    refine sj_aload_n C dM_add_54 0 rfl rfl ?_
    refine sj_get C nM_in 0 rfl rfl 0 (by decide) wd_435 rfl rfl dM_add_55 ?_
    refine sj_bipush C dM_add_58 kb_50 ?_
    refine sj_iald C 1 0 rfl rfl kn_50_51 kc_50 dM_add_60 ?_
    refine sj_istore (lv' := [(5, .int (gS 50)), (0, .ref g0), (1, .int v1), (2, .int v2), (3, .int v3), (4, .int v4)]) C dM_add_61 (by decide) rfl ?_
    refine sj_iload C dM_add_63 0 rfl ?_
    refine sj_bipush C dM_add_65 kb_12 ?_
    refine sj_icmp_ne C 73 dM_add_67 (by decide) (fun c_67 => ?_) (fun c_67 => ?_)
    · have hf := (if_neg c_67).symm.trans hf
      refine sj_aload_n C dM_add_73 1 rfl rfl ?_
      refine sj_get C nM_in 0 rfl rfl 0 (by decide) wd_435 rfl rfl dM_add_74 ?_
      refine sj_iload C dM_add_77 0 rfl ?_
      refine sj_iload_n C dM_add_79 2 rfl rfl ?_
      obtain ⟨h_80, hf⟩ := in_some hf
      refine sj_iast (w' := (wdM cI cZ cB g0 g1 g2 g3 g4 g5 g6 g7 g8 g9 g10 g11 ((upd gS (gS 50).toNatClampNeg v1)) gI gK gO gL gT gB gC gP gR gG gn)) C 1 0 rfl rfl h_80 rfl dM_add_80 rfl ?_
      refine sj_aload_n C dM_add_81 1 rfl rfl ?_
      refine sj_get C nM_in 0 rfl rfl 0 (by decide) wd_435 rfl rfl dM_add_82 ?_
      refine sj_bipush C dM_add_85 kb_12 ?_
      refine sj_iload C dM_add_87 0 rfl ?_
      refine sj_iadd C dM_add_89 ?_
      refine sj_iload_n C dM_add_90 3 rfl rfl ?_
      obtain ⟨h_91, hf⟩ := in_some hf
      refine sj_iast (w' := (wdM cI cZ cB g0 g1 g2 g3 g4 g5 g6 g7 g8 g9 g10 g11 ((upd (upd gS (gS 50).toNatClampNeg v1) (12 + (gS 50)).toNatClampNeg v2)) gI gK gO gL gT gB gC gP gR gG gn)) C 1 0 rfl rfl h_91 rfl dM_add_91 rfl ?_
      refine sj_aload_n C dM_add_92 1 rfl rfl ?_
      refine sj_get C nM_in 0 rfl rfl 0 (by decide) wd_435 rfl rfl dM_add_93 ?_
      refine sj_bipush C dM_add_96 kb_24 ?_
      refine sj_iload C dM_add_98 0 rfl ?_
      refine sj_iadd C dM_add_100 ?_
      refine sj_iload_n C dM_add_101 2 rfl rfl ?_
      refine sj_if_ne C 109 dM_add_102 (by decide) (fun c_102 => ?_) (fun c_102 => ?_)
      · have hf := (if_neg c_102).symm.trans hf
        refine sj_iload_n C dM_add_109 4 rfl rfl ?_
        exact sj_lv [1, 2, 5, 0] rfl (hb_110 v1 v4 (gS 50) (24 + (gS 50)) v3 (upd (upd gS (gS 50).toNatClampNeg v1) (12 + (gS 50)).toNatClampNeg v2) hf)
      · have hf := (if_pos c_102).symm.trans hf
        refine sj_iconst C dM_add_105 ki_0 ?_
        refine sj_goto C 110 dM_add_106 (by decide) ?_
        exact sj_lv [1, 2, 5, 0] rfl (hb_110 v1 v4 (gS 50) (24 + (gS 50)) 0 (upd (upd gS (gS 50).toNatClampNeg v1) (12 + (gS 50)).toNatClampNeg v2) hf)
    · have hf := (if_pos c_67).symm.trans hf
      refine sj_bipush C dM_add_70 kb_m4 ?_
      cases hf
      exact hQ 72 _ dM_add_72
  have hb_51 : ∀ (gS : Nat → Int32), fM_add_b51 gS = some (r, gS') → SJ p l e rM_add s m (List.toArray [Value.ref g0, Value.int p1, Value.int p2, Value.int p3, Value.int p4]) below meth c A (dC, dI) 6 Q (wdM cI cZ cB g0 g1 g2 g3 g4 g5 g6 g7 g8 g9 g10 g11 gS gI gK gO gL gT gB gC gP gR gG gn) [] 51 [] := by
    intro gS hf
    unfold fM_add_b51 at hf
    refine sj_bipush C dM_add_51 kb_m2 ?_
    cases hf
    exact hQ 53 _ dM_add_53
  unfold fM_add at hf
  change SJ p l e rM_add s m (List.toArray [Value.ref g0, Value.int p1, Value.int p2, Value.int p3, Value.int p4]) below meth c A (dC, dI) 6 Q (wdM cI cZ cB g0 g1 g2 g3 g4 g5 g6 g7 g8 g9 g10 g11 gS gI gK gO gL gT gB gC gP gR gG gn) [(0, .ref g0), (1, .int p1), (2, .int p2), (3, .int p3), (4, .int p4)] 0 []
  refine sj_iload_n C dM_add_0 1 rfl rfl ?_
  refine sj_iconst C dM_add_1 ki_0 ?_
  refine sj_iconst C dM_add_2 ki_2 ?_
  obtain ⟨r_3, hq_3, hf⟩ := bd1_some hf
  refine sj_callSi (w1 := (wdM cI cZ cB g0 g1 g2 g3 g4 g5 g6 g7 g8 g9 g10 g11 gS gI gK gO gL gT gB gC gP gR gG gn)) C "StepColumnsModel" (cM_in l dC dI cI cZ cB   p1 0 2 r_3 hq_3) wd_477 wd_478 wd_39 wd_479 hM_in rfl rfl ⟨Nat.le_of_ble_eq_true rfl, Nat.le_of_ble_eq_true rfl⟩ [] [0, 1, 2, 3, 4, 5, 6, 7, 8, 9, 10, 11] ⟨rfl, rfl, rfl, rfl, rfl, rfl, kv_12_⟩ rfl rfl (Nat.le_of_ble_eq_true rfl) dM_add_3 ?_
  refine sj_if_eq C 17 dM_add_6 (by decide) (fun c_6 => ?_) (fun c_6 => ?_)
  · have hf := (if_pos c_6).symm.trans hf
    exact sj_lv [] rfl (hb_17 gS hf)
  · have hf := (if_neg c_6).symm.trans hf
    refine sj_iload_n C dM_add_9 1 rfl rfl ?_
    refine sj_iload_n C dM_add_10 2 rfl rfl ?_
    obtain ⟨r_11, hq_11, hf⟩ := bd1_some hf
    refine sj_callSi (w1 := (wdM cI cZ cB g0 g1 g2 g3 g4 g5 g6 g7 g8 g9 g10 g11 gS gI gK gO gL gT gB gC gP gR gG gn)) C "StepColumnsModel" (cM_isSize l dC dI cI cZ cB   p1 p2 r_11 hq_11) wd_480 wd_481 wd_39 wd_482 hM_isSize rfl rfl ⟨Nat.le_of_ble_eq_true rfl, Nat.le_of_ble_eq_true rfl⟩ [] [0, 1, 2, 3, 4, 5, 6, 7, 8, 9, 10, 11] ⟨rfl, rfl, rfl, rfl, rfl, rfl, kv_12_⟩ rfl rfl (Nat.le_of_ble_eq_true rfl) dM_add_11 ?_
    refine sj_if_ne C 20 dM_add_14 (by decide) (fun c_14 => ?_) (fun c_14 => ?_)
    · have hf := (if_neg c_14).symm.trans hf
      refine sj_iload_n C dM_add_20 1 rfl rfl ?_
      refine sj_if_eq C 54 dM_add_21 (by decide) (fun c_21 => ?_) (fun c_21 => ?_)
      · have hf := (if_pos c_21).symm.trans hf
        exact sj_lv [0, 1, 2, 3, 4] rfl (hb_54 p1 p2 p3 p4 gS hf)
      · have hf := (if_neg c_21).symm.trans hf
        refine sj_iload_n C dM_add_24 3 rfl rfl ?_
        refine sj_iconst C dM_add_25 ki_0 ?_
        refine sj_bipush C dM_add_26 kb_30 ?_
        obtain ⟨r_28, hq_28, hf⟩ := bd1_some hf
        refine sj_callSi (w1 := (wdM cI cZ cB g0 g1 g2 g3 g4 g5 g6 g7 g8 g9 g10 g11 gS gI gK gO gL gT gB gC gP gR gG gn)) C "StepColumnsModel" (cM_in l dC dI cI cZ cB   p3 0 30 r_28 hq_28) wd_477 wd_478 wd_39 wd_479 hM_in rfl rfl ⟨Nat.le_of_ble_eq_true rfl, Nat.le_of_ble_eq_true rfl⟩ [] [0, 1, 2, 3, 4, 5, 6, 7, 8, 9, 10, 11] ⟨rfl, rfl, rfl, rfl, rfl, rfl, kv_12_⟩ rfl rfl (Nat.le_of_ble_eq_true rfl) dM_add_28 ?_
        refine sj_if_eq C 51 dM_add_31 (by decide) (fun c_31 => ?_) (fun c_31 => ?_)
        · have hf := (if_pos c_31).symm.trans hf
          exact sj_lv [] rfl (hb_51 gS hf)
        · have hf := (if_neg c_31).symm.trans hf
          refine sj_iload C dM_add_34 4 rfl ?_
          refine sj_iconst C dM_add_36 ki_0 ?_
          refine sj_bipush C dM_add_37 kb_30 ?_
          obtain ⟨r_39, hq_39, hf⟩ := bd1_some hf
          refine sj_callSi (w1 := (wdM cI cZ cB g0 g1 g2 g3 g4 g5 g6 g7 g8 g9 g10 g11 gS gI gK gO gL gT gB gC gP gR gG gn)) C "StepColumnsModel" (cM_in l dC dI cI cZ cB   p4 0 30 r_39 hq_39) wd_477 wd_478 wd_39 wd_479 hM_in rfl rfl ⟨Nat.le_of_ble_eq_true rfl, Nat.le_of_ble_eq_true rfl⟩ [] [0, 1, 2, 3, 4, 5, 6, 7, 8, 9, 10, 11] ⟨rfl, rfl, rfl, rfl, rfl, rfl, kv_12_⟩ rfl rfl (Nat.le_of_ble_eq_true rfl) dM_add_39 ?_
          refine sj_if_eq C 51 dM_add_42 (by decide) (fun c_42 => ?_) (fun c_42 => ?_)
          · have hf := (if_pos c_42).symm.trans hf
            exact sj_lv [] rfl (hb_51 gS hf)
          · have hf := (if_neg c_42).symm.trans hf
            refine sj_iload_n C dM_add_45 3 rfl rfl ?_
            refine sj_iload C dM_add_46 4 rfl ?_
            refine sj_icmp_le C 54 dM_add_48 (by decide) (fun c_48 => ?_) (fun c_48 => ?_)
            · have hf := (if_pos c_48).symm.trans hf
              exact sj_lv [0, 1, 2, 3, 4] rfl (hb_54 p1 p2 p3 p4 gS hf)
            · have hf := (if_neg c_48).symm.trans hf
              exact sj_lv [] rfl (hb_51 gS hf)
    · have hf := (if_pos c_14).symm.trans hf
      exact sj_lv [] rfl (hb_17 gS hf)
abbrev rM_change : Room := { frames := 2, cells := 0, slots := 0, locals := 43 }
set_option maxHeartbeats 4000000 in
set_option maxRecDepth 100000 in
theorem cM_change (l : Launch) (dC : Nat → ClassId) (dI : Nat → Nat → Nat) (cI cZ cB : ClassId) (g0 g1 g2 g3 g4 g5 g6 g7 g8 g9 g10 g11 : Nat) (gS gI gK gO gL gT gB gC gP gR gG : Nat → Int32) (gn : Int32) (p1 p2 p3 : Int32) (r : Int32) (gS' : Nat → Int32) (hf : fM_change p1 p2 p3 gS = some (r, gS')) : MI l yM_change wM_change rM_change (dC, dI) (tyl cI cZ cB) [Value.ref g0, Value.int p1, Value.int p2, Value.int p3] (wdM cI cZ cB g0 g1 g2 g3 g4 g5 g6 g7 g8 g9 g10 g11 gS gI gK gO gL gT gB gC gP gR gG gn) (wdM cI cZ cB g0 g1 g2 g3 g4 g5 g6 g7 g8 g9 g10 g11 gS' gI gK gO gL gT gB gC gP gR gG gn) r := by
  refine MI_of "StepColumnsModel" rfl (by decide) (Nat.le_of_ble_eq_true rfl) ?_
  intro p e s m below meth c A Q C hQ
  have hb_107 : ∀ (gS : Nat → Int32), fM_change_b107 gS = some (r, gS') → SJ p l e rM_change s m (List.toArray [Value.ref g0, Value.int p1, Value.int p2, Value.int p3]) below meth c A (dC, dI) 7 Q (wdM cI cZ cB g0 g1 g2 g3 g4 g5 g6 g7 g8 g9 g10 g11 gS gI gK gO gL gT gB gC gP gR gG gn) [] 107 [] := by
    intro gS hf
    unfold fM_change_b107 at hf
    refine sj_bipush C dM_change_107 kb_m2 ?_
    cases hf
    exact hQ 109 _ dM_change_109
  have hb_110 : ∀ (v1 v2 v3 : Int32) (gS : Nat → Int32), fM_change_b110 v1 v2 v3 gS = some (r, gS') → SJ p l e rM_change s m (List.toArray [Value.ref g0, Value.int p1, Value.int p2, Value.int p3]) below meth c A (dC, dI) 7 Q (wdM cI cZ cB g0 g1 g2 g3 g4 g5 g6 g7 g8 g9 g10 g11 gS gI gK gO gL gT gB gC gP gR gG gn) [(0, .ref g0), (1, .int v1), (2, .int v2), (3, .int v3)] 110 [] := by
    intro v1 v2 v3 gS hf
    unfold fM_change_b110 at hf
    refine sj_bipush C dM_change_110 kb_12 ?_
    refine sj_iload_n C dM_change_112 2 rfl rfl ?_
    refine sj_imul C dM_change_113 ?_
    refine sj_iload_n C dM_change_114 1 rfl rfl ?_
    refine sj_iadd C dM_change_115 ?_
    refine sj_istore (lv' := [(5, .int ((12 * v2) + v1)), (0, .ref g0), (1, .int v1), (2, .int v2), (3, .int v3)]) C dM_change_116 (by decide) rfl ?_
    refine sj_aload_n C dM_change_118 1 rfl rfl ?_
    refine sj_get C nM_in 0 rfl rfl 0 (by decide) wd_435 rfl rfl dM_change_119 ?_
    refine sj_iload C dM_change_122 0 rfl ?_
    obtain ⟨h_124, hf⟩ := in_some hf
    refine sj_iald C 1 0 rfl rfl h_124 rfl dM_change_124 ?_
    refine sj_istore (lv' := [(6, .int (gS ((12 * v2) + v1).toNatClampNeg)), (5, .int ((12 * v2) + v1)), (0, .ref g0), (1, .int v1), (2, .int v2), (3, .int v3)]) C dM_change_125 (by decide) rfl ?_
    refine sj_aload_n C dM_change_127 2 rfl rfl ?_
    refine sj_get C nM_in 0 rfl rfl 0 (by decide) wd_435 rfl rfl dM_change_128 ?_
    refine sj_iload C dM_change_131 1 rfl ?_
    refine sj_iload_n C dM_change_133 5 rfl rfl ?_
    obtain ⟨h_134, hf⟩ := in_some hf
    refine sj_iast (w' := (wdM cI cZ cB g0 g1 g2 g3 g4 g5 g6 g7 g8 g9 g10 g11 ((upd gS ((12 * v2) + v1).toNatClampNeg v3)) gI gK gO gL gT gB gC gP gR gG gn)) C 1 0 rfl rfl h_134 rfl dM_change_134 rfl ?_
    refine sj_iload C dM_change_135 0 rfl ?_
    cases hf
    exact hQ 137 _ dM_change_137
  have hb_89 : ∀ (v1 v2 v3 : Int32) (gS : Nat → Int32), fM_change_b89 v1 v2 v3 gS = some (r, gS') → SJ p l e rM_change s m (List.toArray [Value.ref g0, Value.int p1, Value.int p2, Value.int p3]) below meth c A (dC, dI) 7 Q (wdM cI cZ cB g0 g1 g2 g3 g4 g5 g6 g7 g8 g9 g10 g11 gS gI gK gO gL gT gB gC gP gR gG gn) [(0, .ref g0), (1, .int v1), (2, .int v2), (3, .int v3)] 89 [] := by
    intro v1 v2 v3 gS hf
    unfold fM_change_b89 at hf
    refine sj_iload_n C dM_change_89 2 rfl rfl ?_
    refine sj_iconst C dM_change_90 ki_3 ?_
    refine sj_icmp_ne C 110 dM_change_91 (by decide) (fun c_91 => ?_) (fun c_91 => ?_)
    · have hf := (if_neg c_91).symm.trans hf
      exact sj_lv [0, 1, 2, 3] rfl (hb_110 v1 v2 v3 gS hf)
    · have hf := (if_pos c_91).symm.trans hf
      refine sj_iload_n C dM_change_94 3 rfl rfl ?_
      refine sj_aload_n C dM_change_95 0 rfl rfl ?_
      refine sj_get C nM_in 0 rfl rfl 0 (by decide) wd_435 rfl rfl dM_change_96 ?_
      refine sj_bipush C dM_change_99 kb_24 ?_
      refine sj_iload_n C dM_change_101 1 rfl rfl ?_
      refine sj_iadd C dM_change_102 ?_
      obtain ⟨h_103, hf⟩ := in_some hf
      refine sj_iald C 1 0 rfl rfl h_103 rfl dM_change_103 ?_
      refine sj_icmp_ge C 110 dM_change_104 (by decide) (fun c_104 => ?_) (fun c_104 => ?_)
      · have hf := (if_pos c_104).symm.trans hf
        exact sj_lv [0, 1, 2, 3] rfl (hb_110 v1 v2 v3 gS hf)
      · have hf := (if_neg c_104).symm.trans hf
        exact sj_lv [] rfl (hb_107 gS hf)
  have hb_64 : ∀ (v1 v2 v3 t0 : Int32) (gS : Nat → Int32), fM_change_b64 v1 v2 v3 t0 gS = some (r, gS') → SJ p l e rM_change s m (List.toArray [Value.ref g0, Value.int p1, Value.int p2, Value.int p3]) below meth c A (dC, dI) 7 Q (wdM cI cZ cB g0 g1 g2 g3 g4 g5 g6 g7 g8 g9 g10 g11 gS gI gK gO gL gT gB gC gP gR gG gn) [(0, .ref g0), (1, .int v1), (2, .int v2), (3, .int v3)] 64 [.int t0] := by
    intro v1 v2 v3 t0 gS hf
    unfold fM_change_b64 at hf
    refine sj_istore (lv' := [(4, .int t0), (0, .ref g0), (1, .int v1), (2, .int v2), (3, .int v3)]) C dM_change_64 (by decide) rfl ?_
    refine sj_iload C dM_change_66 0 rfl ?_
    refine sj_if_eq C 107 dM_change_68 (by decide) (fun c_68 => ?_) (fun c_68 => ?_)
    · have hf := (if_pos c_68).symm.trans hf
      exact sj_lv [] rfl (hb_107 gS hf)
    · have hf := (if_neg c_68).symm.trans hf
      refine sj_iload_n C dM_change_71 3 rfl rfl ?_
      refine sj_iconst C dM_change_72 ki_2 ?_
      refine sj_icmp_ne C 89 dM_change_73 (by decide) (fun c_73 => ?_) (fun c_73 => ?_)
      · have hf := (if_neg c_73).symm.trans hf
        exact sj_lv [1, 2, 3, 4] rfl (hb_89 v1 v2 v3 gS hf)
      · have hf := (if_pos c_73).symm.trans hf
        refine sj_iload_n C dM_change_76 4 rfl rfl ?_
        refine sj_aload_n C dM_change_77 1 rfl rfl ?_
        refine sj_get C nM_in 0 rfl rfl 0 (by decide) wd_435 rfl rfl dM_change_78 ?_
        refine sj_bipush C dM_change_81 kb_36 ?_
        refine sj_iload_n C dM_change_83 2 rfl rfl ?_
        refine sj_iadd C dM_change_84 ?_
        obtain ⟨h_85, hf⟩ := in_some hf
        refine sj_iald C 1 0 rfl rfl h_85 rfl dM_change_85 ?_
        refine sj_icmp_gt C 107 dM_change_86 (by decide) (fun c_86 => ?_) (fun c_86 => ?_)
        · have hf := (if_pos c_86).symm.trans hf
          exact sj_lv [] rfl (hb_107 gS hf)
        · have hf := (if_neg c_86).symm.trans hf
          exact sj_lv [1, 2, 3, 4] rfl (hb_89 v1 v2 v3 gS hf)
  have hb_63 : ∀ (v1 v2 v3 : Int32) (gS : Nat → Int32), fM_change_b63 v1 v2 v3 gS = some (r, gS') → SJ p l e rM_change s m (List.toArray [Value.ref g0, Value.int p1, Value.int p2, Value.int p3]) below meth c A (dC, dI) 7 Q (wdM cI cZ cB g0 g1 g2 g3 g4 g5 g6 g7 g8 g9 g10 g11 gS gI gK gO gL gT gB gC gP gR gG gn) [(0, .ref g0), (1, .int v1), (2, .int v2), (3, .int v3)] 63 [] := by
    intro v1 v2 v3 gS hf
    unfold fM_change_b63 at hf
    refine sj_iconst C dM_change_63 ki_0 ?_
    exact sj_lv [0, 1, 2, 3] rfl (hb_64 v1 v2 v3 0 gS hf)
  unfold fM_change at hf
  change SJ p l e rM_change s m (List.toArray [Value.ref g0, Value.int p1, Value.int p2, Value.int p3]) below meth c A (dC, dI) 7 Q (wdM cI cZ cB g0 g1 g2 g3 g4 g5 g6 g7 g8 g9 g10 g11 gS gI gK gO gL gT gB gC gP gR gG gn) [(0, .ref g0), (1, .int p1), (2, .int p2), (3, .int p3)] 0 []
  refine sj_aload_n C dM_change_0 0 rfl rfl ?_
  refine sj_iload_n C dM_change_1 1 rfl rfl ?_
  obtain ⟨r_2, hq_2, hf⟩ := bd1_some hf
  refine sj_callVi (w1 := (wdM cI cZ cB g0 g1 g2 g3 g4 g5 g6 g7 g8 g9 g10 g11 gS gI gK gO gL gT gB gC gP gR gG gn)) (q0 := 0) C "StepColumnsModel" (cM_isItem l dC dI cI cZ cB g0 g1 g2 g3 g4 g5 g6 g7 g8 g9 g10 g11 gS gI gK gO gL gT gB gC gP gR gG gn p1 r_2 hq_2) wd_487 wd_489 wd_16 wd_39 wd_490 hM_isItem rfl rfl ⟨Nat.le_of_ble_eq_true rfl, Nat.le_of_ble_eq_true rfl⟩ [0, 1, 2, 3, 4, 5, 6, 7, 8, 9, 10, 11] [] ⟨rfl, rfl, rfl, rfl, rfl, rfl, kv_12_0_1_2_3_4_5_6_7_8_9_10_11⟩ rfl rfl rfl rfl rfl (Nat.le_of_ble_eq_true rfl) dM_change_2 ?_
  refine sj_if_ne C 10 dM_change_5 (by decide) (fun c_5 => ?_) (fun c_5 => ?_)
  · have hf := (if_neg c_5).symm.trans hf
    refine sj_iload_n C dM_change_10 2 rfl rfl ?_
    refine sj_iconst C dM_change_11 ki_1 ?_
    refine sj_iconst C dM_change_12 ki_3 ?_
    obtain ⟨r_13, hq_13, hf⟩ := bd1_some hf
    refine sj_callSi (w1 := (wdM cI cZ cB g0 g1 g2 g3 g4 g5 g6 g7 g8 g9 g10 g11 gS gI gK gO gL gT gB gC gP gR gG gn)) C "StepColumnsModel" (cM_in l dC dI cI cZ cB   p2 1 3 r_13 hq_13) wd_477 wd_478 wd_39 wd_479 hM_in rfl rfl ⟨Nat.le_of_ble_eq_true rfl, Nat.le_of_ble_eq_true rfl⟩ [] [0, 1, 2, 3, 4, 5, 6, 7, 8, 9, 10, 11] ⟨rfl, rfl, rfl, rfl, rfl, rfl, kv_12_⟩ rfl rfl (Nat.le_of_ble_eq_true rfl) dM_change_13 ?_
    refine sj_if_ne C 22 dM_change_16 (by decide) (fun c_16 => ?_) (fun c_16 => ?_)
    · have hf := (if_neg c_16).symm.trans hf
      refine sj_iload_n C dM_change_22 2 rfl rfl ?_
      refine sj_iconst C dM_change_23 ki_1 ?_
      refine sj_icmp_ne C 40 dM_change_24 (by decide) (fun c_24 => ?_) (fun c_24 => ?_)
      · have hf := (if_neg c_24).symm.trans hf
        refine sj_aload_n C dM_change_40 0 rfl rfl ?_
        refine sj_get C nM_in 0 rfl rfl 0 (by decide) wd_435 rfl rfl dM_change_41 ?_
        refine sj_iload_n C dM_change_44 1 rfl rfl ?_
        obtain ⟨h_45, hf⟩ := in_some hf
        refine sj_iald C 1 0 rfl rfl h_45 rfl dM_change_45 ?_
        refine sj_if_eq C 63 dM_change_46 (by decide) (fun c_46 => ?_) (fun c_46 => ?_)
        · have hf := (if_pos c_46).symm.trans hf
          exact sj_lv [0, 1, 2, 3] rfl (hb_63 p1 p2 p3 gS hf)
        · have hf := (if_neg c_46).symm.trans hf
          refine sj_iload_n C dM_change_49 3 rfl rfl ?_
          refine sj_iconst C dM_change_50 ki_0 ?_
          refine sj_bipush C dM_change_51 kb_30 ?_
          obtain ⟨r_53, hq_53, hf⟩ := bd1_some hf
          refine sj_callSi (w1 := (wdM cI cZ cB g0 g1 g2 g3 g4 g5 g6 g7 g8 g9 g10 g11 gS gI gK gO gL gT gB gC gP gR gG gn)) C "StepColumnsModel" (cM_in l dC dI cI cZ cB   p3 0 30 r_53 hq_53) wd_477 wd_478 wd_39 wd_479 hM_in rfl rfl ⟨Nat.le_of_ble_eq_true rfl, Nat.le_of_ble_eq_true rfl⟩ [] [0, 1, 2, 3, 4, 5, 6, 7, 8, 9, 10, 11] ⟨rfl, rfl, rfl, rfl, rfl, rfl, kv_12_⟩ rfl rfl (Nat.le_of_ble_eq_true rfl) dM_change_53 ?_
          refine sj_if_eq C 63 dM_change_56 (by decide) (fun c_56 => ?_) (fun c_56 => ?_)
          · have hf := (if_pos c_56).symm.trans hf
            exact sj_lv [0, 1, 2, 3] rfl (hb_63 p1 p2 p3 gS hf)
          · have hf := (if_neg c_56).symm.trans hf
            refine sj_iconst C dM_change_59 ki_1 ?_
            refine sj_goto C 64 dM_change_60 (by decide) ?_
            exact sj_lv [0, 1, 2, 3] rfl (hb_64 p1 p2 p3 1 gS hf)
      · have hf := (if_pos c_24).symm.trans hf
        refine sj_aload_n C dM_change_27 0 rfl rfl ?_
        refine sj_get C nM_in 0 rfl rfl 0 (by decide) wd_435 rfl rfl dM_change_28 ?_
        refine sj_iload_n C dM_change_31 1 rfl rfl ?_
        obtain ⟨h_32, hf⟩ := in_some hf
        refine sj_iald C 1 0 rfl rfl h_32 rfl dM_change_32 ?_
        refine sj_iload_n C dM_change_33 3 rfl rfl ?_
        obtain ⟨r_34, hq_34, hf⟩ := bd1_some hf
        refine sj_callSi (w1 := (wdM cI cZ cB g0 g1 g2 g3 g4 g5 g6 g7 g8 g9 g10 g11 gS gI gK gO gL gT gB gC gP gR gG gn)) C "StepColumnsModel" (cM_isSize l dC dI cI cZ cB   (gS p1.toNatClampNeg) p3 r_34 hq_34) wd_480 wd_481 wd_39 wd_482 hM_isSize rfl rfl ⟨Nat.le_of_ble_eq_true rfl, Nat.le_of_ble_eq_true rfl⟩ [] [0, 1, 2, 3, 4, 5, 6, 7, 8, 9, 10, 11] ⟨rfl, rfl, rfl, rfl, rfl, rfl, kv_12_⟩ rfl rfl (Nat.le_of_ble_eq_true rfl) dM_change_34 ?_
        refine sj_goto C 64 dM_change_37 (by decide) ?_
        exact sj_lv [0, 1, 2, 3] rfl (hb_64 p1 p2 p3 r_34 gS hf)
    · have hf := (if_pos c_16).symm.trans hf
      refine sj_bipush C dM_change_19 kb_m2 ?_
      cases hf
      exact hQ 21 _ dM_change_21
  · have hf := (if_pos c_5).symm.trans hf
    refine sj_iconst C dM_change_8 ki_m1 ?_
    cases hf
    exact hQ 9 _ dM_change_9
abbrev rM_shift : Room := { frames := 0, cells := 0, slots := 0, locals := 0 }
set_option maxHeartbeats 4000000 in
set_option maxRecDepth 100000 in
theorem cM_shift (l : Launch) (dC : Nat → ClassId) (dI : Nat → Nat → Nat) (cI cZ cB : ClassId) (g0 g1 g2 g3 g4 g5 g6 g7 g8 g9 g10 g11 : Nat) (gS gI gK gO gL gT gB gC gP gR gG : Nat → Int32) (gn : Int32) (p1 p2 : Int32) (gS' : Nat → Int32) (hf : fM_shift p1 p2 gS = some gS') : MV l yM_shift wM_shift rM_shift (dC, dI) (tyl cI cZ cB) [Value.ref g0, Value.int p1, Value.int p2] (wdM cI cZ cB g0 g1 g2 g3 g4 g5 g6 g7 g8 g9 g10 g11 gS gI gK gO gL gT gB gC gP gR gG gn) (wdM cI cZ cB g0 g1 g2 g3 g4 g5 g6 g7 g8 g9 g10 g11 gS' gI gK gO gL gT gB gC gP gR gG gn) := by
  refine MV_of "StepColumnsModel" rfl (by decide) (Nat.le_of_ble_eq_true rfl) ?_
  intro p e s m below meth c A Q C hQ
  have hb_2 : ∀ (n : Nat) (v1 v2 v3 : Int32) (gS : Nat → Int32), fM_shift_b2 n v1 v2 v3 gS = some gS' → SJ p l e rM_shift s m (List.toArray [Value.ref g0, Value.int p1, Value.int p2]) below meth c A (dC, dI) 4 Q (wdM cI cZ cB g0 g1 g2 g3 g4 g5 g6 g7 g8 g9 g10 g11 gS gI gK gO gL gT gB gC gP gR gG gn) [(0, .ref g0), (1, .int v1), (2, .int v2), (3, .int v3)] 2 [] := by
    intro n
    induction n with
    | zero => intro v1 v2 v3 gS hf; cases hf
    | succ n IH =>
      intro v1 v2 v3 gS hf
      unfold fM_shift_b2 at hf
      refine sj_iload_n C dM_shift_2 3 rfl rfl ?_
      refine sj_bipush C dM_shift_3 kb_36 ?_
      refine sj_icmp_gt C 30 dM_shift_5 (by decide) (fun c_5 => ?_) (fun c_5 => ?_)
      · have hf := (if_pos c_5).symm.trans hf
        cases hf
        exact hQ 30 _ dM_shift_30
      · have hf := (if_neg c_5).symm.trans hf
        refine sj_aload_n C dM_shift_8 0 rfl rfl ?_
        refine sj_get C nM_in 0 rfl rfl 0 (by decide) wd_435 rfl rfl dM_shift_9 ?_
        refine sj_iload_n C dM_shift_12 3 rfl rfl ?_
        refine sj_iload_n C dM_shift_13 2 rfl rfl ?_
        refine sj_iadd C dM_shift_14 ?_
        refine sj_aload_n C dM_shift_15 0 rfl rfl ?_
        refine sj_get C nM_in 0 rfl rfl 0 (by decide) wd_435 rfl rfl dM_shift_16 ?_
        refine sj_iload_n C dM_shift_19 3 rfl rfl ?_
        refine sj_iload_n C dM_shift_20 1 rfl rfl ?_
        refine sj_iadd C dM_shift_21 ?_
        obtain ⟨h_22, hf⟩ := in_some hf
        refine sj_iald C 1 0 rfl rfl h_22 rfl dM_shift_22 ?_
        obtain ⟨h_23, hf⟩ := in_some hf
        refine sj_iast (w' := (wdM cI cZ cB g0 g1 g2 g3 g4 g5 g6 g7 g8 g9 g10 g11 ((upd gS (v3 + v2).toNatClampNeg (gS (v3 + v1).toNatClampNeg))) gI gK gO gL gT gB gC gP gR gG gn)) C 1 0 rfl rfl h_23 rfl dM_shift_23 rfl ?_
        refine sj_iinc (v := (v3 + 12)) (lv' := [(3, .int (v3 + 12)), (0, .ref g0), (1, .int v1), (2, .int v2)]) C dM_shift_24 3 rfl (by rw [ki_12]) (by decide) rfl ?_
        refine sj_goto C 2 dM_shift_27 (by decide) ?_
        exact sj_lv [1, 2, 3, 0] rfl (IH v1 v2 (v3 + 12) (upd gS (v3 + v2).toNatClampNeg (gS (v3 + v1).toNatClampNeg)) hf)
  unfold fM_shift at hf
  change SJ p l e rM_shift s m (List.toArray [Value.ref g0, Value.int p1, Value.int p2]) below meth c A (dC, dI) 4 Q (wdM cI cZ cB g0 g1 g2 g3 g4 g5 g6 g7 g8 g9 g10 g11 gS gI gK gO gL gT gB gC gP gR gG gn) [(0, .ref g0), (1, .int p1), (2, .int p2)] 0 []
  refine sj_iconst C dM_shift_0 ki_0 ?_
  refine sj_istore_n (lv' := [(3, .int 0), (0, .ref g0), (1, .int p1), (2, .int p2)]) C dM_shift_1 rfl (by decide) rfl ?_
  exact sj_lv [1, 2, 3, 0] rfl (hb_2 fu p1 p2 0 gS hf)
abbrev rM_remove : Room := { frames := 2, cells := 0, slots := 0, locals := 43 }
set_option maxHeartbeats 4000000 in
set_option maxRecDepth 100000 in
theorem cM_remove (l : Launch) (dC : Nat → ClassId) (dI : Nat → Nat → Nat) (cI cZ cB : ClassId) (g0 g1 g2 g3 g4 g5 g6 g7 g8 g9 g10 g11 : Nat) (gS gI gK gO gL gT gB gC gP gR gG : Nat → Int32) (gn : Int32) (p1 : Int32) (r : Int32) (gS' : Nat → Int32) (hf : fM_remove p1 gS = some (r, gS')) : MI l yM_remove wM_remove rM_remove (dC, dI) (tyl cI cZ cB) [Value.ref g0, Value.int p1] (wdM cI cZ cB g0 g1 g2 g3 g4 g5 g6 g7 g8 g9 g10 g11 gS gI gK gO gL gT gB gC gP gR gG gn) (wdM cI cZ cB g0 g1 g2 g3 g4 g5 g6 g7 g8 g9 g10 g11 gS' gI gK gO gL gT gB gC gP gR gG gn) r := by
  refine MI_of "StepColumnsModel" rfl (by decide) (Nat.le_of_ble_eq_true rfl) ?_
  intro p e s m below meth c A Q C hQ
  have hb_23 : ∀ (n : Nat) (v2 : Int32) (gS : Nat → Int32), fM_remove_b23 n v2 gS = some (r, gS') → SJ p l e rM_remove s m (List.toArray [Value.ref g0, Value.int p1]) below meth c A (dC, dI) 3 Q (wdM cI cZ cB g0 g1 g2 g3 g4 g5 g6 g7 g8 g9 g10 g11 gS gI gK gO gL gT gB gC gP gR gG gn) [(0, .ref g0), (2, .int v2)] 23 [] := by
    intro n
    induction n with
    | zero => intro v2 gS hf; cases hf
    | succ n IH =>
      intro v2 gS hf
      unfold fM_remove_b23 at hf
      refine sj_iload_n C dM_remove_23 1 rfl rfl ?_
      refine sj_aload_n C dM_remove_24 0 rfl rfl ?_
      refine sj_get C nM_in 0 rfl rfl 0 (by decide) wd_435 rfl rfl dM_remove_25 ?_
      refine sj_bipush C dM_remove_28 kb_50 ?_
      refine sj_iald C 1 0 rfl rfl kn_50_51 kc_50 dM_remove_30 ?_
      refine sj_icmp_ge C 48 dM_remove_31 (by decide) (fun c_31 => ?_) (fun c_31 => ?_)
      · have hf := (if_pos c_31).symm.trans hf
        refine sj_aload_n C dM_remove_48 0 rfl rfl ?_
        refine sj_get C nM_in 0 rfl rfl 0 (by decide) wd_435 rfl rfl dM_remove_49 ?_
        refine sj_bipush C dM_remove_52 kb_50 ?_
        refine sj_iald C 1 0 rfl rfl kn_50_51 kc_50 dM_remove_54 ?_
        cases hf
        exact hQ 55 _ dM_remove_55
      · have hf := (if_neg c_31).symm.trans hf
        refine sj_aload_n C dM_remove_34 0 rfl rfl ?_
        refine sj_iload_n C dM_remove_35 1 rfl rfl ?_
        refine sj_iconst C dM_remove_36 ki_1 ?_
        refine sj_iadd C dM_remove_37 ?_
        refine sj_iload_n C dM_remove_38 1 rfl rfl ?_
        obtain ⟨gS_39, hq_39, hf⟩ := bd1_some hf
        refine sj_callVv (w1 := (wdM cI cZ cB g0 g1 g2 g3 g4 g5 g6 g7 g8 g9 g10 g11 gS_39 gI gK gO gL gT gB gC gP gR gG gn)) (q0 := 0) C "StepColumnsModel" (cM_shift l dC dI cI cZ cB g0 g1 g2 g3 g4 g5 g6 g7 g8 g9 g10 g11 gS gI gK gO gL gT gB gC gP gR gG gn (v2 + 1) v2 gS_39 hq_39) wd_495 wd_497 wd_17 wd_39 wd_498 hM_shift rfl rfl ⟨Nat.le_of_ble_eq_true rfl, Nat.le_of_ble_eq_true rfl⟩ [0, 1, 2, 3, 4, 5, 6, 7, 8, 9, 10, 11] [] ⟨rfl, rfl, rfl, rfl, rfl, rfl, kv_12_0_1_2_3_4_5_6_7_8_9_10_11⟩ rfl rfl rfl rfl rfl (Nat.le_of_ble_eq_true rfl) dM_remove_39 ?_
        refine sj_iinc (v := (v2 + 1)) (lv' := [(2, .int (v2 + 1)), (0, .ref g0)]) C dM_remove_42 1 rfl (by rw [ki_1]) (by decide) rfl ?_
        refine sj_goto C 23 dM_remove_45 (by decide) ?_
        exact sj_lv [1, 0] rfl (IH (v2 + 1) gS_39 hf)
  unfold fM_remove at hf
  change SJ p l e rM_remove s m (List.toArray [Value.ref g0, Value.int p1]) below meth c A (dC, dI) 3 Q (wdM cI cZ cB g0 g1 g2 g3 g4 g5 g6 g7 g8 g9 g10 g11 gS gI gK gO gL gT gB gC gP gR gG gn) [(0, .ref g0), (1, .int p1)] 0 []
  refine sj_aload_n C dM_remove_0 0 rfl rfl ?_
  refine sj_iload_n C dM_remove_1 1 rfl rfl ?_
  obtain ⟨r_2, hq_2, hf⟩ := bd1_some hf
  refine sj_callVi (w1 := (wdM cI cZ cB g0 g1 g2 g3 g4 g5 g6 g7 g8 g9 g10 g11 gS gI gK gO gL gT gB gC gP gR gG gn)) (q0 := 0) C "StepColumnsModel" (cM_isItem l dC dI cI cZ cB g0 g1 g2 g3 g4 g5 g6 g7 g8 g9 g10 g11 gS gI gK gO gL gT gB gC gP gR gG gn p1 r_2 hq_2) wd_487 wd_489 wd_16 wd_39 wd_490 hM_isItem rfl rfl ⟨Nat.le_of_ble_eq_true rfl, Nat.le_of_ble_eq_true rfl⟩ [0, 1, 2, 3, 4, 5, 6, 7, 8, 9, 10, 11] [] ⟨rfl, rfl, rfl, rfl, rfl, rfl, kv_12_0_1_2_3_4_5_6_7_8_9_10_11⟩ rfl rfl rfl rfl rfl (Nat.le_of_ble_eq_true rfl) dM_remove_2 ?_
  refine sj_if_ne C 10 dM_remove_5 (by decide) (fun c_5 => ?_) (fun c_5 => ?_)
  · have hf := (if_neg c_5).symm.trans hf
    refine sj_aload_n C dM_remove_10 0 rfl rfl ?_
    refine sj_get C nM_in 0 rfl rfl 0 (by decide) wd_435 rfl rfl dM_remove_11 ?_
    refine sj_bipush C dM_remove_14 kb_50 ?_
    refine sj_dup2 C dM_remove_16 rfl rfl ?_
    refine sj_iald C 1 0 rfl rfl kn_50_51 kc_50 dM_remove_17 ?_
    refine sj_iconst C dM_remove_18 ki_1 ?_
    refine sj_isub C dM_remove_19 ?_
    refine sj_iast (w' := (wdM cI cZ cB g0 g1 g2 g3 g4 g5 g6 g7 g8 g9 g10 g11 ((upd gS 50 ((gS 50) - 1))) gI gK gO gL gT gB gC gP gR gG gn)) C 1 0 rfl rfl kn_50_51 kc_50 dM_remove_20 rfl ?_
    refine sj_iload_n C dM_remove_21 1 rfl rfl ?_
    refine sj_istore_n (lv' := [(2, .int p1), (0, .ref g0), (1, .int p1)]) C dM_remove_22 rfl (by decide) rfl ?_
    exact sj_lv [1, 0] rfl (hb_23 fu p1 (upd gS 50 ((gS 50) - 1)) hf)
  · have hf := (if_pos c_5).symm.trans hf
    refine sj_iconst C dM_remove_8 ki_m1 ?_
    cases hf
    exact hQ 9 _ dM_remove_9
abbrev rM_swap : Room := { frames := 0, cells := 0, slots := 0, locals := 0 }
set_option maxHeartbeats 4000000 in
set_option maxRecDepth 100000 in
theorem cM_swap (l : Launch) (dC : Nat → ClassId) (dI : Nat → Nat → Nat) (cI cZ cB : ClassId) (g0 g1 g2 g3 g4 g5 g6 g7 g8 g9 g10 g11 : Nat) (gS gI gK gO gL gT gB gC gP gR gG : Nat → Int32) (gn : Int32) (p1 p2 : Int32) (gS' : Nat → Int32) (hf : fM_swap p1 p2 gS = some gS') : MV l yM_swap wM_swap rM_swap (dC, dI) (tyl cI cZ cB) [Value.ref g0, Value.int p1, Value.int p2] (wdM cI cZ cB g0 g1 g2 g3 g4 g5 g6 g7 g8 g9 g10 g11 gS gI gK gO gL gT gB gC gP gR gG gn) (wdM cI cZ cB g0 g1 g2 g3 g4 g5 g6 g7 g8 g9 g10 g11 gS' gI gK gO gL gT gB gC gP gR gG gn) := by
  refine MV_of "StepColumnsModel" rfl (by decide) (Nat.le_of_ble_eq_true rfl) ?_
  intro p e s m below meth c A Q C hQ
  have hb_2 : ∀ (n : Nat) (v1 v2 v3 : Int32) (gS : Nat → Int32), fM_swap_b2 n v1 v2 v3 gS = some gS' → SJ p l e rM_swap s m (List.toArray [Value.ref g0, Value.int p1, Value.int p2]) below meth c A (dC, dI) 5 Q (wdM cI cZ cB g0 g1 g2 g3 g4 g5 g6 g7 g8 g9 g10 g11 gS gI gK gO gL gT gB gC gP gR gG gn) [(0, .ref g0), (1, .int v1), (2, .int v2), (3, .int v3)] 2 [] := by
    intro n
    induction n with
    | zero => intro v1 v2 v3 gS hf; cases hf
    | succ n IH =>
      intro v1 v2 v3 gS hf
      unfold fM_swap_b2 at hf
      refine sj_iload_n C dM_swap_2 3 rfl rfl ?_
      refine sj_bipush C dM_swap_3 kb_36 ?_
      refine sj_icmp_gt C 50 dM_swap_5 (by decide) (fun c_5 => ?_) (fun c_5 => ?_)
      · have hf := (if_pos c_5).symm.trans hf
        cases hf
        exact hQ 50 _ dM_swap_50
      · have hf := (if_neg c_5).symm.trans hf
        refine sj_aload_n C dM_swap_8 0 rfl rfl ?_
        refine sj_get C nM_in 0 rfl rfl 0 (by decide) wd_435 rfl rfl dM_swap_9 ?_
        refine sj_iload_n C dM_swap_12 3 rfl rfl ?_
        refine sj_iload_n C dM_swap_13 1 rfl rfl ?_
        refine sj_iadd C dM_swap_14 ?_
        obtain ⟨h_15, hf⟩ := in_some hf
        refine sj_iald C 1 0 rfl rfl h_15 rfl dM_swap_15 ?_
        refine sj_istore (lv' := [(4, .int (gS (v3 + v1).toNatClampNeg)), (0, .ref g0), (1, .int v1), (2, .int v2), (3, .int v3)]) C dM_swap_16 (by decide) rfl ?_
        refine sj_aload_n C dM_swap_18 1 rfl rfl ?_
        refine sj_get C nM_in 0 rfl rfl 0 (by decide) wd_435 rfl rfl dM_swap_19 ?_
        refine sj_iload_n C dM_swap_22 4 rfl rfl ?_
        refine sj_iload_n C dM_swap_23 2 rfl rfl ?_
        refine sj_iadd C dM_swap_24 ?_
        refine sj_aload_n C dM_swap_25 1 rfl rfl ?_
        refine sj_get C nM_in 0 rfl rfl 0 (by decide) wd_435 rfl rfl dM_swap_26 ?_
        refine sj_iload_n C dM_swap_29 4 rfl rfl ?_
        refine sj_iload_n C dM_swap_30 3 rfl rfl ?_
        refine sj_iadd C dM_swap_31 ?_
        obtain ⟨h_32, hf⟩ := in_some hf
        refine sj_iald C 1 0 rfl rfl h_32 rfl dM_swap_32 ?_
        obtain ⟨h_33, hf⟩ := in_some hf
        refine sj_iast (w' := (wdM cI cZ cB g0 g1 g2 g3 g4 g5 g6 g7 g8 g9 g10 g11 ((upd gS (v3 + v1).toNatClampNeg (gS (v3 + v2).toNatClampNeg))) gI gK gO gL gT gB gC gP gR gG gn)) C 1 0 rfl rfl h_33 rfl dM_swap_33 rfl ?_
        refine sj_aload_n C dM_swap_34 1 rfl rfl ?_
        refine sj_get C nM_in 0 rfl rfl 0 (by decide) wd_435 rfl rfl dM_swap_35 ?_
        refine sj_iload_n C dM_swap_38 4 rfl rfl ?_
        refine sj_iload_n C dM_swap_39 3 rfl rfl ?_
        refine sj_iadd C dM_swap_40 ?_
        refine sj_iload C dM_swap_41 0 rfl ?_
        obtain ⟨h_43, hf⟩ := in_some hf
        refine sj_iast (w' := (wdM cI cZ cB g0 g1 g2 g3 g4 g5 g6 g7 g8 g9 g10 g11 ((upd (upd gS (v3 + v1).toNatClampNeg (gS (v3 + v2).toNatClampNeg)) (v3 + v2).toNatClampNeg (gS (v3 + v1).toNatClampNeg))) gI gK gO gL gT gB gC gP gR gG gn)) C 1 0 rfl rfl h_43 rfl dM_swap_43 rfl ?_
        refine sj_iinc (v := (v3 + 12)) (lv' := [(3, .int (v3 + 12)), (4, .int (gS (v3 + v1).toNatClampNeg)), (0, .ref g0), (1, .int v1), (2, .int v2)]) C dM_swap_44 4 rfl (by rw [ki_12]) (by decide) rfl ?_
        refine sj_goto C 2 dM_swap_47 (by decide) ?_
        exact sj_lv [2, 3, 4, 0] rfl (IH v1 v2 (v3 + 12) (upd (upd gS (v3 + v1).toNatClampNeg (gS (v3 + v2).toNatClampNeg)) (v3 + v2).toNatClampNeg (gS (v3 + v1).toNatClampNeg)) hf)
  unfold fM_swap at hf
  change SJ p l e rM_swap s m (List.toArray [Value.ref g0, Value.int p1, Value.int p2]) below meth c A (dC, dI) 5 Q (wdM cI cZ cB g0 g1 g2 g3 g4 g5 g6 g7 g8 g9 g10 g11 gS gI gK gO gL gT gB gC gP gR gG gn) [(0, .ref g0), (1, .int p1), (2, .int p2)] 0 []
  refine sj_iconst C dM_swap_0 ki_0 ?_
  refine sj_istore_n (lv' := [(3, .int 0), (0, .ref g0), (1, .int p1), (2, .int p2)]) C dM_swap_1 rfl (by decide) rfl ?_
  exact sj_lv [1, 2, 3, 0] rfl (hb_2 fu p1 p2 0 gS hf)
abbrev rM_move : Room := { frames := 2, cells := 0, slots := 0, locals := 43 }
set_option maxHeartbeats 4000000 in
set_option maxRecDepth 100000 in
theorem cM_move (l : Launch) (dC : Nat → ClassId) (dI : Nat → Nat → Nat) (cI cZ cB : ClassId) (g0 g1 g2 g3 g4 g5 g6 g7 g8 g9 g10 g11 : Nat) (gS gI gK gO gL gT gB gC gP gR gG : Nat → Int32) (gn : Int32) (p1 p2 : Int32) (r : Int32) (gS' : Nat → Int32) (hf : fM_move p1 p2 gS = some (r, gS')) : MI l yM_move wM_move rM_move (dC, dI) (tyl cI cZ cB) [Value.ref g0, Value.int p1, Value.int p2] (wdM cI cZ cB g0 g1 g2 g3 g4 g5 g6 g7 g8 g9 g10 g11 gS gI gK gO gL gT gB gC gP gR gG gn) (wdM cI cZ cB g0 g1 g2 g3 g4 g5 g6 g7 g8 g9 g10 g11 gS' gI gK gO gL gT gB gC gP gR gG gn) r := by
  refine MI_of "StepColumnsModel" rfl (by decide) (Nat.le_of_ble_eq_true rfl) ?_
  intro p e s m below meth c A Q C hQ
  have hb_44 : ∀ (n : Nat) (v2 v3 : Int32) (gS : Nat → Int32), fM_move_b44 n v2 v3 gS = some (r, gS') → SJ p l e rM_move s m (List.toArray [Value.ref g0, Value.int p1, Value.int p2]) below meth c A (dC, dI) 4 Q (wdM cI cZ cB g0 g1 g2 g3 g4 g5 g6 g7 g8 g9 g10 g11 gS gI gK gO gL gT gB gC gP gR gG gn) [(0, .ref g0), (2, .int v2), (3, .int v3)] 44 [] := by
    intro n
    induction n with
    | zero => intro v2 v3 gS hf; cases hf
    | succ n IH =>
      intro v2 v3 gS hf
      unfold fM_move_b44 at hf
      refine sj_iload_n C dM_move_44 2 rfl rfl ?_
      refine sj_iload_n C dM_move_45 1 rfl rfl ?_
      refine sj_icmp_le C 63 dM_move_46 (by decide) (fun c_46 => ?_) (fun c_46 => ?_)
      · have hf := (if_pos c_46).symm.trans hf
        refine sj_iconst C dM_move_63 ki_1 ?_
        cases hf
        exact hQ 64 _ dM_move_64
      · have hf := (if_neg c_46).symm.trans hf
        refine sj_aload_n C dM_move_49 0 rfl rfl ?_
        refine sj_iload_n C dM_move_50 2 rfl rfl ?_
        refine sj_iload_n C dM_move_51 2 rfl rfl ?_
        refine sj_iconst C dM_move_52 ki_1 ?_
        refine sj_isub C dM_move_53 ?_
        obtain ⟨gS_54, hq_54, hf⟩ := bd1_some hf
        refine sj_callVv (w1 := (wdM cI cZ cB g0 g1 g2 g3 g4 g5 g6 g7 g8 g9 g10 g11 gS_54 gI gK gO gL gT gB gC gP gR gG gn)) (q0 := 0) C "StepColumnsModel" (cM_swap l dC dI cI cZ cB g0 g1 g2 g3 g4 g5 g6 g7 g8 g9 g10 g11 gS gI gK gO gL gT gB gC gP gR gG gn v3 (v3 - 1) gS_54 hq_54) wd_503 wd_505 wd_18 wd_39 wd_506 hM_swap rfl rfl ⟨Nat.le_of_ble_eq_true rfl, Nat.le_of_ble_eq_true rfl⟩ [0, 1, 2, 3, 4, 5, 6, 7, 8, 9, 10, 11] [] ⟨rfl, rfl, rfl, rfl, rfl, rfl, kv_12_0_1_2_3_4_5_6_7_8_9_10_11⟩ rfl rfl rfl rfl rfl (Nat.le_of_ble_eq_true rfl) dM_move_54 ?_
        refine sj_iinc (v := (v3 + (-1))) (lv' := [(3, .int (v3 + (-1))), (0, .ref g0), (2, .int v2)]) C dM_move_57 2 rfl (by rw [ki_m1]) (by decide) rfl ?_
        refine sj_goto C 44 dM_move_60 (by decide) ?_
        exact sj_lv [1, 2, 0] rfl (IH v2 (v3 + (-1)) gS_54 hf)
  have hb_23 : ∀ (n : Nat) (v1 v2 v3 : Int32) (gS : Nat → Int32), fM_move_b23 n v1 v2 v3 gS = some (r, gS') → SJ p l e rM_move s m (List.toArray [Value.ref g0, Value.int p1, Value.int p2]) below meth c A (dC, dI) 4 Q (wdM cI cZ cB g0 g1 g2 g3 g4 g5 g6 g7 g8 g9 g10 g11 gS gI gK gO gL gT gB gC gP gR gG gn) [(0, .ref g0), (1, .int v1), (2, .int v2), (3, .int v3)] 23 [] := by
    intro n
    induction n with
    | zero => intro v1 v2 v3 gS hf; cases hf
    | succ n IH =>
      intro v1 v2 v3 gS hf
      unfold fM_move_b23 at hf
      refine sj_iload_n C dM_move_23 3 rfl rfl ?_
      refine sj_iload_n C dM_move_24 2 rfl rfl ?_
      refine sj_icmp_ge C 42 dM_move_25 (by decide) (fun c_25 => ?_) (fun c_25 => ?_)
      · have hf := (if_pos c_25).symm.trans hf
        refine sj_iload_n C dM_move_42 1 rfl rfl ?_
        refine sj_istore_n (lv' := [(3, .int v1), (0, .ref g0), (1, .int v1), (2, .int v2)]) C dM_move_43 rfl (by decide) rfl ?_
        exact sj_lv [1, 3, 0] rfl (hb_44 fu v2 v1 gS hf)
      · have hf := (if_neg c_25).symm.trans hf
        refine sj_aload_n C dM_move_28 0 rfl rfl ?_
        refine sj_iload_n C dM_move_29 3 rfl rfl ?_
        refine sj_iload_n C dM_move_30 3 rfl rfl ?_
        refine sj_iconst C dM_move_31 ki_1 ?_
        refine sj_iadd C dM_move_32 ?_
        obtain ⟨gS_33, hq_33, hf⟩ := bd1_some hf
        refine sj_callVv (w1 := (wdM cI cZ cB g0 g1 g2 g3 g4 g5 g6 g7 g8 g9 g10 g11 gS_33 gI gK gO gL gT gB gC gP gR gG gn)) (q0 := 0) C "StepColumnsModel" (cM_swap l dC dI cI cZ cB g0 g1 g2 g3 g4 g5 g6 g7 g8 g9 g10 g11 gS gI gK gO gL gT gB gC gP gR gG gn v3 (v3 + 1) gS_33 hq_33) wd_503 wd_505 wd_18 wd_39 wd_506 hM_swap rfl rfl ⟨Nat.le_of_ble_eq_true rfl, Nat.le_of_ble_eq_true rfl⟩ [0, 1, 2, 3, 4, 5, 6, 7, 8, 9, 10, 11] [] ⟨rfl, rfl, rfl, rfl, rfl, rfl, kv_12_0_1_2_3_4_5_6_7_8_9_10_11⟩ rfl rfl rfl rfl rfl (Nat.le_of_ble_eq_true rfl) dM_move_33 ?_
        refine sj_iinc (v := (v3 + 1)) (lv' := [(3, .int (v3 + 1)), (0, .ref g0), (1, .int v1), (2, .int v2)]) C dM_move_36 3 rfl (by rw [ki_1]) (by decide) rfl ?_
        refine sj_goto C 23 dM_move_39 (by decide) ?_
        exact sj_lv [1, 2, 3, 0] rfl (IH v1 v2 (v3 + 1) gS_33 hf)
  unfold fM_move at hf
  change SJ p l e rM_move s m (List.toArray [Value.ref g0, Value.int p1, Value.int p2]) below meth c A (dC, dI) 4 Q (wdM cI cZ cB g0 g1 g2 g3 g4 g5 g6 g7 g8 g9 g10 g11 gS gI gK gO gL gT gB gC gP gR gG gn) [(0, .ref g0), (1, .int p1), (2, .int p2)] 0 []
  refine sj_aload_n C dM_move_0 0 rfl rfl ?_
  refine sj_iload_n C dM_move_1 1 rfl rfl ?_
  obtain ⟨r_2, hq_2, hf⟩ := bd1_some hf
  refine sj_callVi (w1 := (wdM cI cZ cB g0 g1 g2 g3 g4 g5 g6 g7 g8 g9 g10 g11 gS gI gK gO gL gT gB gC gP gR gG gn)) (q0 := 0) C "StepColumnsModel" (cM_isItem l dC dI cI cZ cB g0 g1 g2 g3 g4 g5 g6 g7 g8 g9 g10 g11 gS gI gK gO gL gT gB gC gP gR gG gn p1 r_2 hq_2) wd_487 wd_489 wd_16 wd_39 wd_490 hM_isItem rfl rfl ⟨Nat.le_of_ble_eq_true rfl, Nat.le_of_ble_eq_true rfl⟩ [0, 1, 2, 3, 4, 5, 6, 7, 8, 9, 10, 11] [] ⟨rfl, rfl, rfl, rfl, rfl, rfl, kv_12_0_1_2_3_4_5_6_7_8_9_10_11⟩ rfl rfl rfl rfl rfl (Nat.le_of_ble_eq_true rfl) dM_move_2 ?_
  refine sj_if_ne C 10 dM_move_5 (by decide) (fun c_5 => ?_) (fun c_5 => ?_)
  · have hf := (if_neg c_5).symm.trans hf
    refine sj_aload_n C dM_move_10 0 rfl rfl ?_
    refine sj_iload_n C dM_move_11 2 rfl rfl ?_
    obtain ⟨r_12, hq_12, hf⟩ := bd1_some hf
    refine sj_callVi (w1 := (wdM cI cZ cB g0 g1 g2 g3 g4 g5 g6 g7 g8 g9 g10 g11 gS gI gK gO gL gT gB gC gP gR gG gn)) (q0 := 0) C "StepColumnsModel" (cM_isItem l dC dI cI cZ cB g0 g1 g2 g3 g4 g5 g6 g7 g8 g9 g10 g11 gS gI gK gO gL gT gB gC gP gR gG gn p2 r_12 hq_12) wd_487 wd_489 wd_16 wd_39 wd_490 hM_isItem rfl rfl ⟨Nat.le_of_ble_eq_true rfl, Nat.le_of_ble_eq_true rfl⟩ [0, 1, 2, 3, 4, 5, 6, 7, 8, 9, 10, 11] [] ⟨rfl, rfl, rfl, rfl, rfl, rfl, kv_12_0_1_2_3_4_5_6_7_8_9_10_11⟩ rfl rfl rfl rfl rfl (Nat.le_of_ble_eq_true rfl) dM_move_12 ?_
    refine sj_if_ne C 21 dM_move_15 (by decide) (fun c_15 => ?_) (fun c_15 => ?_)
    · have hf := (if_neg c_15).symm.trans hf
      refine sj_iload_n C dM_move_21 1 rfl rfl ?_
      refine sj_istore_n (lv' := [(3, .int p1), (0, .ref g0), (1, .int p1), (2, .int p2)]) C dM_move_22 rfl (by decide) rfl ?_
      exact sj_lv [1, 2, 3, 0] rfl (hb_23 fu p1 p2 p1 gS hf)
    · have hf := (if_pos c_15).symm.trans hf
      refine sj_bipush C dM_move_18 kb_m2 ?_
      cases hf
      exact hQ 20 _ dM_move_20
  · have hf := (if_pos c_5).symm.trans hf
    refine sj_iconst C dM_move_8 ki_m1 ?_
    cases hf
    exact hQ 9 _ dM_move_9
abbrev rM_set : Room := { frames := 1, cells := 0, slots := 0, locals := 22 }
set_option maxHeartbeats 4000000 in
set_option maxRecDepth 100000 in
theorem cM_set (l : Launch) (dC : Nat → ClassId) (dI : Nat → Nat → Nat) (cI cZ cB : ClassId) (g0 g1 g2 g3 g4 g5 g6 g7 g8 g9 g10 g11 : Nat) (gS gI gK gO gL gT gB gC gP gR gG : Nat → Int32) (gn : Int32) (p1 p2 : Int32) (r : Int32) (gS' : Nat → Int32) (hf : fM_set p1 p2 gS = some (r, gS')) : MI l yM_set wM_set rM_set (dC, dI) (tyl cI cZ cB) [Value.ref g0, Value.int p1, Value.int p2] (wdM cI cZ cB g0 g1 g2 g3 g4 g5 g6 g7 g8 g9 g10 g11 gS gI gK gO gL gT gB gC gP gR gG gn) (wdM cI cZ cB g0 g1 g2 g3 g4 g5 g6 g7 g8 g9 g10 g11 gS' gI gK gO gL gT gB gC gP gR gG gn) r := by
  refine MI_of "StepColumnsModel" rfl (by decide) (Nat.le_of_ble_eq_true rfl) ?_
  intro p e s m below meth c A Q C hQ
  have hb_38 : ∀ (gS : Nat → Int32), fM_set_b38 gS = some (r, gS') → SJ p l e rM_set s m (List.toArray [Value.ref g0, Value.int p1, Value.int p2]) below meth c A (dC, dI) 4 Q (wdM cI cZ cB g0 g1 g2 g3 g4 g5 g6 g7 g8 g9 g10 g11 gS gI gK gO gL gT gB gC gP gR gG gn) [] 38 [] := by
    intro gS hf
    unfold fM_set_b38 at hf
    refine sj_bipush C dM_set_38 kb_m2 ?_
    cases hf
    exact hQ 40 _ dM_set_40
  have hb_32 : ∀ (v1 v2 t0 t1 t2 : Int32) (gS : Nat → Int32), fM_set_b32 v1 v2 t0 t1 t2 gS = some (r, gS') → SJ p l e rM_set s m (List.toArray [Value.ref g0, Value.int p1, Value.int p2]) below meth c A (dC, dI) 4 Q (wdM cI cZ cB g0 g1 g2 g3 g4 g5 g6 g7 g8 g9 g10 g11 gS gI gK gO gL gT gB gC gP gR gG gn) [(0, .ref g0), (1, .int v1), (2, .int v2)] 32 [.int t2, .int t1, .int t0] := by
    intro v1 v2 t0 t1 t2 gS hf
    unfold fM_set_b32 at hf
    obtain ⟨r_32, hq_32, hf⟩ := bd1_some hf
    refine sj_callSi (w1 := (wdM cI cZ cB g0 g1 g2 g3 g4 g5 g6 g7 g8 g9 g10 g11 gS gI gK gO gL gT gB gC gP gR gG gn)) C "StepColumnsModel" (cM_in l dC dI cI cZ cB   t0 t1 t2 r_32 hq_32) wd_477 wd_478 wd_39 wd_479 hM_in rfl rfl ⟨Nat.le_of_ble_eq_true rfl, Nat.le_of_ble_eq_true rfl⟩ [] [0, 1, 2, 3, 4, 5, 6, 7, 8, 9, 10, 11] ⟨rfl, rfl, rfl, rfl, rfl, rfl, kv_12_⟩ rfl rfl (Nat.le_of_ble_eq_true rfl) dM_set_32 ?_
    refine sj_if_ne C 41 dM_set_35 (by decide) (fun c_35 => ?_) (fun c_35 => ?_)
    · have hf := (if_neg c_35).symm.trans hf
      refine sj_aload_n C dM_set_41 0 rfl rfl ?_
      refine sj_get C nM_in 0 rfl rfl 0 (by decide) wd_435 rfl rfl dM_set_42 ?_
      refine sj_bipush C dM_set_45 kb_48 ?_
      refine sj_iload_n C dM_set_47 1 rfl rfl ?_
      refine sj_iadd C dM_set_48 ?_
      obtain ⟨h_49, hf⟩ := in_some hf
      refine sj_iald C 1 0 rfl rfl h_49 rfl dM_set_49 ?_
      refine sj_istore_n (lv' := [(3, .int (gS (48 + v1).toNatClampNeg)), (0, .ref g0), (1, .int v1), (2, .int v2)]) C dM_set_50 rfl (by decide) rfl ?_
      refine sj_aload_n C dM_set_51 1 rfl rfl ?_
      refine sj_get C nM_in 0 rfl rfl 0 (by decide) wd_435 rfl rfl dM_set_52 ?_
      refine sj_bipush C dM_set_55 kb_48 ?_
      refine sj_iload_n C dM_set_57 2 rfl rfl ?_
      refine sj_iadd C dM_set_58 ?_
      refine sj_iload_n C dM_set_59 3 rfl rfl ?_
      obtain ⟨h_60, hf⟩ := in_some hf
      refine sj_iast (w' := (wdM cI cZ cB g0 g1 g2 g3 g4 g5 g6 g7 g8 g9 g10 g11 ((upd gS (48 + v1).toNatClampNeg v2)) gI gK gO gL gT gB gC gP gR gG gn)) C 1 0 rfl rfl h_60 rfl dM_set_60 rfl ?_
      refine sj_iload_n C dM_set_61 0 rfl rfl ?_
      cases hf
      exact hQ 62 _ dM_set_62
    · have hf := (if_pos c_35).symm.trans hf
      exact sj_lv [] rfl (hb_38 gS hf)
  have hb_20 : ∀ (v1 v2 t0 t1 : Int32) (gS : Nat → Int32), fM_set_b20 v1 v2 t0 t1 gS = some (r, gS') → SJ p l e rM_set s m (List.toArray [Value.ref g0, Value.int p1, Value.int p2]) below meth c A (dC, dI) 4 Q (wdM cI cZ cB g0 g1 g2 g3 g4 g5 g6 g7 g8 g9 g10 g11 gS gI gK gO gL gT gB gC gP gR gG gn) [(0, .ref g0), (1, .int v1), (2, .int v2)] 20 [.int t1, .int t0] := by
    intro v1 v2 t0 t1 gS hf
    unfold fM_set_b20 at hf
    refine sj_iload_n C dM_set_20 1 rfl rfl ?_
    refine sj_if_ne C 29 dM_set_21 (by decide) (fun c_21 => ?_) (fun c_21 => ?_)
    · have hf := (if_neg c_21).symm.trans hf
      refine sj_sipush C dM_set_29 ks_200 ?_
      exact sj_lv [0, 1, 2] rfl (hb_32 v1 v2 t0 t1 200 gS hf)
    · have hf := (if_pos c_21).symm.trans hf
      refine sj_bipush C dM_set_24 kb_20 ?_
      refine sj_goto C 32 dM_set_26 (by decide) ?_
      exact sj_lv [0, 1, 2] rfl (hb_32 v1 v2 t0 t1 20 gS hf)
  unfold fM_set at hf
  change SJ p l e rM_set s m (List.toArray [Value.ref g0, Value.int p1, Value.int p2]) below meth c A (dC, dI) 4 Q (wdM cI cZ cB g0 g1 g2 g3 g4 g5 g6 g7 g8 g9 g10 g11 gS gI gK gO gL gT gB gC gP gR gG gn) [(0, .ref g0), (1, .int p1), (2, .int p2)] 0 []
  refine sj_iload_n C dM_set_0 1 rfl rfl ?_
  refine sj_iconst C dM_set_1 ki_0 ?_
  refine sj_iconst C dM_set_2 ki_1 ?_
  obtain ⟨r_3, hq_3, hf⟩ := bd1_some hf
  refine sj_callSi (w1 := (wdM cI cZ cB g0 g1 g2 g3 g4 g5 g6 g7 g8 g9 g10 g11 gS gI gK gO gL gT gB gC gP gR gG gn)) C "StepColumnsModel" (cM_in l dC dI cI cZ cB   p1 0 1 r_3 hq_3) wd_477 wd_478 wd_39 wd_479 hM_in rfl rfl ⟨Nat.le_of_ble_eq_true rfl, Nat.le_of_ble_eq_true rfl⟩ [] [0, 1, 2, 3, 4, 5, 6, 7, 8, 9, 10, 11] ⟨rfl, rfl, rfl, rfl, rfl, rfl, kv_12_⟩ rfl rfl (Nat.le_of_ble_eq_true rfl) dM_set_3 ?_
  refine sj_if_eq C 38 dM_set_6 (by decide) (fun c_6 => ?_) (fun c_6 => ?_)
  · have hf := (if_pos c_6).symm.trans hf
    exact sj_lv [] rfl (hb_38 gS hf)
  · have hf := (if_neg c_6).symm.trans hf
    refine sj_iload_n C dM_set_9 2 rfl rfl ?_
    refine sj_iload_n C dM_set_10 1 rfl rfl ?_
    refine sj_if_ne C 18 dM_set_11 (by decide) (fun c_11 => ?_) (fun c_11 => ?_)
    · have hf := (if_neg c_11).symm.trans hf
      refine sj_bipush C dM_set_18 kb_12 ?_
      exact sj_lv [0, 1, 2] rfl (hb_20 p1 p2 p2 12 gS hf)
    · have hf := (if_pos c_11).symm.trans hf
      refine sj_iconst C dM_set_14 ki_3 ?_
      refine sj_goto C 20 dM_set_15 (by decide) ?_
      exact sj_lv [0, 1, 2] rfl (hb_20 p1 p2 p2 3 gS hf)
abbrev rM_item : Room := { frames := 2, cells := 0, slots := 0, locals := 43 }
set_option maxHeartbeats 4000000 in
set_option maxRecDepth 100000 in
theorem cM_item (l : Launch) (dC : Nat → ClassId) (dI : Nat → Nat → Nat) (cI cZ cB : ClassId) (g0 g1 g2 g3 g4 g5 g6 g7 g8 g9 g10 g11 : Nat) (gS gI gK gO gL gT gB gC gP gR gG : Nat → Int32) (gn : Int32) (p1 p2 : Int32) (r : Int32)  (hf : fM_item p1 p2 gS = some r) : MI l yM_item wM_item rM_item (dC, dI) (tyl cI cZ cB) [Value.ref g0, Value.int p1, Value.int p2] (wdM cI cZ cB g0 g1 g2 g3 g4 g5 g6 g7 g8 g9 g10 g11 gS gI gK gO gL gT gB gC gP gR gG gn) (wdM cI cZ cB g0 g1 g2 g3 g4 g5 g6 g7 g8 g9 g10 g11 gS gI gK gO gL gT gB gC gP gR gG gn) r := by
  refine MI_of "StepColumnsModel" rfl (by decide) (Nat.le_of_ble_eq_true rfl) ?_
  intro p e s m below meth c A Q C hQ
  have hb_35 : ∀ (t0 : Int32), fM_item_b35 t0 gS = some r → SJ p l e rM_item s m (List.toArray [Value.ref g0, Value.int p1, Value.int p2]) below meth c A (dC, dI) 3 Q (wdM cI cZ cB g0 g1 g2 g3 g4 g5 g6 g7 g8 g9 g10 g11 gS gI gK gO gL gT gB gC gP gR gG gn) [] 35 [.int t0] := by
    intro t0 hf
    unfold fM_item_b35 at hf
    cases hf
    exact hQ 35 _ dM_item_35
  unfold fM_item at hf
  change SJ p l e rM_item s m (List.toArray [Value.ref g0, Value.int p1, Value.int p2]) below meth c A (dC, dI) 3 Q (wdM cI cZ cB g0 g1 g2 g3 g4 g5 g6 g7 g8 g9 g10 g11 gS gI gK gO gL gT gB gC gP gR gG gn) [(0, .ref g0), (1, .int p1), (2, .int p2)] 0 []
  refine sj_aload_n C dM_item_0 0 rfl rfl ?_
  refine sj_iload_n C dM_item_1 1 rfl rfl ?_
  obtain ⟨r_2, hq_2, hf⟩ := bd1_some hf
  refine sj_callVi (w1 := (wdM cI cZ cB g0 g1 g2 g3 g4 g5 g6 g7 g8 g9 g10 g11 gS gI gK gO gL gT gB gC gP gR gG gn)) (q0 := 0) C "StepColumnsModel" (cM_isItem l dC dI cI cZ cB g0 g1 g2 g3 g4 g5 g6 g7 g8 g9 g10 g11 gS gI gK gO gL gT gB gC gP gR gG gn p1 r_2 hq_2) wd_487 wd_489 wd_16 wd_39 wd_490 hM_isItem rfl rfl ⟨Nat.le_of_ble_eq_true rfl, Nat.le_of_ble_eq_true rfl⟩ [0, 1, 2, 3, 4, 5, 6, 7, 8, 9, 10, 11] [] ⟨rfl, rfl, rfl, rfl, rfl, rfl, kv_12_0_1_2_3_4_5_6_7_8_9_10_11⟩ rfl rfl rfl rfl rfl (Nat.le_of_ble_eq_true rfl) dM_item_2 ?_
  refine sj_if_ne C 10 dM_item_5 (by decide) (fun c_5 => ?_) (fun c_5 => ?_)
  · have hf := (if_neg c_5).symm.trans hf
    refine sj_iload_n C dM_item_10 2 rfl rfl ?_
    refine sj_iconst C dM_item_11 ki_0 ?_
    refine sj_iconst C dM_item_12 ki_3 ?_
    obtain ⟨r_13, hq_13, hf⟩ := bd1_some hf
    refine sj_callSi (w1 := (wdM cI cZ cB g0 g1 g2 g3 g4 g5 g6 g7 g8 g9 g10 g11 gS gI gK gO gL gT gB gC gP gR gG gn)) C "StepColumnsModel" (cM_in l dC dI cI cZ cB   p2 0 3 r_13 hq_13) wd_477 wd_478 wd_39 wd_479 hM_in rfl rfl ⟨Nat.le_of_ble_eq_true rfl, Nat.le_of_ble_eq_true rfl⟩ [] [0, 1, 2, 3, 4, 5, 6, 7, 8, 9, 10, 11] ⟨rfl, rfl, rfl, rfl, rfl, rfl, kv_12_⟩ rfl rfl (Nat.le_of_ble_eq_true rfl) dM_item_13 ?_
    refine sj_if_eq C 33 dM_item_16 (by decide) (fun c_16 => ?_) (fun c_16 => ?_)
    · have hf := (if_pos c_16).symm.trans hf
      refine sj_bipush C dM_item_33 kb_m2 ?_
      exact sj_lv [] rfl (hb_35 (-2) hf)
    · have hf := (if_neg c_16).symm.trans hf
      refine sj_aload_n C dM_item_19 0 rfl rfl ?_
      refine sj_get C nM_in 0 rfl rfl 0 (by decide) wd_435 rfl rfl dM_item_20 ?_
      refine sj_bipush C dM_item_23 kb_12 ?_
      refine sj_iload_n C dM_item_25 2 rfl rfl ?_
      refine sj_imul C dM_item_26 ?_
      refine sj_iload_n C dM_item_27 1 rfl rfl ?_
      refine sj_iadd C dM_item_28 ?_
      obtain ⟨h_29, hf⟩ := in_some hf
      refine sj_iald C 1 0 rfl rfl h_29 rfl dM_item_29 ?_
      refine sj_goto C 35 dM_item_30 (by decide) ?_
      exact sj_lv [] rfl (hb_35 (gS ((12 * p2) + p1).toNatClampNeg) hf)
  · have hf := (if_pos c_5).symm.trans hf
    refine sj_iconst C dM_item_8 ki_m1 ?_
    cases hf
    exact hQ 9 _ dM_item_9
abbrev rM_layThings : Room := { frames := 0, cells := 0, slots := 0, locals := 0 }
set_option maxHeartbeats 4000000 in
set_option maxRecDepth 100000 in
theorem cM_layThings (l : Launch) (dC : Nat → ClassId) (dI : Nat → Nat → Nat) (cI cZ cB : ClassId) (g0 g1 g2 g3 g4 g5 g6 g7 g8 g9 g10 g11 : Nat) (gS gI gK gO gL gT gB gC gP gR gG : Nat → Int32) (gn : Int32) (gO' : Nat → Int32) (gL' : Nat → Int32) (gT' : Nat → Int32) (gn' : Int32) (hf : fM_layThings gS gO gL gT gn = some (gO', gL', gT', gn')) : MV l yM_layThings wM_layThings rM_layThings (dC, dI) (tyl cI cZ cB) [Value.ref g0] (wdM cI cZ cB g0 g1 g2 g3 g4 g5 g6 g7 g8 g9 g10 g11 gS gI gK gO gL gT gB gC gP gR gG gn) (wdM cI cZ cB g0 g1 g2 g3 g4 g5 g6 g7 g8 g9 g10 g11 gS gI gK gO' gL' gT' gB gC gP gR gG gn') := by
  refine MV_of "StepColumnsModel" rfl (by decide) (Nat.le_of_ble_eq_true rfl) ?_
  intro p e s m below meth c A Q C hQ
  have hb_104 : ∀ (K7 : Int32 → (Nat → Int32) → (Nat → Int32) → (Nat → Int32) → (Nat → Int32) → Int32 → Option ((Nat → Int32) × (Nat → Int32) × (Nat → Int32) × Int32)) (hK7 : ∀ (v1 : Int32) (gO gL gT : Nat → Int32) (gn : Int32), K7 v1 gS gO gL gT gn = some (gO', gL', gT', gn') → SJ p l e rM_layThings s m (List.toArray [Value.ref g0]) below meth c A (dC, dI) 4 Q (wdM cI cZ cB g0 g1 g2 g3 g4 g5 g6 g7 g8 g9 g10 g11 gS gI gK gO gL gT gB gC gP gR gG gn) [(0, .ref g0), (1, .int v1)] 7 []) (K43 : Int32 → Int32 → Int32 → (Nat → Int32) → (Nat → Int32) → (Nat → Int32) → (Nat → Int32) → Int32 → Option ((Nat → Int32) × (Nat → Int32) × (Nat → Int32) × Int32)) (hK43 : ∀ (v1 v2 v3 : Int32) (gO gL gT : Nat → Int32) (gn : Int32), K43 v1 v2 v3 gS gO gL gT gn = some (gO', gL', gT', gn') → SJ p l e rM_layThings s m (List.toArray [Value.ref g0]) below meth c A (dC, dI) 4 Q (wdM cI cZ cB g0 g1 g2 g3 g4 g5 g6 g7 g8 g9 g10 g11 gS gI gK gO gL gT gB gC gP gR gG gn) [(0, .ref g0), (1, .int v1), (2, .int v2), (3, .int v3)] 43 []) (v1 v2 v3 t1 t2 : Int32) (gO gL gT : Nat → Int32) (gn : Int32), fM_layThings_b104 K7 K43 v1 v2 v3 t1 t2 gS gO gL gT gn = some (gO', gL', gT', gn') → SJ p l e rM_layThings s m (List.toArray [Value.ref g0]) below meth c A (dC, dI) 4 Q (wdM cI cZ cB g0 g1 g2 g3 g4 g5 g6 g7 g8 g9 g10 g11 gS gI gK gO gL gT gB gC gP gR gG gn) [(0, .ref g0), (1, .int v1), (2, .int v2), (3, .int v3)] 104 [.int t2, .int t1, .ref g6] := by
    intro K7 hK7 K43 hK43 v1 v2 v3 t1 t2 gO gL gT gn hf
    unfold fM_layThings_b104 at hf
    obtain ⟨h_104, hf⟩ := in_some hf
    refine sj_iast (w' := (wdM cI cZ cB g0 g1 g2 g3 g4 g5 g6 g7 g8 g9 g10 g11 gS gI gK gO gL ((upd gT t1.toNatClampNeg t2)) gB gC gP gR gG gn)) C 6 0 rfl rfl h_104 rfl dM_layThings_104 rfl ?_
    refine sj_aload_n C dM_layThings_105 0 rfl rfl ?_
    refine sj_dup C dM_layThings_106 rfl ?_
    refine sj_get C nM_in 0 rfl rfl 6 (by decide) wd_441 rfl rfl dM_layThings_107 ?_
    refine sj_iconst C dM_layThings_110 ki_1 ?_
    refine sj_iadd C dM_layThings_111 ?_
    refine sj_put (w' := (wdM cI cZ cB g0 g1 g2 g3 g4 g5 g6 g7 g8 g9 g10 g11 gS gI gK gO gL ((upd gT t1.toNatClampNeg t2)) gB gC gP gR gG ((gn + 1)))) C nM_in nM_ty nM_ok nM_nm 0 rfl rfl 6 (by decide) wd_441 rfl rfl rfl rfl (Nat.le_of_ble_eq_true rfl) dM_layThings_112 rfl ?_
    refine sj_iinc (v := (v3 + 1)) (lv' := [(3, .int (v3 + 1)), (0, .ref g0), (1, .int v1), (2, .int v2)]) C dM_layThings_115 3 rfl (by rw [ki_1]) (by decide) rfl ?_
    refine sj_goto C 43 dM_layThings_118 (by decide) ?_
    exact sj_lv [1, 2, 3, 0] rfl (hK43 v1 v2 (v3 + 1) gO gL (upd gT t1.toNatClampNeg t2) (gn + 1) hf)
  have hb_43 : ∀ (K7 : Int32 → (Nat → Int32) → (Nat → Int32) → (Nat → Int32) → (Nat → Int32) → Int32 → Option ((Nat → Int32) × (Nat → Int32) × (Nat → Int32) × Int32)) (hK7 : ∀ (v1 : Int32) (gO gL gT : Nat → Int32) (gn : Int32), K7 v1 gS gO gL gT gn = some (gO', gL', gT', gn') → SJ p l e rM_layThings s m (List.toArray [Value.ref g0]) below meth c A (dC, dI) 4 Q (wdM cI cZ cB g0 g1 g2 g3 g4 g5 g6 g7 g8 g9 g10 g11 gS gI gK gO gL gT gB gC gP gR gG gn) [(0, .ref g0), (1, .int v1)] 7 []) (n : Nat) (v1 v2 v3 : Int32) (gO gL gT : Nat → Int32) (gn : Int32), fM_layThings_b43 K7 n v1 v2 v3 gS gO gL gT gn = some (gO', gL', gT', gn') → SJ p l e rM_layThings s m (List.toArray [Value.ref g0]) below meth c A (dC, dI) 4 Q (wdM cI cZ cB g0 g1 g2 g3 g4 g5 g6 g7 g8 g9 g10 g11 gS gI gK gO gL gT gB gC gP gR gG gn) [(0, .ref g0), (1, .int v1), (2, .int v2), (3, .int v3)] 43 [] := by
    intro K7 hK7 n
    induction n with
    | zero => intro v1 v2 v3 gO gL gT gn hf; cases hf
    | succ n IH =>
      intro v1 v2 v3 gO gL gT gn hf
      unfold fM_layThings_b43 at hf
      refine sj_iload_n C dM_layThings_43 3 rfl rfl ?_
      refine sj_iload_n C dM_layThings_44 2 rfl rfl ?_
      refine sj_icmp_ge C 121 dM_layThings_45 (by decide) (fun c_45 => ?_) (fun c_45 => ?_)
      · have hf := (if_pos c_45).symm.trans hf
        refine sj_iinc (v := (v1 + 1)) (lv' := [(1, .int (v1 + 1)), (0, .ref g0), (2, .int v2), (3, .int v3)]) C dM_layThings_121 1 rfl (by rw [ki_1]) (by decide) rfl ?_
        refine sj_goto C 7 dM_layThings_124 (by decide) ?_
        exact sj_lv [1, 0] rfl (hK7 (v1 + 1) gO gL gT gn hf)
      · have hf := (if_neg c_45).symm.trans hf
        refine sj_aload_n C dM_layThings_48 0 rfl rfl ?_
        refine sj_get C nM_in 0 rfl rfl 3 (by decide) wd_438 rfl rfl dM_layThings_49 ?_
        refine sj_aload_n C dM_layThings_52 0 rfl rfl ?_
        refine sj_get C nM_in 0 rfl rfl 6 (by decide) wd_441 rfl rfl dM_layThings_53 ?_
        refine sj_iload_n C dM_layThings_56 1 rfl rfl ?_
        obtain ⟨h_57, hf⟩ := in_some hf
        refine sj_iast (w' := (wdM cI cZ cB g0 g1 g2 g3 g4 g5 g6 g7 g8 g9 g10 g11 gS gI gK ((upd gO gn.toNatClampNeg v1)) gL gT gB gC gP gR gG gn)) C 4 0 rfl rfl h_57 rfl dM_layThings_57 rfl ?_
        refine sj_aload_n C dM_layThings_58 0 rfl rfl ?_
        refine sj_get C nM_in 0 rfl rfl 4 (by decide) wd_439 rfl rfl dM_layThings_59 ?_
        refine sj_aload_n C dM_layThings_62 0 rfl rfl ?_
        refine sj_get C nM_in 0 rfl rfl 6 (by decide) wd_441 rfl rfl dM_layThings_63 ?_
        refine sj_iload_n C dM_layThings_66 3 rfl rfl ?_
        obtain ⟨h_67, hf⟩ := in_some hf
        refine sj_iast (w' := (wdM cI cZ cB g0 g1 g2 g3 g4 g5 g6 g7 g8 g9 g10 g11 gS gI gK ((upd gO gn.toNatClampNeg v1)) ((upd gL gn.toNatClampNeg v3)) gT gB gC gP gR gG gn)) C 5 0 rfl rfl h_67 rfl dM_layThings_67 rfl ?_
        refine sj_aload_n C dM_layThings_68 0 rfl rfl ?_
        refine sj_get C nM_in 0 rfl rfl 5 (by decide) wd_440 rfl rfl dM_layThings_69 ?_
        refine sj_aload_n C dM_layThings_72 0 rfl rfl ?_
        refine sj_get C nM_in 0 rfl rfl 6 (by decide) wd_441 rfl rfl dM_layThings_73 ?_
        refine sj_aload_n C dM_layThings_76 0 rfl rfl ?_
        refine sj_get C nM_in 0 rfl rfl 0 (by decide) wd_435 rfl rfl dM_layThings_77 ?_
        refine sj_iload_n C dM_layThings_80 1 rfl rfl ?_
        obtain ⟨h_81, hf⟩ := in_some hf
        refine sj_iald C 1 0 rfl rfl h_81 rfl dM_layThings_81 ?_
        refine sj_if_ne C 95 dM_layThings_82 (by decide) (fun c_82 => ?_) (fun c_82 => ?_)
        · have hf := (if_neg c_82).symm.trans hf
          refine sj_aload_n C dM_layThings_95 0 rfl rfl ?_
          refine sj_get C nM_in 0 rfl rfl 0 (by decide) wd_435 rfl rfl dM_layThings_96 ?_
          refine sj_bipush C dM_layThings_99 kb_12 ?_
          refine sj_iload_n C dM_layThings_101 1 rfl rfl ?_
          refine sj_iadd C dM_layThings_102 ?_
          obtain ⟨h_103, hf⟩ := in_some hf
          refine sj_iald C 1 0 rfl rfl h_103 rfl dM_layThings_103 ?_
          exact sj_lv [0, 1, 2, 3] rfl (hb_104 K7 hK7 (fM_layThings_b43 K7 n) IH v1 v2 v3 gn (gS (12 + v1).toNatClampNeg) (upd gO gn.toNatClampNeg v1) (upd gL gn.toNatClampNeg v3) gT gn hf)
        · have hf := (if_pos c_82).symm.trans hf
          refine sj_aload_n C dM_layThings_85 0 rfl rfl ?_
          refine sj_get C nM_in 0 rfl rfl 0 (by decide) wd_435 rfl rfl dM_layThings_86 ?_
          refine sj_bipush C dM_layThings_89 kb_48 ?_
          refine sj_iald C 1 0 rfl rfl kn_48_51 kc_48 dM_layThings_91 ?_
          refine sj_goto C 104 dM_layThings_92 (by decide) ?_
          exact sj_lv [0, 1, 2, 3] rfl (hb_104 K7 hK7 (fM_layThings_b43 K7 n) IH v1 v2 v3 gn (gS 48) (upd gO gn.toNatClampNeg v1) (upd gL gn.toNatClampNeg v3) gT gn hf)
  have hb_40 : ∀ (K7 : Int32 → (Nat → Int32) → (Nat → Int32) → (Nat → Int32) → (Nat → Int32) → Int32 → Option ((Nat → Int32) × (Nat → Int32) × (Nat → Int32) × Int32)) (hK7 : ∀ (v1 : Int32) (gO gL gT : Nat → Int32) (gn : Int32), K7 v1 gS gO gL gT gn = some (gO', gL', gT', gn') → SJ p l e rM_layThings s m (List.toArray [Value.ref g0]) below meth c A (dC, dI) 4 Q (wdM cI cZ cB g0 g1 g2 g3 g4 g5 g6 g7 g8 g9 g10 g11 gS gI gK gO gL gT gB gC gP gR gG gn) [(0, .ref g0), (1, .int v1)] 7 []) (v1 t0 : Int32) (gO gL gT : Nat → Int32) (gn : Int32), fM_layThings_b40 K7 v1 t0 gS gO gL gT gn = some (gO', gL', gT', gn') → SJ p l e rM_layThings s m (List.toArray [Value.ref g0]) below meth c A (dC, dI) 4 Q (wdM cI cZ cB g0 g1 g2 g3 g4 g5 g6 g7 g8 g9 g10 g11 gS gI gK gO gL gT gB gC gP gR gG gn) [(0, .ref g0), (1, .int v1)] 40 [.int t0] := by
    intro K7 hK7 v1 t0 gO gL gT gn hf
    unfold fM_layThings_b40 at hf
    refine sj_istore_n (lv' := [(2, .int t0), (0, .ref g0), (1, .int v1)]) C dM_layThings_40 rfl (by decide) rfl ?_
    refine sj_iconst C dM_layThings_41 ki_0 ?_
    refine sj_istore_n (lv' := [(3, .int 0), (2, .int t0), (0, .ref g0), (1, .int v1)]) C dM_layThings_42 rfl (by decide) rfl ?_
    exact sj_lv [2, 3, 1, 0] rfl (hb_43 K7 hK7 fu v1 t0 0 gO gL gT gn hf)
  have hb_7 : ∀ (n : Nat) (v1 : Int32) (gO gL gT : Nat → Int32) (gn : Int32), fM_layThings_b7 n v1 gS gO gL gT gn = some (gO', gL', gT', gn') → SJ p l e rM_layThings s m (List.toArray [Value.ref g0]) below meth c A (dC, dI) 4 Q (wdM cI cZ cB g0 g1 g2 g3 g4 g5 g6 g7 g8 g9 g10 g11 gS gI gK gO gL gT gB gC gP gR gG gn) [(0, .ref g0), (1, .int v1)] 7 [] := by
    intro n
    induction n with
    | zero => intro v1 gO gL gT gn hf; cases hf
    | succ n IH =>
      intro v1 gO gL gT gn hf
      unfold fM_layThings_b7 at hf
      refine sj_iload_n C dM_layThings_7 1 rfl rfl ?_
      refine sj_aload_n C dM_layThings_8 0 rfl rfl ?_
      refine sj_get C nM_in 0 rfl rfl 0 (by decide) wd_435 rfl rfl dM_layThings_9 ?_
      refine sj_bipush C dM_layThings_12 kb_50 ?_
      refine sj_iald C 1 0 rfl rfl kn_50_51 kc_50 dM_layThings_14 ?_
      refine sj_icmp_ge C 127 dM_layThings_15 (by decide) (fun c_15 => ?_) (fun c_15 => ?_)
      · have hf := (if_pos c_15).symm.trans hf
        cases hf
        exact hQ 127 _ dM_layThings_127
      · have hf := (if_neg c_15).symm.trans hf
        refine sj_aload_n C dM_layThings_18 0 rfl rfl ?_
        refine sj_get C nM_in 0 rfl rfl 0 (by decide) wd_435 rfl rfl dM_layThings_19 ?_
        refine sj_iload_n C dM_layThings_22 1 rfl rfl ?_
        obtain ⟨h_23, hf⟩ := in_some hf
        refine sj_iald C 1 0 rfl rfl h_23 rfl dM_layThings_23 ?_
        refine sj_if_ne C 39 dM_layThings_24 (by decide) (fun c_24 => ?_) (fun c_24 => ?_)
        · have hf := (if_neg c_24).symm.trans hf
          refine sj_iconst C dM_layThings_39 ki_1 ?_
          exact sj_lv [0, 1] rfl (hb_40 (fM_layThings_b7 n) IH v1 1 gO gL gT gn hf)
        · have hf := (if_pos c_24).symm.trans hf
          refine sj_aload_n C dM_layThings_27 0 rfl rfl ?_
          refine sj_get C nM_in 0 rfl rfl 0 (by decide) wd_435 rfl rfl dM_layThings_28 ?_
          refine sj_bipush C dM_layThings_31 kb_12 ?_
          refine sj_iload_n C dM_layThings_33 1 rfl rfl ?_
          refine sj_iadd C dM_layThings_34 ?_
          obtain ⟨h_35, hf⟩ := in_some hf
          refine sj_iald C 1 0 rfl rfl h_35 rfl dM_layThings_35 ?_
          refine sj_goto C 40 dM_layThings_36 (by decide) ?_
          exact sj_lv [0, 1] rfl (hb_40 (fM_layThings_b7 n) IH v1 (gS (12 + v1).toNatClampNeg) gO gL gT gn hf)
  unfold fM_layThings at hf
  change SJ p l e rM_layThings s m (List.toArray [Value.ref g0]) below meth c A (dC, dI) 4 Q (wdM cI cZ cB g0 g1 g2 g3 g4 g5 g6 g7 g8 g9 g10 g11 gS gI gK gO gL gT gB gC gP gR gG gn) [(0, .ref g0)] 0 []
  refine sj_aload_n C dM_layThings_0 0 rfl rfl ?_
  refine sj_iconst C dM_layThings_1 ki_0 ?_
  refine sj_put (w' := (wdM cI cZ cB g0 g1 g2 g3 g4 g5 g6 g7 g8 g9 g10 g11 gS gI gK gO gL gT gB gC gP gR gG 0)) C nM_in nM_ty nM_ok nM_nm 0 rfl rfl 6 (by decide) wd_441 rfl rfl rfl rfl (Nat.le_of_ble_eq_true rfl) dM_layThings_2 rfl ?_
  refine sj_iconst C dM_layThings_5 ki_0 ?_
  refine sj_istore_n (lv' := [(1, .int 0), (0, .ref g0)]) C dM_layThings_6 rfl (by decide) rfl ?_
  exact sj_lv [1, 0] rfl (hb_7 fu 0 gO gL gT 0 hf)
abbrev rM_isLine : Room := { frames := 0, cells := 0, slots := 0, locals := 0 }
set_option maxHeartbeats 4000000 in
set_option maxRecDepth 100000 in
theorem cM_isLine (l : Launch) (dC : Nat → ClassId) (dI : Nat → Nat → Nat) (cI cZ cB : ClassId) (g0 g1 g2 g3 g4 g5 g6 g7 g8 g9 g10 g11 : Nat) (gS gI gK gO gL gT gB gC gP gR gG : Nat → Int32) (gn : Int32) (p1 : Int32) (r : Int32)  (hf : fM_isLine p1 gS gO = some r) : MI l yM_isLine wM_isLine rM_isLine (dC, dI) (tyl cI cZ cB) [Value.ref g0, Value.int p1] (wdM cI cZ cB g0 g1 g2 g3 g4 g5 g6 g7 g8 g9 g10 g11 gS gI gK gO gL gT gB gC gP gR gG gn) (wdM cI cZ cB g0 g1 g2 g3 g4 g5 g6 g7 g8 g9 g10 g11 gS gI gK gO gL gT gB gC gP gR gG gn) r := by
  refine MZ_of "StepColumnsModel" rfl (by decide) (Nat.le_of_ble_eq_true rfl) ?_
  intro p e s m below meth c A Q C hQ
  have hb_19 : ∀ (t0 : Int32), fM_isLine_b19 t0 gS gO = some r → SJ p l e rM_isLine s m (List.toArray [Value.ref g0, Value.int p1]) below meth c A (dC, dI) 2 Q (wdM cI cZ cB g0 g1 g2 g3 g4 g5 g6 g7 g8 g9 g10 g11 gS gI gK gO gL gT gB gC gP gR gG gn) [] 19 [.int t0] := by
    intro t0 hf
    unfold fM_isLine_b19 at hf
    obtain ⟨h_19, hf⟩ := in_some hf
    cases hf
    exact hQ 19 _ (Decidable.not_not.mp h_19) dM_isLine_19
  unfold fM_isLine at hf
  change SJ p l e rM_isLine s m (List.toArray [Value.ref g0, Value.int p1]) below meth c A (dC, dI) 2 Q (wdM cI cZ cB g0 g1 g2 g3 g4 g5 g6 g7 g8 g9 g10 g11 gS gI gK gO gL gT gB gC gP gR gG gn) [(0, .ref g0), (1, .int p1)] 0 []
  refine sj_aload_n C dM_isLine_0 0 rfl rfl ?_
  refine sj_get C nM_in 0 rfl rfl 0 (by decide) wd_435 rfl rfl dM_isLine_1 ?_
  refine sj_aload_n C dM_isLine_4 0 rfl rfl ?_
  refine sj_get C nM_in 0 rfl rfl 3 (by decide) wd_438 rfl rfl dM_isLine_5 ?_
  refine sj_iload_n C dM_isLine_8 1 rfl rfl ?_
  obtain ⟨h_9, hf⟩ := in_some hf
  refine sj_iald C 4 0 rfl rfl h_9 rfl dM_isLine_9 ?_
  obtain ⟨h_10, hf⟩ := in_some hf
  refine sj_iald C 1 0 rfl rfl h_10 rfl dM_isLine_10 ?_
  refine sj_if_ne C 18 dM_isLine_11 (by decide) (fun c_11 => ?_) (fun c_11 => ?_)
  · have hf := (if_neg c_11).symm.trans hf
    refine sj_iconst C dM_isLine_18 ki_0 ?_
    exact sj_lv [] rfl (hb_19 0 hf)
  · have hf := (if_pos c_11).symm.trans hf
    refine sj_iconst C dM_isLine_14 ki_1 ?_
    refine sj_goto C 19 dM_isLine_15 (by decide) ?_
    exact sj_lv [] rfl (hb_19 1 hf)
abbrev rM_mayBegin : Room := { frames := 1, cells := 0, slots := 0, locals := 21 }
set_option maxHeartbeats 4000000 in
set_option maxRecDepth 100000 in
theorem cM_mayBegin (l : Launch) (dC : Nat → ClassId) (dI : Nat → Nat → Nat) (cI cZ cB : ClassId) (g0 g1 g2 g3 g4 g5 g6 g7 g8 g9 g10 g11 : Nat) (gS gI gK gO gL gT gB gC gP gR gG : Nat → Int32) (gn : Int32) (p1 p2 : Int32) (r : Int32)  (hf : fM_mayBegin p1 p2 gS gO gL gT = some r) : MI l yM_mayBegin wM_mayBegin rM_mayBegin (dC, dI) (tyl cI cZ cB) [Value.ref g0, Value.int p1, Value.int p2] (wdM cI cZ cB g0 g1 g2 g3 g4 g5 g6 g7 g8 g9 g10 g11 gS gI gK gO gL gT gB gC gP gR gG gn) (wdM cI cZ cB g0 g1 g2 g3 g4 g5 g6 g7 g8 g9 g10 g11 gS gI gK gO gL gT gB gC gP gR gG gn) r := by
  refine MZ_of "StepColumnsModel" rfl (by decide) (Nat.le_of_ble_eq_true rfl) ?_
  intro p e s m below meth c A Q C hQ
  have hb_37 : fM_mayBegin_b37 gS gO gL gT = some r → SJ p l e rM_mayBegin s m (List.toArray [Value.ref g0, Value.int p1, Value.int p2]) below meth c A (dC, dI) 3 Q (wdM cI cZ cB g0 g1 g2 g3 g4 g5 g6 g7 g8 g9 g10 g11 gS gI gK gO gL gT gB gC gP gR gG gn) [] 37 [] := by
    intro  hf
    unfold fM_mayBegin_b37 at hf
    refine sj_iconst C dM_mayBegin_37 ki_0 ?_
    cases hf
    exact hQ 38 _ (Or.inl rfl) dM_mayBegin_38
  have hb_91 : ∀ (t0 : Int32), fM_mayBegin_b91 t0 gS gO gL gT = some r → SJ p l e rM_mayBegin s m (List.toArray [Value.ref g0, Value.int p1, Value.int p2]) below meth c A (dC, dI) 3 Q (wdM cI cZ cB g0 g1 g2 g3 g4 g5 g6 g7 g8 g9 g10 g11 gS gI gK gO gL gT gB gC gP gR gG gn) [] 91 [.int t0] := by
    intro t0 hf
    unfold fM_mayBegin_b91 at hf
    obtain ⟨h_91, hf⟩ := in_some hf
    cases hf
    exact hQ 91 _ (Decidable.not_not.mp h_91) dM_mayBegin_91
  have hb_86 : fM_mayBegin_b86 gS gO gL gT = some r → SJ p l e rM_mayBegin s m (List.toArray [Value.ref g0, Value.int p1, Value.int p2]) below meth c A (dC, dI) 3 Q (wdM cI cZ cB g0 g1 g2 g3 g4 g5 g6 g7 g8 g9 g10 g11 gS gI gK gO gL gT gB gC gP gR gG gn) [] 86 [] := by
    intro  hf
    unfold fM_mayBegin_b86 at hf
    refine sj_iconst C dM_mayBegin_86 ki_1 ?_
    refine sj_goto C 91 dM_mayBegin_87 (by decide) ?_
    exact sj_lv [] rfl (hb_91 1 hf)
  have hb_90 : fM_mayBegin_b90 gS gO gL gT = some r → SJ p l e rM_mayBegin s m (List.toArray [Value.ref g0, Value.int p1, Value.int p2]) below meth c A (dC, dI) 3 Q (wdM cI cZ cB g0 g1 g2 g3 g4 g5 g6 g7 g8 g9 g10 g11 gS gI gK gO gL gT gB gC gP gR gG gn) [] 90 [] := by
    intro  hf
    unfold fM_mayBegin_b90 at hf
    refine sj_iconst C dM_mayBegin_90 ki_0 ?_
    exact sj_lv [] rfl (hb_91 0 hf)
  have hb_39 : ∀ (v1 v2 : Int32), fM_mayBegin_b39 v1 v2 gS gO gL gT = some r → SJ p l e rM_mayBegin s m (List.toArray [Value.ref g0, Value.int p1, Value.int p2]) below meth c A (dC, dI) 3 Q (wdM cI cZ cB g0 g1 g2 g3 g4 g5 g6 g7 g8 g9 g10 g11 gS gI gK gO gL gT gB gC gP gR gG gn) [(0, .ref g0), (1, .int v1), (2, .int v2)] 39 [] := by
    intro v1 v2 hf
    unfold fM_mayBegin_b39 at hf
    refine sj_aload_n C dM_mayBegin_39 0 rfl rfl ?_
    refine sj_iload_n C dM_mayBegin_40 1 rfl rfl ?_
    obtain ⟨r_41, hq_41, hf⟩ := bd1_some hf
    refine sj_callVi (w1 := (wdM cI cZ cB g0 g1 g2 g3 g4 g5 g6 g7 g8 g9 g10 g11 gS gI gK gO gL gT gB gC gP gR gG gn)) (q0 := 0) C "StepColumnsModel" (cM_isLine l dC dI cI cZ cB g0 g1 g2 g3 g4 g5 g6 g7 g8 g9 g10 g11 gS gI gK gO gL gT gB gC gP gR gG gn v1 r_41 hq_41) wd_542 wd_544 wd_24 wd_39 wd_545 hM_isLine rfl rfl ⟨Nat.le_of_ble_eq_true rfl, Nat.le_of_ble_eq_true rfl⟩ [0, 1, 2, 3, 4, 5, 6, 7, 8, 9, 10, 11] [] ⟨rfl, rfl, rfl, rfl, rfl, rfl, kv_12_0_1_2_3_4_5_6_7_8_9_10_11⟩ rfl rfl rfl rfl rfl (Nat.le_of_ble_eq_true rfl) dM_mayBegin_41 ?_
    refine sj_if_eq C 86 dM_mayBegin_44 (by decide) (fun c_44 => ?_) (fun c_44 => ?_)
    · have hf := (if_pos c_44).symm.trans hf
      exact sj_lv [] rfl (hb_86 hf)
    · have hf := (if_neg c_44).symm.trans hf
      refine sj_aload_n C dM_mayBegin_47 0 rfl rfl ?_
      refine sj_get C nM_in 0 rfl rfl 4 (by decide) wd_439 rfl rfl dM_mayBegin_48 ?_
      refine sj_iload_n C dM_mayBegin_51 1 rfl rfl ?_
      obtain ⟨h_52, hf⟩ := in_some hf
      refine sj_iald C 5 0 rfl rfl h_52 rfl dM_mayBegin_52 ?_
      refine sj_if_eq C 86 dM_mayBegin_53 (by decide) (fun c_53 => ?_) (fun c_53 => ?_)
      · have hf := (if_pos c_53).symm.trans hf
        exact sj_lv [] rfl (hb_86 hf)
      · have hf := (if_neg c_53).symm.trans hf
        refine sj_iload_n C dM_mayBegin_56 2 rfl rfl ?_
        refine sj_iconst C dM_mayBegin_57 ki_2 ?_
        refine sj_icmp_ne C 90 dM_mayBegin_58 (by decide) (fun c_58 => ?_) (fun c_58 => ?_)
        · have hf := (if_neg c_58).symm.trans hf
          exact sj_lv [] rfl (hb_90 hf)
        · have hf := (if_pos c_58).symm.trans hf
          refine sj_aload_n C dM_mayBegin_61 0 rfl rfl ?_
          refine sj_get C nM_in 0 rfl rfl 4 (by decide) wd_439 rfl rfl dM_mayBegin_62 ?_
          refine sj_iload_n C dM_mayBegin_65 1 rfl rfl ?_
          obtain ⟨h_66, hf⟩ := in_some hf
          refine sj_iald C 5 0 rfl rfl h_66 rfl dM_mayBegin_66 ?_
          refine sj_aload_n C dM_mayBegin_67 0 rfl rfl ?_
          refine sj_get C nM_in 0 rfl rfl 0 (by decide) wd_435 rfl rfl dM_mayBegin_68 ?_
          refine sj_bipush C dM_mayBegin_71 kb_12 ?_
          refine sj_aload_n C dM_mayBegin_73 0 rfl rfl ?_
          refine sj_get C nM_in 0 rfl rfl 3 (by decide) wd_438 rfl rfl dM_mayBegin_74 ?_
          refine sj_iload_n C dM_mayBegin_77 1 rfl rfl ?_
          obtain ⟨h_78, hf⟩ := in_some hf
          refine sj_iald C 4 0 rfl rfl h_78 rfl dM_mayBegin_78 ?_
          refine sj_iadd C dM_mayBegin_79 ?_
          obtain ⟨h_80, hf⟩ := in_some hf
          refine sj_iald C 1 0 rfl rfl h_80 rfl dM_mayBegin_80 ?_
          refine sj_iconst C dM_mayBegin_81 ki_1 ?_
          refine sj_isub C dM_mayBegin_82 ?_
          refine sj_icmp_ge C 90 dM_mayBegin_83 (by decide) (fun c_83 => ?_) (fun c_83 => ?_)
          · have hf := (if_pos c_83).symm.trans hf
            exact sj_lv [] rfl (hb_90 hf)
          · have hf := (if_neg c_83).symm.trans hf
            exact sj_lv [] rfl (hb_86 hf)
  unfold fM_mayBegin at hf
  change SJ p l e rM_mayBegin s m (List.toArray [Value.ref g0, Value.int p1, Value.int p2]) below meth c A (dC, dI) 3 Q (wdM cI cZ cB g0 g1 g2 g3 g4 g5 g6 g7 g8 g9 g10 g11 gS gI gK gO gL gT gB gC gP gR gG gn) [(0, .ref g0), (1, .int p1), (2, .int p2)] 0 []
  refine sj_aload_n C dM_mayBegin_0 0 rfl rfl ?_
  refine sj_get C nM_in 0 rfl rfl 5 (by decide) wd_440 rfl rfl dM_mayBegin_1 ?_
  refine sj_iload_n C dM_mayBegin_4 1 rfl rfl ?_
  obtain ⟨h_5, hf⟩ := in_some hf
  refine sj_iald C 6 0 rfl rfl h_5 rfl dM_mayBegin_5 ?_
  refine sj_aload_n C dM_mayBegin_6 0 rfl rfl ?_
  refine sj_get C nM_in 0 rfl rfl 0 (by decide) wd_435 rfl rfl dM_mayBegin_7 ?_
  refine sj_bipush C dM_mayBegin_10 kb_49 ?_
  refine sj_iald C 1 0 rfl rfl kn_49_51 kc_49 dM_mayBegin_12 ?_
  refine sj_icmp_gt C 37 dM_mayBegin_13 (by decide) (fun c_13 => ?_) (fun c_13 => ?_)
  · have hf := (if_pos c_13).symm.trans hf
    exact sj_lv [] rfl (hb_37 hf)
  · have hf := (if_neg c_13).symm.trans hf
    refine sj_iload_n C dM_mayBegin_16 1 rfl rfl ?_
    refine sj_if_le C 39 dM_mayBegin_17 (by decide) (fun c_17 => ?_) (fun c_17 => ?_)
    · have hf := (if_pos c_17).symm.trans hf
      exact sj_lv [0, 1, 2] rfl (hb_39 p1 p2 hf)
    · have hf := (if_neg c_17).symm.trans hf
      refine sj_aload_n C dM_mayBegin_20 0 rfl rfl ?_
      refine sj_get C nM_in 0 rfl rfl 0 (by decide) wd_435 rfl rfl dM_mayBegin_21 ?_
      refine sj_aload_n C dM_mayBegin_24 0 rfl rfl ?_
      refine sj_get C nM_in 0 rfl rfl 3 (by decide) wd_438 rfl rfl dM_mayBegin_25 ?_
      refine sj_iload_n C dM_mayBegin_28 1 rfl rfl ?_
      refine sj_iconst C dM_mayBegin_29 ki_1 ?_
      refine sj_isub C dM_mayBegin_30 ?_
      obtain ⟨h_31, hf⟩ := in_some hf
      refine sj_iald C 4 0 rfl rfl h_31 rfl dM_mayBegin_31 ?_
      obtain ⟨h_32, hf⟩ := in_some hf
      refine sj_iald C 1 0 rfl rfl h_32 rfl dM_mayBegin_32 ?_
      refine sj_iconst C dM_mayBegin_33 ki_1 ?_
      refine sj_icmp_ne C 39 dM_mayBegin_34 (by decide) (fun c_34 => ?_) (fun c_34 => ?_)
      · have hf := (if_neg c_34).symm.trans hf
        exact sj_lv [0, 1, 2] rfl (hb_39 p1 p2 hf)
      · have hf := (if_pos c_34).symm.trans hf
        exact sj_lv [] rfl (hb_37 hf)
abbrev rM_linesBy : Room := { frames := 1, cells := 0, slots := 0, locals := 21 }
set_option maxHeartbeats 4000000 in
set_option maxRecDepth 100000 in
theorem cM_linesBy (l : Launch) (dC : Nat → ClassId) (dI : Nat → Nat → Nat) (cI cZ cB : ClassId) (g0 g1 g2 g3 g4 g5 g6 g7 g8 g9 g10 g11 : Nat) (gS gI gK gO gL gT gB gC gP gR gG : Nat → Int32) (gn : Int32) (p1 p2 : Int32) (r : Int32)  (hf : fM_linesBy p1 p2 gS gO gL = some r) : MI l yM_linesBy wM_linesBy rM_linesBy (dC, dI) (tyl cI cZ cB) [Value.ref g0, Value.int p1, Value.int p2] (wdM cI cZ cB g0 g1 g2 g3 g4 g5 g6 g7 g8 g9 g10 g11 gS gI gK gO gL gT gB gC gP gR gG gn) (wdM cI cZ cB g0 g1 g2 g3 g4 g5 g6 g7 g8 g9 g10 g11 gS gI gK gO gL gT gB gC gP gR gG gn) r := by
  refine MI_of "StepColumnsModel" rfl (by decide) (Nat.le_of_ble_eq_true rfl) ?_
  intro p e s m below meth c A Q C hQ
  have hb_30 : ∀ (t0 : Int32), fM_linesBy_b30 t0 gS gO gL = some r → SJ p l e rM_linesBy s m (List.toArray [Value.ref g0, Value.int p1, Value.int p2]) below meth c A (dC, dI) 3 Q (wdM cI cZ cB g0 g1 g2 g3 g4 g5 g6 g7 g8 g9 g10 g11 gS gI gK gO gL gT gB gC gP gR gG gn) [] 30 [.int t0] := by
    intro t0 hf
    unfold fM_linesBy_b30 at hf
    cases hf
    exact hQ 30 _ dM_linesBy_30
  have hb_25 : fM_linesBy_b25 gS gO gL = some r → SJ p l e rM_linesBy s m (List.toArray [Value.ref g0, Value.int p1, Value.int p2]) below meth c A (dC, dI) 3 Q (wdM cI cZ cB g0 g1 g2 g3 g4 g5 g6 g7 g8 g9 g10 g11 gS gI gK gO gL gT gB gC gP gR gG gn) [] 25 [] := by
    intro  hf
    unfold fM_linesBy_b25 at hf
    refine sj_iconst C dM_linesBy_25 ki_1 ?_
    refine sj_goto C 30 dM_linesBy_26 (by decide) ?_
    exact sj_lv [] rfl (hb_30 1 hf)
  unfold fM_linesBy at hf
  change SJ p l e rM_linesBy s m (List.toArray [Value.ref g0, Value.int p1, Value.int p2]) below meth c A (dC, dI) 3 Q (wdM cI cZ cB g0 g1 g2 g3 g4 g5 g6 g7 g8 g9 g10 g11 gS gI gK gO gL gT gB gC gP gR gG gn) [(0, .ref g0), (1, .int p1), (2, .int p2)] 0 []
  refine sj_aload_n C dM_linesBy_0 0 rfl rfl ?_
  refine sj_iload_n C dM_linesBy_1 1 rfl rfl ?_
  obtain ⟨r_2, hq_2, hf⟩ := bd1_some hf
  refine sj_callVi (w1 := (wdM cI cZ cB g0 g1 g2 g3 g4 g5 g6 g7 g8 g9 g10 g11 gS gI gK gO gL gT gB gC gP gR gG gn)) (q0 := 0) C "StepColumnsModel" (cM_isLine l dC dI cI cZ cB g0 g1 g2 g3 g4 g5 g6 g7 g8 g9 g10 g11 gS gI gK gO gL gT gB gC gP gR gG gn p1 r_2 hq_2) wd_542 wd_544 wd_24 wd_39 wd_545 hM_isLine rfl rfl ⟨Nat.le_of_ble_eq_true rfl, Nat.le_of_ble_eq_true rfl⟩ [0, 1, 2, 3, 4, 5, 6, 7, 8, 9, 10, 11] [] ⟨rfl, rfl, rfl, rfl, rfl, rfl, kv_12_0_1_2_3_4_5_6_7_8_9_10_11⟩ rfl rfl rfl rfl rfl (Nat.le_of_ble_eq_true rfl) dM_linesBy_2 ?_
  refine sj_if_ne C 12 dM_linesBy_5 (by decide) (fun c_5 => ?_) (fun c_5 => ?_)
  · have hf := (if_neg c_5).symm.trans hf
    refine sj_aload_n C dM_linesBy_12 0 rfl rfl ?_
    refine sj_get C nM_in 0 rfl rfl 4 (by decide) wd_439 rfl rfl dM_linesBy_13 ?_
    refine sj_iload_n C dM_linesBy_16 1 rfl rfl ?_
    obtain ⟨h_17, hf⟩ := in_some hf
    refine sj_iald C 5 0 rfl rfl h_17 rfl dM_linesBy_17 ?_
    refine sj_if_eq C 25 dM_linesBy_18 (by decide) (fun c_18 => ?_) (fun c_18 => ?_)
    · have hf := (if_pos c_18).symm.trans hf
      exact sj_lv [] rfl (hb_25 hf)
    · have hf := (if_neg c_18).symm.trans hf
      refine sj_iload_n C dM_linesBy_21 2 rfl rfl ?_
      refine sj_if_ne C 29 dM_linesBy_22 (by decide) (fun c_22 => ?_) (fun c_22 => ?_)
      · have hf := (if_neg c_22).symm.trans hf
        refine sj_iconst C dM_linesBy_29 ki_2 ?_
        exact sj_lv [] rfl (hb_30 2 hf)
      · have hf := (if_pos c_22).symm.trans hf
        exact sj_lv [] rfl (hb_25 hf)
  · have hf := (if_pos c_5).symm.trans hf
    refine sj_iconst C dM_linesBy_8 ki_0 ?_
    refine sj_goto C 30 dM_linesBy_9 (by decide) ?_
    exact sj_lv [] rfl (hb_30 0 hf)
abbrev rM_at : Room := { frames := 0, cells := 0, slots := 0, locals := 0 }
set_option maxHeartbeats 4000000 in
set_option maxRecDepth 100000 in
theorem cM_at (l : Launch) (dC : Nat → ClassId) (dI : Nat → Nat → Nat) (cI cZ cB : ClassId)  (p1 p2 p3 : Int32) (r : Int32)  (hf : fM_at p1 p2 p3 = some r) : MI l yM_at wM_at rM_at (dC, dI) (tyl cI cZ cB) [Value.int p1, Value.int p2, Value.int p3] [] [] r := by
  refine MI_of "StepColumnsModel" rfl (by decide) (Nat.le_of_ble_eq_true rfl) ?_
  intro p e s m below meth c A Q C hQ
  unfold fM_at at hf
  change SJ p l e rM_at s m (List.toArray [Value.int p1, Value.int p2, Value.int p3]) below meth c A (dC, dI) 3 Q [] [(0, .int p1), (1, .int p2), (2, .int p3)] 0 []
  refine sj_sipush C dM_at_0 ks_201 ?_
  refine sj_iload_n C dM_at_3 0 rfl rfl ?_
  refine sj_imul C dM_at_4 ?_
  refine sj_iload_n C dM_at_5 1 rfl rfl ?_
  refine sj_iadd C dM_at_6 ?_
  refine sj_iconst C dM_at_7 ki_3 ?_
  refine sj_imul C dM_at_8 ?_
  refine sj_iload_n C dM_at_9 2 rfl rfl ?_
  refine sj_iadd C dM_at_10 ?_
  cases hf
  exact hQ 11 _ dM_at_11
abbrev rM_withRoom : Room := { frames := 2, cells := 0, slots := 0, locals := 43 }
set_option maxHeartbeats 4000000 in
set_option maxRecDepth 100000 in
theorem cM_withRoom (l : Launch) (dC : Nat → ClassId) (dI : Nat → Nat → Nat) (cI cZ cB : ClassId) (g0 g1 g2 g3 g4 g5 g6 g7 g8 g9 g10 g11 : Nat) (gS gI gK gO gL gT gB gC gP gR gG : Nat → Int32) (gn : Int32) (p1 p2 p3 p4 : Int32) (r : Int32)  (hf : fM_withRoom p1 p2 p3 p4 gS gO gL gT gB = some r) : MI l yM_withRoom wM_withRoom rM_withRoom (dC, dI) (tyl cI cZ cB) [Value.ref g0, Value.int p1, Value.int p2, Value.int p3, Value.int p4] (wdM cI cZ cB g0 g1 g2 g3 g4 g5 g6 g7 g8 g9 g10 g11 gS gI gK gO gL gT gB gC gP gR gG gn) (wdM cI cZ cB g0 g1 g2 g3 g4 g5 g6 g7 g8 g9 g10 g11 gS gI gK gO gL gT gB gC gP gR gG gn) r := by
  refine MI_of "StepColumnsModel" rfl (by decide) (Nat.le_of_ble_eq_true rfl) ?_
  intro p e s m below meth c A Q C hQ
  have hb_100 : ∀ (t0 : Int32), fM_withRoom_b100 t0 gS gO gL gT gB = some r → SJ p l e rM_withRoom s m (List.toArray [Value.ref g0, Value.int p1, Value.int p2, Value.int p3, Value.int p4]) below meth c A (dC, dI) 7 Q (wdM cI cZ cB g0 g1 g2 g3 g4 g5 g6 g7 g8 g9 g10 g11 gS gI gK gO gL gT gB gC gP gR gG gn) [] 100 [.int t0] := by
    intro t0 hf
    unfold fM_withRoom_b100 at hf
    cases hf
    exact hQ 100 _ dM_withRoom_100
  have hb_99 : ∀ (t0 t1 : Int32), fM_withRoom_b99 t0 t1 gS gO gL gT gB = some r → SJ p l e rM_withRoom s m (List.toArray [Value.ref g0, Value.int p1, Value.int p2, Value.int p3, Value.int p4]) below meth c A (dC, dI) 7 Q (wdM cI cZ cB g0 g1 g2 g3 g4 g5 g6 g7 g8 g9 g10 g11 gS gI gK gO gL gT gB gC gP gR gG gn) [] 99 [.int t1, .int t0] := by
    intro t0 t1 hf
    unfold fM_withRoom_b99 at hf
    refine sj_iadd C dM_withRoom_99 ?_
    exact sj_lv [] rfl (hb_100 (t0 + t1) hf)
  have hb_98 : ∀ (t0 : Int32), fM_withRoom_b98 t0 gS gO gL gT gB = some r → SJ p l e rM_withRoom s m (List.toArray [Value.ref g0, Value.int p1, Value.int p2, Value.int p3, Value.int p4]) below meth c A (dC, dI) 7 Q (wdM cI cZ cB g0 g1 g2 g3 g4 g5 g6 g7 g8 g9 g10 g11 gS gI gK gO gL gT gB gC gP gR gG gn) [] 98 [.int t0] := by
    intro t0 hf
    unfold fM_withRoom_b98 at hf
    refine sj_iconst C dM_withRoom_98 ki_0 ?_
    exact sj_lv [] rfl (hb_99 t0 0 hf)
  unfold fM_withRoom at hf
  change SJ p l e rM_withRoom s m (List.toArray [Value.ref g0, Value.int p1, Value.int p2, Value.int p3, Value.int p4]) below meth c A (dC, dI) 7 Q (wdM cI cZ cB g0 g1 g2 g3 g4 g5 g6 g7 g8 g9 g10 g11 gS gI gK gO gL gT gB gC gP gR gG gn) [(0, .ref g0), (1, .int p1), (2, .int p2), (3, .int p3), (4, .int p4)] 0 []
  refine sj_iload_n C dM_withRoom_0 2 rfl rfl ?_
  refine sj_iload C dM_withRoom_1 4 rfl ?_
  refine sj_iadd C dM_withRoom_3 ?_
  refine sj_istore (lv' := [(5, .int (p2 + p4)), (0, .ref g0), (1, .int p1), (2, .int p2), (3, .int p3), (4, .int p4)]) C dM_withRoom_4 (by decide) rfl ?_
  refine sj_iload C dM_withRoom_6 0 rfl ?_
  refine sj_aload_n C dM_withRoom_8 1 rfl rfl ?_
  refine sj_get C nM_in 0 rfl rfl 5 (by decide) wd_440 rfl rfl dM_withRoom_9 ?_
  refine sj_iload_n C dM_withRoom_12 2 rfl rfl ?_
  obtain ⟨h_13, hf⟩ := in_some hf
  refine sj_iald C 6 0 rfl rfl h_13 rfl dM_withRoom_13 ?_
  refine sj_iadd C dM_withRoom_14 ?_
  refine sj_aload_n C dM_withRoom_15 1 rfl rfl ?_
  refine sj_get C nM_in 0 rfl rfl 0 (by decide) wd_435 rfl rfl dM_withRoom_16 ?_
  refine sj_bipush C dM_withRoom_19 kb_49 ?_
  refine sj_iald C 1 0 rfl rfl kn_49_51 kc_49 dM_withRoom_21 ?_
  refine sj_icmp_le C 28 dM_withRoom_22 (by decide) (fun c_22 => ?_) (fun c_22 => ?_)
  · have hf := (if_pos c_22).symm.trans hf
    refine sj_aload_n C dM_withRoom_28 1 rfl rfl ?_
    refine sj_get C nM_in 0 rfl rfl 7 (by decide) wd_442 rfl rfl dM_withRoom_29 ?_
    refine sj_iload_n C dM_withRoom_32 2 rfl rfl ?_
    refine sj_iconst C dM_withRoom_33 ki_1 ?_
    refine sj_iadd C dM_withRoom_34 ?_
    refine sj_iload C dM_withRoom_35 0 rfl ?_
    refine sj_aload_n C dM_withRoom_37 1 rfl rfl ?_
    refine sj_get C nM_in 0 rfl rfl 5 (by decide) wd_440 rfl rfl dM_withRoom_38 ?_
    refine sj_iload_n C dM_withRoom_41 2 rfl rfl ?_
    obtain ⟨h_42, hf⟩ := in_some hf
    refine sj_iald C 6 0 rfl rfl h_42 rfl dM_withRoom_42 ?_
    refine sj_iadd C dM_withRoom_43 ?_
    refine sj_aload_n C dM_withRoom_44 1 rfl rfl ?_
    refine sj_iload_n C dM_withRoom_45 2 rfl rfl ?_
    refine sj_iload_n C dM_withRoom_46 4 rfl rfl ?_
    obtain ⟨r_47, hq_47, hf⟩ := bd1_some hf
    refine sj_callVi (w1 := (wdM cI cZ cB g0 g1 g2 g3 g4 g5 g6 g7 g8 g9 g10 g11 gS gI gK gO gL gT gB gC gP gR gG gn)) (q0 := 0) C "StepColumnsModel" (cM_linesBy l dC dI cI cZ cB g0 g1 g2 g3 g4 g5 g6 g7 g8 g9 g10 g11 gS gI gK gO gL gT gB gC gP gR gG gn p1 p3 r_47 hq_47) wd_551 wd_553 wd_26 wd_39 wd_554 hM_linesBy rfl rfl ⟨Nat.le_of_ble_eq_true rfl, Nat.le_of_ble_eq_true rfl⟩ [0, 1, 2, 3, 4, 5, 6, 7, 8, 9, 10, 11] [] ⟨rfl, rfl, rfl, rfl, rfl, rfl, kv_12_0_1_2_3_4_5_6_7_8_9_10_11⟩ rfl rfl rfl rfl rfl (Nat.le_of_ble_eq_true rfl) dM_withRoom_47 ?_
    obtain ⟨r_50, hq_50, hf⟩ := bd1_some hf
    refine sj_callSi (w1 := (wdM cI cZ cB g0 g1 g2 g3 g4 g5 g6 g7 g8 g9 g10 g11 gS gI gK gO gL gT gB gC gP gR gG gn)) C "StepColumnsModel" (cM_at l dC dI cI cZ cB   (p1 + 1) ((p2 + p4) + (gT p1.toNatClampNeg)) r_47 r_50 hq_50) wd_531 wd_532 wd_39 wd_533 hM_at rfl rfl ⟨Nat.le_of_ble_eq_true rfl, Nat.le_of_ble_eq_true rfl⟩ [] [0, 1, 2, 3, 4, 5, 6, 7, 8, 9, 10, 11] ⟨rfl, rfl, rfl, rfl, rfl, rfl, kv_12_⟩ rfl rfl (Nat.le_of_ble_eq_true rfl) dM_withRoom_50 ?_
    obtain ⟨h_53, hf⟩ := in_some hf
    refine sj_iald C 7 0 rfl rfl h_53 rfl dM_withRoom_53 ?_
    refine sj_istore (lv' := [(6, .int (gB r_50.toNatClampNeg)), (5, .int (p2 + p4)), (0, .ref g0), (1, .int p1), (2, .int p2), (3, .int p3), (4, .int p4)]) C dM_withRoom_54 (by decide) rfl ?_
    refine sj_iload C dM_withRoom_56 0 rfl ?_
    refine sj_if_ge C 66 dM_withRoom_58 (by decide) (fun c_58 => ?_) (fun c_58 => ?_)
    · have hf := (if_pos c_58).symm.trans hf
      refine sj_iload C dM_withRoom_66 0 rfl ?_
      refine sj_iload C dM_withRoom_68 6 rfl ?_
      refine sj_iadd C dM_withRoom_70 ?_
      refine sj_aload_n C dM_withRoom_71 2 rfl rfl ?_
      refine sj_iload_n C dM_withRoom_72 3 rfl rfl ?_
      obtain ⟨r_73, hq_73, hf⟩ := bd1_some hf
      refine sj_callVi (w1 := (wdM cI cZ cB g0 g1 g2 g3 g4 g5 g6 g7 g8 g9 g10 g11 gS gI gK gO gL gT gB gC gP gR gG gn)) (q0 := 0) C "StepColumnsModel" (cM_isLine l dC dI cI cZ cB g0 g1 g2 g3 g4 g5 g6 g7 g8 g9 g10 g11 gS gI gK gO gL gT gB gC gP gR gG gn p1 r_73 hq_73) wd_542 wd_544 wd_24 wd_39 wd_545 hM_isLine rfl rfl ⟨Nat.le_of_ble_eq_true rfl, Nat.le_of_ble_eq_true rfl⟩ [0, 1, 2, 3, 4, 5, 6, 7, 8, 9, 10, 11] [] ⟨rfl, rfl, rfl, rfl, rfl, rfl, kv_12_0_1_2_3_4_5_6_7_8_9_10_11⟩ rfl rfl rfl rfl rfl (Nat.le_of_ble_eq_true rfl) dM_withRoom_73 ?_
      refine sj_if_eq C 98 dM_withRoom_76 (by decide) (fun c_76 => ?_) (fun c_76 => ?_)
      · have hf := (if_pos c_76).symm.trans hf
        exact sj_lv [] rfl (hb_98 ((gB r_50.toNatClampNeg) + p4) hf)
      · have hf := (if_neg c_76).symm.trans hf
        refine sj_iload C dM_withRoom_79 1 rfl ?_
        refine sj_aload_n C dM_withRoom_81 2 rfl rfl ?_
        refine sj_get C nM_in 0 rfl rfl 0 (by decide) wd_435 rfl rfl dM_withRoom_82 ?_
        refine sj_bipush C dM_withRoom_85 kb_48 ?_
        refine sj_iald C 1 0 rfl rfl kn_48_51 kc_48 dM_withRoom_87 ?_
        obtain ⟨h_88, hf⟩ := in_some hf
        refine sj_irem C dM_withRoom_88 h_88 ?_
        refine sj_if_eq C 98 dM_withRoom_89 (by decide) (fun c_89 => ?_) (fun c_89 => ?_)
        · have hf := (if_pos c_89).symm.trans hf
          exact sj_lv [] rfl (hb_98 ((gB r_50.toNatClampNeg) + p4) hf)
        · have hf := (if_neg c_89).symm.trans hf
          refine sj_sipush C dM_withRoom_92 ks_1000 ?_
          refine sj_goto C 99 dM_withRoom_95 (by decide) ?_
          exact sj_lv [] rfl (hb_99 ((gB r_50.toNatClampNeg) + p4) 1000 hf)
    · have hf := (if_neg c_58).symm.trans hf
      refine sj_bipush C dM_withRoom_61 kb_m6 ?_
      refine sj_goto C 100 dM_withRoom_63 (by decide) ?_
      exact sj_lv [] rfl (hb_100 (-6) hf)
  · have hf := (if_neg c_22).symm.trans hf
    refine sj_bipush C dM_withRoom_25 kb_m6 ?_
    cases hf
    exact hQ 27 _ dM_withRoom_27
abbrev rM_asFirst : Room := { frames := 2, cells := 0, slots := 0, locals := 43 }
set_option maxHeartbeats 4000000 in
set_option maxRecDepth 100000 in
theorem cM_asFirst (l : Launch) (dC : Nat → ClassId) (dI : Nat → Nat → Nat) (cI cZ cB : ClassId) (g0 g1 g2 g3 g4 g5 g6 g7 g8 g9 g10 g11 : Nat) (gS gI gK gO gL gT gB gC gP gR gG : Nat → Int32) (gn : Int32) (p1 p2 : Int32) (r : Int32)  (hf : fM_asFirst p1 p2 gS gO gL gT gB = some r) : MI l yM_asFirst wM_asFirst rM_asFirst (dC, dI) (tyl cI cZ cB) [Value.ref g0, Value.int p1, Value.int p2] (wdM cI cZ cB g0 g1 g2 g3 g4 g5 g6 g7 g8 g9 g10 g11 gS gI gK gO gL gT gB gC gP gR gG gn) (wdM cI cZ cB g0 g1 g2 g3 g4 g5 g6 g7 g8 g9 g10 g11 gS gI gK gO gL gT gB gC gP gR gG gn) r := by
  refine MI_of "StepColumnsModel" rfl (by decide) (Nat.le_of_ble_eq_true rfl) ?_
  intro p e s m below meth c A Q C hQ
  have hb_56 : ∀ (t0 : Int32), fM_asFirst_b56 t0 gS gO gL gT gB = some r → SJ p l e rM_asFirst s m (List.toArray [Value.ref g0, Value.int p1, Value.int p2]) below meth c A (dC, dI) 4 Q (wdM cI cZ cB g0 g1 g2 g3 g4 g5 g6 g7 g8 g9 g10 g11 gS gI gK gO gL gT gB gC gP gR gG gn) [] 56 [.int t0] := by
    intro t0 hf
    unfold fM_asFirst_b56 at hf
    cases hf
    exact hQ 56 _ dM_asFirst_56
  have hb_38 : ∀ (t1 t2 t3 : Int32), fM_asFirst_b38 t1 t2 t3 gS gO gL gT gB = some r → SJ p l e rM_asFirst s m (List.toArray [Value.ref g0, Value.int p1, Value.int p2]) below meth c A (dC, dI) 4 Q (wdM cI cZ cB g0 g1 g2 g3 g4 g5 g6 g7 g8 g9 g10 g11 gS gI gK gO gL gT gB gC gP gR gG gn) [] 38 [.int t3, .int t2, .int t1, .ref g7] := by
    intro t1 t2 t3 hf
    unfold fM_asFirst_b38 at hf
    obtain ⟨r_38, hq_38, hf⟩ := bd1_some hf
    refine sj_callSi (w1 := (wdM cI cZ cB g0 g1 g2 g3 g4 g5 g6 g7 g8 g9 g10 g11 gS gI gK gO gL gT gB gC gP gR gG gn)) C "StepColumnsModel" (cM_at l dC dI cI cZ cB   t1 t2 t3 r_38 hq_38) wd_531 wd_532 wd_39 wd_533 hM_at rfl rfl ⟨Nat.le_of_ble_eq_true rfl, Nat.le_of_ble_eq_true rfl⟩ [] [0, 1, 2, 3, 4, 5, 6, 7, 8, 9, 10, 11] ⟨rfl, rfl, rfl, rfl, rfl, rfl, kv_12_⟩ rfl rfl (Nat.le_of_ble_eq_true rfl) dM_asFirst_38 ?_
    obtain ⟨h_41, hf⟩ := in_some hf
    refine sj_iald C 7 0 rfl rfl h_41 rfl dM_asFirst_41 ?_
    refine sj_istore_n (lv' := [(3, .int (gB r_38.toNatClampNeg))]) C dM_asFirst_42 rfl (by decide) rfl ?_
    refine sj_iload_n C dM_asFirst_43 0 rfl rfl ?_
    refine sj_if_ge C 52 dM_asFirst_44 (by decide) (fun c_44 => ?_) (fun c_44 => ?_)
    · have hf := (if_pos c_44).symm.trans hf
      refine sj_iload_n C dM_asFirst_52 0 rfl rfl ?_
      refine sj_ldc C wd_546 dM_asFirst_53 ?_
      refine sj_iadd C dM_asFirst_55 ?_
      exact sj_lv [] rfl (hb_56 ((gB r_38.toNatClampNeg) + 1000000) hf)
    · have hf := (if_neg c_44).symm.trans hf
      refine sj_bipush C dM_asFirst_47 kb_m6 ?_
      refine sj_goto C 56 dM_asFirst_49 (by decide) ?_
      exact sj_lv [] rfl (hb_56 (-6) hf)
  unfold fM_asFirst at hf
  change SJ p l e rM_asFirst s m (List.toArray [Value.ref g0, Value.int p1, Value.int p2]) below meth c A (dC, dI) 4 Q (wdM cI cZ cB g0 g1 g2 g3 g4 g5 g6 g7 g8 g9 g10 g11 gS gI gK gO gL gT gB gC gP gR gG gn) [(0, .ref g0), (1, .int p1), (2, .int p2)] 0 []
  refine sj_aload_n C dM_asFirst_0 0 rfl rfl ?_
  refine sj_iload_n C dM_asFirst_1 1 rfl rfl ?_
  refine sj_iload_n C dM_asFirst_2 2 rfl rfl ?_
  obtain ⟨r_3, hq_3, hf⟩ := bd1_some hf
  refine sj_callVi (w1 := (wdM cI cZ cB g0 g1 g2 g3 g4 g5 g6 g7 g8 g9 g10 g11 gS gI gK gO gL gT gB gC gP gR gG gn)) (q0 := 0) C "StepColumnsModel" (cM_mayBegin l dC dI cI cZ cB g0 g1 g2 g3 g4 g5 g6 g7 g8 g9 g10 g11 gS gI gK gO gL gT gB gC gP gR gG gn p1 p2 r_3 hq_3) wd_538 wd_540 wd_23 wd_39 wd_541 hM_mayBegin rfl rfl ⟨Nat.le_of_ble_eq_true rfl, Nat.le_of_ble_eq_true rfl⟩ [0, 1, 2, 3, 4, 5, 6, 7, 8, 9, 10, 11] [] ⟨rfl, rfl, rfl, rfl, rfl, rfl, kv_12_0_1_2_3_4_5_6_7_8_9_10_11⟩ rfl rfl rfl rfl rfl (Nat.le_of_ble_eq_true rfl) dM_asFirst_3 ?_
  refine sj_if_ne C 12 dM_asFirst_6 (by decide) (fun c_6 => ?_) (fun c_6 => ?_)
  · have hf := (if_neg c_6).symm.trans hf
    refine sj_aload_n C dM_asFirst_12 0 rfl rfl ?_
    refine sj_get C nM_in 0 rfl rfl 7 (by decide) wd_442 rfl rfl dM_asFirst_13 ?_
    refine sj_iload_n C dM_asFirst_16 1 rfl rfl ?_
    refine sj_iconst C dM_asFirst_17 ki_1 ?_
    refine sj_iadd C dM_asFirst_18 ?_
    refine sj_aload_n C dM_asFirst_19 0 rfl rfl ?_
    refine sj_get C nM_in 0 rfl rfl 5 (by decide) wd_440 rfl rfl dM_asFirst_20 ?_
    refine sj_iload_n C dM_asFirst_23 1 rfl rfl ?_
    obtain ⟨h_24, hf⟩ := in_some hf
    refine sj_iald C 6 0 rfl rfl h_24 rfl dM_asFirst_24 ?_
    refine sj_aload_n C dM_asFirst_25 0 rfl rfl ?_
    refine sj_iload_n C dM_asFirst_26 1 rfl rfl ?_
    obtain ⟨r_27, hq_27, hf⟩ := bd1_some hf
    refine sj_callVi (w1 := (wdM cI cZ cB g0 g1 g2 g3 g4 g5 g6 g7 g8 g9 g10 g11 gS gI gK gO gL gT gB gC gP gR gG gn)) (q0 := 0) C "StepColumnsModel" (cM_isLine l dC dI cI cZ cB g0 g1 g2 g3 g4 g5 g6 g7 g8 g9 g10 g11 gS gI gK gO gL gT gB gC gP gR gG gn p1 r_27 hq_27) wd_542 wd_544 wd_24 wd_39 wd_545 hM_isLine rfl rfl ⟨Nat.le_of_ble_eq_true rfl, Nat.le_of_ble_eq_true rfl⟩ [0, 1, 2, 3, 4, 5, 6, 7, 8, 9, 10, 11] [] ⟨rfl, rfl, rfl, rfl, rfl, rfl, kv_12_0_1_2_3_4_5_6_7_8_9_10_11⟩ rfl rfl rfl rfl rfl (Nat.le_of_ble_eq_true rfl) dM_asFirst_27 ?_
    refine sj_if_eq C 37 dM_asFirst_30 (by decide) (fun c_30 => ?_) (fun c_30 => ?_)
    · have hf := (if_pos c_30).symm.trans hf
      refine sj_iconst C dM_asFirst_37 ki_0 ?_
      exact sj_lv [] rfl (hb_38 (p1 + 1) (gT p1.toNatClampNeg) 0 hf)
    · have hf := (if_neg c_30).symm.trans hf
      refine sj_iconst C dM_asFirst_33 ki_1 ?_
      refine sj_goto C 38 dM_asFirst_34 (by decide) ?_
      exact sj_lv [] rfl (hb_38 (p1 + 1) (gT p1.toNatClampNeg) 1 hf)
  · have hf := (if_pos c_6).symm.trans hf
    refine sj_bipush C dM_asFirst_9 kb_m6 ?_
    cases hf
    exact hQ 11 _ dM_asFirst_11
abbrev rM_better : Room := { frames := 0, cells := 0, slots := 0, locals := 0 }
set_option maxHeartbeats 4000000 in
set_option maxRecDepth 100000 in
theorem cM_better (l : Launch) (dC : Nat → ClassId) (dI : Nat → Nat → Nat) (cI cZ cB : ClassId)  (p1 p2 : Int32) (r : Int32)  (hf : fM_better p1 p2 = some r) : MI l yM_better wM_better rM_better (dC, dI) (tyl cI cZ cB) [Value.int p1, Value.int p2] [] [] r := by
  refine MI_of "StepColumnsModel" rfl (by decide) (Nat.le_of_ble_eq_true rfl) ?_
  intro p e s m below meth c A Q C hQ
  have hb_18 : ∀ (t0 : Int32), fM_better_b18 t0 = some r → SJ p l e rM_better s m (List.toArray [Value.int p1, Value.int p2]) below meth c A (dC, dI) 2 Q [] [] 18 [.int t0] := by
    intro t0 hf
    unfold fM_better_b18 at hf
    cases hf
    exact hQ 18 _ dM_better_18
  have hb_13 : ∀ (v1 : Int32), fM_better_b13 v1 = some r → SJ p l e rM_better s m (List.toArray [Value.int p1, Value.int p2]) below meth c A (dC, dI) 2 Q [] [(1, .int v1)] 13 [] := by
    intro v1 hf
    unfold fM_better_b13 at hf
    refine sj_iload_n C dM_better_13 0 rfl rfl ?_
    refine sj_goto C 18 dM_better_14 (by decide) ?_
    exact sj_lv [] rfl (hb_18 v1 hf)
  have hb_17 : ∀ (v0 : Int32), fM_better_b17 v0 = some r → SJ p l e rM_better s m (List.toArray [Value.int p1, Value.int p2]) below meth c A (dC, dI) 2 Q [] [(0, .int v0)] 17 [] := by
    intro v0 hf
    unfold fM_better_b17 at hf
    refine sj_iload_n C dM_better_17 0 rfl rfl ?_
    exact sj_lv [] rfl (hb_18 v0 hf)
  unfold fM_better at hf
  change SJ p l e rM_better s m (List.toArray [Value.int p1, Value.int p2]) below meth c A (dC, dI) 2 Q [] [(0, .int p1), (1, .int p2)] 0 []
  refine sj_iload_n C dM_better_0 0 rfl rfl ?_
  refine sj_if_lt C 13 dM_better_1 (by decide) (fun c_1 => ?_) (fun c_1 => ?_)
  · have hf := (if_pos c_1).symm.trans hf
    exact sj_lv [1] rfl (hb_13 p2 hf)
  · have hf := (if_neg c_1).symm.trans hf
    refine sj_iload_n C dM_better_4 1 rfl rfl ?_
    refine sj_if_lt C 17 dM_better_5 (by decide) (fun c_5 => ?_) (fun c_5 => ?_)
    · have hf := (if_pos c_5).symm.trans hf
      exact sj_lv [0] rfl (hb_17 p1 hf)
    · have hf := (if_neg c_5).symm.trans hf
      refine sj_iload_n C dM_better_8 1 rfl rfl ?_
      refine sj_iload_n C dM_better_9 0 rfl rfl ?_
      refine sj_icmp_ge C 17 dM_better_10 (by decide) (fun c_10 => ?_) (fun c_10 => ?_)
      · have hf := (if_pos c_10).symm.trans hf
        exact sj_lv [0] rfl (hb_17 p1 hf)
      · have hf := (if_neg c_10).symm.trans hf
        exact sj_lv [1] rfl (hb_13 p2 hf)
abbrev rM_solve : Room := { frames := 3, cells := 0, slots := 0, locals := 69 }
set_option maxHeartbeats 4000000 in
set_option maxRecDepth 100000 in
theorem cM_solve (l : Launch) (dC : Nat → ClassId) (dI : Nat → Nat → Nat) (cI cZ cB : ClassId) (g0 g1 g2 g3 g4 g5 g6 g7 g8 g9 g10 g11 : Nat) (gS gI gK gO gL gT gB gC gP gR gG : Nat → Int32) (gn : Int32) (r : Int32) (gO' : Nat → Int32) (gL' : Nat → Int32) (gT' : Nat → Int32) (gB' : Nat → Int32) (gn' : Int32) (hf : fM_solve gS gO gL gT gB gn = some (r, gO', gL', gT', gB', gn')) : MI l yM_solve wM_solve rM_solve (dC, dI) (tyl cI cZ cB) [Value.ref g0] (wdM cI cZ cB g0 g1 g2 g3 g4 g5 g6 g7 g8 g9 g10 g11 gS gI gK gO gL gT gB gC gP gR gG gn) (wdM cI cZ cB g0 g1 g2 g3 g4 g5 g6 g7 g8 g9 g10 g11 gS gI gK gO' gL' gT' gB' gC gP gR gG gn') r := by
  refine MI_of "StepColumnsModel" rfl (by decide) (Nat.le_of_ble_eq_true rfl) ?_
  intro p e s m below meth c A Q C hQ
  have hb_186 : ∀ (t0 : Int32) (gO gL gT gB : Nat → Int32) (gn : Int32), fM_solve_b186 t0 gS gO gL gT gB gn = some (r, gO', gL', gT', gB', gn') → SJ p l e rM_solve s m (List.toArray [Value.ref g0]) below meth c A (dC, dI) 7 Q (wdM cI cZ cB g0 g1 g2 g3 g4 g5 g6 g7 g8 g9 g10 g11 gS gI gK gO gL gT gB gC gP gR gG gn) [] 186 [.int t0] := by
    intro t0 gO gL gT gB gn hf
    unfold fM_solve_b186 at hf
    cases hf
    exact hQ 186 _ dM_solve_186
  have hb_95 : ∀ (K43 : Int32 → (Nat → Int32) → (Nat → Int32) → (Nat → Int32) → (Nat → Int32) → (Nat → Int32) → Int32 → Option (Int32 × (Nat → Int32) × (Nat → Int32) × (Nat → Int32) × (Nat → Int32) × Int32)) (hK43 : ∀ (v1 : Int32) (gO gL gT gB : Nat → Int32) (gn : Int32), K43 v1 gS gO gL gT gB gn = some (r, gO', gL', gT', gB', gn') → SJ p l e rM_solve s m (List.toArray [Value.ref g0]) below meth c A (dC, dI) 7 Q (wdM cI cZ cB g0 g1 g2 g3 g4 g5 g6 g7 g8 g9 g10 g11 gS gI gK gO gL gT gB gC gP gR gG gn) [(0, .ref g0), (1, .int v1)] 43 []) (K49 : Int32 → Int32 → (Nat → Int32) → (Nat → Int32) → (Nat → Int32) → (Nat → Int32) → (Nat → Int32) → Int32 → Option (Int32 × (Nat → Int32) × (Nat → Int32) × (Nat → Int32) × (Nat → Int32) × Int32)) (hK49 : ∀ (v1 v2 : Int32) (gO gL gT gB : Nat → Int32) (gn : Int32), K49 v1 v2 gS gO gL gT gB gn = some (r, gO', gL', gT', gB', gn') → SJ p l e rM_solve s m (List.toArray [Value.ref g0]) below meth c A (dC, dI) 7 Q (wdM cI cZ cB g0 g1 g2 g3 g4 g5 g6 g7 g8 g9 g10 g11 gS gI gK gO gL gT gB gC gP gR gG gn) [(0, .ref g0), (1, .int v1), (2, .int v2)] 49 []) (K64 : Int32 → Int32 → Int32 → Int32 → (Nat → Int32) → (Nat → Int32) → (Nat → Int32) → (Nat → Int32) → (Nat → Int32) → Int32 → Option (Int32 × (Nat → Int32) × (Nat → Int32) × (Nat → Int32) × (Nat → Int32) × Int32)) (hK64 : ∀ (v1 v2 v3 v4 : Int32) (gO gL gT gB : Nat → Int32) (gn : Int32), K64 v1 v2 v3 v4 gS gO gL gT gB gn = some (r, gO', gL', gT', gB', gn') → SJ p l e rM_solve s m (List.toArray [Value.ref g0]) below meth c A (dC, dI) 7 Q (wdM cI cZ cB g0 g1 g2 g3 g4 g5 g6 g7 g8 g9 g10 g11 gS gI gK gO gL gT gB gC gP gR gG gn) [(0, .ref g0), (1, .int v1), (2, .int v2), (3, .int v3), (4, .int v4)] 64 []) (n : Nat) (v1 v2 v3 v4 v5 v6 : Int32) (gO gL gT gB : Nat → Int32) (gn : Int32), fM_solve_b95 K43 K49 K64 n v1 v2 v3 v4 v5 v6 gS gO gL gT gB gn = some (r, gO', gL', gT', gB', gn') → SJ p l e rM_solve s m (List.toArray [Value.ref g0]) below meth c A (dC, dI) 7 Q (wdM cI cZ cB g0 g1 g2 g3 g4 g5 g6 g7 g8 g9 g10 g11 gS gI gK gO gL gT gB gC gP gR gG gn) [(0, .ref g0), (1, .int v1), (2, .int v2), (3, .int v3), (4, .int v4), (5, .int v5), (6, .int v6)] 95 [] := by
    intro K43 hK43 K49 hK49 K64 hK64 n
    induction n with
    | zero => intro v1 v2 v3 v4 v5 v6 gO gL gT gB gn hf; cases hf
    | succ n IH =>
      intro v1 v2 v3 v4 v5 v6 gO gL gT gB gn hf
      unfold fM_solve_b95 at hf
      refine sj_iload C dM_solve_95 6 rfl ?_
      refine sj_aload_n C dM_solve_97 0 rfl rfl ?_
      refine sj_get C nM_in 0 rfl rfl 0 (by decide) wd_435 rfl rfl dM_solve_98 ?_
      refine sj_bipush C dM_solve_101 kb_36 ?_
      refine sj_aload_n C dM_solve_103 0 rfl rfl ?_
      refine sj_get C nM_in 0 rfl rfl 3 (by decide) wd_438 rfl rfl dM_solve_104 ?_
      refine sj_iload_n C dM_solve_107 1 rfl rfl ?_
      obtain ⟨h_108, hf⟩ := in_some hf
      refine sj_iald C 4 0 rfl rfl h_108 rfl dM_solve_108 ?_
      refine sj_iadd C dM_solve_109 ?_
      obtain ⟨h_110, hf⟩ := in_some hf
      refine sj_iald C 1 0 rfl rfl h_110 rfl dM_solve_110 ?_
      refine sj_icmp_gt C 137 dM_solve_111 (by decide) (fun c_111 => ?_) (fun c_111 => ?_)
      · have hf := (if_pos c_111).symm.trans hf
        refine sj_aload_n C dM_solve_137 0 rfl rfl ?_
        refine sj_get C nM_in 0 rfl rfl 7 (by decide) wd_442 rfl rfl dM_solve_138 ?_
        refine sj_iload_n C dM_solve_141 1 rfl rfl ?_
        refine sj_iload C dM_solve_142 4 rfl ?_
        refine sj_iload_n C dM_solve_144 2 rfl rfl ?_
        obtain ⟨r_145, hq_145, hf⟩ := bd1_some hf
        refine sj_callSi (w1 := (wdM cI cZ cB g0 g1 g2 g3 g4 g5 g6 g7 g8 g9 g10 g11 gS gI gK gO gL gT gB gC gP gR gG gn)) C "StepColumnsModel" (cM_at l dC dI cI cZ cB   v1 v4 v2 r_145 hq_145) wd_531 wd_532 wd_39 wd_533 hM_at rfl rfl ⟨Nat.le_of_ble_eq_true rfl, Nat.le_of_ble_eq_true rfl⟩ [] [0, 1, 2, 3, 4, 5, 6, 7, 8, 9, 10, 11] ⟨rfl, rfl, rfl, rfl, rfl, rfl, kv_12_⟩ rfl rfl (Nat.le_of_ble_eq_true rfl) dM_solve_145 ?_
        refine sj_iload C dM_solve_148 5 rfl ?_
        obtain ⟨h_150, hf⟩ := in_some hf
        refine sj_iast (w' := (wdM cI cZ cB g0 g1 g2 g3 g4 g5 g6 g7 g8 g9 g10 g11 gS gI gK gO gL gT ((upd gB r_145.toNatClampNeg v5)) gC gP gR gG gn)) C 7 0 rfl rfl h_150 rfl dM_solve_150 rfl ?_
        refine sj_iinc (v := (v4 + 1)) (lv' := [(4, .int (v4 + 1)), (0, .ref g0), (1, .int v1), (2, .int v2), (3, .int v3), (5, .int v5), (6, .int v6)]) C dM_solve_151 4 rfl (by rw [ki_1]) (by decide) rfl ?_
        refine sj_goto C 64 dM_solve_154 (by decide) ?_
        exact sj_lv [1, 2, 3, 4, 0] rfl (hK64 v1 v2 v3 (v4 + 1) gO gL gT (upd gB r_145.toNatClampNeg v5) gn hf)
      · have hf := (if_neg c_111).symm.trans hf
        refine sj_iload C dM_solve_114 5 rfl ?_
        refine sj_aload_n C dM_solve_116 0 rfl rfl ?_
        refine sj_iload_n C dM_solve_117 1 rfl rfl ?_
        refine sj_iload C dM_solve_118 4 rfl ?_
        refine sj_iload_n C dM_solve_120 2 rfl rfl ?_
        refine sj_iload C dM_solve_121 6 rfl ?_
        obtain ⟨r_123, hq_123, hf⟩ := bd1_some hf
        refine sj_callVi (w1 := (wdM cI cZ cB g0 g1 g2 g3 g4 g5 g6 g7 g8 g9 g10 g11 gS gI gK gO gL gT gB gC gP gR gG gn)) (q0 := 0) C "StepColumnsModel" (cM_withRoom l dC dI cI cZ cB g0 g1 g2 g3 g4 g5 g6 g7 g8 g9 g10 g11 gS gI gK gO gL gT gB gC gP gR gG gn v1 v4 v2 v6 r_123 hq_123) wd_547 wd_549 wd_25 wd_39 wd_550 hM_withRoom rfl rfl ⟨Nat.le_of_ble_eq_true rfl, Nat.le_of_ble_eq_true rfl⟩ [0, 1, 2, 3, 4, 5, 6, 7, 8, 9, 10, 11] [] ⟨rfl, rfl, rfl, rfl, rfl, rfl, kv_12_0_1_2_3_4_5_6_7_8_9_10_11⟩ rfl rfl rfl rfl rfl (Nat.le_of_ble_eq_true rfl) dM_solve_123 ?_
        obtain ⟨r_126, hq_126, hf⟩ := bd1_some hf
        refine sj_callSi (w1 := (wdM cI cZ cB g0 g1 g2 g3 g4 g5 g6 g7 g8 g9 g10 g11 gS gI gK gO gL gT gB gC gP gR gG gn)) C "StepColumnsModel" (cM_better l dC dI cI cZ cB   v5 r_123 r_126 hq_126) wd_555 wd_556 wd_39 wd_557 hM_better rfl rfl ⟨Nat.le_of_ble_eq_true rfl, Nat.le_of_ble_eq_true rfl⟩ [] [0, 1, 2, 3, 4, 5, 6, 7, 8, 9, 10, 11] ⟨rfl, rfl, rfl, rfl, rfl, rfl, kv_12_⟩ rfl rfl (Nat.le_of_ble_eq_true rfl) dM_solve_126 ?_
        refine sj_istore (lv' := [(5, .int r_126), (0, .ref g0), (1, .int v1), (2, .int v2), (3, .int v3), (4, .int v4), (6, .int v6)]) C dM_solve_129 (by decide) rfl ?_
        refine sj_iinc (v := (v6 + 1)) (lv' := [(6, .int (v6 + 1)), (5, .int r_126), (0, .ref g0), (1, .int v1), (2, .int v2), (3, .int v3), (4, .int v4)]) C dM_solve_131 6 rfl (by rw [ki_1]) (by decide) rfl ?_
        refine sj_goto C 95 dM_solve_134 (by decide) ?_
        exact sj_lv [2, 3, 4, 5, 6, 1, 0] rfl (IH v1 v2 v3 v4 r_126 (v6 + 1) gO gL gT gB gn hf)
  have hb_64 : ∀ (K43 : Int32 → (Nat → Int32) → (Nat → Int32) → (Nat → Int32) → (Nat → Int32) → (Nat → Int32) → Int32 → Option (Int32 × (Nat → Int32) × (Nat → Int32) × (Nat → Int32) × (Nat → Int32) × Int32)) (hK43 : ∀ (v1 : Int32) (gO gL gT gB : Nat → Int32) (gn : Int32), K43 v1 gS gO gL gT gB gn = some (r, gO', gL', gT', gB', gn') → SJ p l e rM_solve s m (List.toArray [Value.ref g0]) below meth c A (dC, dI) 7 Q (wdM cI cZ cB g0 g1 g2 g3 g4 g5 g6 g7 g8 g9 g10 g11 gS gI gK gO gL gT gB gC gP gR gG gn) [(0, .ref g0), (1, .int v1)] 43 []) (K49 : Int32 → Int32 → (Nat → Int32) → (Nat → Int32) → (Nat → Int32) → (Nat → Int32) → (Nat → Int32) → Int32 → Option (Int32 × (Nat → Int32) × (Nat → Int32) × (Nat → Int32) × (Nat → Int32) × Int32)) (hK49 : ∀ (v1 v2 : Int32) (gO gL gT gB : Nat → Int32) (gn : Int32), K49 v1 v2 gS gO gL gT gB gn = some (r, gO', gL', gT', gB', gn') → SJ p l e rM_solve s m (List.toArray [Value.ref g0]) below meth c A (dC, dI) 7 Q (wdM cI cZ cB g0 g1 g2 g3 g4 g5 g6 g7 g8 g9 g10 g11 gS gI gK gO gL gT gB gC gP gR gG gn) [(0, .ref g0), (1, .int v1), (2, .int v2)] 49 []) (n : Nat) (v1 v2 v3 v4 : Int32) (gO gL gT gB : Nat → Int32) (gn : Int32), fM_solve_b64 K43 K49 n v1 v2 v3 v4 gS gO gL gT gB gn = some (r, gO', gL', gT', gB', gn') → SJ p l e rM_solve s m (List.toArray [Value.ref g0]) below meth c A (dC, dI) 7 Q (wdM cI cZ cB g0 g1 g2 g3 g4 g5 g6 g7 g8 g9 g10 g11 gS gI gK gO gL gT gB gC gP gR gG gn) [(0, .ref g0), (1, .int v1), (2, .int v2), (3, .int v3), (4, .int v4)] 64 [] := by
    intro K43 hK43 K49 hK49 n
    induction n with
    | zero => intro v1 v2 v3 v4 gO gL gT gB gn hf; cases hf
    | succ n IH =>
      intro v1 v2 v3 v4 gO gL gT gB gn hf
      unfold fM_solve_b64 at hf
      refine sj_iload C dM_solve_64 4 rfl ?_
      refine sj_aload_n C dM_solve_66 0 rfl rfl ?_
      refine sj_get C nM_in 0 rfl rfl 0 (by decide) wd_435 rfl rfl dM_solve_67 ?_
      refine sj_bipush C dM_solve_70 kb_49 ?_
      refine sj_iald C 1 0 rfl rfl kn_49_51 kc_49 dM_solve_72 ?_
      refine sj_icmp_gt C 157 dM_solve_73 (by decide) (fun c_73 => ?_) (fun c_73 => ?_)
      · have hf := (if_pos c_73).symm.trans hf
        refine sj_iinc (v := (v2 + 1)) (lv' := [(2, .int (v2 + 1)), (0, .ref g0), (1, .int v1), (3, .int v3), (4, .int v4)]) C dM_solve_157 2 rfl (by rw [ki_1]) (by decide) rfl ?_
        refine sj_goto C 49 dM_solve_160 (by decide) ?_
        exact sj_lv [1, 2, 0] rfl (hK49 v1 (v2 + 1) gO gL gT gB gn hf)
      · have hf := (if_neg c_73).symm.trans hf
        refine sj_iload_n C dM_solve_76 3 rfl rfl ?_
        refine sj_istore (lv' := [(5, .int v3), (0, .ref g0), (1, .int v1), (2, .int v2), (3, .int v3), (4, .int v4)]) C dM_solve_77 (by decide) rfl ?_
        refine sj_aload_n C dM_solve_79 1 rfl rfl ?_
        refine sj_get C nM_in 0 rfl rfl 0 (by decide) wd_435 rfl rfl dM_solve_80 ?_
        refine sj_bipush C dM_solve_83 kb_24 ?_
        refine sj_aload_n C dM_solve_85 1 rfl rfl ?_
        refine sj_get C nM_in 0 rfl rfl 3 (by decide) wd_438 rfl rfl dM_solve_86 ?_
        refine sj_iload_n C dM_solve_89 2 rfl rfl ?_
        obtain ⟨h_90, hf⟩ := in_some hf
        refine sj_iald C 4 0 rfl rfl h_90 rfl dM_solve_90 ?_
        refine sj_iadd C dM_solve_91 ?_
        obtain ⟨h_92, hf⟩ := in_some hf
        refine sj_iald C 1 0 rfl rfl h_92 rfl dM_solve_92 ?_
        refine sj_istore (lv' := [(6, .int (gS (24 + (gO v1.toNatClampNeg)).toNatClampNeg)), (5, .int v3), (0, .ref g0), (1, .int v1), (2, .int v2), (3, .int v3), (4, .int v4)]) C dM_solve_93 (by decide) rfl ?_
        exact sj_lv [2, 3, 4, 5, 6, 1, 0] rfl (hb_95 K43 hK43 K49 hK49 (fM_solve_b64 K43 K49 n) IH fu v1 v2 v3 v4 v3 (gS (24 + (gO v1.toNatClampNeg)).toNatClampNeg) gO gL gT gB gn hf)
  have hb_49 : ∀ (K43 : Int32 → (Nat → Int32) → (Nat → Int32) → (Nat → Int32) → (Nat → Int32) → (Nat → Int32) → Int32 → Option (Int32 × (Nat → Int32) × (Nat → Int32) × (Nat → Int32) × (Nat → Int32) × Int32)) (hK43 : ∀ (v1 : Int32) (gO gL gT gB : Nat → Int32) (gn : Int32), K43 v1 gS gO gL gT gB gn = some (r, gO', gL', gT', gB', gn') → SJ p l e rM_solve s m (List.toArray [Value.ref g0]) below meth c A (dC, dI) 7 Q (wdM cI cZ cB g0 g1 g2 g3 g4 g5 g6 g7 g8 g9 g10 g11 gS gI gK gO gL gT gB gC gP gR gG gn) [(0, .ref g0), (1, .int v1)] 43 []) (n : Nat) (v1 v2 : Int32) (gO gL gT gB : Nat → Int32) (gn : Int32), fM_solve_b49 K43 n v1 v2 gS gO gL gT gB gn = some (r, gO', gL', gT', gB', gn') → SJ p l e rM_solve s m (List.toArray [Value.ref g0]) below meth c A (dC, dI) 7 Q (wdM cI cZ cB g0 g1 g2 g3 g4 g5 g6 g7 g8 g9 g10 g11 gS gI gK gO gL gT gB gC gP gR gG gn) [(0, .ref g0), (1, .int v1), (2, .int v2)] 49 [] := by
    intro K43 hK43 n
    induction n with
    | zero => intro v1 v2 gO gL gT gB gn hf; cases hf
    | succ n IH =>
      intro v1 v2 gO gL gT gB gn hf
      unfold fM_solve_b49 at hf
      refine sj_iload_n C dM_solve_49 2 rfl rfl ?_
      refine sj_iconst C dM_solve_50 ki_3 ?_
      refine sj_icmp_ge C 163 dM_solve_51 (by decide) (fun c_51 => ?_) (fun c_51 => ?_)
      · have hf := (if_pos c_51).symm.trans hf
        refine sj_iinc (v := (v1 + (-1))) (lv' := [(1, .int (v1 + (-1))), (0, .ref g0), (2, .int v2)]) C dM_solve_163 1 rfl (by rw [ki_m1]) (by decide) rfl ?_
        refine sj_goto C 43 dM_solve_166 (by decide) ?_
        exact sj_lv [1, 0] rfl (hK43 (v1 + (-1)) gO gL gT gB gn hf)
      · have hf := (if_neg c_51).symm.trans hf
        refine sj_aload_n C dM_solve_54 0 rfl rfl ?_
        refine sj_iload_n C dM_solve_55 1 rfl rfl ?_
        refine sj_iload_n C dM_solve_56 2 rfl rfl ?_
        obtain ⟨r_57, hq_57, hf⟩ := bd1_some hf
        refine sj_callVi (w1 := (wdM cI cZ cB g0 g1 g2 g3 g4 g5 g6 g7 g8 g9 g10 g11 gS gI gK gO gL gT gB gC gP gR gG gn)) (q0 := 0) C "StepColumnsModel" (cM_asFirst l dC dI cI cZ cB g0 g1 g2 g3 g4 g5 g6 g7 g8 g9 g10 g11 gS gI gK gO gL gT gB gC gP gR gG gn v1 v2 r_57 hq_57) wd_534 wd_536 wd_22 wd_39 wd_537 hM_asFirst rfl rfl ⟨Nat.le_of_ble_eq_true rfl, Nat.le_of_ble_eq_true rfl⟩ [0, 1, 2, 3, 4, 5, 6, 7, 8, 9, 10, 11] [] ⟨rfl, rfl, rfl, rfl, rfl, rfl, kv_12_0_1_2_3_4_5_6_7_8_9_10_11⟩ rfl rfl rfl rfl rfl (Nat.le_of_ble_eq_true rfl) dM_solve_57 ?_
        refine sj_istore_n (lv' := [(3, .int r_57), (0, .ref g0), (1, .int v1), (2, .int v2)]) C dM_solve_60 rfl (by decide) rfl ?_
        refine sj_iconst C dM_solve_61 ki_0 ?_
        refine sj_istore (lv' := [(4, .int 0), (3, .int r_57), (0, .ref g0), (1, .int v1), (2, .int v2)]) C dM_solve_62 (by decide) rfl ?_
        exact sj_lv [2, 3, 4, 1, 0] rfl (hb_64 K43 hK43 (fM_solve_b49 K43 n) IH fu v1 v2 r_57 0 gO gL gT gB gn hf)
  have hb_43 : ∀ (n : Nat) (v1 : Int32) (gO gL gT gB : Nat → Int32) (gn : Int32), fM_solve_b43 n v1 gS gO gL gT gB gn = some (r, gO', gL', gT', gB', gn') → SJ p l e rM_solve s m (List.toArray [Value.ref g0]) below meth c A (dC, dI) 7 Q (wdM cI cZ cB g0 g1 g2 g3 g4 g5 g6 g7 g8 g9 g10 g11 gS gI gK gO gL gT gB gC gP gR gG gn) [(0, .ref g0), (1, .int v1)] 43 [] := by
    intro n
    induction n with
    | zero => intro v1 gO gL gT gB gn hf; cases hf
    | succ n IH =>
      intro v1 gO gL gT gB gn hf
      unfold fM_solve_b43 at hf
      refine sj_iload_n C dM_solve_43 1 rfl rfl ?_
      refine sj_if_le C 169 dM_solve_44 (by decide) (fun c_44 => ?_) (fun c_44 => ?_)
      · have hf := (if_pos c_44).symm.trans hf
        refine sj_aload_n C dM_solve_169 0 rfl rfl ?_
        refine sj_get C nM_in 0 rfl rfl 6 (by decide) wd_441 rfl rfl dM_solve_170 ?_
        refine sj_if_ne C 180 dM_solve_173 (by decide) (fun c_173 => ?_) (fun c_173 => ?_)
        · have hf := (if_neg c_173).symm.trans hf
          refine sj_aload_n C dM_solve_180 0 rfl rfl ?_
          refine sj_iconst C dM_solve_181 ki_0 ?_
          refine sj_iconst C dM_solve_182 ki_2 ?_
          obtain ⟨r_183, hq_183, hf⟩ := bd1_some hf
          refine sj_callVi (w1 := (wdM cI cZ cB g0 g1 g2 g3 g4 g5 g6 g7 g8 g9 g10 g11 gS gI gK gO gL gT gB gC gP gR gG gn)) (q0 := 0) C "StepColumnsModel" (cM_asFirst l dC dI cI cZ cB g0 g1 g2 g3 g4 g5 g6 g7 g8 g9 g10 g11 gS gI gK gO gL gT gB gC gP gR gG gn 0 2 r_183 hq_183) wd_534 wd_536 wd_22 wd_39 wd_537 hM_asFirst rfl rfl ⟨Nat.le_of_ble_eq_true rfl, Nat.le_of_ble_eq_true rfl⟩ [0, 1, 2, 3, 4, 5, 6, 7, 8, 9, 10, 11] [] ⟨rfl, rfl, rfl, rfl, rfl, rfl, kv_12_0_1_2_3_4_5_6_7_8_9_10_11⟩ rfl rfl rfl rfl rfl (Nat.le_of_ble_eq_true rfl) dM_solve_183 ?_
          exact sj_lv [] rfl (hb_186 r_183 gO gL gT gB gn hf)
        · have hf := (if_pos c_173).symm.trans hf
          refine sj_iconst C dM_solve_176 ki_0 ?_
          refine sj_goto C 186 dM_solve_177 (by decide) ?_
          exact sj_lv [] rfl (hb_186 0 gO gL gT gB gn hf)
      · have hf := (if_neg c_44).symm.trans hf
        refine sj_iconst C dM_solve_47 ki_0 ?_
        refine sj_istore_n (lv' := [(2, .int 0), (0, .ref g0), (1, .int v1)]) C dM_solve_48 rfl (by decide) rfl ?_
        exact sj_lv [1, 2, 0] rfl (hb_49 (fM_solve_b43 n) IH fu v1 0 gO gL gT gB gn hf)
  have hb_6 : ∀ (n : Nat) (v1 : Int32) (gO gL gT gB : Nat → Int32) (gn : Int32), fM_solve_b6 n v1 gS gO gL gT gB gn = some (r, gO', gL', gT', gB', gn') → SJ p l e rM_solve s m (List.toArray [Value.ref g0]) below meth c A (dC, dI) 7 Q (wdM cI cZ cB g0 g1 g2 g3 g4 g5 g6 g7 g8 g9 g10 g11 gS gI gK gO gL gT gB gC gP gR gG gn) [(0, .ref g0), (1, .int v1)] 6 [] := by
    intro n
    induction n with
    | zero => intro v1 gO gL gT gB gn hf; cases hf
    | succ n IH =>
      intro v1 gO gL gT gB gn hf
      unfold fM_solve_b6 at hf
      refine sj_iload_n C dM_solve_6 1 rfl rfl ?_
      refine sj_sipush C dM_solve_7 ks_603 ?_
      refine sj_icmp_ge C 36 dM_solve_10 (by decide) (fun c_10 => ?_) (fun c_10 => ?_)
      · have hf := (if_pos c_10).symm.trans hf
        refine sj_aload_n C dM_solve_36 0 rfl rfl ?_
        refine sj_get C nM_in 0 rfl rfl 6 (by decide) wd_441 rfl rfl dM_solve_37 ?_
        refine sj_iconst C dM_solve_40 ki_1 ?_
        refine sj_isub C dM_solve_41 ?_
        refine sj_istore_n (lv' := [(1, .int (gn - 1)), (0, .ref g0)]) C dM_solve_42 rfl (by decide) rfl ?_
        exact sj_lv [1, 0] rfl (hb_43 fu (gn - 1) gO gL gT gB gn hf)
      · have hf := (if_neg c_10).symm.trans hf
        refine sj_aload_n C dM_solve_13 0 rfl rfl ?_
        refine sj_get C nM_in 0 rfl rfl 7 (by decide) wd_442 rfl rfl dM_solve_14 ?_
        refine sj_aload_n C dM_solve_17 0 rfl rfl ?_
        refine sj_get C nM_in 0 rfl rfl 6 (by decide) wd_441 rfl rfl dM_solve_18 ?_
        refine sj_iconst C dM_solve_21 ki_0 ?_
        refine sj_iconst C dM_solve_22 ki_0 ?_
        obtain ⟨r_23, hq_23, hf⟩ := bd1_some hf
        refine sj_callSi (w1 := (wdM cI cZ cB g0 g1 g2 g3 g4 g5 g6 g7 g8 g9 g10 g11 gS gI gK gO gL gT gB gC gP gR gG gn)) C "StepColumnsModel" (cM_at l dC dI cI cZ cB   gn 0 0 r_23 hq_23) wd_531 wd_532 wd_39 wd_533 hM_at rfl rfl ⟨Nat.le_of_ble_eq_true rfl, Nat.le_of_ble_eq_true rfl⟩ [] [0, 1, 2, 3, 4, 5, 6, 7, 8, 9, 10, 11] ⟨rfl, rfl, rfl, rfl, rfl, rfl, kv_12_⟩ rfl rfl (Nat.le_of_ble_eq_true rfl) dM_solve_23 ?_
        refine sj_iload_n C dM_solve_26 1 rfl rfl ?_
        refine sj_iadd C dM_solve_27 ?_
        refine sj_iconst C dM_solve_28 ki_0 ?_
        obtain ⟨h_29, hf⟩ := in_some hf
        refine sj_iast (w' := (wdM cI cZ cB g0 g1 g2 g3 g4 g5 g6 g7 g8 g9 g10 g11 gS gI gK gO gL gT ((upd gB (r_23 + v1).toNatClampNeg 0)) gC gP gR gG gn)) C 7 0 rfl rfl h_29 rfl dM_solve_29 rfl ?_
        refine sj_iinc (v := (v1 + 1)) (lv' := [(1, .int (v1 + 1)), (0, .ref g0)]) C dM_solve_30 1 rfl (by rw [ki_1]) (by decide) rfl ?_
        refine sj_goto C 6 dM_solve_33 (by decide) ?_
        exact sj_lv [1, 0] rfl (IH (v1 + 1) gO gL gT (upd gB (r_23 + v1).toNatClampNeg 0) gn hf)
  unfold fM_solve at hf
  change SJ p l e rM_solve s m (List.toArray [Value.ref g0]) below meth c A (dC, dI) 7 Q (wdM cI cZ cB g0 g1 g2 g3 g4 g5 g6 g7 g8 g9 g10 g11 gS gI gK gO gL gT gB gC gP gR gG gn) [(0, .ref g0)] 0 []
  refine sj_aload_n C dM_solve_0 0 rfl rfl ?_
  obtain ⟨gO_1, gL_1, gT_1, gn_1, hq_1, hf⟩ := bd4_some hf
  refine sj_callVv (w1 := (wdM cI cZ cB g0 g1 g2 g3 g4 g5 g6 g7 g8 g9 g10 g11 gS gI gK gO_1 gL_1 gT_1 gB gC gP gR gG gn_1)) (q0 := 0) C "StepColumnsModel" (cM_layThings l dC dI cI cZ cB g0 g1 g2 g3 g4 g5 g6 g7 g8 g9 g10 g11 gS gI gK gO gL gT gB gC gP gR gG gn  gO_1 gL_1 gT_1 gn_1 hq_1) wd_527 wd_529 wd_21 wd_39 wd_530 hM_layThings rfl rfl ⟨Nat.le_of_ble_eq_true rfl, Nat.le_of_ble_eq_true rfl⟩ [0, 1, 2, 3, 4, 5, 6, 7, 8, 9, 10, 11] [] ⟨rfl, rfl, rfl, rfl, rfl, rfl, kv_12_0_1_2_3_4_5_6_7_8_9_10_11⟩ rfl rfl rfl rfl rfl (Nat.le_of_ble_eq_true rfl) dM_solve_1 ?_
  refine sj_iconst C dM_solve_4 ki_0 ?_
  refine sj_istore_n (lv' := [(1, .int 0), (0, .ref g0)]) C dM_solve_5 rfl (by decide) rfl ?_
  exact sj_lv [1, 0] rfl (hb_6 fu 0 gO_1 gL_1 gT_1 gB gn_1 hf)
abbrev rM_stand : Room := { frames := 0, cells := 0, slots := 0, locals := 0 }
set_option maxHeartbeats 4000000 in
set_option maxRecDepth 100000 in
theorem cM_stand (l : Launch) (dC : Nat → ClassId) (dI : Nat → Nat → Nat) (cI cZ cB : ClassId) (g0 g1 g2 g3 g4 g5 g6 g7 g8 g9 g10 g11 : Nat) (gS gI gK gO gL gT gB gC gP gR gG : Nat → Int32) (gn : Int32) (p1 p2 p3 p4 p5 : Int32) (gC' : Nat → Int32) (gP' : Nat → Int32) (gR' : Nat → Int32) (gG' : Nat → Int32) (hf : fM_stand p1 p2 p3 p4 p5 gC gP gR gG = some (gC', gP', gR', gG')) : MV l yM_stand wM_stand rM_stand (dC, dI) (tyl cI cZ cB) [Value.ref g0, Value.int p1, Value.int p2, Value.int p3, Value.int p4, Value.int p5] (wdM cI cZ cB g0 g1 g2 g3 g4 g5 g6 g7 g8 g9 g10 g11 gS gI gK gO gL gT gB gC gP gR gG gn) (wdM cI cZ cB g0 g1 g2 g3 g4 g5 g6 g7 g8 g9 g10 g11 gS gI gK gO gL gT gB gC' gP' gR' gG' gn) := by
  refine MV_of "StepColumnsModel" rfl (by decide) (Nat.le_of_ble_eq_true rfl) ?_
  intro p e s m below meth c A Q C hQ
  unfold fM_stand at hf
  change SJ p l e rM_stand s m (List.toArray [Value.ref g0, Value.int p1, Value.int p2, Value.int p3, Value.int p4, Value.int p5]) below meth c A (dC, dI) 6 Q (wdM cI cZ cB g0 g1 g2 g3 g4 g5 g6 g7 g8 g9 g10 g11 gS gI gK gO gL gT gB gC gP gR gG gn) [(0, .ref g0), (1, .int p1), (2, .int p2), (3, .int p3), (4, .int p4), (5, .int p5)] 0 []
  refine sj_aload_n C dM_stand_0 0 rfl rfl ?_
  refine sj_get C nM_in 0 rfl rfl 8 (by decide) wd_443 rfl rfl dM_stand_1 ?_
  refine sj_iload_n C dM_stand_4 1 rfl rfl ?_
  refine sj_iload_n C dM_stand_5 2 rfl rfl ?_
  obtain ⟨h_6, hf⟩ := in_some hf
  refine sj_iast (w' := (wdM cI cZ cB g0 g1 g2 g3 g4 g5 g6 g7 g8 g9 g10 g11 gS gI gK gO gL gT gB ((upd gC p1.toNatClampNeg p2)) gP gR gG gn)) C 8 0 rfl rfl h_6 rfl dM_stand_6 rfl ?_
  refine sj_aload_n C dM_stand_7 0 rfl rfl ?_
  refine sj_get C nM_in 0 rfl rfl 9 (by decide) wd_444 rfl rfl dM_stand_8 ?_
  refine sj_iload_n C dM_stand_11 1 rfl rfl ?_
  refine sj_iload_n C dM_stand_12 3 rfl rfl ?_
  obtain ⟨h_13, hf⟩ := in_some hf
  refine sj_iast (w' := (wdM cI cZ cB g0 g1 g2 g3 g4 g5 g6 g7 g8 g9 g10 g11 gS gI gK gO gL gT gB ((upd gC p1.toNatClampNeg p2)) ((upd gP p1.toNatClampNeg p3)) gR gG gn)) C 9 0 rfl rfl h_13 rfl dM_stand_13 rfl ?_
  refine sj_aload_n C dM_stand_14 0 rfl rfl ?_
  refine sj_get C nM_in 0 rfl rfl 10 (by decide) wd_445 rfl rfl dM_stand_15 ?_
  refine sj_iload_n C dM_stand_18 1 rfl rfl ?_
  refine sj_iload C dM_stand_19 4 rfl ?_
  obtain ⟨h_21, hf⟩ := in_some hf
  refine sj_iast (w' := (wdM cI cZ cB g0 g1 g2 g3 g4 g5 g6 g7 g8 g9 g10 g11 gS gI gK gO gL gT gB ((upd gC p1.toNatClampNeg p2)) ((upd gP p1.toNatClampNeg p3)) ((upd gR p1.toNatClampNeg p4)) gG gn)) C 10 0 rfl rfl h_21 rfl dM_stand_21 rfl ?_
  refine sj_aload_n C dM_stand_22 0 rfl rfl ?_
  refine sj_get C nM_in 0 rfl rfl 11 (by decide) wd_446 rfl rfl dM_stand_23 ?_
  refine sj_iload_n C dM_stand_26 1 rfl rfl ?_
  refine sj_iload C dM_stand_27 5 rfl ?_
  obtain ⟨z_29, hf⟩ := in_some hf
  have z_29 := Decidable.not_not.mp z_29
  obtain ⟨h_29, hf⟩ := in_some hf
  refine sj_zast (w' := (wdM cI cZ cB g0 g1 g2 g3 g4 g5 g6 g7 g8 g9 g10 g11 gS gI gK gO gL gT gB ((upd gC p1.toNatClampNeg p2)) ((upd gP p1.toNatClampNeg p3)) ((upd gR p1.toNatClampNeg p4)) ((upd gG p1.toNatClampNeg p5)) gn)) C 11 1 rfl rfl z_29 h_29 rfl dM_stand_29 rfl ?_
  cases hf
  exact hQ 30 _ dM_stand_30
