abbrev rM_layBest : Room := { frames := 4, cells := 0, slots := 0, locals := 95 }
set_option maxHeartbeats 4000000 in
set_option maxRecDepth 100000 in
theorem cM_layBest (l : Launch) (dC : Nat → ClassId) (dI : Nat → Nat → Nat) (cI cZ cB : ClassId) (g0 g1 g2 g3 g4 g5 g6 g7 g8 g9 g10 g11 : Nat) (gS gI gK gO gL gT gB gC gP gR gG : Nat → Int32) (gn : Int32) (r : Int32) (gO' : Nat → Int32) (gL' : Nat → Int32) (gT' : Nat → Int32) (gB' : Nat → Int32) (gC' : Nat → Int32) (gP' : Nat → Int32) (gR' : Nat → Int32) (gG' : Nat → Int32) (gn' : Int32) (hf : fM_layBest gS gO gL gT gB gC gP gR gG gn = some (r, gO', gL', gT', gB', gC', gP', gR', gG', gn')) : MI l yM_layBest wM_layBest rM_layBest (dC, dI) (tyl cI cZ cB) [Value.ref g0] (wdM cI cZ cB g0 g1 g2 g3 g4 g5 g6 g7 g8 g9 g10 g11 gS gI gK gO gL gT gB gC gP gR gG gn) (wdM cI cZ cB g0 g1 g2 g3 g4 g5 g6 g7 g8 g9 g10 g11 gS gI gK gO' gL' gT' gB' gC' gP' gR' gG' gn') r := by
  refine MZ_of "StepColumnsModel" rfl (by decide) (Nat.le_of_ble_eq_true rfl) ?_
  intro p e s m below meth c A Q C hQ
  have hb_214 : ∀ (K15 : Int32 → Int32 → Int32 → (Nat → Int32) → (Nat → Int32) → (Nat → Int32) → (Nat → Int32) → (Nat → Int32) → (Nat → Int32) → (Nat → Int32) → (Nat → Int32) → (Nat → Int32) → Int32 → Option (Int32 × (Nat → Int32) × (Nat → Int32) × (Nat → Int32) × (Nat → Int32) × (Nat → Int32) × (Nat → Int32) × (Nat → Int32) × (Nat → Int32) × Int32)) (hK15 : ∀ (v1 v2 v3 : Int32) (gO gL gT gB gC gP gR gG : Nat → Int32) (gn : Int32), K15 v1 v2 v3 gS gO gL gT gB gC gP gR gG gn = some (r, gO', gL', gT', gB', gC', gP', gR', gG', gn') → SJ p l e rM_layBest s m (List.toArray [Value.ref g0]) below meth c A (dC, dI) 7 Q (wdM cI cZ cB g0 g1 g2 g3 g4 g5 g6 g7 g8 g9 g10 g11 gS gI gK gO gL gT gB gC gP gR gG gn) [(0, .ref g0), (1, .int v1), (2, .int v2), (3, .int v3)] 15 []) (v2 v3 : Int32) (gO gL gT gB gC gP gR gG : Nat → Int32) (gn : Int32), fM_layBest_b214 K15 v2 v3 gS gO gL gT gB gC gP gR gG gn = some (r, gO', gL', gT', gB', gC', gP', gR', gG', gn') → SJ p l e rM_layBest s m (List.toArray [Value.ref g0]) below meth c A (dC, dI) 7 Q (wdM cI cZ cB g0 g1 g2 g3 g4 g5 g6 g7 g8 g9 g10 g11 gS gI gK gO gL gT gB gC gP gR gG gn) [(0, .ref g0), (2, .int v2), (3, .int v3)] 214 [] := by
    intro K15 hK15 v2 v3 gO gL gT gB gC gP gR gG gn hf
    unfold fM_layBest_b214 at hf
    refine sj_aload_n C dM_layBest_214 0 rfl rfl ?_
    refine sj_get C nM_in 0 rfl rfl 9 (by decide) wd_444 rfl rfl dM_layBest_215 ?_
    refine sj_iload_n C dM_layBest_218 2 rfl rfl ?_
    obtain ⟨h_219, hf⟩ := in_some hf
    refine sj_iald C 9 0 rfl rfl h_219 rfl dM_layBest_219 ?_
    refine sj_aload_n C dM_layBest_220 0 rfl rfl ?_
    refine sj_get C nM_in 0 rfl rfl 5 (by decide) wd_440 rfl rfl dM_layBest_221 ?_
    refine sj_iload_n C dM_layBest_224 2 rfl rfl ?_
    obtain ⟨h_225, hf⟩ := in_some hf
    refine sj_iald C 6 0 rfl rfl h_225 rfl dM_layBest_225 ?_
    refine sj_iadd C dM_layBest_226 ?_
    refine sj_istore_n (lv' := [(1, .int ((gP v3.toNatClampNeg) + (gT v3.toNatClampNeg))), (0, .ref g0), (2, .int v2), (3, .int v3)]) C dM_layBest_227 rfl (by decide) rfl ?_
    refine sj_iinc (v := (v3 + 1)) (lv' := [(3, .int (v3 + 1)), (1, .int ((gP v3.toNatClampNeg) + (gT v3.toNatClampNeg))), (0, .ref g0), (2, .int v2)]) C dM_layBest_228 3 rfl (by rw [ki_1]) (by decide) rfl ?_
    refine sj_goto C 15 dM_layBest_231 (by decide) ?_
    exact sj_lv [2, 1, 3, 0] rfl (hK15 ((gP v3.toNatClampNeg) + (gT v3.toNatClampNeg)) v2 (v3 + 1) gO gL gT gB gC gP gR gG gn hf)
  have hb_183 : ∀ (K15 : Int32 → Int32 → Int32 → (Nat → Int32) → (Nat → Int32) → (Nat → Int32) → (Nat → Int32) → (Nat → Int32) → (Nat → Int32) → (Nat → Int32) → (Nat → Int32) → (Nat → Int32) → Int32 → Option (Int32 × (Nat → Int32) × (Nat → Int32) × (Nat → Int32) × (Nat → Int32) × (Nat → Int32) × (Nat → Int32) × (Nat → Int32) × (Nat → Int32) × Int32)) (hK15 : ∀ (v1 v2 v3 : Int32) (gO gL gT gB gC gP gR gG : Nat → Int32) (gn : Int32), K15 v1 v2 v3 gS gO gL gT gB gC gP gR gG gn = some (r, gO', gL', gT', gB', gC', gP', gR', gG', gn') → SJ p l e rM_layBest s m (List.toArray [Value.ref g0]) below meth c A (dC, dI) 7 Q (wdM cI cZ cB g0 g1 g2 g3 g4 g5 g6 g7 g8 g9 g10 g11 gS gI gK gO gL gT gB gC gP gR gG gn) [(0, .ref g0), (1, .int v1), (2, .int v2), (3, .int v3)] 15 []) (v3 t0 : Int32) (gO gL gT gB gC gP gR gG : Nat → Int32) (gn : Int32), fM_layBest_b183 K15 v3 t0 gS gO gL gT gB gC gP gR gG gn = some (r, gO', gL', gT', gB', gC', gP', gR', gG', gn') → SJ p l e rM_layBest s m (List.toArray [Value.ref g0]) below meth c A (dC, dI) 7 Q (wdM cI cZ cB g0 g1 g2 g3 g4 g5 g6 g7 g8 g9 g10 g11 gS gI gK gO gL gT gB gC gP gR gG gn) [(0, .ref g0), (3, .int v3)] 183 [.int t0] := by
    intro K15 hK15 v3 t0 gO gL gT gB gC gP gR gG gn hf
    unfold fM_layBest_b183 at hf
    refine sj_istore_n (lv' := [(2, .int t0), (0, .ref g0), (3, .int v3)]) C dM_layBest_183 rfl (by decide) rfl ?_
    refine sj_goto C 214 dM_layBest_184 (by decide) ?_
    exact sj_lv [1, 0, 2] rfl (hb_214 K15 hK15 t0 v3 gO gL gT gB gC gP gR gG gn hf)
  have hb_164 : ∀ (K15 : Int32 → Int32 → Int32 → (Nat → Int32) → (Nat → Int32) → (Nat → Int32) → (Nat → Int32) → (Nat → Int32) → (Nat → Int32) → (Nat → Int32) → (Nat → Int32) → (Nat → Int32) → Int32 → Option (Int32 × (Nat → Int32) × (Nat → Int32) × (Nat → Int32) × (Nat → Int32) × (Nat → Int32) × (Nat → Int32) × (Nat → Int32) × (Nat → Int32) × Int32)) (hK15 : ∀ (v1 v2 v3 : Int32) (gO gL gT gB gC gP gR gG : Nat → Int32) (gn : Int32), K15 v1 v2 v3 gS gO gL gT gB gC gP gR gG gn = some (r, gO', gL', gT', gB', gC', gP', gR', gG', gn') → SJ p l e rM_layBest s m (List.toArray [Value.ref g0]) below meth c A (dC, dI) 7 Q (wdM cI cZ cB g0 g1 g2 g3 g4 g5 g6 g7 g8 g9 g10 g11 gS gI gK gO gL gT gB gC gP gR gG gn) [(0, .ref g0), (1, .int v1), (2, .int v2), (3, .int v3)] 15 []) (v3 t1 t2 : Int32) (gO gL gT gB gC gP gR gG : Nat → Int32) (gn : Int32), fM_layBest_b164 K15 v3 t1 t2 gS gO gL gT gB gC gP gR gG gn = some (r, gO', gL', gT', gB', gC', gP', gR', gG', gn') → SJ p l e rM_layBest s m (List.toArray [Value.ref g0]) below meth c A (dC, dI) 7 Q (wdM cI cZ cB g0 g1 g2 g3 g4 g5 g6 g7 g8 g9 g10 g11 gS gI gK gO gL gT gB gC gP gR gG gn) [(0, .ref g0), (3, .int v3)] 164 [.int t2, .int t1, .ref g0] := by
    intro K15 hK15 v3 t1 t2 gO gL gT gB gC gP gR gG gn hf
    unfold fM_layBest_b164 at hf
    refine sj_iconst C dM_layBest_164 ki_0 ?_
    refine sj_iconst C dM_layBest_165 ki_0 ?_
    refine sj_iconst C dM_layBest_166 ki_1 ?_
    obtain ⟨gC_167, gP_167, gR_167, gG_167, hq_167, hf⟩ := bd4_some hf
    refine sj_callVv (w1 := (wdM cI cZ cB g0 g1 g2 g3 g4 g5 g6 g7 g8 g9 g10 g11 gS gI gK gO gL gT gB gC_167 gP_167 gR_167 gG_167 gn)) (q0 := 0) C "StepColumnsModel" (cM_stand l dC dI cI cZ cB g0 g1 g2 g3 g4 g5 g6 g7 g8 g9 g10 g11 gS gI gK gO gL gT gB gC gP gR gG gn t1 t2 0 0 1 gC_167 gP_167 gR_167 gG_167 hq_167) wd_558 wd_560 wd_27 wd_39 wd_561 hM_stand rfl rfl ⟨Nat.le_of_ble_eq_true rfl, Nat.le_of_ble_eq_true rfl⟩ [0, 1, 2, 3, 4, 5, 6, 7, 8, 9, 10, 11] [] ⟨rfl, rfl, rfl, rfl, rfl, rfl, kv_12_0_1_2_3_4_5_6_7_8_9_10_11⟩ rfl rfl rfl rfl rfl (Nat.le_of_ble_eq_true rfl) dM_layBest_167 ?_
    refine sj_aload_n C dM_layBest_170 0 rfl rfl ?_
    refine sj_iload_n C dM_layBest_171 1 rfl rfl ?_
    obtain ⟨r_172, hq_172, hf⟩ := bd1_some hf
    refine sj_callVi (w1 := (wdM cI cZ cB g0 g1 g2 g3 g4 g5 g6 g7 g8 g9 g10 g11 gS gI gK gO gL gT gB gC_167 gP_167 gR_167 gG_167 gn)) (q0 := 0) C "StepColumnsModel" (cM_isLine l dC dI cI cZ cB g0 g1 g2 g3 g4 g5 g6 g7 g8 g9 g10 g11 gS gI gK gO gL gT gB gC_167 gP_167 gR_167 gG_167 gn v3 r_172 hq_172) wd_542 wd_544 wd_24 wd_39 wd_545 hM_isLine rfl rfl ⟨Nat.le_of_ble_eq_true rfl, Nat.le_of_ble_eq_true rfl⟩ [0, 1, 2, 3, 4, 5, 6, 7, 8, 9, 10, 11] [] ⟨rfl, rfl, rfl, rfl, rfl, rfl, kv_12_0_1_2_3_4_5_6_7_8_9_10_11⟩ rfl rfl rfl rfl rfl (Nat.le_of_ble_eq_true rfl) dM_layBest_172 ?_
    refine sj_if_eq C 182 dM_layBest_175 (by decide) (fun c_175 => ?_) (fun c_175 => ?_)
    · have hf := (if_pos c_175).symm.trans hf
      refine sj_iconst C dM_layBest_182 ki_0 ?_
      exact sj_lv [0, 1] rfl (hb_183 K15 hK15 v3 0 gO gL gT gB gC_167 gP_167 gR_167 gG_167 gn hf)
    · have hf := (if_neg c_175).symm.trans hf
      refine sj_iconst C dM_layBest_178 ki_1 ?_
      refine sj_goto C 183 dM_layBest_179 (by decide) ?_
      exact sj_lv [0, 1] rfl (hb_183 K15 hK15 v3 1 gO gL gT gB gC_167 gP_167 gR_167 gG_167 gn hf)
  have hb_137 : ∀ (K15 : Int32 → Int32 → Int32 → (Nat → Int32) → (Nat → Int32) → (Nat → Int32) → (Nat → Int32) → (Nat → Int32) → (Nat → Int32) → (Nat → Int32) → (Nat → Int32) → (Nat → Int32) → Int32 → Option (Int32 × (Nat → Int32) × (Nat → Int32) × (Nat → Int32) × (Nat → Int32) × (Nat → Int32) × (Nat → Int32) × (Nat → Int32) × (Nat → Int32) × Int32)) (hK15 : ∀ (v1 v2 v3 : Int32) (gO gL gT gB gC gP gR gG : Nat → Int32) (gn : Int32), K15 v1 v2 v3 gS gO gL gT gB gC gP gR gG gn = some (r, gO', gL', gT', gB', gC', gP', gR', gG', gn') → SJ p l e rM_layBest s m (List.toArray [Value.ref g0]) below meth c A (dC, dI) 7 Q (wdM cI cZ cB g0 g1 g2 g3 g4 g5 g6 g7 g8 g9 g10 g11 gS gI gK gO gL gT gB gC gP gR gG gn) [(0, .ref g0), (1, .int v1), (2, .int v2), (3, .int v3)] 15 []) (v1 v2 v3 v5 t0 : Int32) (gO gL gT gB gC gP gR gG : Nat → Int32) (gn : Int32), fM_layBest_b137 K15 v1 v2 v3 v5 t0 gS gO gL gT gB gC gP gR gG gn = some (r, gO', gL', gT', gB', gC', gP', gR', gG', gn') → SJ p l e rM_layBest s m (List.toArray [Value.ref g0]) below meth c A (dC, dI) 7 Q (wdM cI cZ cB g0 g1 g2 g3 g4 g5 g6 g7 g8 g9 g10 g11 gS gI gK gO gL gT gB gC gP gR gG gn) [(0, .ref g0), (1, .int v1), (2, .int v2), (3, .int v3), (5, .int v5)] 137 [.int t0] := by
    intro K15 hK15 v1 v2 v3 v5 t0 gO gL gT gB gC gP gR gG gn hf
    unfold fM_layBest_b137 at hf
    refine sj_istore (lv' := [(6, .int t0), (0, .ref g0), (1, .int v1), (2, .int v2), (3, .int v3), (5, .int v5)]) C dM_layBest_137 (by decide) rfl ?_
    refine sj_iload C dM_layBest_139 0 rfl ?_
    refine sj_if_eq C 187 dM_layBest_141 (by decide) (fun c_141 => ?_) (fun c_141 => ?_)
    · have hf := (if_pos c_141).symm.trans hf
      refine sj_aload_n C dM_layBest_187 1 rfl rfl ?_
      refine sj_iload_n C dM_layBest_188 4 rfl rfl ?_
      refine sj_aload_n C dM_layBest_189 1 rfl rfl ?_
      refine sj_get C nM_in 0 rfl rfl 8 (by decide) wd_443 rfl rfl dM_layBest_190 ?_
      refine sj_iload_n C dM_layBest_193 4 rfl rfl ?_
      refine sj_iconst C dM_layBest_194 ki_1 ?_
      refine sj_isub C dM_layBest_195 ?_
      obtain ⟨h_196, hf⟩ := in_some hf
      refine sj_iald C 8 0 rfl rfl h_196 rfl dM_layBest_196 ?_
      refine sj_iload_n C dM_layBest_197 2 rfl rfl ?_
      refine sj_iload C dM_layBest_198 5 rfl ?_
      refine sj_iadd C dM_layBest_200 ?_
      refine sj_iload C dM_layBest_201 5 rfl ?_
      refine sj_iconst C dM_layBest_203 ki_0 ?_
      obtain ⟨gC_204, gP_204, gR_204, gG_204, hq_204, hf⟩ := bd4_some hf
      refine sj_callVv (w1 := (wdM cI cZ cB g0 g1 g2 g3 g4 g5 g6 g7 g8 g9 g10 g11 gS gI gK gO gL gT gB gC_204 gP_204 gR_204 gG_204 gn)) (q0 := 0) C "StepColumnsModel" (cM_stand l dC dI cI cZ cB g0 g1 g2 g3 g4 g5 g6 g7 g8 g9 g10 g11 gS gI gK gO gL gT gB gC gP gR gG gn v3 (gC (v3 - 1).toNatClampNeg) (v1 + v5) v5 0 gC_204 gP_204 gR_204 gG_204 hq_204) wd_558 wd_560 wd_27 wd_39 wd_561 hM_stand rfl rfl ⟨Nat.le_of_ble_eq_true rfl, Nat.le_of_ble_eq_true rfl⟩ [0, 1, 2, 3, 4, 5, 6, 7, 8, 9, 10, 11] [] ⟨rfl, rfl, rfl, rfl, rfl, rfl, kv_12_0_1_2_3_4_5_6_7_8_9_10_11⟩ rfl rfl rfl rfl rfl (Nat.le_of_ble_eq_true rfl) dM_layBest_204 ?_
      refine sj_aload_n C dM_layBest_207 1 rfl rfl ?_
      refine sj_iload_n C dM_layBest_208 4 rfl rfl ?_
      refine sj_iload_n C dM_layBest_209 3 rfl rfl ?_
      obtain ⟨r_210, hq_210, hf⟩ := bd1_some hf
      refine sj_callVi (w1 := (wdM cI cZ cB g0 g1 g2 g3 g4 g5 g6 g7 g8 g9 g10 g11 gS gI gK gO gL gT gB gC_204 gP_204 gR_204 gG_204 gn)) (q0 := 0) C "StepColumnsModel" (cM_linesBy l dC dI cI cZ cB g0 g1 g2 g3 g4 g5 g6 g7 g8 g9 g10 g11 gS gI gK gO gL gT gB gC_204 gP_204 gR_204 gG_204 gn v3 v2 r_210 hq_210) wd_551 wd_553 wd_26 wd_39 wd_554 hM_linesBy rfl rfl ⟨Nat.le_of_ble_eq_true rfl, Nat.le_of_ble_eq_true rfl⟩ [0, 1, 2, 3, 4, 5, 6, 7, 8, 9, 10, 11] [] ⟨rfl, rfl, rfl, rfl, rfl, rfl, kv_12_0_1_2_3_4_5_6_7_8_9_10_11⟩ rfl rfl rfl rfl rfl (Nat.le_of_ble_eq_true rfl) dM_layBest_210 ?_
      refine sj_istore_n (lv' := [(2, .int r_210), (6, .int t0), (0, .ref g0), (1, .int v1), (3, .int v3), (5, .int v5)]) C dM_layBest_213 rfl (by decide) rfl ?_
      exact sj_lv [2, 0, 4] rfl (hb_214 K15 hK15 r_210 v3 gO gL gT gB gC_204 gP_204 gR_204 gG_204 gn hf)
    · have hf := (if_neg c_141).symm.trans hf
      refine sj_aload_n C dM_layBest_144 1 rfl rfl ?_
      refine sj_iload_n C dM_layBest_145 4 rfl rfl ?_
      refine sj_iload_n C dM_layBest_146 4 rfl rfl ?_
      refine sj_if_ne C 154 dM_layBest_147 (by decide) (fun c_147 => ?_) (fun c_147 => ?_)
      · have hf := (if_neg c_147).symm.trans hf
        refine sj_aload_n C dM_layBest_154 1 rfl rfl ?_
        refine sj_get C nM_in 0 rfl rfl 8 (by decide) wd_443 rfl rfl dM_layBest_155 ?_
        refine sj_iload_n C dM_layBest_158 4 rfl rfl ?_
        refine sj_iconst C dM_layBest_159 ki_1 ?_
        refine sj_isub C dM_layBest_160 ?_
        obtain ⟨h_161, hf⟩ := in_some hf
        refine sj_iald C 8 0 rfl rfl h_161 rfl dM_layBest_161 ?_
        refine sj_iconst C dM_layBest_162 ki_1 ?_
        refine sj_iadd C dM_layBest_163 ?_
        exact sj_lv [1, 4] rfl (hb_164 K15 hK15 v3 v3 ((gC (v3 - 1).toNatClampNeg) + 1) gO gL gT gB gC gP gR gG gn hf)
      · have hf := (if_pos c_147).symm.trans hf
        refine sj_iconst C dM_layBest_150 ki_0 ?_
        refine sj_goto C 164 dM_layBest_151 (by decide) ?_
        exact sj_lv [1, 4] rfl (hb_164 K15 hK15 v3 v3 0 gO gL gT gB gC gP gR gG gn hf)
  have hb_132 : ∀ (K15 : Int32 → Int32 → Int32 → (Nat → Int32) → (Nat → Int32) → (Nat → Int32) → (Nat → Int32) → (Nat → Int32) → (Nat → Int32) → (Nat → Int32) → (Nat → Int32) → (Nat → Int32) → Int32 → Option (Int32 × (Nat → Int32) × (Nat → Int32) × (Nat → Int32) × (Nat → Int32) × (Nat → Int32) × (Nat → Int32) × (Nat → Int32) × (Nat → Int32) × Int32)) (hK15 : ∀ (v1 v2 v3 : Int32) (gO gL gT gB gC gP gR gG : Nat → Int32) (gn : Int32), K15 v1 v2 v3 gS gO gL gT gB gC gP gR gG gn = some (r, gO', gL', gT', gB', gC', gP', gR', gG', gn') → SJ p l e rM_layBest s m (List.toArray [Value.ref g0]) below meth c A (dC, dI) 7 Q (wdM cI cZ cB g0 g1 g2 g3 g4 g5 g6 g7 g8 g9 g10 g11 gS gI gK gO gL gT gB gC gP gR gG gn) [(0, .ref g0), (1, .int v1), (2, .int v2), (3, .int v3)] 15 []) (v1 v2 v3 v5 : Int32) (gO gL gT gB gC gP gR gG : Nat → Int32) (gn : Int32), fM_layBest_b132 K15 v1 v2 v3 v5 gS gO gL gT gB gC gP gR gG gn = some (r, gO', gL', gT', gB', gC', gP', gR', gG', gn') → SJ p l e rM_layBest s m (List.toArray [Value.ref g0]) below meth c A (dC, dI) 7 Q (wdM cI cZ cB g0 g1 g2 g3 g4 g5 g6 g7 g8 g9 g10 g11 gS gI gK gO gL gT gB gC gP gR gG gn) [(0, .ref g0), (1, .int v1), (2, .int v2), (3, .int v3), (5, .int v5)] 132 [] := by
    intro K15 hK15 v1 v2 v3 v5 gO gL gT gB gC gP gR gG gn hf
    unfold fM_layBest_b132 at hf
    refine sj_iconst C dM_layBest_132 ki_1 ?_
    refine sj_goto C 137 dM_layBest_133 (by decide) ?_
    exact sj_lv [0, 1, 2, 3, 4] rfl (hb_137 K15 hK15 v1 v2 v3 v5 1 gO gL gT gB gC gP gR gG gn hf)
  have hb_109 : ∀ (K15 : Int32 → Int32 → Int32 → (Nat → Int32) → (Nat → Int32) → (Nat → Int32) → (Nat → Int32) → (Nat → Int32) → (Nat → Int32) → (Nat → Int32) → (Nat → Int32) → (Nat → Int32) → Int32 → Option (Int32 × (Nat → Int32) × (Nat → Int32) × (Nat → Int32) × (Nat → Int32) × (Nat → Int32) × (Nat → Int32) × (Nat → Int32) × (Nat → Int32) × Int32)) (hK15 : ∀ (v1 v2 v3 : Int32) (gO gL gT gB gC gP gR gG : Nat → Int32) (gn : Int32), K15 v1 v2 v3 gS gO gL gT gB gC gP gR gG gn = some (r, gO', gL', gT', gB', gC', gP', gR', gG', gn') → SJ p l e rM_layBest s m (List.toArray [Value.ref g0]) below meth c A (dC, dI) 7 Q (wdM cI cZ cB g0 g1 g2 g3 g4 g5 g6 g7 g8 g9 g10 g11 gS gI gK gO gL gT gB gC gP gR gG gn) [(0, .ref g0), (1, .int v1), (2, .int v2), (3, .int v3)] 15 []) (v1 v2 v3 v5 : Int32) (gO gL gT gB gC gP gR gG : Nat → Int32) (gn : Int32), fM_layBest_b109 K15 v1 v2 v3 v5 gS gO gL gT gB gC gP gR gG gn = some (r, gO', gL', gT', gB', gC', gP', gR', gG', gn') → SJ p l e rM_layBest s m (List.toArray [Value.ref g0]) below meth c A (dC, dI) 7 Q (wdM cI cZ cB g0 g1 g2 g3 g4 g5 g6 g7 g8 g9 g10 g11 gS gI gK gO gL gT gB gC gP gR gG gn) [(0, .ref g0), (1, .int v1), (2, .int v2), (3, .int v3), (5, .int v5)] 109 [] := by
    intro K15 hK15 v1 v2 v3 v5 gO gL gT gB gC gP gR gG gn hf
    unfold fM_layBest_b109 at hf
    refine sj_iload_n C dM_layBest_109 3 rfl rfl ?_
    refine sj_if_eq C 132 dM_layBest_110 (by decide) (fun c_110 => ?_) (fun c_110 => ?_)
    · have hf := (if_pos c_110).symm.trans hf
      exact sj_lv [0, 1, 2, 3, 4] rfl (hb_132 K15 hK15 v1 v2 v3 v5 gO gL gT gB gC gP gR gG gn hf)
    · have hf := (if_neg c_110).symm.trans hf
      refine sj_iload C dM_layBest_113 4 rfl ?_
      refine sj_aload_n C dM_layBest_115 0 rfl rfl ?_
      refine sj_get C nM_in 0 rfl rfl 0 (by decide) wd_435 rfl rfl dM_layBest_116 ?_
      refine sj_bipush C dM_layBest_119 kb_36 ?_
      refine sj_aload_n C dM_layBest_121 0 rfl rfl ?_
      refine sj_get C nM_in 0 rfl rfl 3 (by decide) wd_438 rfl rfl dM_layBest_122 ?_
      refine sj_iload_n C dM_layBest_125 3 rfl rfl ?_
      obtain ⟨h_126, hf⟩ := in_some hf
      refine sj_iald C 4 0 rfl rfl h_126 rfl dM_layBest_126 ?_
      refine sj_iadd C dM_layBest_127 ?_
      obtain ⟨h_128, hf⟩ := in_some hf
      refine sj_iald C 1 0 rfl rfl h_128 rfl dM_layBest_128 ?_
      refine sj_icmp_le C 136 dM_layBest_129 (by decide) (fun c_129 => ?_) (fun c_129 => ?_)
      · have hf := (if_pos c_129).symm.trans hf
        refine sj_iconst C dM_layBest_136 ki_0 ?_
        exact sj_lv [0, 1, 2, 3, 4] rfl (hb_137 K15 hK15 v1 v2 v3 v5 0 gO gL gT gB gC gP gR gG gn hf)
      · have hf := (if_neg c_129).symm.trans hf
        exact sj_lv [0, 1, 2, 3, 4] rfl (hb_132 K15 hK15 v1 v2 v3 v5 gO gL gT gB gC gP gR gG gn hf)
  have hb_70 : ∀ (K15 : Int32 → Int32 → Int32 → (Nat → Int32) → (Nat → Int32) → (Nat → Int32) → (Nat → Int32) → (Nat → Int32) → (Nat → Int32) → (Nat → Int32) → (Nat → Int32) → (Nat → Int32) → Int32 → Option (Int32 × (Nat → Int32) × (Nat → Int32) × (Nat → Int32) × (Nat → Int32) × (Nat → Int32) × (Nat → Int32) × (Nat → Int32) × (Nat → Int32) × Int32)) (hK15 : ∀ (v1 v2 v3 : Int32) (gO gL gT gB gC gP gR gG : Nat → Int32) (gn : Int32), K15 v1 v2 v3 gS gO gL gT gB gC gP gR gG gn = some (r, gO', gL', gT', gB', gC', gP', gR', gG', gn') → SJ p l e rM_layBest s m (List.toArray [Value.ref g0]) below meth c A (dC, dI) 7 Q (wdM cI cZ cB g0 g1 g2 g3 g4 g5 g6 g7 g8 g9 g10 g11 gS gI gK gO gL gT gB gC gP gR gG gn) [(0, .ref g0), (1, .int v1), (2, .int v2), (3, .int v3)] 15 []) (n : Nat) (v1 v2 v3 v4 v5 : Int32) (gO gL gT gB gC gP gR gG : Nat → Int32) (gn : Int32), fM_layBest_b70 K15 n v1 v2 v3 v4 v5 gS gO gL gT gB gC gP gR gG gn = some (r, gO', gL', gT', gB', gC', gP', gR', gG', gn') → SJ p l e rM_layBest s m (List.toArray [Value.ref g0]) below meth c A (dC, dI) 7 Q (wdM cI cZ cB g0 g1 g2 g3 g4 g5 g6 g7 g8 g9 g10 g11 gS gI gK gO gL gT gB gC gP gR gG gn) [(0, .ref g0), (1, .int v1), (2, .int v2), (3, .int v3), (4, .int v4), (5, .int v5)] 70 [] := by
    intro K15 hK15 n
    induction n with
    | zero => intro v1 v2 v3 v4 v5 gO gL gT gB gC gP gR gG gn hf; cases hf
    | succ n IH =>
      intro v1 v2 v3 v4 v5 gO gL gT gB gC gP gR gG gn hf
      unfold fM_layBest_b70 at hf
      refine sj_iload C dM_layBest_70 5 rfl ?_
      refine sj_aload_n C dM_layBest_72 0 rfl rfl ?_
      refine sj_get C nM_in 0 rfl rfl 0 (by decide) wd_435 rfl rfl dM_layBest_73 ?_
      refine sj_bipush C dM_layBest_76 kb_36 ?_
      refine sj_aload_n C dM_layBest_78 0 rfl rfl ?_
      refine sj_get C nM_in 0 rfl rfl 3 (by decide) wd_438 rfl rfl dM_layBest_79 ?_
      refine sj_iload_n C dM_layBest_82 3 rfl rfl ?_
      obtain ⟨h_83, hf⟩ := in_some hf
      refine sj_iald C 4 0 rfl rfl h_83 rfl dM_layBest_83 ?_
      refine sj_iadd C dM_layBest_84 ?_
      obtain ⟨h_85, hf⟩ := in_some hf
      refine sj_iald C 1 0 rfl rfl h_85 rfl dM_layBest_85 ?_
      refine sj_icmp_gt C 109 dM_layBest_86 (by decide) (fun c_86 => ?_) (fun c_86 => ?_)
      · have hf := (if_pos c_86).symm.trans hf
        exact sj_lv [0, 1, 2, 3, 5] rfl (hb_109 K15 hK15 v1 v2 v3 v5 gO gL gT gB gC gP gR gG gn hf)
      · have hf := (if_neg c_86).symm.trans hf
        refine sj_aload_n C dM_layBest_89 0 rfl rfl ?_
        refine sj_iload_n C dM_layBest_90 3 rfl rfl ?_
        refine sj_iload_n C dM_layBest_91 1 rfl rfl ?_
        refine sj_iload_n C dM_layBest_92 2 rfl rfl ?_
        refine sj_iload C dM_layBest_93 5 rfl ?_
        obtain ⟨r_95, hq_95, hf⟩ := bd1_some hf
        refine sj_callVi (w1 := (wdM cI cZ cB g0 g1 g2 g3 g4 g5 g6 g7 g8 g9 g10 g11 gS gI gK gO gL gT gB gC gP gR gG gn)) (q0 := 0) C "StepColumnsModel" (cM_withRoom l dC dI cI cZ cB g0 g1 g2 g3 g4 g5 g6 g7 g8 g9 g10 g11 gS gI gK gO gL gT gB gC gP gR gG gn v3 v1 v2 v5 r_95 hq_95) wd_547 wd_549 wd_25 wd_39 wd_550 hM_withRoom rfl rfl ⟨Nat.le_of_ble_eq_true rfl, Nat.le_of_ble_eq_true rfl⟩ [0, 1, 2, 3, 4, 5, 6, 7, 8, 9, 10, 11] [] ⟨rfl, rfl, rfl, rfl, rfl, rfl, kv_12_0_1_2_3_4_5_6_7_8_9_10_11⟩ rfl rfl rfl rfl rfl (Nat.le_of_ble_eq_true rfl) dM_layBest_95 ?_
        refine sj_iload C dM_layBest_98 4 rfl ?_
        refine sj_icmp_eq C 109 dM_layBest_100 (by decide) (fun c_100 => ?_) (fun c_100 => ?_)
        · have hf := (if_pos c_100).symm.trans hf
          exact sj_lv [0, 1, 2, 3, 5] rfl (hb_109 K15 hK15 v1 v2 v3 v5 gO gL gT gB gC gP gR gG gn hf)
        · have hf := (if_neg c_100).symm.trans hf
          refine sj_iinc (v := (v5 + 1)) (lv' := [(5, .int (v5 + 1)), (0, .ref g0), (1, .int v1), (2, .int v2), (3, .int v3), (4, .int v4)]) C dM_layBest_103 5 rfl (by rw [ki_1]) (by decide) rfl ?_
          refine sj_goto C 70 dM_layBest_106 (by decide) ?_
          exact sj_lv [1, 2, 3, 4, 5, 0] rfl (IH v1 v2 v3 v4 (v5 + 1) gO gL gT gB gC gP gR gG gn hf)
  have hb_68 : ∀ (K15 : Int32 → Int32 → Int32 → (Nat → Int32) → (Nat → Int32) → (Nat → Int32) → (Nat → Int32) → (Nat → Int32) → (Nat → Int32) → (Nat → Int32) → (Nat → Int32) → (Nat → Int32) → Int32 → Option (Int32 × (Nat → Int32) × (Nat → Int32) × (Nat → Int32) × (Nat → Int32) × (Nat → Int32) × (Nat → Int32) × (Nat → Int32) × (Nat → Int32) × Int32)) (hK15 : ∀ (v1 v2 v3 : Int32) (gO gL gT gB gC gP gR gG : Nat → Int32) (gn : Int32), K15 v1 v2 v3 gS gO gL gT gB gC gP gR gG gn = some (r, gO', gL', gT', gB', gC', gP', gR', gG', gn') → SJ p l e rM_layBest s m (List.toArray [Value.ref g0]) below meth c A (dC, dI) 7 Q (wdM cI cZ cB g0 g1 g2 g3 g4 g5 g6 g7 g8 g9 g10 g11 gS gI gK gO gL gT gB gC gP gR gG gn) [(0, .ref g0), (1, .int v1), (2, .int v2), (3, .int v3)] 15 []) (v1 v2 v3 v4 t0 : Int32) (gO gL gT gB gC gP gR gG : Nat → Int32) (gn : Int32), fM_layBest_b68 K15 v1 v2 v3 v4 t0 gS gO gL gT gB gC gP gR gG gn = some (r, gO', gL', gT', gB', gC', gP', gR', gG', gn') → SJ p l e rM_layBest s m (List.toArray [Value.ref g0]) below meth c A (dC, dI) 7 Q (wdM cI cZ cB g0 g1 g2 g3 g4 g5 g6 g7 g8 g9 g10 g11 gS gI gK gO gL gT gB gC gP gR gG gn) [(0, .ref g0), (1, .int v1), (2, .int v2), (3, .int v3), (4, .int v4)] 68 [.int t0] := by
    intro K15 hK15 v1 v2 v3 v4 t0 gO gL gT gB gC gP gR gG gn hf
    unfold fM_layBest_b68 at hf
    refine sj_istore (lv' := [(5, .int t0), (0, .ref g0), (1, .int v1), (2, .int v2), (3, .int v3), (4, .int v4)]) C dM_layBest_68 (by decide) rfl ?_
    exact sj_lv [1, 2, 3, 4, 5, 0] rfl (hb_70 K15 hK15 fu v1 v2 v3 v4 t0 gO gL gT gB gC gP gR gG gn hf)
  have hb_43 : ∀ (K15 : Int32 → Int32 → Int32 → (Nat → Int32) → (Nat → Int32) → (Nat → Int32) → (Nat → Int32) → (Nat → Int32) → (Nat → Int32) → (Nat → Int32) → (Nat → Int32) → (Nat → Int32) → Int32 → Option (Int32 × (Nat → Int32) × (Nat → Int32) × (Nat → Int32) × (Nat → Int32) × (Nat → Int32) × (Nat → Int32) × (Nat → Int32) × (Nat → Int32) × Int32)) (hK15 : ∀ (v1 v2 v3 : Int32) (gO gL gT gB gC gP gR gG : Nat → Int32) (gn : Int32), K15 v1 v2 v3 gS gO gL gT gB gC gP gR gG gn = some (r, gO', gL', gT', gB', gC', gP', gR', gG', gn') → SJ p l e rM_layBest s m (List.toArray [Value.ref g0]) below meth c A (dC, dI) 7 Q (wdM cI cZ cB g0 g1 g2 g3 g4 g5 g6 g7 g8 g9 g10 g11 gS gI gK gO gL gT gB gC gP gR gG gn) [(0, .ref g0), (1, .int v1), (2, .int v2), (3, .int v3)] 15 []) (v1 v2 v3 t0 : Int32) (gO gL gT gB gC gP gR gG : Nat → Int32) (gn : Int32), fM_layBest_b43 K15 v1 v2 v3 t0 gS gO gL gT gB gC gP gR gG gn = some (r, gO', gL', gT', gB', gC', gP', gR', gG', gn') → SJ p l e rM_layBest s m (List.toArray [Value.ref g0]) below meth c A (dC, dI) 7 Q (wdM cI cZ cB g0 g1 g2 g3 g4 g5 g6 g7 g8 g9 g10 g11 gS gI gK gO gL gT gB gC gP gR gG gn) [(0, .ref g0), (1, .int v1), (2, .int v2), (3, .int v3)] 43 [.int t0] := by
    intro K15 hK15 v1 v2 v3 t0 gO gL gT gB gC gP gR gG gn hf
    unfold fM_layBest_b43 at hf
    refine sj_istore (lv' := [(4, .int t0), (0, .ref g0), (1, .int v1), (2, .int v2), (3, .int v3)]) C dM_layBest_43 (by decide) rfl ?_
    refine sj_iload_n C dM_layBest_45 4 rfl rfl ?_
    refine sj_if_ne C 54 dM_layBest_46 (by decide) (fun c_46 => ?_) (fun c_46 => ?_)
    · have hf := (if_neg c_46).symm.trans hf
      refine sj_aload_n C dM_layBest_54 1 rfl rfl ?_
      refine sj_get C nM_in 0 rfl rfl 0 (by decide) wd_435 rfl rfl dM_layBest_55 ?_
      refine sj_bipush C dM_layBest_58 kb_24 ?_
      refine sj_aload_n C dM_layBest_60 1 rfl rfl ?_
      refine sj_get C nM_in 0 rfl rfl 3 (by decide) wd_438 rfl rfl dM_layBest_61 ?_
      refine sj_iload_n C dM_layBest_64 4 rfl rfl ?_
      obtain ⟨h_65, hf⟩ := in_some hf
      refine sj_iald C 4 0 rfl rfl h_65 rfl dM_layBest_65 ?_
      refine sj_iadd C dM_layBest_66 ?_
      obtain ⟨h_67, hf⟩ := in_some hf
      refine sj_iald C 1 0 rfl rfl h_67 rfl dM_layBest_67 ?_
      exact sj_lv [1, 2, 3, 4, 0] rfl (hb_68 K15 hK15 v1 v2 v3 t0 (gS (24 + (gO v3.toNatClampNeg)).toNatClampNeg) gO gL gT gB gC gP gR gG gn hf)
    · have hf := (if_pos c_46).symm.trans hf
      refine sj_bipush C dM_layBest_49 kb_31 ?_
      refine sj_goto C 68 dM_layBest_51 (by decide) ?_
      exact sj_lv [1, 2, 3, 4, 0] rfl (hb_68 K15 hK15 v1 v2 v3 t0 31 gO gL gT gB gC gP gR gG gn hf)
  have hb_15 : ∀ (n : Nat) (v1 v2 v3 : Int32) (gO gL gT gB gC gP gR gG : Nat → Int32) (gn : Int32), fM_layBest_b15 n v1 v2 v3 gS gO gL gT gB gC gP gR gG gn = some (r, gO', gL', gT', gB', gC', gP', gR', gG', gn') → SJ p l e rM_layBest s m (List.toArray [Value.ref g0]) below meth c A (dC, dI) 7 Q (wdM cI cZ cB g0 g1 g2 g3 g4 g5 g6 g7 g8 g9 g10 g11 gS gI gK gO gL gT gB gC gP gR gG gn) [(0, .ref g0), (1, .int v1), (2, .int v2), (3, .int v3)] 15 [] := by
    intro n
    induction n with
    | zero => intro v1 v2 v3 gO gL gT gB gC gP gR gG gn hf; cases hf
    | succ n IH =>
      intro v1 v2 v3 gO gL gT gB gC gP gR gG gn hf
      unfold fM_layBest_b15 at hf
      refine sj_iload_n C dM_layBest_15 3 rfl rfl ?_
      refine sj_aload_n C dM_layBest_16 0 rfl rfl ?_
      refine sj_get C nM_in 0 rfl rfl 6 (by decide) wd_441 rfl rfl dM_layBest_17 ?_
      refine sj_icmp_ge C 234 dM_layBest_20 (by decide) (fun c_20 => ?_) (fun c_20 => ?_)
      · have hf := (if_pos c_20).symm.trans hf
        refine sj_iconst C dM_layBest_234 ki_1 ?_
        cases hf
        exact hQ 235 _ (Or.inr rfl) dM_layBest_235
      · have hf := (if_neg c_20).symm.trans hf
        refine sj_iload_n C dM_layBest_23 3 rfl rfl ?_
        refine sj_if_ne C 32 dM_layBest_24 (by decide) (fun c_24 => ?_) (fun c_24 => ?_)
        · have hf := (if_neg c_24).symm.trans hf
          refine sj_aload_n C dM_layBest_32 0 rfl rfl ?_
          refine sj_get C nM_in 0 rfl rfl 7 (by decide) wd_442 rfl rfl dM_layBest_33 ?_
          refine sj_iload_n C dM_layBest_36 3 rfl rfl ?_
          refine sj_iload_n C dM_layBest_37 1 rfl rfl ?_
          refine sj_iload_n C dM_layBest_38 2 rfl rfl ?_
          obtain ⟨r_39, hq_39, hf⟩ := bd1_some hf
          refine sj_callSi (w1 := (wdM cI cZ cB g0 g1 g2 g3 g4 g5 g6 g7 g8 g9 g10 g11 gS gI gK gO gL gT gB gC gP gR gG gn)) C "StepColumnsModel" (cM_at l dC dI cI cZ cB   v3 v1 v2 r_39 hq_39) wd_531 wd_532 wd_39 wd_533 hM_at rfl rfl ⟨Nat.le_of_ble_eq_true rfl, Nat.le_of_ble_eq_true rfl⟩ [] [0, 1, 2, 3, 4, 5, 6, 7, 8, 9, 10, 11] ⟨rfl, rfl, rfl, rfl, rfl, rfl, kv_12_⟩ rfl rfl (Nat.le_of_ble_eq_true rfl) dM_layBest_39 ?_
          obtain ⟨h_42, hf⟩ := in_some hf
          refine sj_iald C 7 0 rfl rfl h_42 rfl dM_layBest_42 ?_
          exact sj_lv [0, 1, 2, 3] rfl (hb_43 (fM_layBest_b15 n) IH v1 v2 v3 (gB r_39.toNatClampNeg) gO gL gT gB gC gP gR gG gn hf)
        · have hf := (if_pos c_24).symm.trans hf
          refine sj_bipush C dM_layBest_27 kb_m6 ?_
          refine sj_goto C 43 dM_layBest_29 (by decide) ?_
          exact sj_lv [0, 1, 2, 3] rfl (hb_43 (fM_layBest_b15 n) IH v1 v2 v3 (-6) gO gL gT gB gC gP gR gG gn hf)
  unfold fM_layBest at hf
  change SJ p l e rM_layBest s m (List.toArray [Value.ref g0]) below meth c A (dC, dI) 7 Q (wdM cI cZ cB g0 g1 g2 g3 g4 g5 g6 g7 g8 g9 g10 g11 gS gI gK gO gL gT gB gC gP gR gG gn) [(0, .ref g0)] 0 []
  refine sj_aload_n C dM_layBest_0 0 rfl rfl ?_
  obtain ⟨r_1, gO_1, gL_1, gT_1, gB_1, gn_1, hq_1, hf⟩ := bd6_some hf
  refine sj_callVi (w1 := (wdM cI cZ cB g0 g1 g2 g3 g4 g5 g6 g7 g8 g9 g10 g11 gS gI gK gO_1 gL_1 gT_1 gB_1 gC gP gR gG gn_1)) (q0 := 0) C "StepColumnsModel" (cM_solve l dC dI cI cZ cB g0 g1 g2 g3 g4 g5 g6 g7 g8 g9 g10 g11 gS gI gK gO gL gT gB gC gP gR gG gn  r_1 gO_1 gL_1 gT_1 gB_1 gn_1 hq_1) wd_523 wd_525 wd_20 wd_39 wd_526 hM_solve rfl rfl ⟨Nat.le_of_ble_eq_true rfl, Nat.le_of_ble_eq_true rfl⟩ [0, 1, 2, 3, 4, 5, 6, 7, 8, 9, 10, 11] [] ⟨rfl, rfl, rfl, rfl, rfl, rfl, kv_12_0_1_2_3_4_5_6_7_8_9_10_11⟩ rfl rfl rfl rfl rfl (Nat.le_of_ble_eq_true rfl) dM_layBest_1 ?_
  refine sj_if_ge C 9 dM_layBest_4 (by decide) (fun c_4 => ?_) (fun c_4 => ?_)
  · have hf := (if_pos c_4).symm.trans hf
    refine sj_iconst C dM_layBest_9 ki_0 ?_
    refine sj_istore_n (lv' := [(1, .int 0), (0, .ref g0)]) C dM_layBest_10 rfl (by decide) rfl ?_
    refine sj_iconst C dM_layBest_11 ki_2 ?_
    refine sj_istore_n (lv' := [(2, .int 2), (1, .int 0), (0, .ref g0)]) C dM_layBest_12 rfl (by decide) rfl ?_
    refine sj_iconst C dM_layBest_13 ki_0 ?_
    refine sj_istore_n (lv' := [(3, .int 0), (2, .int 2), (1, .int 0), (0, .ref g0)]) C dM_layBest_14 rfl (by decide) rfl ?_
    exact sj_lv [3, 2, 1, 0] rfl (hb_15 fu 0 2 0 gO_1 gL_1 gT_1 gB_1 gC gP gR gG gn_1 hf)
  · have hf := (if_neg c_4).symm.trans hf
    refine sj_iconst C dM_layBest_7 ki_0 ?_
    cases hf
    exact hQ 8 _ (Or.inl rfl) dM_layBest_8
abbrev rM_isOut : Room := { frames := 1, cells := 0, slots := 0, locals := 21 }
set_option maxHeartbeats 4000000 in
set_option maxRecDepth 100000 in
theorem cM_isOut (l : Launch) (dC : Nat → ClassId) (dI : Nat → Nat → Nat) (cI cZ cB : ClassId) (g0 g1 g2 g3 g4 g5 g6 g7 g8 g9 g10 g11 : Nat) (gS gI gK gO gL gT gB gC gP gR gG : Nat → Int32) (gn : Int32) (p1 : Int32) (r : Int32)  (hf : fM_isOut p1 gS gO gP = some r) : MI l yM_isOut wM_isOut rM_isOut (dC, dI) (tyl cI cZ cB) [Value.ref g0, Value.int p1] (wdM cI cZ cB g0 g1 g2 g3 g4 g5 g6 g7 g8 g9 g10 g11 gS gI gK gO gL gT gB gC gP gR gG gn) (wdM cI cZ cB g0 g1 g2 g3 g4 g5 g6 g7 g8 g9 g10 g11 gS gI gK gO gL gT gB gC gP gR gG gn) r := by
  refine MZ_of "StepColumnsModel" rfl (by decide) (Nat.le_of_ble_eq_true rfl) ?_
  intro p e s m below meth c A Q C hQ
  have hb_30 : ∀ (t0 : Int32), fM_isOut_b30 t0 gS gO gP = some r → SJ p l e rM_isOut s m (List.toArray [Value.ref g0, Value.int p1]) below meth c A (dC, dI) 2 Q (wdM cI cZ cB g0 g1 g2 g3 g4 g5 g6 g7 g8 g9 g10 g11 gS gI gK gO gL gT gB gC gP gR gG gn) [] 30 [.int t0] := by
    intro t0 hf
    unfold fM_isOut_b30 at hf
    obtain ⟨h_30, hf⟩ := in_some hf
    cases hf
    exact hQ 30 _ (Decidable.not_not.mp h_30) dM_isOut_30
  have hb_29 : fM_isOut_b29 gS gO gP = some r → SJ p l e rM_isOut s m (List.toArray [Value.ref g0, Value.int p1]) below meth c A (dC, dI) 2 Q (wdM cI cZ cB g0 g1 g2 g3 g4 g5 g6 g7 g8 g9 g10 g11 gS gI gK gO gL gT gB gC gP gR gG gn) [] 29 [] := by
    intro  hf
    unfold fM_isOut_b29 at hf
    refine sj_iconst C dM_isOut_29 ki_0 ?_
    exact sj_lv [] rfl (hb_30 0 hf)
  unfold fM_isOut at hf
  change SJ p l e rM_isOut s m (List.toArray [Value.ref g0, Value.int p1]) below meth c A (dC, dI) 2 Q (wdM cI cZ cB g0 g1 g2 g3 g4 g5 g6 g7 g8 g9 g10 g11 gS gI gK gO gL gT gB gC gP gR gG gn) [(0, .ref g0), (1, .int p1)] 0 []
  refine sj_aload_n C dM_isOut_0 0 rfl rfl ?_
  refine sj_iload_n C dM_isOut_1 1 rfl rfl ?_
  obtain ⟨r_2, hq_2, hf⟩ := bd1_some hf
  refine sj_callVi (w1 := (wdM cI cZ cB g0 g1 g2 g3 g4 g5 g6 g7 g8 g9 g10 g11 gS gI gK gO gL gT gB gC gP gR gG gn)) (q0 := 0) C "StepColumnsModel" (cM_isLine l dC dI cI cZ cB g0 g1 g2 g3 g4 g5 g6 g7 g8 g9 g10 g11 gS gI gK gO gL gT gB gC gP gR gG gn p1 r_2 hq_2) wd_542 wd_544 wd_24 wd_39 wd_545 hM_isLine rfl rfl ⟨Nat.le_of_ble_eq_true rfl, Nat.le_of_ble_eq_true rfl⟩ [0, 1, 2, 3, 4, 5, 6, 7, 8, 9, 10, 11] [] ⟨rfl, rfl, rfl, rfl, rfl, rfl, kv_12_0_1_2_3_4_5_6_7_8_9_10_11⟩ rfl rfl rfl rfl rfl (Nat.le_of_ble_eq_true rfl) dM_isOut_2 ?_
  refine sj_if_eq C 29 dM_isOut_5 (by decide) (fun c_5 => ?_) (fun c_5 => ?_)
  · have hf := (if_pos c_5).symm.trans hf
    exact sj_lv [] rfl (hb_29 hf)
  · have hf := (if_neg c_5).symm.trans hf
    refine sj_aload_n C dM_isOut_8 0 rfl rfl ?_
    refine sj_get C nM_in 0 rfl rfl 9 (by decide) wd_444 rfl rfl dM_isOut_9 ?_
    refine sj_iload_n C dM_isOut_12 1 rfl rfl ?_
    obtain ⟨h_13, hf⟩ := in_some hf
    refine sj_iald C 9 0 rfl rfl h_13 rfl dM_isOut_13 ?_
    refine sj_aload_n C dM_isOut_14 0 rfl rfl ?_
    refine sj_get C nM_in 0 rfl rfl 0 (by decide) wd_435 rfl rfl dM_isOut_15 ?_
    refine sj_bipush C dM_isOut_18 kb_48 ?_
    refine sj_iald C 1 0 rfl rfl kn_48_51 kc_48 dM_isOut_20 ?_
    obtain ⟨h_21, hf⟩ := in_some hf
    refine sj_irem C dM_isOut_21 h_21 ?_
    refine sj_if_eq C 29 dM_isOut_22 (by decide) (fun c_22 => ?_) (fun c_22 => ?_)
    · have hf := (if_pos c_22).symm.trans hf
      exact sj_lv [] rfl (hb_29 hf)
    · have hf := (if_neg c_22).symm.trans hf
      refine sj_iconst C dM_isOut_25 ki_1 ?_
      refine sj_goto C 30 dM_isOut_26 (by decide) ?_
      exact sj_lv [] rfl (hb_30 1 hf)
abbrev rM_isLast : Room := { frames := 0, cells := 0, slots := 0, locals := 0 }
set_option maxHeartbeats 4000000 in
set_option maxRecDepth 100000 in
theorem cM_isLast (l : Launch) (dC : Nat → ClassId) (dI : Nat → Nat → Nat) (cI cZ cB : ClassId) (g0 g1 g2 g3 g4 g5 g6 g7 g8 g9 g10 g11 : Nat) (gS gI gK gO gL gT gB gC gP gR gG : Nat → Int32) (gn : Int32) (p1 : Int32) (r : Int32)  (hf : fM_isLast p1 gG gn = some r) : MI l yM_isLast wM_isLast rM_isLast (dC, dI) (tyl cI cZ cB) [Value.ref g0, Value.int p1] (wdM cI cZ cB g0 g1 g2 g3 g4 g5 g6 g7 g8 g9 g10 g11 gS gI gK gO gL gT gB gC gP gR gG gn) (wdM cI cZ cB g0 g1 g2 g3 g4 g5 g6 g7 g8 g9 g10 g11 gS gI gK gO gL gT gB gC gP gR gG gn) r := by
  refine MZ_of "StepColumnsModel" rfl (by decide) (Nat.le_of_ble_eq_true rfl) ?_
  intro p e s m below meth c A Q C hQ
  have hb_26 : ∀ (t0 : Int32), fM_isLast_b26 t0 gG gn = some r → SJ p l e rM_isLast s m (List.toArray [Value.ref g0, Value.int p1]) below meth c A (dC, dI) 2 Q (wdM cI cZ cB g0 g1 g2 g3 g4 g5 g6 g7 g8 g9 g10 g11 gS gI gK gO gL gT gB gC gP gR gG gn) [] 26 [.int t0] := by
    intro t0 hf
    unfold fM_isLast_b26 at hf
    obtain ⟨h_26, hf⟩ := in_some hf
    cases hf
    exact hQ 26 _ (Decidable.not_not.mp h_26) dM_isLast_26
  have hb_21 : fM_isLast_b21 gG gn = some r → SJ p l e rM_isLast s m (List.toArray [Value.ref g0, Value.int p1]) below meth c A (dC, dI) 2 Q (wdM cI cZ cB g0 g1 g2 g3 g4 g5 g6 g7 g8 g9 g10 g11 gS gI gK gO gL gT gB gC gP gR gG gn) [] 21 [] := by
    intro  hf
    unfold fM_isLast_b21 at hf
    refine sj_iconst C dM_isLast_21 ki_1 ?_
    refine sj_goto C 26 dM_isLast_22 (by decide) ?_
    exact sj_lv [] rfl (hb_26 1 hf)
  unfold fM_isLast at hf
  change SJ p l e rM_isLast s m (List.toArray [Value.ref g0, Value.int p1]) below meth c A (dC, dI) 2 Q (wdM cI cZ cB g0 g1 g2 g3 g4 g5 g6 g7 g8 g9 g10 g11 gS gI gK gO gL gT gB gC gP gR gG gn) [(0, .ref g0), (1, .int p1)] 0 []
  refine sj_iload_n C dM_isLast_0 1 rfl rfl ?_
  refine sj_aload_n C dM_isLast_1 0 rfl rfl ?_
  refine sj_get C nM_in 0 rfl rfl 6 (by decide) wd_441 rfl rfl dM_isLast_2 ?_
  refine sj_iconst C dM_isLast_5 ki_1 ?_
  refine sj_isub C dM_isLast_6 ?_
  refine sj_icmp_eq C 21 dM_isLast_7 (by decide) (fun c_7 => ?_) (fun c_7 => ?_)
  · have hf := (if_pos c_7).symm.trans hf
    exact sj_lv [] rfl (hb_21 hf)
  · have hf := (if_neg c_7).symm.trans hf
    refine sj_aload_n C dM_isLast_10 0 rfl rfl ?_
    refine sj_get C nM_in 0 rfl rfl 11 (by decide) wd_446 rfl rfl dM_isLast_11 ?_
    refine sj_iload_n C dM_isLast_14 1 rfl rfl ?_
    refine sj_iconst C dM_isLast_15 ki_1 ?_
    refine sj_iadd C dM_isLast_16 ?_
    obtain ⟨h_17, hf⟩ := in_some hf
    refine sj_zald C 11 1 rfl rfl h_17 rfl dM_isLast_17 ?_
    refine sj_if_eq C 25 dM_isLast_18 (by decide) (fun c_18 => ?_) (fun c_18 => ?_)
    · have hf := (if_pos c_18).symm.trans hf
      refine sj_iconst C dM_isLast_25 ki_0 ?_
      exact sj_lv [] rfl (hb_26 0 hf)
    · have hf := (if_neg c_18).symm.trans hf
      exact sj_lv [] rfl (hb_21 hf)
abbrev rM_best : Room := { frames := 5, cells := 0, slots := 0, locals := 121 }
set_option maxHeartbeats 4000000 in
set_option maxRecDepth 100000 in
theorem cM_best (l : Launch) (dC : Nat → ClassId) (dI : Nat → Nat → Nat) (cI cZ cB : ClassId) (g0 g1 g2 g3 g4 g5 g6 g7 g8 g9 g10 g11 : Nat) (gS gI gK gO gL gT gB gC gP gR gG : Nat → Int32) (gn : Int32) (p1 : Int32) (r : Int32) (gO' : Nat → Int32) (gL' : Nat → Int32) (gT' : Nat → Int32) (gB' : Nat → Int32) (gC' : Nat → Int32) (gP' : Nat → Int32) (gR' : Nat → Int32) (gG' : Nat → Int32) (gn' : Int32) (hf : fM_best p1 gS gO gL gT gB gC gP gR gG gn = some (r, gO', gL', gT', gB', gC', gP', gR', gG', gn')) : MI l yM_best wM_best rM_best (dC, dI) (tyl cI cZ cB) [Value.ref g0, Value.int p1] (wdM cI cZ cB g0 g1 g2 g3 g4 g5 g6 g7 g8 g9 g10 g11 gS gI gK gO gL gT gB gC gP gR gG gn) (wdM cI cZ cB g0 g1 g2 g3 g4 g5 g6 g7 g8 g9 g10 g11 gS gI gK gO' gL' gT' gB' gC' gP' gR' gG' gn') r := by
  refine MI_of "StepColumnsModel" rfl (by decide) (Nat.le_of_ble_eq_true rfl) ?_
  intro p e s m below meth c A Q C hQ
  have hb_222 : ∀ (t0 : Int32) (gO gL gT gB gC gP gR gG : Nat → Int32) (gn : Int32), fM_best_b222 t0 gS gO gL gT gB gC gP gR gG gn = some (r, gO', gL', gT', gB', gC', gP', gR', gG', gn') → SJ p l e rM_best s m (List.toArray [Value.ref g0, Value.int p1]) below meth c A (dC, dI) 7 Q (wdM cI cZ cB g0 g1 g2 g3 g4 g5 g6 g7 g8 g9 g10 g11 gS gI gK gO gL gT gB gC gP gR gG gn) [] 222 [.int t0] := by
    intro t0 gO gL gT gB gC gP gR gG gn hf
    unfold fM_best_b222 at hf
    cases hf
    exact hQ 222 _ dM_best_222
  have hb_181 : ∀ (v1 v2 v3 v4 v5 t0 : Int32) (gO gL gT gB gC gP gR gG : Nat → Int32) (gn : Int32), fM_best_b181 v1 v2 v3 v4 v5 t0 gS gO gL gT gB gC gP gR gG gn = some (r, gO', gL', gT', gB', gC', gP', gR', gG', gn') → SJ p l e rM_best s m (List.toArray [Value.ref g0, Value.int p1]) below meth c A (dC, dI) 7 Q (wdM cI cZ cB g0 g1 g2 g3 g4 g5 g6 g7 g8 g9 g10 g11 gS gI gK gO gL gT gB gC gP gR gG gn) [(1, .int v1), (2, .int v2), (3, .int v3), (4, .int v4), (5, .int v5)] 181 [.int t0] := by
    intro v1 v2 v3 v4 v5 t0 gO gL gT gB gC gP gR gG gn hf
    unfold fM_best_b181 at hf
    refine sj_istore (lv' := [(6, .int t0), (1, .int v1), (2, .int v2), (3, .int v3), (4, .int v4), (5, .int v5)]) C dM_best_181 (by decide) rfl ?_
    refine sj_iload_n C dM_best_183 1 rfl rfl ?_
    refine sj_if_ne C 192 dM_best_184 (by decide) (fun c_184 => ?_) (fun c_184 => ?_)
    · have hf := (if_neg c_184).symm.trans hf
      refine sj_iload_n C dM_best_192 1 rfl rfl ?_
      refine sj_iconst C dM_best_193 ki_1 ?_
      refine sj_icmp_ne C 201 dM_best_194 (by decide) (fun c_194 => ?_) (fun c_194 => ?_)
      · have hf := (if_neg c_194).symm.trans hf
        refine sj_iload_n C dM_best_201 1 rfl rfl ?_
        refine sj_iconst C dM_best_202 ki_2 ?_
        refine sj_icmp_ne C 210 dM_best_203 (by decide) (fun c_203 => ?_) (fun c_203 => ?_)
        · have hf := (if_neg c_203).symm.trans hf
          refine sj_iload_n C dM_best_210 1 rfl rfl ?_
          refine sj_iconst C dM_best_211 ki_3 ?_
          refine sj_icmp_ne C 220 dM_best_212 (by decide) (fun c_212 => ?_) (fun c_212 => ?_)
          · have hf := (if_neg c_212).symm.trans hf
            refine sj_iload C dM_best_220 5 rfl ?_
            exact sj_lv [] rfl (hb_222 v5 gO gL gT gB gC gP gR gG gn hf)
          · have hf := (if_pos c_212).symm.trans hf
            refine sj_iload C dM_best_215 4 rfl ?_
            refine sj_goto C 222 dM_best_217 (by decide) ?_
            exact sj_lv [] rfl (hb_222 v4 gO gL gT gB gC gP gR gG gn hf)
        · have hf := (if_pos c_203).symm.trans hf
          refine sj_iload_n C dM_best_206 3 rfl rfl ?_
          refine sj_goto C 222 dM_best_207 (by decide) ?_
          exact sj_lv [] rfl (hb_222 v3 gO gL gT gB gC gP gR gG gn hf)
      · have hf := (if_pos c_194).symm.trans hf
        refine sj_iload_n C dM_best_197 2 rfl rfl ?_
        refine sj_goto C 222 dM_best_198 (by decide) ?_
        exact sj_lv [] rfl (hb_222 v2 gO gL gT gB gC gP gR gG gn hf)
    · have hf := (if_pos c_184).symm.trans hf
      refine sj_iload C dM_best_187 0 rfl ?_
      refine sj_goto C 222 dM_best_189 (by decide) ?_
      exact sj_lv [] rfl (hb_222 t0 gO gL gT gB gC gP gR gG gn hf)
  have hb_148 : ∀ (K35 : Int32 → Int32 → Int32 → Int32 → Int32 → Int32 → (Nat → Int32) → (Nat → Int32) → (Nat → Int32) → (Nat → Int32) → (Nat → Int32) → (Nat → Int32) → (Nat → Int32) → (Nat → Int32) → (Nat → Int32) → Int32 → Option (Int32 × (Nat → Int32) × (Nat → Int32) × (Nat → Int32) × (Nat → Int32) × (Nat → Int32) × (Nat → Int32) × (Nat → Int32) × (Nat → Int32) × Int32)) (hK35 : ∀ (v1 v2 v3 v4 v5 v6 : Int32) (gO gL gT gB gC gP gR gG : Nat → Int32) (gn : Int32), K35 v1 v2 v3 v4 v5 v6 gS gO gL gT gB gC gP gR gG gn = some (r, gO', gL', gT', gB', gC', gP', gR', gG', gn') → SJ p l e rM_best s m (List.toArray [Value.ref g0, Value.int p1]) below meth c A (dC, dI) 7 Q (wdM cI cZ cB g0 g1 g2 g3 g4 g5 g6 g7 g8 g9 g10 g11 gS gI gK gO gL gT gB gC gP gR gG gn) [(0, .ref g0), (1, .int v1), (2, .int v2), (3, .int v3), (4, .int v4), (5, .int v5), (6, .int v6)] 35 []) (v1 v2 v3 v4 v6 t0 t1 : Int32) (gO gL gT gB gC gP gR gG : Nat → Int32) (gn : Int32), fM_best_b148 K35 v1 v2 v3 v4 v6 t0 t1 gS gO gL gT gB gC gP gR gG gn = some (r, gO', gL', gT', gB', gC', gP', gR', gG', gn') → SJ p l e rM_best s m (List.toArray [Value.ref g0, Value.int p1]) below meth c A (dC, dI) 7 Q (wdM cI cZ cB g0 g1 g2 g3 g4 g5 g6 g7 g8 g9 g10 g11 gS gI gK gO gL gT gB gC gP gR gG gn) [(0, .ref g0), (1, .int v1), (2, .int v2), (3, .int v3), (4, .int v4), (6, .int v6)] 148 [.int t1, .int t0] := by
    intro K35 hK35 v1 v2 v3 v4 v6 t0 t1 gO gL gT gB gC gP gR gG gn hf
    unfold fM_best_b148 at hf
    refine sj_iadd C dM_best_148 ?_
    refine sj_istore (lv' := [(5, .int (t0 + t1)), (0, .ref g0), (1, .int v1), (2, .int v2), (3, .int v3), (4, .int v4), (6, .int v6)]) C dM_best_149 (by decide) rfl ?_
    refine sj_iinc (v := (v6 + 1)) (lv' := [(6, .int (v6 + 1)), (5, .int (t0 + t1)), (0, .ref g0), (1, .int v1), (2, .int v2), (3, .int v3), (4, .int v4)]) C dM_best_151 6 rfl (by rw [ki_1]) (by decide) rfl ?_
    refine sj_goto C 35 dM_best_154 (by decide) ?_
    exact sj_lv [2, 3, 4, 5, 6, 1, 0] rfl (hK35 v1 v2 v3 v4 (t0 + t1) (v6 + 1) gO gL gT gB gC gP gR gG gn hf)
  have hb_107 : ∀ (K35 : Int32 → Int32 → Int32 → Int32 → Int32 → Int32 → (Nat → Int32) → (Nat → Int32) → (Nat → Int32) → (Nat → Int32) → (Nat → Int32) → (Nat → Int32) → (Nat → Int32) → (Nat → Int32) → (Nat → Int32) → Int32 → Option (Int32 × (Nat → Int32) × (Nat → Int32) × (Nat → Int32) × (Nat → Int32) × (Nat → Int32) × (Nat → Int32) × (Nat → Int32) × (Nat → Int32) × Int32)) (hK35 : ∀ (v1 v2 v3 v4 v5 v6 : Int32) (gO gL gT gB gC gP gR gG : Nat → Int32) (gn : Int32), K35 v1 v2 v3 v4 v5 v6 gS gO gL gT gB gC gP gR gG gn = some (r, gO', gL', gT', gB', gC', gP', gR', gG', gn') → SJ p l e rM_best s m (List.toArray [Value.ref g0, Value.int p1]) below meth c A (dC, dI) 7 Q (wdM cI cZ cB g0 g1 g2 g3 g4 g5 g6 g7 g8 g9 g10 g11 gS gI gK gO gL gT gB gC gP gR gG gn) [(0, .ref g0), (1, .int v1), (2, .int v2), (3, .int v3), (4, .int v4), (5, .int v5), (6, .int v6)] 35 []) (v1 v2 v3 v5 v6 t0 t1 : Int32) (gO gL gT gB gC gP gR gG : Nat → Int32) (gn : Int32), fM_best_b107 K35 v1 v2 v3 v5 v6 t0 t1 gS gO gL gT gB gC gP gR gG gn = some (r, gO', gL', gT', gB', gC', gP', gR', gG', gn') → SJ p l e rM_best s m (List.toArray [Value.ref g0, Value.int p1]) below meth c A (dC, dI) 7 Q (wdM cI cZ cB g0 g1 g2 g3 g4 g5 g6 g7 g8 g9 g10 g11 gS gI gK gO gL gT gB gC gP gR gG gn) [(0, .ref g0), (1, .int v1), (2, .int v2), (3, .int v3), (5, .int v5), (6, .int v6)] 107 [.int t1, .int t0] := by
    intro K35 hK35 v1 v2 v3 v5 v6 t0 t1 gO gL gT gB gC gP gR gG gn hf
    unfold fM_best_b107 at hf
    refine sj_iadd C dM_best_107 ?_
    refine sj_istore (lv' := [(4, .int (t0 + t1)), (0, .ref g0), (1, .int v1), (2, .int v2), (3, .int v3), (5, .int v5), (6, .int v6)]) C dM_best_108 (by decide) rfl ?_
    refine sj_iload C dM_best_110 5 rfl ?_
    refine sj_aload_n C dM_best_112 1 rfl rfl ?_
    refine sj_iload C dM_best_113 6 rfl ?_
    obtain ⟨r_115, hq_115, hf⟩ := bd1_some hf
    refine sj_callVi (w1 := (wdM cI cZ cB g0 g1 g2 g3 g4 g5 g6 g7 g8 g9 g10 g11 gS gI gK gO gL gT gB gC gP gR gG gn)) (q0 := 0) C "StepColumnsModel" (cM_isLast l dC dI cI cZ cB g0 g1 g2 g3 g4 g5 g6 g7 g8 g9 g10 g11 gS gI gK gO gL gT gB gC gP gR gG gn v6 r_115 hq_115) wd_566 wd_568 wd_29 wd_39 wd_569 hM_isLast rfl rfl ⟨Nat.le_of_ble_eq_true rfl, Nat.le_of_ble_eq_true rfl⟩ [0, 1, 2, 3, 4, 5, 6, 7, 8, 9, 10, 11] [] ⟨rfl, rfl, rfl, rfl, rfl, rfl, kv_12_0_1_2_3_4_5_6_7_8_9_10_11⟩ rfl rfl rfl rfl rfl (Nat.le_of_ble_eq_true rfl) dM_best_115 ?_
    refine sj_if_eq C 147 dM_best_118 (by decide) (fun c_118 => ?_) (fun c_118 => ?_)
    · have hf := (if_pos c_118).symm.trans hf
      refine sj_iconst C dM_best_147 ki_0 ?_
      exact sj_lv [1, 2, 3, 4, 0, 6] rfl (hb_148 K35 hK35 v1 v2 v3 (t0 + t1) v6 v5 0 gO gL gT gB gC gP gR gG gn hf)
    · have hf := (if_neg c_118).symm.trans hf
      refine sj_aload_n C dM_best_121 1 rfl rfl ?_
      refine sj_get C nM_in 0 rfl rfl 0 (by decide) wd_435 rfl rfl dM_best_122 ?_
      refine sj_bipush C dM_best_125 kb_49 ?_
      refine sj_iald C 1 0 rfl rfl kn_49_51 kc_49 dM_best_127 ?_
      refine sj_aload_n C dM_best_128 1 rfl rfl ?_
      refine sj_get C nM_in 0 rfl rfl 9 (by decide) wd_444 rfl rfl dM_best_129 ?_
      refine sj_iload C dM_best_132 6 rfl ?_
      obtain ⟨h_134, hf⟩ := in_some hf
      refine sj_iald C 9 0 rfl rfl h_134 rfl dM_best_134 ?_
      refine sj_isub C dM_best_135 ?_
      refine sj_aload_n C dM_best_136 1 rfl rfl ?_
      refine sj_get C nM_in 0 rfl rfl 5 (by decide) wd_440 rfl rfl dM_best_137 ?_
      refine sj_iload C dM_best_140 6 rfl ?_
      obtain ⟨h_142, hf⟩ := in_some hf
      refine sj_iald C 6 0 rfl rfl h_142 rfl dM_best_142 ?_
      refine sj_isub C dM_best_143 ?_
      refine sj_goto C 148 dM_best_144 (by decide) ?_
      exact sj_lv [1, 2, 3, 4, 0, 6] rfl (hb_148 K35 hK35 v1 v2 v3 (t0 + t1) v6 v5 (((gS 49) - (gP v6.toNatClampNeg)) - (gT v6.toNatClampNeg)) gO gL gT gB gC gP gR gG gn hf)
  have hb_106 : ∀ (K35 : Int32 → Int32 → Int32 → Int32 → Int32 → Int32 → (Nat → Int32) → (Nat → Int32) → (Nat → Int32) → (Nat → Int32) → (Nat → Int32) → (Nat → Int32) → (Nat → Int32) → (Nat → Int32) → (Nat → Int32) → Int32 → Option (Int32 × (Nat → Int32) × (Nat → Int32) × (Nat → Int32) × (Nat → Int32) × (Nat → Int32) × (Nat → Int32) × (Nat → Int32) × (Nat → Int32) × Int32)) (hK35 : ∀ (v1 v2 v3 v4 v5 v6 : Int32) (gO gL gT gB gC gP gR gG : Nat → Int32) (gn : Int32), K35 v1 v2 v3 v4 v5 v6 gS gO gL gT gB gC gP gR gG gn = some (r, gO', gL', gT', gB', gC', gP', gR', gG', gn') → SJ p l e rM_best s m (List.toArray [Value.ref g0, Value.int p1]) below meth c A (dC, dI) 7 Q (wdM cI cZ cB g0 g1 g2 g3 g4 g5 g6 g7 g8 g9 g10 g11 gS gI gK gO gL gT gB gC gP gR gG gn) [(0, .ref g0), (1, .int v1), (2, .int v2), (3, .int v3), (4, .int v4), (5, .int v5), (6, .int v6)] 35 []) (v1 v2 v3 v5 v6 t0 : Int32) (gO gL gT gB gC gP gR gG : Nat → Int32) (gn : Int32), fM_best_b106 K35 v1 v2 v3 v5 v6 t0 gS gO gL gT gB gC gP gR gG gn = some (r, gO', gL', gT', gB', gC', gP', gR', gG', gn') → SJ p l e rM_best s m (List.toArray [Value.ref g0, Value.int p1]) below meth c A (dC, dI) 7 Q (wdM cI cZ cB g0 g1 g2 g3 g4 g5 g6 g7 g8 g9 g10 g11 gS gI gK gO gL gT gB gC gP gR gG gn) [(0, .ref g0), (1, .int v1), (2, .int v2), (3, .int v3), (5, .int v5), (6, .int v6)] 106 [.int t0] := by
    intro K35 hK35 v1 v2 v3 v5 v6 t0 gO gL gT gB gC gP gR gG gn hf
    unfold fM_best_b106 at hf
    refine sj_iconst C dM_best_106 ki_0 ?_
    exact sj_lv [0, 1, 2, 3, 4, 5] rfl (hb_107 K35 hK35 v1 v2 v3 v5 v6 t0 0 gO gL gT gB gC gP gR gG gn hf)
  have hb_59 : ∀ (K35 : Int32 → Int32 → Int32 → Int32 → Int32 → Int32 → (Nat → Int32) → (Nat → Int32) → (Nat → Int32) → (Nat → Int32) → (Nat → Int32) → (Nat → Int32) → (Nat → Int32) → (Nat → Int32) → (Nat → Int32) → Int32 → Option (Int32 × (Nat → Int32) × (Nat → Int32) × (Nat → Int32) × (Nat → Int32) × (Nat → Int32) × (Nat → Int32) × (Nat → Int32) × (Nat → Int32) × Int32)) (hK35 : ∀ (v1 v2 v3 v4 v5 v6 : Int32) (gO gL gT gB gC gP gR gG : Nat → Int32) (gn : Int32), K35 v1 v2 v3 v4 v5 v6 gS gO gL gT gB gC gP gR gG gn = some (r, gO', gL', gT', gB', gC', gP', gR', gG', gn') → SJ p l e rM_best s m (List.toArray [Value.ref g0, Value.int p1]) below meth c A (dC, dI) 7 Q (wdM cI cZ cB g0 g1 g2 g3 g4 g5 g6 g7 g8 g9 g10 g11 gS gI gK gO gL gT gB gC gP gR gG gn) [(0, .ref g0), (1, .int v1), (2, .int v2), (3, .int v3), (4, .int v4), (5, .int v5), (6, .int v6)] 35 []) (v1 v3 v4 v5 v6 t0 t1 : Int32) (gO gL gT gB gC gP gR gG : Nat → Int32) (gn : Int32), fM_best_b59 K35 v1 v3 v4 v5 v6 t0 t1 gS gO gL gT gB gC gP gR gG gn = some (r, gO', gL', gT', gB', gC', gP', gR', gG', gn') → SJ p l e rM_best s m (List.toArray [Value.ref g0, Value.int p1]) below meth c A (dC, dI) 7 Q (wdM cI cZ cB g0 g1 g2 g3 g4 g5 g6 g7 g8 g9 g10 g11 gS gI gK gO gL gT gB gC gP gR gG gn) [(0, .ref g0), (1, .int v1), (3, .int v3), (4, .int v4), (5, .int v5), (6, .int v6)] 59 [.int t1, .int t0] := by
    intro K35 hK35 v1 v3 v4 v5 v6 t0 t1 gO gL gT gB gC gP gR gG gn hf
    unfold fM_best_b59 at hf
    refine sj_iadd C dM_best_59 ?_
    refine sj_istore_n (lv' := [(2, .int (t0 + t1)), (0, .ref g0), (1, .int v1), (3, .int v3), (4, .int v4), (5, .int v5), (6, .int v6)]) C dM_best_60 rfl (by decide) rfl ?_
    refine sj_iload_n C dM_best_61 3 rfl rfl ?_
    refine sj_aload_n C dM_best_62 1 rfl rfl ?_
    refine sj_get C nM_in 0 rfl rfl 10 (by decide) wd_445 rfl rfl dM_best_63 ?_
    refine sj_iload C dM_best_66 6 rfl ?_
    obtain ⟨h_68, hf⟩ := in_some hf
    refine sj_iald C 10 0 rfl rfl h_68 rfl dM_best_68 ?_
    refine sj_iadd C dM_best_69 ?_
    refine sj_istore_n (lv' := [(3, .int (v3 + (gR v6.toNatClampNeg))), (2, .int (t0 + t1)), (0, .ref g0), (1, .int v1), (4, .int v4), (5, .int v5), (6, .int v6)]) C dM_best_70 rfl (by decide) rfl ?_
    refine sj_iload C dM_best_71 4 rfl ?_
    refine sj_aload_n C dM_best_73 2 rfl rfl ?_
    refine sj_get C nM_in 0 rfl rfl 11 (by decide) wd_446 rfl rfl dM_best_74 ?_
    refine sj_iload C dM_best_77 6 rfl ?_
    obtain ⟨h_79, hf⟩ := in_some hf
    refine sj_zald C 11 1 rfl rfl h_79 rfl dM_best_79 ?_
    refine sj_if_eq C 106 dM_best_80 (by decide) (fun c_80 => ?_) (fun c_80 => ?_)
    · have hf := (if_pos c_80).symm.trans hf
      exact sj_lv [2, 3, 1, 0, 5, 6] rfl (hb_106 K35 hK35 v1 (t0 + t1) (v3 + (gR v6.toNatClampNeg)) v5 v6 v4 gO gL gT gB gC gP gR gG gn hf)
    · have hf := (if_neg c_80).symm.trans hf
      refine sj_aload_n C dM_best_83 2 rfl rfl ?_
      refine sj_iload C dM_best_84 6 rfl ?_
      obtain ⟨r_86, hq_86, hf⟩ := bd1_some hf
      refine sj_callVi (w1 := (wdM cI cZ cB g0 g1 g2 g3 g4 g5 g6 g7 g8 g9 g10 g11 gS gI gK gO gL gT gB gC gP gR gG gn)) (q0 := 0) C "StepColumnsModel" (cM_isLine l dC dI cI cZ cB g0 g1 g2 g3 g4 g5 g6 g7 g8 g9 g10 g11 gS gI gK gO gL gT gB gC gP gR gG gn v6 r_86 hq_86) wd_542 wd_544 wd_24 wd_39 wd_545 hM_isLine rfl rfl ⟨Nat.le_of_ble_eq_true rfl, Nat.le_of_ble_eq_true rfl⟩ [0, 1, 2, 3, 4, 5, 6, 7, 8, 9, 10, 11] [] ⟨rfl, rfl, rfl, rfl, rfl, rfl, kv_12_0_1_2_3_4_5_6_7_8_9_10_11⟩ rfl rfl rfl rfl rfl (Nat.le_of_ble_eq_true rfl) dM_best_86 ?_
      refine sj_if_eq C 106 dM_best_89 (by decide) (fun c_89 => ?_) (fun c_89 => ?_)
      · have hf := (if_pos c_89).symm.trans hf
        exact sj_lv [2, 3, 1, 0, 5, 6] rfl (hb_106 K35 hK35 v1 (t0 + t1) (v3 + (gR v6.toNatClampNeg)) v5 v6 v4 gO gL gT gB gC gP gR gG gn hf)
      · have hf := (if_neg c_89).symm.trans hf
        refine sj_aload_n C dM_best_92 2 rfl rfl ?_
        refine sj_get C nM_in 0 rfl rfl 4 (by decide) wd_439 rfl rfl dM_best_93 ?_
        refine sj_iload C dM_best_96 6 rfl ?_
        obtain ⟨h_98, hf⟩ := in_some hf
        refine sj_iald C 5 0 rfl rfl h_98 rfl dM_best_98 ?_
        refine sj_if_le C 106 dM_best_99 (by decide) (fun c_99 => ?_) (fun c_99 => ?_)
        · have hf := (if_pos c_99).symm.trans hf
          exact sj_lv [2, 3, 1, 0, 5, 6] rfl (hb_106 K35 hK35 v1 (t0 + t1) (v3 + (gR v6.toNatClampNeg)) v5 v6 v4 gO gL gT gB gC gP gR gG gn hf)
        · have hf := (if_neg c_99).symm.trans hf
          refine sj_iconst C dM_best_102 ki_1 ?_
          refine sj_goto C 107 dM_best_103 (by decide) ?_
          exact sj_lv [2, 3, 1, 0, 5, 6] rfl (hb_107 K35 hK35 v1 (t0 + t1) (v3 + (gR v6.toNatClampNeg)) v5 v6 v4 1 gO gL gT gB gC gP gR gG gn hf)
  have hb_35 : ∀ (n : Nat) (v1 v2 v3 v4 v5 v6 : Int32) (gO gL gT gB gC gP gR gG : Nat → Int32) (gn : Int32), fM_best_b35 n v1 v2 v3 v4 v5 v6 gS gO gL gT gB gC gP gR gG gn = some (r, gO', gL', gT', gB', gC', gP', gR', gG', gn') → SJ p l e rM_best s m (List.toArray [Value.ref g0, Value.int p1]) below meth c A (dC, dI) 7 Q (wdM cI cZ cB g0 g1 g2 g3 g4 g5 g6 g7 g8 g9 g10 g11 gS gI gK gO gL gT gB gC gP gR gG gn) [(0, .ref g0), (1, .int v1), (2, .int v2), (3, .int v3), (4, .int v4), (5, .int v5), (6, .int v6)] 35 [] := by
    intro n
    induction n with
    | zero => intro v1 v2 v3 v4 v5 v6 gO gL gT gB gC gP gR gG gn hf; cases hf
    | succ n IH =>
      intro v1 v2 v3 v4 v5 v6 gO gL gT gB gC gP gR gG gn hf
      unfold fM_best_b35 at hf
      refine sj_iload C dM_best_35 6 rfl ?_
      refine sj_aload_n C dM_best_37 0 rfl rfl ?_
      refine sj_get C nM_in 0 rfl rfl 6 (by decide) wd_441 rfl rfl dM_best_38 ?_
      refine sj_icmp_ge C 157 dM_best_41 (by decide) (fun c_41 => ?_) (fun c_41 => ?_)
      · have hf := (if_pos c_41).symm.trans hf
        refine sj_aload_n C dM_best_157 0 rfl rfl ?_
        refine sj_get C nM_in 0 rfl rfl 6 (by decide) wd_441 rfl rfl dM_best_158 ?_
        refine sj_if_ne C 168 dM_best_161 (by decide) (fun c_161 => ?_) (fun c_161 => ?_)
        · have hf := (if_neg c_161).symm.trans hf
          refine sj_aload_n C dM_best_168 0 rfl rfl ?_
          refine sj_get C nM_in 0 rfl rfl 8 (by decide) wd_443 rfl rfl dM_best_169 ?_
          refine sj_aload_n C dM_best_172 0 rfl rfl ?_
          refine sj_get C nM_in 0 rfl rfl 6 (by decide) wd_441 rfl rfl dM_best_173 ?_
          refine sj_iconst C dM_best_176 ki_1 ?_
          refine sj_isub C dM_best_177 ?_
          obtain ⟨h_178, hf⟩ := in_some hf
          refine sj_iald C 8 0 rfl rfl h_178 rfl dM_best_178 ?_
          refine sj_iconst C dM_best_179 ki_1 ?_
          refine sj_iadd C dM_best_180 ?_
          exact sj_lv [1, 2, 3, 4, 5] rfl (hb_181 v1 v2 v3 v4 v5 ((gC (gn - 1).toNatClampNeg) + 1) gO gL gT gB gC gP gR gG gn hf)
        · have hf := (if_pos c_161).symm.trans hf
          refine sj_iconst C dM_best_164 ki_0 ?_
          refine sj_goto C 181 dM_best_165 (by decide) ?_
          exact sj_lv [1, 2, 3, 4, 5] rfl (hb_181 v1 v2 v3 v4 v5 0 gO gL gT gB gC gP gR gG gn hf)
      · have hf := (if_neg c_41).symm.trans hf
        refine sj_iload_n C dM_best_44 2 rfl rfl ?_
        refine sj_aload_n C dM_best_45 0 rfl rfl ?_
        refine sj_iload C dM_best_46 6 rfl ?_
        obtain ⟨r_48, hq_48, hf⟩ := bd1_some hf
        refine sj_callVi (w1 := (wdM cI cZ cB g0 g1 g2 g3 g4 g5 g6 g7 g8 g9 g10 g11 gS gI gK gO gL gT gB gC gP gR gG gn)) (q0 := 0) C "StepColumnsModel" (cM_isOut l dC dI cI cZ cB g0 g1 g2 g3 g4 g5 g6 g7 g8 g9 g10 g11 gS gI gK gO gL gT gB gC gP gR gG gn v6 r_48 hq_48) wd_562 wd_564 wd_28 wd_39 wd_565 hM_isOut rfl rfl ⟨Nat.le_of_ble_eq_true rfl, Nat.le_of_ble_eq_true rfl⟩ [0, 1, 2, 3, 4, 5, 6, 7, 8, 9, 10, 11] [] ⟨rfl, rfl, rfl, rfl, rfl, rfl, kv_12_0_1_2_3_4_5_6_7_8_9_10_11⟩ rfl rfl rfl rfl rfl (Nat.le_of_ble_eq_true rfl) dM_best_48 ?_
        refine sj_if_eq C 58 dM_best_51 (by decide) (fun c_51 => ?_) (fun c_51 => ?_)
        · have hf := (if_pos c_51).symm.trans hf
          refine sj_iconst C dM_best_58 ki_0 ?_
          exact sj_lv [0, 1, 3, 4, 5, 6] rfl (hb_59 (fM_best_b35 n) IH v1 v3 v4 v5 v6 v2 0 gO gL gT gB gC gP gR gG gn hf)
        · have hf := (if_neg c_51).symm.trans hf
          refine sj_iconst C dM_best_54 ki_1 ?_
          refine sj_goto C 59 dM_best_55 (by decide) ?_
          exact sj_lv [0, 1, 3, 4, 5, 6] rfl (hb_59 (fM_best_b35 n) IH v1 v3 v4 v5 v6 v2 1 gO gL gT gB gC gP gR gG gn hf)
  unfold fM_best at hf
  change SJ p l e rM_best s m (List.toArray [Value.ref g0, Value.int p1]) below meth c A (dC, dI) 7 Q (wdM cI cZ cB g0 g1 g2 g3 g4 g5 g6 g7 g8 g9 g10 g11 gS gI gK gO gL gT gB gC gP gR gG gn) [(0, .ref g0), (1, .int p1)] 0 []
  refine sj_iload_n C dM_best_0 1 rfl rfl ?_
  refine sj_iconst C dM_best_1 ki_0 ?_
  refine sj_iconst C dM_best_2 ki_4 ?_
  obtain ⟨r_3, hq_3, hf⟩ := bd1_some hf
  refine sj_callSi (w1 := (wdM cI cZ cB g0 g1 g2 g3 g4 g5 g6 g7 g8 g9 g10 g11 gS gI gK gO gL gT gB gC gP gR gG gn)) C "StepColumnsModel" (cM_in l dC dI cI cZ cB   p1 0 4 r_3 hq_3) wd_477 wd_478 wd_39 wd_479 hM_in rfl rfl ⟨Nat.le_of_ble_eq_true rfl, Nat.le_of_ble_eq_true rfl⟩ [] [0, 1, 2, 3, 4, 5, 6, 7, 8, 9, 10, 11] ⟨rfl, rfl, rfl, rfl, rfl, rfl, kv_12_⟩ rfl rfl (Nat.le_of_ble_eq_true rfl) dM_best_3 ?_
  refine sj_if_ne C 12 dM_best_6 (by decide) (fun c_6 => ?_) (fun c_6 => ?_)
  · have hf := (if_neg c_6).symm.trans hf
    refine sj_aload_n C dM_best_12 0 rfl rfl ?_
    obtain ⟨r_13, gO_13, gL_13, gT_13, gB_13, gC_13, gP_13, gR_13, gG_13, gn_13, hq_13, hf⟩ := bd10_some hf
    refine sj_callVi (w1 := (wdM cI cZ cB g0 g1 g2 g3 g4 g5 g6 g7 g8 g9 g10 g11 gS gI gK gO_13 gL_13 gT_13 gB_13 gC_13 gP_13 gR_13 gG_13 gn_13)) (q0 := 0) C "StepColumnsModel" (cM_layBest l dC dI cI cZ cB g0 g1 g2 g3 g4 g5 g6 g7 g8 g9 g10 g11 gS gI gK gO gL gT gB gC gP gR gG gn  r_13 gO_13 gL_13 gT_13 gB_13 gC_13 gP_13 gR_13 gG_13 gn_13 hq_13) wd_519 wd_521 wd_19 wd_39 wd_522 hM_layBest rfl rfl ⟨Nat.le_of_ble_eq_true rfl, Nat.le_of_ble_eq_true rfl⟩ [0, 1, 2, 3, 4, 5, 6, 7, 8, 9, 10, 11] [] ⟨rfl, rfl, rfl, rfl, rfl, rfl, kv_12_0_1_2_3_4_5_6_7_8_9_10_11⟩ rfl rfl rfl rfl rfl (Nat.le_of_ble_eq_true rfl) dM_best_13 ?_
    refine sj_if_ne C 22 dM_best_16 (by decide) (fun c_16 => ?_) (fun c_16 => ?_)
    · have hf := (if_neg c_16).symm.trans hf
      refine sj_iconst C dM_best_22 ki_0 ?_
      refine sj_istore_n (lv' := [(2, .int 0), (0, .ref g0), (1, .int p1)]) C dM_best_23 rfl (by decide) rfl ?_
      refine sj_iconst C dM_best_24 ki_0 ?_
      refine sj_istore_n (lv' := [(3, .int 0), (2, .int 0), (0, .ref g0), (1, .int p1)]) C dM_best_25 rfl (by decide) rfl ?_
      refine sj_iconst C dM_best_26 ki_0 ?_
      refine sj_istore (lv' := [(4, .int 0), (3, .int 0), (2, .int 0), (0, .ref g0), (1, .int p1)]) C dM_best_27 (by decide) rfl ?_
      refine sj_iconst C dM_best_29 ki_0 ?_
      refine sj_istore (lv' := [(5, .int 0), (4, .int 0), (3, .int 0), (2, .int 0), (0, .ref g0), (1, .int p1)]) C dM_best_30 (by decide) rfl ?_
      refine sj_iconst C dM_best_32 ki_0 ?_
      refine sj_istore (lv' := [(6, .int 0), (5, .int 0), (4, .int 0), (3, .int 0), (2, .int 0), (0, .ref g0), (1, .int p1)]) C dM_best_33 (by decide) rfl ?_
      exact sj_lv [5, 6, 4, 3, 2, 1, 0] rfl (hb_35 fu p1 0 0 0 0 0 gO_13 gL_13 gT_13 gB_13 gC_13 gP_13 gR_13 gG_13 gn_13 hf)
    · have hf := (if_pos c_16).symm.trans hf
      refine sj_bipush C dM_best_19 kb_m6 ?_
      cases hf
      exact hQ 21 _ dM_best_21
  · have hf := (if_pos c_6).symm.trans hf
    refine sj_bipush C dM_best_9 kb_m2 ?_
    cases hf
    exact hQ 11 _ dM_best_11
abbrev rM_place : Room := { frames := 5, cells := 0, slots := 0, locals := 121 }
set_option maxHeartbeats 4000000 in
set_option maxRecDepth 100000 in
theorem cM_place (l : Launch) (dC : Nat → ClassId) (dI : Nat → Nat → Nat) (cI cZ cB : ClassId) (g0 g1 g2 g3 g4 g5 g6 g7 g8 g9 g10 g11 : Nat) (gS gI gK gO gL gT gB gC gP gR gG : Nat → Int32) (gn : Int32) (p1 p2 p3 : Int32) (r : Int32) (gO' : Nat → Int32) (gL' : Nat → Int32) (gT' : Nat → Int32) (gB' : Nat → Int32) (gC' : Nat → Int32) (gP' : Nat → Int32) (gR' : Nat → Int32) (gG' : Nat → Int32) (gn' : Int32) (hf : fM_place p1 p2 p3 gS gO gL gT gB gC gP gR gG gn = some (r, gO', gL', gT', gB', gC', gP', gR', gG', gn')) : MI l yM_place wM_place rM_place (dC, dI) (tyl cI cZ cB) [Value.ref g0, Value.int p1, Value.int p2, Value.int p3] (wdM cI cZ cB g0 g1 g2 g3 g4 g5 g6 g7 g8 g9 g10 g11 gS gI gK gO gL gT gB gC gP gR gG gn) (wdM cI cZ cB g0 g1 g2 g3 g4 g5 g6 g7 g8 g9 g10 g11 gS gI gK gO' gL' gT' gB' gC' gP' gR' gG' gn') r := by
  refine MI_of "StepColumnsModel" rfl (by decide) (Nat.le_of_ble_eq_true rfl) ?_
  intro p e s m below meth c A Q C hQ
  have hb_126 : ∀ (K35 : Int32 → Int32 → Int32 → Int32 → (Nat → Int32) → (Nat → Int32) → (Nat → Int32) → (Nat → Int32) → (Nat → Int32) → (Nat → Int32) → (Nat → Int32) → (Nat → Int32) → (Nat → Int32) → Int32 → Option (Int32 × (Nat → Int32) × (Nat → Int32) × (Nat → Int32) × (Nat → Int32) × (Nat → Int32) × (Nat → Int32) × (Nat → Int32) × (Nat → Int32) × Int32)) (hK35 : ∀ (v1 v2 v3 v4 : Int32) (gO gL gT gB gC gP gR gG : Nat → Int32) (gn : Int32), K35 v1 v2 v3 v4 gS gO gL gT gB gC gP gR gG gn = some (r, gO', gL', gT', gB', gC', gP', gR', gG', gn') → SJ p l e rM_place s m (List.toArray [Value.ref g0, Value.int p1, Value.int p2, Value.int p3]) below meth c A (dC, dI) 5 Q (wdM cI cZ cB g0 g1 g2 g3 g4 g5 g6 g7 g8 g9 g10 g11 gS gI gK gO gL gT gB gC gP gR gG gn) [(0, .ref g0), (1, .int v1), (2, .int v2), (3, .int v3), (4, .int v4)] 35 []) (v1 v2 v3 v4 : Int32) (gO gL gT gB gC gP gR gG : Nat → Int32) (gn : Int32), fM_place_b126 K35 v1 v2 v3 v4 gS gO gL gT gB gC gP gR gG gn = some (r, gO', gL', gT', gB', gC', gP', gR', gG', gn') → SJ p l e rM_place s m (List.toArray [Value.ref g0, Value.int p1, Value.int p2, Value.int p3]) below meth c A (dC, dI) 5 Q (wdM cI cZ cB g0 g1 g2 g3 g4 g5 g6 g7 g8 g9 g10 g11 gS gI gK gO gL gT gB gC gP gR gG gn) [(0, .ref g0), (1, .int v1), (2, .int v2), (3, .int v3), (4, .int v4)] 126 [] := by
    intro K35 hK35 v1 v2 v3 v4 gO gL gT gB gC gP gR gG gn hf
    unfold fM_place_b126 at hf
    refine sj_iinc (v := (v4 + 1)) (lv' := [(4, .int (v4 + 1)), (0, .ref g0), (1, .int v1), (2, .int v2), (3, .int v3)]) C dM_place_126 4 rfl (by rw [ki_1]) (by decide) rfl ?_
    refine sj_goto C 35 dM_place_129 (by decide) ?_
    exact sj_lv [1, 2, 3, 4, 0] rfl (hK35 v1 v2 v3 (v4 + 1) gO gL gT gB gC gP gR gG gn hf)
  have hb_125 : ∀ (t0 : Int32) (gO gL gT gB gC gP gR gG : Nat → Int32) (gn : Int32), fM_place_b125 t0 gS gO gL gT gB gC gP gR gG gn = some (r, gO', gL', gT', gB', gC', gP', gR', gG', gn') → SJ p l e rM_place s m (List.toArray [Value.ref g0, Value.int p1, Value.int p2, Value.int p3]) below meth c A (dC, dI) 5 Q (wdM cI cZ cB g0 g1 g2 g3 g4 g5 g6 g7 g8 g9 g10 g11 gS gI gK gO gL gT gB gC gP gR gG gn) [] 125 [.int t0] := by
    intro t0 gO gL gT gB gC gP gR gG gn hf
    unfold fM_place_b125 at hf
    cases hf
    exact hQ 125 _ dM_place_125
  have hb_35 : ∀ (n : Nat) (v1 v2 v3 v4 : Int32) (gO gL gT gB gC gP gR gG : Nat → Int32) (gn : Int32), fM_place_b35 n v1 v2 v3 v4 gS gO gL gT gB gC gP gR gG gn = some (r, gO', gL', gT', gB', gC', gP', gR', gG', gn') → SJ p l e rM_place s m (List.toArray [Value.ref g0, Value.int p1, Value.int p2, Value.int p3]) below meth c A (dC, dI) 5 Q (wdM cI cZ cB g0 g1 g2 g3 g4 g5 g6 g7 g8 g9 g10 g11 gS gI gK gO gL gT gB gC gP gR gG gn) [(0, .ref g0), (1, .int v1), (2, .int v2), (3, .int v3), (4, .int v4)] 35 [] := by
    intro n
    induction n with
    | zero => intro v1 v2 v3 v4 gO gL gT gB gC gP gR gG gn hf; cases hf
    | succ n IH =>
      intro v1 v2 v3 v4 gO gL gT gB gC gP gR gG gn hf
      unfold fM_place_b35 at hf
      refine sj_iload C dM_place_35 4 rfl ?_
      refine sj_aload_n C dM_place_37 0 rfl rfl ?_
      refine sj_get C nM_in 0 rfl rfl 6 (by decide) wd_441 rfl rfl dM_place_38 ?_
      refine sj_icmp_ge C 132 dM_place_41 (by decide) (fun c_41 => ?_) (fun c_41 => ?_)
      · have hf := (if_pos c_41).symm.trans hf
        refine sj_bipush C dM_place_132 kb_m6 ?_
        cases hf
        exact hQ 134 _ dM_place_134
      · have hf := (if_neg c_41).symm.trans hf
        refine sj_aload_n C dM_place_44 0 rfl rfl ?_
        refine sj_get C nM_in 0 rfl rfl 3 (by decide) wd_438 rfl rfl dM_place_45 ?_
        refine sj_iload C dM_place_48 4 rfl ?_
        obtain ⟨h_50, hf⟩ := in_some hf
        refine sj_iald C 4 0 rfl rfl h_50 rfl dM_place_50 ?_
        refine sj_iload_n C dM_place_51 1 rfl rfl ?_
        refine sj_icmp_ne C 126 dM_place_52 (by decide) (fun c_52 => ?_) (fun c_52 => ?_)
        · have hf := (if_neg c_52).symm.trans hf
          exact sj_lv [0, 1, 2, 3, 4] rfl (hb_126 (fM_place_b35 n) IH v1 v2 v3 v4 gO gL gT gB gC gP gR gG gn hf)
        · have hf := (if_pos c_52).symm.trans hf
          refine sj_aload_n C dM_place_55 0 rfl rfl ?_
          refine sj_get C nM_in 0 rfl rfl 4 (by decide) wd_439 rfl rfl dM_place_56 ?_
          refine sj_iload C dM_place_59 4 rfl ?_
          obtain ⟨h_61, hf⟩ := in_some hf
          refine sj_iald C 5 0 rfl rfl h_61 rfl dM_place_61 ?_
          refine sj_iload_n C dM_place_62 2 rfl rfl ?_
          refine sj_icmp_ne C 126 dM_place_63 (by decide) (fun c_63 => ?_) (fun c_63 => ?_)
          · have hf := (if_neg c_63).symm.trans hf
            exact sj_lv [0, 1, 2, 3, 4] rfl (hb_126 (fM_place_b35 n) IH v1 v2 v3 v4 gO gL gT gB gC gP gR gG gn hf)
          · have hf := (if_pos c_63).symm.trans hf
            refine sj_iload_n C dM_place_66 3 rfl rfl ?_
            refine sj_if_ne C 80 dM_place_67 (by decide) (fun c_67 => ?_) (fun c_67 => ?_)
            · have hf := (if_neg c_67).symm.trans hf
              refine sj_iload_n C dM_place_80 3 rfl rfl ?_
              refine sj_iconst C dM_place_81 ki_1 ?_
              refine sj_icmp_ne C 95 dM_place_82 (by decide) (fun c_82 => ?_) (fun c_82 => ?_)
              · have hf := (if_neg c_82).symm.trans hf
                refine sj_iload_n C dM_place_95 3 rfl rfl ?_
                refine sj_iconst C dM_place_96 ki_2 ?_
                refine sj_icmp_ne C 110 dM_place_97 (by decide) (fun c_97 => ?_) (fun c_97 => ?_)
                · have hf := (if_neg c_97).symm.trans hf
                  refine sj_aload_n C dM_place_110 0 rfl rfl ?_
                  refine sj_get C nM_in 0 rfl rfl 9 (by decide) wd_444 rfl rfl dM_place_111 ?_
                  refine sj_iload C dM_place_114 4 rfl ?_
                  obtain ⟨h_116, hf⟩ := in_some hf
                  refine sj_iald C 9 0 rfl rfl h_116 rfl dM_place_116 ?_
                  refine sj_aload_n C dM_place_117 0 rfl rfl ?_
                  refine sj_get C nM_in 0 rfl rfl 0 (by decide) wd_435 rfl rfl dM_place_118 ?_
                  refine sj_bipush C dM_place_121 kb_48 ?_
                  refine sj_iald C 1 0 rfl rfl kn_48_51 kc_48 dM_place_123 ?_
                  obtain ⟨h_124, hf⟩ := in_some hf
                  refine sj_irem C dM_place_124 h_124 ?_
                  exact sj_lv [] rfl (hb_125 ((gP v4.toNatClampNeg) - (gP v4.toNatClampNeg) / (gS 48) * (gS 48)) gO gL gT gB gC gP gR gG gn hf)
                · have hf := (if_pos c_97).symm.trans hf
                  refine sj_aload_n C dM_place_100 0 rfl rfl ?_
                  refine sj_get C nM_in 0 rfl rfl 10 (by decide) wd_445 rfl rfl dM_place_101 ?_
                  refine sj_iload C dM_place_104 4 rfl ?_
                  obtain ⟨h_106, hf⟩ := in_some hf
                  refine sj_iald C 10 0 rfl rfl h_106 rfl dM_place_106 ?_
                  refine sj_goto C 125 dM_place_107 (by decide) ?_
                  exact sj_lv [] rfl (hb_125 (gR v4.toNatClampNeg) gO gL gT gB gC gP gR gG gn hf)
              · have hf := (if_pos c_82).symm.trans hf
                refine sj_aload_n C dM_place_85 0 rfl rfl ?_
                refine sj_get C nM_in 0 rfl rfl 9 (by decide) wd_444 rfl rfl dM_place_86 ?_
                refine sj_iload C dM_place_89 4 rfl ?_
                obtain ⟨h_91, hf⟩ := in_some hf
                refine sj_iald C 9 0 rfl rfl h_91 rfl dM_place_91 ?_
                refine sj_goto C 125 dM_place_92 (by decide) ?_
                exact sj_lv [] rfl (hb_125 (gP v4.toNatClampNeg) gO gL gT gB gC gP gR gG gn hf)
            · have hf := (if_pos c_67).symm.trans hf
              refine sj_aload_n C dM_place_70 0 rfl rfl ?_
              refine sj_get C nM_in 0 rfl rfl 8 (by decide) wd_443 rfl rfl dM_place_71 ?_
              refine sj_iload C dM_place_74 4 rfl ?_
              obtain ⟨h_76, hf⟩ := in_some hf
              refine sj_iald C 8 0 rfl rfl h_76 rfl dM_place_76 ?_
              refine sj_goto C 125 dM_place_77 (by decide) ?_
              exact sj_lv [] rfl (hb_125 (gC v4.toNatClampNeg) gO gL gT gB gC gP gR gG gn hf)
  unfold fM_place at hf
  change SJ p l e rM_place s m (List.toArray [Value.ref g0, Value.int p1, Value.int p2, Value.int p3]) below meth c A (dC, dI) 5 Q (wdM cI cZ cB g0 g1 g2 g3 g4 g5 g6 g7 g8 g9 g10 g11 gS gI gK gO gL gT gB gC gP gR gG gn) [(0, .ref g0), (1, .int p1), (2, .int p2), (3, .int p3)] 0 []
  refine sj_aload_n C dM_place_0 0 rfl rfl ?_
  refine sj_iload_n C dM_place_1 1 rfl rfl ?_
  obtain ⟨r_2, hq_2, hf⟩ := bd1_some hf
  refine sj_callVi (w1 := (wdM cI cZ cB g0 g1 g2 g3 g4 g5 g6 g7 g8 g9 g10 g11 gS gI gK gO gL gT gB gC gP gR gG gn)) (q0 := 0) C "StepColumnsModel" (cM_isItem l dC dI cI cZ cB g0 g1 g2 g3 g4 g5 g6 g7 g8 g9 g10 g11 gS gI gK gO gL gT gB gC gP gR gG gn p1 r_2 hq_2) wd_487 wd_489 wd_16 wd_39 wd_490 hM_isItem rfl rfl ⟨Nat.le_of_ble_eq_true rfl, Nat.le_of_ble_eq_true rfl⟩ [0, 1, 2, 3, 4, 5, 6, 7, 8, 9, 10, 11] [] ⟨rfl, rfl, rfl, rfl, rfl, rfl, kv_12_0_1_2_3_4_5_6_7_8_9_10_11⟩ rfl rfl rfl rfl rfl (Nat.le_of_ble_eq_true rfl) dM_place_2 ?_
  refine sj_if_ne C 10 dM_place_5 (by decide) (fun c_5 => ?_) (fun c_5 => ?_)
  · have hf := (if_neg c_5).symm.trans hf
    refine sj_iload_n C dM_place_10 3 rfl rfl ?_
    refine sj_iconst C dM_place_11 ki_0 ?_
    refine sj_iconst C dM_place_12 ki_3 ?_
    obtain ⟨r_13, hq_13, hf⟩ := bd1_some hf
    refine sj_callSi (w1 := (wdM cI cZ cB g0 g1 g2 g3 g4 g5 g6 g7 g8 g9 g10 g11 gS gI gK gO gL gT gB gC gP gR gG gn)) C "StepColumnsModel" (cM_in l dC dI cI cZ cB   p3 0 3 r_13 hq_13) wd_477 wd_478 wd_39 wd_479 hM_in rfl rfl ⟨Nat.le_of_ble_eq_true rfl, Nat.le_of_ble_eq_true rfl⟩ [] [0, 1, 2, 3, 4, 5, 6, 7, 8, 9, 10, 11] ⟨rfl, rfl, rfl, rfl, rfl, rfl, kv_12_⟩ rfl rfl (Nat.le_of_ble_eq_true rfl) dM_place_13 ?_
    refine sj_if_ne C 22 dM_place_16 (by decide) (fun c_16 => ?_) (fun c_16 => ?_)
    · have hf := (if_neg c_16).symm.trans hf
      refine sj_aload_n C dM_place_22 0 rfl rfl ?_
      obtain ⟨r_23, gO_23, gL_23, gT_23, gB_23, gC_23, gP_23, gR_23, gG_23, gn_23, hq_23, hf⟩ := bd10_some hf
      refine sj_callVi (w1 := (wdM cI cZ cB g0 g1 g2 g3 g4 g5 g6 g7 g8 g9 g10 g11 gS gI gK gO_23 gL_23 gT_23 gB_23 gC_23 gP_23 gR_23 gG_23 gn_23)) (q0 := 0) C "StepColumnsModel" (cM_layBest l dC dI cI cZ cB g0 g1 g2 g3 g4 g5 g6 g7 g8 g9 g10 g11 gS gI gK gO gL gT gB gC gP gR gG gn  r_23 gO_23 gL_23 gT_23 gB_23 gC_23 gP_23 gR_23 gG_23 gn_23 hq_23) wd_519 wd_521 wd_19 wd_39 wd_522 hM_layBest rfl rfl ⟨Nat.le_of_ble_eq_true rfl, Nat.le_of_ble_eq_true rfl⟩ [0, 1, 2, 3, 4, 5, 6, 7, 8, 9, 10, 11] [] ⟨rfl, rfl, rfl, rfl, rfl, rfl, kv_12_0_1_2_3_4_5_6_7_8_9_10_11⟩ rfl rfl rfl rfl rfl (Nat.le_of_ble_eq_true rfl) dM_place_23 ?_
      refine sj_if_ne C 32 dM_place_26 (by decide) (fun c_26 => ?_) (fun c_26 => ?_)
      · have hf := (if_neg c_26).symm.trans hf
        refine sj_iconst C dM_place_32 ki_0 ?_
        refine sj_istore (lv' := [(4, .int 0), (0, .ref g0), (1, .int p1), (2, .int p2), (3, .int p3)]) C dM_place_33 (by decide) rfl ?_
        exact sj_lv [1, 2, 3, 4, 0] rfl (hb_35 fu p1 p2 p3 0 gO_23 gL_23 gT_23 gB_23 gC_23 gP_23 gR_23 gG_23 gn_23 hf)
      · have hf := (if_pos c_26).symm.trans hf
        refine sj_bipush C dM_place_29 kb_m6 ?_
        cases hf
        exact hQ 31 _ dM_place_31
    · have hf := (if_pos c_16).symm.trans hf
      refine sj_bipush C dM_place_19 kb_m2 ?_
      cases hf
      exact hQ 21 _ dM_place_21
  · have hf := (if_pos c_5).symm.trans hf
    refine sj_iconst C dM_place_8 ki_m1 ?_
    cases hf
    exact hQ 9 _ dM_place_9
abbrev rM_column : Room := { frames := 5, cells := 0, slots := 0, locals := 121 }
set_option maxHeartbeats 4000000 in
set_option maxRecDepth 100000 in
theorem cM_column (l : Launch) (dC : Nat → ClassId) (dI : Nat → Nat → Nat) (cI cZ cB : ClassId) (g0 g1 g2 g3 g4 g5 g6 g7 g8 g9 g10 g11 : Nat) (gS gI gK gO gL gT gB gC gP gR gG : Nat → Int32) (gn : Int32) (p1 p2 : Int32) (r : Int32) (gO' : Nat → Int32) (gL' : Nat → Int32) (gT' : Nat → Int32) (gB' : Nat → Int32) (gC' : Nat → Int32) (gP' : Nat → Int32) (gR' : Nat → Int32) (gG' : Nat → Int32) (gn' : Int32) (hf : fM_column p1 p2 gS gO gL gT gB gC gP gR gG gn = some (r, gO', gL', gT', gB', gC', gP', gR', gG', gn')) : MI l yM_column wM_column rM_column (dC, dI) (tyl cI cZ cB) [Value.ref g0, Value.int p1, Value.int p2] (wdM cI cZ cB g0 g1 g2 g3 g4 g5 g6 g7 g8 g9 g10 g11 gS gI gK gO gL gT gB gC gP gR gG gn) (wdM cI cZ cB g0 g1 g2 g3 g4 g5 g6 g7 g8 g9 g10 g11 gS gI gK gO' gL' gT' gB' gC' gP' gR' gG' gn') r := by
  refine MI_of "StepColumnsModel" rfl (by decide) (Nat.le_of_ble_eq_true rfl) ?_
  intro p e s m below meth c A Q C hQ
  have hb_183 : ∀ (t0 : Int32) (gO gL gT gB gC gP gR gG : Nat → Int32) (gn : Int32), fM_column_b183 t0 gS gO gL gT gB gC gP gR gG gn = some (r, gO', gL', gT', gB', gC', gP', gR', gG', gn') → SJ p l e rM_column s m (List.toArray [Value.ref g0, Value.int p1, Value.int p2]) below meth c A (dC, dI) 9 Q (wdM cI cZ cB g0 g1 g2 g3 g4 g5 g6 g7 g8 g9 g10 g11 gS gI gK gO gL gT gB gC gP gR gG gn) [] 183 [.int t0] := by
    intro t0 gO gL gT gB gC gP gR gG gn hf
    unfold fM_column_b183 at hf
    cases hf
    exact hQ 183 _ dM_column_183
  have hb_128 : ∀ (K41 : Int32 → Int32 → Int32 → Int32 → Int32 → Int32 → Int32 → Int32 → (Nat → Int32) → (Nat → Int32) → (Nat → Int32) → (Nat → Int32) → (Nat → Int32) → (Nat → Int32) → (Nat → Int32) → (Nat → Int32) → (Nat → Int32) → Int32 → Option (Int32 × (Nat → Int32) × (Nat → Int32) × (Nat → Int32) × (Nat → Int32) × (Nat → Int32) × (Nat → Int32) × (Nat → Int32) × (Nat → Int32) × Int32)) (hK41 : ∀ (v1 v2 v3 v4 v5 v6 v7 v8 : Int32) (gO gL gT gB gC gP gR gG : Nat → Int32) (gn : Int32), K41 v1 v2 v3 v4 v5 v6 v7 v8 gS gO gL gT gB gC gP gR gG gn = some (r, gO', gL', gT', gB', gC', gP', gR', gG', gn') → SJ p l e rM_column s m (List.toArray [Value.ref g0, Value.int p1, Value.int p2]) below meth c A (dC, dI) 9 Q (wdM cI cZ cB g0 g1 g2 g3 g4 g5 g6 g7 g8 g9 g10 g11 gS gI gK gO gL gT gB gC gP gR gG gn) [(0, .ref g0), (1, .int v1), (2, .int v2), (3, .int v3), (4, .int v4), (5, .int v5), (6, .int v6), (7, .int v7), (8, .int v8)] 41 []) (v1 v2 v3 v4 v5 v6 v7 v8 : Int32) (gO gL gT gB gC gP gR gG : Nat → Int32) (gn : Int32), fM_column_b128 K41 v1 v2 v3 v4 v5 v6 v7 v8 gS gO gL gT gB gC gP gR gG gn = some (r, gO', gL', gT', gB', gC', gP', gR', gG', gn') → SJ p l e rM_column s m (List.toArray [Value.ref g0, Value.int p1, Value.int p2]) below meth c A (dC, dI) 9 Q (wdM cI cZ cB g0 g1 g2 g3 g4 g5 g6 g7 g8 g9 g10 g11 gS gI gK gO gL gT gB gC gP gR gG gn) [(0, .ref g0), (1, .int v1), (2, .int v2), (3, .int v3), (4, .int v4), (5, .int v5), (6, .int v6), (7, .int v7), (8, .int v8)] 128 [] := by
    intro K41 hK41 v1 v2 v3 v4 v5 v6 v7 v8 gO gL gT gB gC gP gR gG gn hf
    unfold fM_column_b128 at hf
    refine sj_iinc (v := (v8 + 1)) (lv' := [(8, .int (v8 + 1)), (0, .ref g0), (1, .int v1), (2, .int v2), (3, .int v3), (4, .int v4), (5, .int v5), (6, .int v6), (7, .int v7)]) C dM_column_128 8 rfl (by rw [ki_1]) (by decide) rfl ?_
    refine sj_goto C 41 dM_column_131 (by decide) ?_
    exact sj_lv [1, 2, 3, 4, 5, 6, 7, 8, 0] rfl (hK41 v1 v2 v3 v4 v5 v6 v7 (v8 + 1) gO gL gT gB gC gP gR gG gn hf)
  have hb_117 : ∀ (K41 : Int32 → Int32 → Int32 → Int32 → Int32 → Int32 → Int32 → Int32 → (Nat → Int32) → (Nat → Int32) → (Nat → Int32) → (Nat → Int32) → (Nat → Int32) → (Nat → Int32) → (Nat → Int32) → (Nat → Int32) → (Nat → Int32) → Int32 → Option (Int32 × (Nat → Int32) × (Nat → Int32) × (Nat → Int32) × (Nat → Int32) × (Nat → Int32) × (Nat → Int32) × (Nat → Int32) × (Nat → Int32) × Int32)) (hK41 : ∀ (v1 v2 v3 v4 v5 v6 v7 v8 : Int32) (gO gL gT gB gC gP gR gG : Nat → Int32) (gn : Int32), K41 v1 v2 v3 v4 v5 v6 v7 v8 gS gO gL gT gB gC gP gR gG gn = some (r, gO', gL', gT', gB', gC', gP', gR', gG', gn') → SJ p l e rM_column s m (List.toArray [Value.ref g0, Value.int p1, Value.int p2]) below meth c A (dC, dI) 9 Q (wdM cI cZ cB g0 g1 g2 g3 g4 g5 g6 g7 g8 g9 g10 g11 gS gI gK gO gL gT gB gC gP gR gG gn) [(0, .ref g0), (1, .int v1), (2, .int v2), (3, .int v3), (4, .int v4), (5, .int v5), (6, .int v6), (7, .int v7), (8, .int v8)] 41 []) (v1 v2 v3 v4 v5 v8 t0 : Int32) (gO gL gT gB gC gP gR gG : Nat → Int32) (gn : Int32), fM_column_b117 K41 v1 v2 v3 v4 v5 v8 t0 gS gO gL gT gB gC gP gR gG gn = some (r, gO', gL', gT', gB', gC', gP', gR', gG', gn') → SJ p l e rM_column s m (List.toArray [Value.ref g0, Value.int p1, Value.int p2]) below meth c A (dC, dI) 9 Q (wdM cI cZ cB g0 g1 g2 g3 g4 g5 g6 g7 g8 g9 g10 g11 gS gI gK gO gL gT gB gC gP gR gG gn) [(0, .ref g0), (1, .int v1), (2, .int v2), (3, .int v3), (4, .int v4), (5, .int v5), (8, .int v8)] 117 [.int t0] := by
    intro K41 hK41 v1 v2 v3 v4 v5 v8 t0 gO gL gT gB gC gP gR gG gn hf
    unfold fM_column_b117 at hf
    refine sj_istore (lv' := [(6, .int t0), (0, .ref g0), (1, .int v1), (2, .int v2), (3, .int v3), (4, .int v4), (5, .int v5), (8, .int v8)]) C dM_column_117 (by decide) rfl ?_
    refine sj_aload_n C dM_column_119 1 rfl rfl ?_
    refine sj_get C nM_in 0 rfl rfl 3 (by decide) wd_438 rfl rfl dM_column_120 ?_
    refine sj_iload C dM_column_123 7 rfl ?_
    obtain ⟨h_125, hf⟩ := in_some hf
    refine sj_iald C 4 0 rfl rfl h_125 rfl dM_column_125 ?_
    refine sj_istore (lv' := [(7, .int (gO v8.toNatClampNeg)), (6, .int t0), (0, .ref g0), (1, .int v1), (2, .int v2), (3, .int v3), (4, .int v4), (5, .int v5), (8, .int v8)]) C dM_column_126 (by decide) rfl ?_
    exact sj_lv [2, 3, 4, 5, 6, 7, 1, 0, 8] rfl (hb_128 K41 hK41 v1 v2 v3 v4 v5 t0 (gO v8.toNatClampNeg) v8 gO gL gT gB gC gP gR gG gn hf)
  have hb_97 : ∀ (K41 : Int32 → Int32 → Int32 → Int32 → Int32 → Int32 → Int32 → Int32 → (Nat → Int32) → (Nat → Int32) → (Nat → Int32) → (Nat → Int32) → (Nat → Int32) → (Nat → Int32) → (Nat → Int32) → (Nat → Int32) → (Nat → Int32) → Int32 → Option (Int32 × (Nat → Int32) × (Nat → Int32) × (Nat → Int32) × (Nat → Int32) × (Nat → Int32) × (Nat → Int32) × (Nat → Int32) × (Nat → Int32) × Int32)) (hK41 : ∀ (v1 v2 v3 v4 v5 v6 v7 v8 : Int32) (gO gL gT gB gC gP gR gG : Nat → Int32) (gn : Int32), K41 v1 v2 v3 v4 v5 v6 v7 v8 gS gO gL gT gB gC gP gR gG gn = some (r, gO', gL', gT', gB', gC', gP', gR', gG', gn') → SJ p l e rM_column s m (List.toArray [Value.ref g0, Value.int p1, Value.int p2]) below meth c A (dC, dI) 9 Q (wdM cI cZ cB g0 g1 g2 g3 g4 g5 g6 g7 g8 g9 g10 g11 gS gI gK gO gL gT gB gC gP gR gG gn) [(0, .ref g0), (1, .int v1), (2, .int v2), (3, .int v3), (4, .int v4), (5, .int v5), (6, .int v6), (7, .int v7), (8, .int v8)] 41 []) (v1 v2 v3 v4 v6 v8 t0 t1 : Int32) (gO gL gT gB gC gP gR gG : Nat → Int32) (gn : Int32), fM_column_b97 K41 v1 v2 v3 v4 v6 v8 t0 t1 gS gO gL gT gB gC gP gR gG gn = some (r, gO', gL', gT', gB', gC', gP', gR', gG', gn') → SJ p l e rM_column s m (List.toArray [Value.ref g0, Value.int p1, Value.int p2]) below meth c A (dC, dI) 9 Q (wdM cI cZ cB g0 g1 g2 g3 g4 g5 g6 g7 g8 g9 g10 g11 gS gI gK gO gL gT gB gC gP gR gG gn) [(0, .ref g0), (1, .int v1), (2, .int v2), (3, .int v3), (4, .int v4), (6, .int v6), (8, .int v8)] 97 [.int t1, .int t0] := by
    intro K41 hK41 v1 v2 v3 v4 v6 v8 t0 t1 gO gL gT gB gC gP gR gG gn hf
    unfold fM_column_b97 at hf
    refine sj_iadd C dM_column_97 ?_
    refine sj_istore (lv' := [(5, .int (t0 + t1)), (0, .ref g0), (1, .int v1), (2, .int v2), (3, .int v3), (4, .int v4), (6, .int v6), (8, .int v8)]) C dM_column_98 (by decide) rfl ?_
    refine sj_iload C dM_column_100 6 rfl ?_
    refine sj_if_ge C 115 dM_column_102 (by decide) (fun c_102 => ?_) (fun c_102 => ?_)
    · have hf := (if_pos c_102).symm.trans hf
      refine sj_iload C dM_column_115 6 rfl ?_
      exact sj_lv [1, 2, 3, 4, 5, 0, 7] rfl (hb_117 K41 hK41 v1 v2 v3 v4 (t0 + t1) v8 v6 gO gL gT gB gC gP gR gG gn hf)
    · have hf := (if_neg c_102).symm.trans hf
      refine sj_aload_n C dM_column_105 1 rfl rfl ?_
      refine sj_get C nM_in 0 rfl rfl 3 (by decide) wd_438 rfl rfl dM_column_106 ?_
      refine sj_iload C dM_column_109 7 rfl ?_
      obtain ⟨h_111, hf⟩ := in_some hf
      refine sj_iald C 4 0 rfl rfl h_111 rfl dM_column_111 ?_
      refine sj_goto C 117 dM_column_112 (by decide) ?_
      exact sj_lv [1, 2, 3, 4, 5, 0, 7] rfl (hb_117 K41 hK41 v1 v2 v3 v4 (t0 + t1) v8 (gO v8.toNatClampNeg) gO gL gT gB gC gP gR gG gn hf)
  have hb_41 : ∀ (n : Nat) (v1 v2 v3 v4 v5 v6 v7 v8 : Int32) (gO gL gT gB gC gP gR gG : Nat → Int32) (gn : Int32), fM_column_b41 n v1 v2 v3 v4 v5 v6 v7 v8 gS gO gL gT gB gC gP gR gG gn = some (r, gO', gL', gT', gB', gC', gP', gR', gG', gn') → SJ p l e rM_column s m (List.toArray [Value.ref g0, Value.int p1, Value.int p2]) below meth c A (dC, dI) 9 Q (wdM cI cZ cB g0 g1 g2 g3 g4 g5 g6 g7 g8 g9 g10 g11 gS gI gK gO gL gT gB gC gP gR gG gn) [(0, .ref g0), (1, .int v1), (2, .int v2), (3, .int v3), (4, .int v4), (5, .int v5), (6, .int v6), (7, .int v7), (8, .int v8)] 41 [] := by
    intro n
    induction n with
    | zero => intro v1 v2 v3 v4 v5 v6 v7 v8 gO gL gT gB gC gP gR gG gn hf; cases hf
    | succ n IH =>
      intro v1 v2 v3 v4 v5 v6 v7 v8 gO gL gT gB gC gP gR gG gn hf
      unfold fM_column_b41 at hf
      refine sj_iload C dM_column_41 8 rfl ?_
      refine sj_aload_n C dM_column_43 0 rfl rfl ?_
      refine sj_get C nM_in 0 rfl rfl 6 (by decide) wd_441 rfl rfl dM_column_44 ?_
      refine sj_icmp_ge C 134 dM_column_47 (by decide) (fun c_47 => ?_) (fun c_47 => ?_)
      · have hf := (if_pos c_47).symm.trans hf
        refine sj_iload_n C dM_column_134 3 rfl rfl ?_
        refine sj_if_ne C 143 dM_column_135 (by decide) (fun c_135 => ?_) (fun c_135 => ?_)
        · have hf := (if_neg c_135).symm.trans hf
          refine sj_iload_n C dM_column_143 2 rfl rfl ?_
          refine sj_if_ne C 151 dM_column_144 (by decide) (fun c_144 => ?_) (fun c_144 => ?_)
          · have hf := (if_neg c_144).symm.trans hf
            refine sj_iload_n C dM_column_151 2 rfl rfl ?_
            refine sj_iconst C dM_column_152 ki_1 ?_
            refine sj_icmp_ne C 161 dM_column_153 (by decide) (fun c_153 => ?_) (fun c_153 => ?_)
            · have hf := (if_neg c_153).symm.trans hf
              refine sj_iload_n C dM_column_161 2 rfl rfl ?_
              refine sj_iconst C dM_column_162 ki_2 ?_
              refine sj_icmp_ne C 171 dM_column_163 (by decide) (fun c_163 => ?_) (fun c_163 => ?_)
              · have hf := (if_neg c_163).symm.trans hf
                refine sj_iload_n C dM_column_171 2 rfl rfl ?_
                refine sj_iconst C dM_column_172 ki_3 ?_
                refine sj_icmp_ne C 181 dM_column_173 (by decide) (fun c_173 => ?_) (fun c_173 => ?_)
                · have hf := (if_neg c_173).symm.trans hf
                  refine sj_iload C dM_column_181 7 rfl ?_
                  exact sj_lv [] rfl (hb_183 v7 gO gL gT gB gC gP gR gG gn hf)
                · have hf := (if_pos c_173).symm.trans hf
                  refine sj_iload C dM_column_176 6 rfl ?_
                  refine sj_goto C 183 dM_column_178 (by decide) ?_
                  exact sj_lv [] rfl (hb_183 v6 gO gL gT gB gC gP gR gG gn hf)
              · have hf := (if_pos c_163).symm.trans hf
                refine sj_iload C dM_column_166 5 rfl ?_
                refine sj_goto C 183 dM_column_168 (by decide) ?_
                exact sj_lv [] rfl (hb_183 v5 gO gL gT gB gC gP gR gG gn hf)
            · have hf := (if_pos c_153).symm.trans hf
              refine sj_iload C dM_column_156 4 rfl ?_
              refine sj_goto C 183 dM_column_158 (by decide) ?_
              exact sj_lv [] rfl (hb_183 v4 gO gL gT gB gC gP gR gG gn hf)
          · have hf := (if_pos c_144).symm.trans hf
            refine sj_iload_n C dM_column_147 3 rfl rfl ?_
            refine sj_goto C 183 dM_column_148 (by decide) ?_
            exact sj_lv [] rfl (hb_183 v3 gO gL gT gB gC gP gR gG gn hf)
        · have hf := (if_pos c_135).symm.trans hf
          refine sj_bipush C dM_column_138 kb_m6 ?_
          refine sj_goto C 183 dM_column_140 (by decide) ?_
          exact sj_lv [] rfl (hb_183 (-6) gO gL gT gB gC gP gR gG gn hf)
      · have hf := (if_neg c_47).symm.trans hf
        refine sj_aload_n C dM_column_50 0 rfl rfl ?_
        refine sj_get C nM_in 0 rfl rfl 8 (by decide) wd_443 rfl rfl dM_column_51 ?_
        refine sj_iload C dM_column_54 8 rfl ?_
        obtain ⟨h_56, hf⟩ := in_some hf
        refine sj_iald C 8 0 rfl rfl h_56 rfl dM_column_56 ?_
        refine sj_iload_n C dM_column_57 1 rfl rfl ?_
        refine sj_icmp_ne C 128 dM_column_58 (by decide) (fun c_58 => ?_) (fun c_58 => ?_)
        · have hf := (if_neg c_58).symm.trans hf
          exact sj_lv [0, 1, 2, 3, 4, 5, 6, 7, 8] rfl (hb_128 (fM_column_b41 n) IH v1 v2 v3 v4 v5 v6 v7 v8 gO gL gT gB gC gP gR gG gn hf)
        · have hf := (if_pos c_58).symm.trans hf
          refine sj_iinc (v := (v3 + 1)) (lv' := [(3, .int (v3 + 1)), (0, .ref g0), (1, .int v1), (2, .int v2), (4, .int v4), (5, .int v5), (6, .int v6), (7, .int v7), (8, .int v8)]) C dM_column_61 3 rfl (by rw [ki_1]) (by decide) rfl ?_
          refine sj_aload_n C dM_column_64 1 rfl rfl ?_
          refine sj_get C nM_in 0 rfl rfl 9 (by decide) wd_444 rfl rfl dM_column_65 ?_
          refine sj_iload C dM_column_68 8 rfl ?_
          obtain ⟨h_70, hf⟩ := in_some hf
          refine sj_iald C 9 0 rfl rfl h_70 rfl dM_column_70 ?_
          refine sj_aload_n C dM_column_71 1 rfl rfl ?_
          refine sj_get C nM_in 0 rfl rfl 5 (by decide) wd_440 rfl rfl dM_column_72 ?_
          refine sj_iload C dM_column_75 8 rfl ?_
          obtain ⟨h_77, hf⟩ := in_some hf
          refine sj_iald C 6 0 rfl rfl h_77 rfl dM_column_77 ?_
          refine sj_iadd C dM_column_78 ?_
          refine sj_istore (lv' := [(4, .int ((gP v8.toNatClampNeg) + (gT v8.toNatClampNeg))), (3, .int (v3 + 1)), (0, .ref g0), (1, .int v1), (2, .int v2), (5, .int v5), (6, .int v6), (7, .int v7), (8, .int v8)]) C dM_column_79 (by decide) rfl ?_
          refine sj_iload C dM_column_81 5 rfl ?_
          refine sj_aload_n C dM_column_83 2 rfl rfl ?_
          refine sj_iload C dM_column_84 8 rfl ?_
          obtain ⟨r_86, hq_86, hf⟩ := bd1_some hf
          refine sj_callVi (w1 := (wdM cI cZ cB g0 g1 g2 g3 g4 g5 g6 g7 g8 g9 g10 g11 gS gI gK gO gL gT gB gC gP gR gG gn)) (q0 := 0) C "StepColumnsModel" (cM_isOut l dC dI cI cZ cB g0 g1 g2 g3 g4 g5 g6 g7 g8 g9 g10 g11 gS gI gK gO gL gT gB gC gP gR gG gn v8 r_86 hq_86) wd_562 wd_564 wd_28 wd_39 wd_565 hM_isOut rfl rfl ⟨Nat.le_of_ble_eq_true rfl, Nat.le_of_ble_eq_true rfl⟩ [0, 1, 2, 3, 4, 5, 6, 7, 8, 9, 10, 11] [] ⟨rfl, rfl, rfl, rfl, rfl, rfl, kv_12_0_1_2_3_4_5_6_7_8_9_10_11⟩ rfl rfl rfl rfl rfl (Nat.le_of_ble_eq_true rfl) dM_column_86 ?_
          refine sj_if_eq C 96 dM_column_89 (by decide) (fun c_89 => ?_) (fun c_89 => ?_)
          · have hf := (if_pos c_89).symm.trans hf
            refine sj_iconst C dM_column_96 ki_0 ?_
            exact sj_lv [2, 3, 4, 1, 0, 6, 8] rfl (hb_97 (fM_column_b41 n) IH v1 v2 (v3 + 1) ((gP v8.toNatClampNeg) + (gT v8.toNatClampNeg)) v6 v8 v5 0 gO gL gT gB gC gP gR gG gn hf)
          · have hf := (if_neg c_89).symm.trans hf
            refine sj_iconst C dM_column_92 ki_1 ?_
            refine sj_goto C 97 dM_column_93 (by decide) ?_
            exact sj_lv [2, 3, 4, 1, 0, 6, 8] rfl (hb_97 (fM_column_b41 n) IH v1 v2 (v3 + 1) ((gP v8.toNatClampNeg) + (gT v8.toNatClampNeg)) v6 v8 v5 1 gO gL gT gB gC gP gR gG gn hf)
  unfold fM_column at hf
  change SJ p l e rM_column s m (List.toArray [Value.ref g0, Value.int p1, Value.int p2]) below meth c A (dC, dI) 9 Q (wdM cI cZ cB g0 g1 g2 g3 g4 g5 g6 g7 g8 g9 g10 g11 gS gI gK gO gL gT gB gC gP gR gG gn) [(0, .ref g0), (1, .int p1), (2, .int p2)] 0 []
  refine sj_iload_n C dM_column_0 2 rfl rfl ?_
  refine sj_iconst C dM_column_1 ki_0 ?_
  refine sj_iconst C dM_column_2 ki_4 ?_
  obtain ⟨r_3, hq_3, hf⟩ := bd1_some hf
  refine sj_callSi (w1 := (wdM cI cZ cB g0 g1 g2 g3 g4 g5 g6 g7 g8 g9 g10 g11 gS gI gK gO gL gT gB gC gP gR gG gn)) C "StepColumnsModel" (cM_in l dC dI cI cZ cB   p2 0 4 r_3 hq_3) wd_477 wd_478 wd_39 wd_479 hM_in rfl rfl ⟨Nat.le_of_ble_eq_true rfl, Nat.le_of_ble_eq_true rfl⟩ [] [0, 1, 2, 3, 4, 5, 6, 7, 8, 9, 10, 11] ⟨rfl, rfl, rfl, rfl, rfl, rfl, kv_12_⟩ rfl rfl (Nat.le_of_ble_eq_true rfl) dM_column_3 ?_
  refine sj_if_ne C 12 dM_column_6 (by decide) (fun c_6 => ?_) (fun c_6 => ?_)
  · have hf := (if_neg c_6).symm.trans hf
    refine sj_aload_n C dM_column_12 0 rfl rfl ?_
    obtain ⟨r_13, gO_13, gL_13, gT_13, gB_13, gC_13, gP_13, gR_13, gG_13, gn_13, hq_13, hf⟩ := bd10_some hf
    refine sj_callVi (w1 := (wdM cI cZ cB g0 g1 g2 g3 g4 g5 g6 g7 g8 g9 g10 g11 gS gI gK gO_13 gL_13 gT_13 gB_13 gC_13 gP_13 gR_13 gG_13 gn_13)) (q0 := 0) C "StepColumnsModel" (cM_layBest l dC dI cI cZ cB g0 g1 g2 g3 g4 g5 g6 g7 g8 g9 g10 g11 gS gI gK gO gL gT gB gC gP gR gG gn  r_13 gO_13 gL_13 gT_13 gB_13 gC_13 gP_13 gR_13 gG_13 gn_13 hq_13) wd_519 wd_521 wd_19 wd_39 wd_522 hM_layBest rfl rfl ⟨Nat.le_of_ble_eq_true rfl, Nat.le_of_ble_eq_true rfl⟩ [0, 1, 2, 3, 4, 5, 6, 7, 8, 9, 10, 11] [] ⟨rfl, rfl, rfl, rfl, rfl, rfl, kv_12_0_1_2_3_4_5_6_7_8_9_10_11⟩ rfl rfl rfl rfl rfl (Nat.le_of_ble_eq_true rfl) dM_column_13 ?_
    refine sj_if_ne C 22 dM_column_16 (by decide) (fun c_16 => ?_) (fun c_16 => ?_)
    · have hf := (if_neg c_16).symm.trans hf
      refine sj_iconst C dM_column_22 ki_0 ?_
      refine sj_istore_n (lv' := [(3, .int 0), (0, .ref g0), (1, .int p1), (2, .int p2)]) C dM_column_23 rfl (by decide) rfl ?_
      refine sj_iconst C dM_column_24 ki_0 ?_
      refine sj_istore (lv' := [(4, .int 0), (3, .int 0), (0, .ref g0), (1, .int p1), (2, .int p2)]) C dM_column_25 (by decide) rfl ?_
      refine sj_iconst C dM_column_27 ki_0 ?_
      refine sj_istore (lv' := [(5, .int 0), (4, .int 0), (3, .int 0), (0, .ref g0), (1, .int p1), (2, .int p2)]) C dM_column_28 (by decide) rfl ?_
      refine sj_bipush C dM_column_30 kb_m6 ?_
      refine sj_istore (lv' := [(6, .int (-6)), (5, .int 0), (4, .int 0), (3, .int 0), (0, .ref g0), (1, .int p1), (2, .int p2)]) C dM_column_32 (by decide) rfl ?_
      refine sj_bipush C dM_column_34 kb_m6 ?_
      refine sj_istore (lv' := [(7, .int (-6)), (6, .int (-6)), (5, .int 0), (4, .int 0), (3, .int 0), (0, .ref g0), (1, .int p1), (2, .int p2)]) C dM_column_36 (by decide) rfl ?_
      refine sj_iconst C dM_column_38 ki_0 ?_
      refine sj_istore (lv' := [(8, .int 0), (7, .int (-6)), (6, .int (-6)), (5, .int 0), (4, .int 0), (3, .int 0), (0, .ref g0), (1, .int p1), (2, .int p2)]) C dM_column_39 (by decide) rfl ?_
      exact sj_lv [6, 7, 8, 5, 4, 3, 2, 1, 0] rfl (hb_41 fu p1 p2 0 0 0 (-6) (-6) 0 gO_13 gL_13 gT_13 gB_13 gC_13 gP_13 gR_13 gG_13 gn_13 hf)
    · have hf := (if_pos c_16).symm.trans hf
      refine sj_bipush C dM_column_19 kb_m6 ?_
      cases hf
      exact hQ 21 _ dM_column_21
  · have hf := (if_pos c_6).symm.trans hf
    refine sj_bipush C dM_column_9 kb_m2 ?_
    cases hf
    exact hQ 11 _ dM_column_11
abbrev rM_hasLine : Room := { frames := 1, cells := 0, slots := 0, locals := 21 }
set_option maxHeartbeats 4000000 in
set_option maxRecDepth 100000 in
theorem cM_hasLine (l : Launch) (dC : Nat → ClassId) (dI : Nat → Nat → Nat) (cI cZ cB : ClassId) (g0 g1 g2 g3 g4 g5 g6 g7 g8 g9 g10 g11 : Nat) (gS gI gK gO gL gT gB gC gP gR gG : Nat → Int32) (gn : Int32) (p1 p2 : Int32) (r : Int32)  (hf : fM_hasLine p1 p2 gS gO gC gP gn = some r) : MI l yM_hasLine wM_hasLine rM_hasLine (dC, dI) (tyl cI cZ cB) [Value.ref g0, Value.int p1, Value.int p2] (wdM cI cZ cB g0 g1 g2 g3 g4 g5 g6 g7 g8 g9 g10 g11 gS gI gK gO gL gT gB gC gP gR gG gn) (wdM cI cZ cB g0 g1 g2 g3 g4 g5 g6 g7 g8 g9 g10 g11 gS gI gK gO gL gT gB gC gP gR gG gn) r := by
  refine MZ_of "StepColumnsModel" rfl (by decide) (Nat.le_of_ble_eq_true rfl) ?_
  intro p e s m below meth c A Q C hQ
  have hb_54 : ∀ (K5 : Int32 → Int32 → Int32 → Int32 → (Nat → Int32) → (Nat → Int32) → (Nat → Int32) → (Nat → Int32) → Int32 → Option (Int32)) (hK5 : ∀ (v1 v2 v3 v4 : Int32) , K5 v1 v2 v3 v4 gS gO gC gP gn = some r → SJ p l e rM_hasLine s m (List.toArray [Value.ref g0, Value.int p1, Value.int p2]) below meth c A (dC, dI) 5 Q (wdM cI cZ cB g0 g1 g2 g3 g4 g5 g6 g7 g8 g9 g10 g11 gS gI gK gO gL gT gB gC gP gR gG gn) [(0, .ref g0), (1, .int v1), (2, .int v2), (3, .int v3), (4, .int v4)] 5 []) (v1 v2 v4 t0 : Int32), fM_hasLine_b54 K5 v1 v2 v4 t0 gS gO gC gP gn = some r → SJ p l e rM_hasLine s m (List.toArray [Value.ref g0, Value.int p1, Value.int p2]) below meth c A (dC, dI) 5 Q (wdM cI cZ cB g0 g1 g2 g3 g4 g5 g6 g7 g8 g9 g10 g11 gS gI gK gO gL gT gB gC gP gR gG gn) [(0, .ref g0), (1, .int v1), (2, .int v2), (4, .int v4)] 54 [.int t0] := by
    intro K5 hK5 v1 v2 v4 t0 hf
    unfold fM_hasLine_b54 at hf
    refine sj_istore_n (lv' := [(3, .int t0), (0, .ref g0), (1, .int v1), (2, .int v2), (4, .int v4)]) C dM_hasLine_54 rfl (by decide) rfl ?_
    refine sj_iinc (v := (v4 + 1)) (lv' := [(4, .int (v4 + 1)), (3, .int t0), (0, .ref g0), (1, .int v1), (2, .int v2)]) C dM_hasLine_55 4 rfl (by rw [ki_1]) (by decide) rfl ?_
    refine sj_goto C 5 dM_hasLine_58 (by decide) ?_
    exact sj_lv [2, 3, 4, 1, 0] rfl (hK5 v1 v2 t0 (v4 + 1) hf)
  have hb_49 : ∀ (K5 : Int32 → Int32 → Int32 → Int32 → (Nat → Int32) → (Nat → Int32) → (Nat → Int32) → (Nat → Int32) → Int32 → Option (Int32)) (hK5 : ∀ (v1 v2 v3 v4 : Int32) , K5 v1 v2 v3 v4 gS gO gC gP gn = some r → SJ p l e rM_hasLine s m (List.toArray [Value.ref g0, Value.int p1, Value.int p2]) below meth c A (dC, dI) 5 Q (wdM cI cZ cB g0 g1 g2 g3 g4 g5 g6 g7 g8 g9 g10 g11 gS gI gK gO gL gT gB gC gP gR gG gn) [(0, .ref g0), (1, .int v1), (2, .int v2), (3, .int v3), (4, .int v4)] 5 []) (v1 v2 v4 : Int32), fM_hasLine_b49 K5 v1 v2 v4 gS gO gC gP gn = some r → SJ p l e rM_hasLine s m (List.toArray [Value.ref g0, Value.int p1, Value.int p2]) below meth c A (dC, dI) 5 Q (wdM cI cZ cB g0 g1 g2 g3 g4 g5 g6 g7 g8 g9 g10 g11 gS gI gK gO gL gT gB gC gP gR gG gn) [(0, .ref g0), (1, .int v1), (2, .int v2), (4, .int v4)] 49 [] := by
    intro K5 hK5 v1 v2 v4 hf
    unfold fM_hasLine_b49 at hf
    refine sj_iconst C dM_hasLine_49 ki_1 ?_
    refine sj_goto C 54 dM_hasLine_50 (by decide) ?_
    exact sj_lv [0, 1, 2, 3] rfl (hb_54 K5 hK5 v1 v2 v4 1 hf)
  have hb_53 : ∀ (K5 : Int32 → Int32 → Int32 → Int32 → (Nat → Int32) → (Nat → Int32) → (Nat → Int32) → (Nat → Int32) → Int32 → Option (Int32)) (hK5 : ∀ (v1 v2 v3 v4 : Int32) , K5 v1 v2 v3 v4 gS gO gC gP gn = some r → SJ p l e rM_hasLine s m (List.toArray [Value.ref g0, Value.int p1, Value.int p2]) below meth c A (dC, dI) 5 Q (wdM cI cZ cB g0 g1 g2 g3 g4 g5 g6 g7 g8 g9 g10 g11 gS gI gK gO gL gT gB gC gP gR gG gn) [(0, .ref g0), (1, .int v1), (2, .int v2), (3, .int v3), (4, .int v4)] 5 []) (v1 v2 v4 : Int32), fM_hasLine_b53 K5 v1 v2 v4 gS gO gC gP gn = some r → SJ p l e rM_hasLine s m (List.toArray [Value.ref g0, Value.int p1, Value.int p2]) below meth c A (dC, dI) 5 Q (wdM cI cZ cB g0 g1 g2 g3 g4 g5 g6 g7 g8 g9 g10 g11 gS gI gK gO gL gT gB gC gP gR gG gn) [(0, .ref g0), (1, .int v1), (2, .int v2), (4, .int v4)] 53 [] := by
    intro K5 hK5 v1 v2 v4 hf
    unfold fM_hasLine_b53 at hf
    refine sj_iconst C dM_hasLine_53 ki_0 ?_
    exact sj_lv [0, 1, 2, 3] rfl (hb_54 K5 hK5 v1 v2 v4 0 hf)
  have hb_5 : ∀ (n : Nat) (v1 v2 v3 v4 : Int32), fM_hasLine_b5 n v1 v2 v3 v4 gS gO gC gP gn = some r → SJ p l e rM_hasLine s m (List.toArray [Value.ref g0, Value.int p1, Value.int p2]) below meth c A (dC, dI) 5 Q (wdM cI cZ cB g0 g1 g2 g3 g4 g5 g6 g7 g8 g9 g10 g11 gS gI gK gO gL gT gB gC gP gR gG gn) [(0, .ref g0), (1, .int v1), (2, .int v2), (3, .int v3), (4, .int v4)] 5 [] := by
    intro n
    induction n with
    | zero => intro v1 v2 v3 v4 hf; cases hf
    | succ n IH =>
      intro v1 v2 v3 v4 hf
      unfold fM_hasLine_b5 at hf
      refine sj_iload C dM_hasLine_5 4 rfl ?_
      refine sj_aload_n C dM_hasLine_7 0 rfl rfl ?_
      refine sj_get C nM_in 0 rfl rfl 6 (by decide) wd_441 rfl rfl dM_hasLine_8 ?_
      refine sj_icmp_ge C 61 dM_hasLine_11 (by decide) (fun c_11 => ?_) (fun c_11 => ?_)
      · have hf := (if_pos c_11).symm.trans hf
        refine sj_iload_n C dM_hasLine_61 3 rfl rfl ?_
        obtain ⟨h_62, hf⟩ := in_some hf
        cases hf
        exact hQ 62 _ (Decidable.not_not.mp h_62) dM_hasLine_62
      · have hf := (if_neg c_11).symm.trans hf
        refine sj_iload_n C dM_hasLine_14 3 rfl rfl ?_
        refine sj_if_ne C 49 dM_hasLine_15 (by decide) (fun c_15 => ?_) (fun c_15 => ?_)
        · have hf := (if_neg c_15).symm.trans hf
          exact sj_lv [0, 1, 2, 4] rfl (hb_49 (fM_hasLine_b5 n) IH v1 v2 v4 hf)
        · have hf := (if_pos c_15).symm.trans hf
          refine sj_aload_n C dM_hasLine_18 0 rfl rfl ?_
          refine sj_get C nM_in 0 rfl rfl 8 (by decide) wd_443 rfl rfl dM_hasLine_19 ?_
          refine sj_iload C dM_hasLine_22 4 rfl ?_
          obtain ⟨h_24, hf⟩ := in_some hf
          refine sj_iald C 8 0 rfl rfl h_24 rfl dM_hasLine_24 ?_
          refine sj_iload_n C dM_hasLine_25 1 rfl rfl ?_
          refine sj_icmp_ne C 53 dM_hasLine_26 (by decide) (fun c_26 => ?_) (fun c_26 => ?_)
          · have hf := (if_neg c_26).symm.trans hf
            exact sj_lv [0, 1, 2, 4] rfl (hb_53 (fM_hasLine_b5 n) IH v1 v2 v4 hf)
          · have hf := (if_pos c_26).symm.trans hf
            refine sj_aload_n C dM_hasLine_29 0 rfl rfl ?_
            refine sj_iload C dM_hasLine_30 4 rfl ?_
            obtain ⟨r_32, hq_32, hf⟩ := bd1_some hf
            refine sj_callVi (w1 := (wdM cI cZ cB g0 g1 g2 g3 g4 g5 g6 g7 g8 g9 g10 g11 gS gI gK gO gL gT gB gC gP gR gG gn)) (q0 := 0) C "StepColumnsModel" (cM_isLine l dC dI cI cZ cB g0 g1 g2 g3 g4 g5 g6 g7 g8 g9 g10 g11 gS gI gK gO gL gT gB gC gP gR gG gn v4 r_32 hq_32) wd_542 wd_544 wd_24 wd_39 wd_545 hM_isLine rfl rfl ⟨Nat.le_of_ble_eq_true rfl, Nat.le_of_ble_eq_true rfl⟩ [0, 1, 2, 3, 4, 5, 6, 7, 8, 9, 10, 11] [] ⟨rfl, rfl, rfl, rfl, rfl, rfl, kv_12_0_1_2_3_4_5_6_7_8_9_10_11⟩ rfl rfl rfl rfl rfl (Nat.le_of_ble_eq_true rfl) dM_hasLine_32 ?_
            refine sj_if_eq C 53 dM_hasLine_35 (by decide) (fun c_35 => ?_) (fun c_35 => ?_)
            · have hf := (if_pos c_35).symm.trans hf
              exact sj_lv [0, 1, 2, 4] rfl (hb_53 (fM_hasLine_b5 n) IH v1 v2 v4 hf)
            · have hf := (if_neg c_35).symm.trans hf
              refine sj_aload_n C dM_hasLine_38 0 rfl rfl ?_
              refine sj_get C nM_in 0 rfl rfl 9 (by decide) wd_444 rfl rfl dM_hasLine_39 ?_
              refine sj_iload C dM_hasLine_42 4 rfl ?_
              obtain ⟨h_44, hf⟩ := in_some hf
              refine sj_iald C 9 0 rfl rfl h_44 rfl dM_hasLine_44 ?_
              refine sj_iload_n C dM_hasLine_45 2 rfl rfl ?_
              refine sj_icmp_ne C 53 dM_hasLine_46 (by decide) (fun c_46 => ?_) (fun c_46 => ?_)
              · have hf := (if_neg c_46).symm.trans hf
                exact sj_lv [0, 1, 2, 4] rfl (hb_53 (fM_hasLine_b5 n) IH v1 v2 v4 hf)
              · have hf := (if_pos c_46).symm.trans hf
                exact sj_lv [0, 1, 2, 4] rfl (hb_49 (fM_hasLine_b5 n) IH v1 v2 v4 hf)
  unfold fM_hasLine at hf
  change SJ p l e rM_hasLine s m (List.toArray [Value.ref g0, Value.int p1, Value.int p2]) below meth c A (dC, dI) 5 Q (wdM cI cZ cB g0 g1 g2 g3 g4 g5 g6 g7 g8 g9 g10 g11 gS gI gK gO gL gT gB gC gP gR gG gn) [(0, .ref g0), (1, .int p1), (2, .int p2)] 0 []
  refine sj_iconst C dM_hasLine_0 ki_0 ?_
  refine sj_istore_n (lv' := [(3, .int 0), (0, .ref g0), (1, .int p1), (2, .int p2)]) C dM_hasLine_1 rfl (by decide) rfl ?_
  refine sj_iconst C dM_hasLine_2 ki_0 ?_
  refine sj_istore (lv' := [(4, .int 0), (3, .int 0), (0, .ref g0), (1, .int p1), (2, .int p2)]) C dM_hasLine_3 (by decide) rfl ?_
  exact sj_lv [2, 3, 4, 1, 0] rfl (hb_5 fu p1 p2 0 0 hf)
abbrev rM_meet : Room := { frames := 5, cells := 0, slots := 0, locals := 121 }
set_option maxHeartbeats 4000000 in
set_option maxRecDepth 100000 in
theorem cM_meet (l : Launch) (dC : Nat → ClassId) (dI : Nat → Nat → Nat) (cI cZ cB : ClassId) (g0 g1 g2 g3 g4 g5 g6 g7 g8 g9 g10 g11 : Nat) (gS gI gK gO gL gT gB gC gP gR gG : Nat → Int32) (gn : Int32) (p1 : Int32) (r : Int32) (gO' : Nat → Int32) (gL' : Nat → Int32) (gT' : Nat → Int32) (gB' : Nat → Int32) (gC' : Nat → Int32) (gP' : Nat → Int32) (gR' : Nat → Int32) (gG' : Nat → Int32) (gn' : Int32) (hf : fM_meet p1 gS gO gL gT gB gC gP gR gG gn = some (r, gO', gL', gT', gB', gC', gP', gR', gG', gn')) : MI l yM_meet wM_meet rM_meet (dC, dI) (tyl cI cZ cB) [Value.ref g0, Value.int p1] (wdM cI cZ cB g0 g1 g2 g3 g4 g5 g6 g7 g8 g9 g10 g11 gS gI gK gO gL gT gB gC gP gR gG gn) (wdM cI cZ cB g0 g1 g2 g3 g4 g5 g6 g7 g8 g9 g10 g11 gS gI gK gO' gL' gT' gB' gC' gP' gR' gG' gn') r := by
  refine MI_of "StepColumnsModel" rfl (by decide) (Nat.le_of_ble_eq_true rfl) ?_
  intro p e s m below meth c A Q C hQ
  have hb_41 : ∀ (gO gL gT gB gC gP gR gG : Nat → Int32) (gn : Int32), fM_meet_b41 gS gO gL gT gB gC gP gR gG gn = some (r, gO', gL', gT', gB', gC', gP', gR', gG', gn') → SJ p l e rM_meet s m (List.toArray [Value.ref g0, Value.int p1]) below meth c A (dC, dI) 4 Q (wdM cI cZ cB g0 g1 g2 g3 g4 g5 g6 g7 g8 g9 g10 g11 gS gI gK gO gL gT gB gC gP gR gG gn) [] 41 [] := by
    intro gO gL gT gB gC gP gR gG gn hf
    unfold fM_meet_b41 at hf
    refine sj_bipush C dM_meet_41 kb_m6 ?_
    cases hf
    exact hQ 43 _ dM_meet_43
  have hb_85 : ∀ (K48 : Int32 → Int32 → Int32 → (Nat → Int32) → (Nat → Int32) → (Nat → Int32) → (Nat → Int32) → (Nat → Int32) → (Nat → Int32) → (Nat → Int32) → (Nat → Int32) → (Nat → Int32) → Int32 → Option (Int32 × (Nat → Int32) × (Nat → Int32) × (Nat → Int32) × (Nat → Int32) × (Nat → Int32) × (Nat → Int32) × (Nat → Int32) × (Nat → Int32) × Int32)) (hK48 : ∀ (v1 v2 v3 : Int32) (gO gL gT gB gC gP gR gG : Nat → Int32) (gn : Int32), K48 v1 v2 v3 gS gO gL gT gB gC gP gR gG gn = some (r, gO', gL', gT', gB', gC', gP', gR', gG', gn') → SJ p l e rM_meet s m (List.toArray [Value.ref g0, Value.int p1]) below meth c A (dC, dI) 4 Q (wdM cI cZ cB g0 g1 g2 g3 g4 g5 g6 g7 g8 g9 g10 g11 gS gI gK gO gL gT gB gC gP gR gG gn) [(0, .ref g0), (1, .int v1), (2, .int v2), (3, .int v3)] 48 []) (v1 v3 t0 t1 : Int32) (gO gL gT gB gC gP gR gG : Nat → Int32) (gn : Int32), fM_meet_b85 K48 v1 v3 t0 t1 gS gO gL gT gB gC gP gR gG gn = some (r, gO', gL', gT', gB', gC', gP', gR', gG', gn') → SJ p l e rM_meet s m (List.toArray [Value.ref g0, Value.int p1]) below meth c A (dC, dI) 4 Q (wdM cI cZ cB g0 g1 g2 g3 g4 g5 g6 g7 g8 g9 g10 g11 gS gI gK gO gL gT gB gC gP gR gG gn) [(0, .ref g0), (1, .int v1), (3, .int v3)] 85 [.int t1, .int t0] := by
    intro K48 hK48 v1 v3 t0 t1 gO gL gT gB gC gP gR gG gn hf
    unfold fM_meet_b85 at hf
    refine sj_iadd C dM_meet_85 ?_
    refine sj_istore_n (lv' := [(2, .int (t0 + t1)), (0, .ref g0), (1, .int v1), (3, .int v3)]) C dM_meet_86 rfl (by decide) rfl ?_
    refine sj_iinc (v := (v3 + 1)) (lv' := [(3, .int (v3 + 1)), (2, .int (t0 + t1)), (0, .ref g0), (1, .int v1)]) C dM_meet_87 3 rfl (by rw [ki_1]) (by decide) rfl ?_
    refine sj_goto C 48 dM_meet_90 (by decide) ?_
    exact sj_lv [2, 3, 1, 0] rfl (hK48 v1 (t0 + t1) (v3 + 1) gO gL gT gB gC gP gR gG gn hf)
  have hb_84 : ∀ (K48 : Int32 → Int32 → Int32 → (Nat → Int32) → (Nat → Int32) → (Nat → Int32) → (Nat → Int32) → (Nat → Int32) → (Nat → Int32) → (Nat → Int32) → (Nat → Int32) → (Nat → Int32) → Int32 → Option (Int32 × (Nat → Int32) × (Nat → Int32) × (Nat → Int32) × (Nat → Int32) × (Nat → Int32) × (Nat → Int32) × (Nat → Int32) × (Nat → Int32) × Int32)) (hK48 : ∀ (v1 v2 v3 : Int32) (gO gL gT gB gC gP gR gG : Nat → Int32) (gn : Int32), K48 v1 v2 v3 gS gO gL gT gB gC gP gR gG gn = some (r, gO', gL', gT', gB', gC', gP', gR', gG', gn') → SJ p l e rM_meet s m (List.toArray [Value.ref g0, Value.int p1]) below meth c A (dC, dI) 4 Q (wdM cI cZ cB g0 g1 g2 g3 g4 g5 g6 g7 g8 g9 g10 g11 gS gI gK gO gL gT gB gC gP gR gG gn) [(0, .ref g0), (1, .int v1), (2, .int v2), (3, .int v3)] 48 []) (v1 v3 t0 : Int32) (gO gL gT gB gC gP gR gG : Nat → Int32) (gn : Int32), fM_meet_b84 K48 v1 v3 t0 gS gO gL gT gB gC gP gR gG gn = some (r, gO', gL', gT', gB', gC', gP', gR', gG', gn') → SJ p l e rM_meet s m (List.toArray [Value.ref g0, Value.int p1]) below meth c A (dC, dI) 4 Q (wdM cI cZ cB g0 g1 g2 g3 g4 g5 g6 g7 g8 g9 g10 g11 gS gI gK gO gL gT gB gC gP gR gG gn) [(0, .ref g0), (1, .int v1), (3, .int v3)] 84 [.int t0] := by
    intro K48 hK48 v1 v3 t0 gO gL gT gB gC gP gR gG gn hf
    unfold fM_meet_b84 at hf
    refine sj_iconst C dM_meet_84 ki_0 ?_
    exact sj_lv [0, 1, 2] rfl (hb_85 K48 hK48 v1 v3 t0 0 gO gL gT gB gC gP gR gG gn hf)
  have hb_48 : ∀ (n : Nat) (v1 v2 v3 : Int32) (gO gL gT gB gC gP gR gG : Nat → Int32) (gn : Int32), fM_meet_b48 n v1 v2 v3 gS gO gL gT gB gC gP gR gG gn = some (r, gO', gL', gT', gB', gC', gP', gR', gG', gn') → SJ p l e rM_meet s m (List.toArray [Value.ref g0, Value.int p1]) below meth c A (dC, dI) 4 Q (wdM cI cZ cB g0 g1 g2 g3 g4 g5 g6 g7 g8 g9 g10 g11 gS gI gK gO gL gT gB gC gP gR gG gn) [(0, .ref g0), (1, .int v1), (2, .int v2), (3, .int v3)] 48 [] := by
    intro n
    induction n with
    | zero => intro v1 v2 v3 gO gL gT gB gC gP gR gG gn hf; cases hf
    | succ n IH =>
      intro v1 v2 v3 gO gL gT gB gC gP gR gG gn hf
      unfold fM_meet_b48 at hf
      refine sj_iload_n C dM_meet_48 3 rfl rfl ?_
      refine sj_sipush C dM_meet_49 ks_201 ?_
      refine sj_icmp_ge C 93 dM_meet_52 (by decide) (fun c_52 => ?_) (fun c_52 => ?_)
      · have hf := (if_pos c_52).symm.trans hf
        refine sj_iload_n C dM_meet_93 2 rfl rfl ?_
        cases hf
        exact hQ 94 _ dM_meet_94
      · have hf := (if_neg c_52).symm.trans hf
        refine sj_iload_n C dM_meet_55 2 rfl rfl ?_
        refine sj_aload_n C dM_meet_56 0 rfl rfl ?_
        refine sj_iconst C dM_meet_57 ki_2 ?_
        refine sj_iload_n C dM_meet_58 1 rfl rfl ?_
        refine sj_imul C dM_meet_59 ?_
        refine sj_iload_n C dM_meet_60 3 rfl rfl ?_
        obtain ⟨r_61, hq_61, hf⟩ := bd1_some hf
        refine sj_callVi (w1 := (wdM cI cZ cB g0 g1 g2 g3 g4 g5 g6 g7 g8 g9 g10 g11 gS gI gK gO gL gT gB gC gP gR gG gn)) (q0 := 0) C "StepColumnsModel" (cM_hasLine l dC dI cI cZ cB g0 g1 g2 g3 g4 g5 g6 g7 g8 g9 g10 g11 gS gI gK gO gL gT gB gC gP gR gG gn (2 * v1) v3 r_61 hq_61) wd_582 wd_584 wd_30 wd_39 wd_585 hM_hasLine rfl rfl ⟨Nat.le_of_ble_eq_true rfl, Nat.le_of_ble_eq_true rfl⟩ [0, 1, 2, 3, 4, 5, 6, 7, 8, 9, 10, 11] [] ⟨rfl, rfl, rfl, rfl, rfl, rfl, kv_12_0_1_2_3_4_5_6_7_8_9_10_11⟩ rfl rfl rfl rfl rfl (Nat.le_of_ble_eq_true rfl) dM_meet_61 ?_
        refine sj_if_eq C 84 dM_meet_64 (by decide) (fun c_64 => ?_) (fun c_64 => ?_)
        · have hf := (if_pos c_64).symm.trans hf
          exact sj_lv [0, 1, 3] rfl (hb_84 (fM_meet_b48 n) IH v1 v3 v2 gO gL gT gB gC gP gR gG gn hf)
        · have hf := (if_neg c_64).symm.trans hf
          refine sj_aload_n C dM_meet_67 0 rfl rfl ?_
          refine sj_iconst C dM_meet_68 ki_2 ?_
          refine sj_iload_n C dM_meet_69 1 rfl rfl ?_
          refine sj_imul C dM_meet_70 ?_
          refine sj_iconst C dM_meet_71 ki_1 ?_
          refine sj_iadd C dM_meet_72 ?_
          refine sj_iload_n C dM_meet_73 3 rfl rfl ?_
          obtain ⟨r_74, hq_74, hf⟩ := bd1_some hf
          refine sj_callVi (w1 := (wdM cI cZ cB g0 g1 g2 g3 g4 g5 g6 g7 g8 g9 g10 g11 gS gI gK gO gL gT gB gC gP gR gG gn)) (q0 := 0) C "StepColumnsModel" (cM_hasLine l dC dI cI cZ cB g0 g1 g2 g3 g4 g5 g6 g7 g8 g9 g10 g11 gS gI gK gO gL gT gB gC gP gR gG gn ((2 * v1) + 1) v3 r_74 hq_74) wd_582 wd_584 wd_30 wd_39 wd_585 hM_hasLine rfl rfl ⟨Nat.le_of_ble_eq_true rfl, Nat.le_of_ble_eq_true rfl⟩ [0, 1, 2, 3, 4, 5, 6, 7, 8, 9, 10, 11] [] ⟨rfl, rfl, rfl, rfl, rfl, rfl, kv_12_0_1_2_3_4_5_6_7_8_9_10_11⟩ rfl rfl rfl rfl rfl (Nat.le_of_ble_eq_true rfl) dM_meet_74 ?_
          refine sj_if_eq C 84 dM_meet_77 (by decide) (fun c_77 => ?_) (fun c_77 => ?_)
          · have hf := (if_pos c_77).symm.trans hf
            exact sj_lv [0, 1, 3] rfl (hb_84 (fM_meet_b48 n) IH v1 v3 v2 gO gL gT gB gC gP gR gG gn hf)
          · have hf := (if_neg c_77).symm.trans hf
            refine sj_iconst C dM_meet_80 ki_1 ?_
            refine sj_goto C 85 dM_meet_81 (by decide) ?_
            exact sj_lv [0, 1, 3] rfl (hb_85 (fM_meet_b48 n) IH v1 v3 v2 1 gO gL gT gB gC gP gR gG gn hf)
  unfold fM_meet at hf
  change SJ p l e rM_meet s m (List.toArray [Value.ref g0, Value.int p1]) below meth c A (dC, dI) 4 Q (wdM cI cZ cB g0 g1 g2 g3 g4 g5 g6 g7 g8 g9 g10 g11 gS gI gK gO gL gT gB gC gP gR gG gn) [(0, .ref g0), (1, .int p1)] 0 []
  refine sj_iload_n C dM_meet_0 1 rfl rfl ?_
  refine sj_iconst C dM_meet_1 ki_0 ?_
  refine sj_bipush C dM_meet_2 kb_72 ?_
  obtain ⟨r_4, hq_4, hf⟩ := bd1_some hf
  refine sj_callSi (w1 := (wdM cI cZ cB g0 g1 g2 g3 g4 g5 g6 g7 g8 g9 g10 g11 gS gI gK gO gL gT gB gC gP gR gG gn)) C "StepColumnsModel" (cM_in l dC dI cI cZ cB   p1 0 72 r_4 hq_4) wd_477 wd_478 wd_39 wd_479 hM_in rfl rfl ⟨Nat.le_of_ble_eq_true rfl, Nat.le_of_ble_eq_true rfl⟩ [] [0, 1, 2, 3, 4, 5, 6, 7, 8, 9, 10, 11] ⟨rfl, rfl, rfl, rfl, rfl, rfl, kv_12_⟩ rfl rfl (Nat.le_of_ble_eq_true rfl) dM_meet_4 ?_
  refine sj_if_eq C 41 dM_meet_7 (by decide) (fun c_7 => ?_) (fun c_7 => ?_)
  · have hf := (if_pos c_7).symm.trans hf
    exact sj_lv [] rfl (hb_41 gO gL gT gB gC gP gR gG gn hf)
  · have hf := (if_neg c_7).symm.trans hf
    refine sj_aload_n C dM_meet_10 0 rfl rfl ?_
    obtain ⟨r_11, gO_11, gL_11, gT_11, gB_11, gC_11, gP_11, gR_11, gG_11, gn_11, hq_11, hf⟩ := bd10_some hf
    refine sj_callVi (w1 := (wdM cI cZ cB g0 g1 g2 g3 g4 g5 g6 g7 g8 g9 g10 g11 gS gI gK gO_11 gL_11 gT_11 gB_11 gC_11 gP_11 gR_11 gG_11 gn_11)) (q0 := 0) C "StepColumnsModel" (cM_layBest l dC dI cI cZ cB g0 g1 g2 g3 g4 g5 g6 g7 g8 g9 g10 g11 gS gI gK gO gL gT gB gC gP gR gG gn  r_11 gO_11 gL_11 gT_11 gB_11 gC_11 gP_11 gR_11 gG_11 gn_11 hq_11) wd_519 wd_521 wd_19 wd_39 wd_522 hM_layBest rfl rfl ⟨Nat.le_of_ble_eq_true rfl, Nat.le_of_ble_eq_true rfl⟩ [0, 1, 2, 3, 4, 5, 6, 7, 8, 9, 10, 11] [] ⟨rfl, rfl, rfl, rfl, rfl, rfl, kv_12_0_1_2_3_4_5_6_7_8_9_10_11⟩ rfl rfl rfl rfl rfl (Nat.le_of_ble_eq_true rfl) dM_meet_11 ?_
    refine sj_if_eq C 41 dM_meet_14 (by decide) (fun c_14 => ?_) (fun c_14 => ?_)
    · have hf := (if_pos c_14).symm.trans hf
      exact sj_lv [] rfl (hb_41 gO_11 gL_11 gT_11 gB_11 gC_11 gP_11 gR_11 gG_11 gn_11 hf)
    · have hf := (if_neg c_14).symm.trans hf
      refine sj_aload_n C dM_meet_17 0 rfl rfl ?_
      refine sj_get C nM_in 0 rfl rfl 6 (by decide) wd_441 rfl rfl dM_meet_18 ?_
      refine sj_if_eq C 41 dM_meet_21 (by decide) (fun c_21 => ?_) (fun c_21 => ?_)
      · have hf := (if_pos c_21).symm.trans hf
        exact sj_lv [] rfl (hb_41 gO_11 gL_11 gT_11 gB_11 gC_11 gP_11 gR_11 gG_11 gn_11 hf)
      · have hf := (if_neg c_21).symm.trans hf
        refine sj_aload_n C dM_meet_24 0 rfl rfl ?_
        refine sj_get C nM_in 0 rfl rfl 8 (by decide) wd_443 rfl rfl dM_meet_25 ?_
        refine sj_aload_n C dM_meet_28 0 rfl rfl ?_
        refine sj_get C nM_in 0 rfl rfl 6 (by decide) wd_441 rfl rfl dM_meet_29 ?_
        refine sj_iconst C dM_meet_32 ki_1 ?_
        refine sj_isub C dM_meet_33 ?_
        obtain ⟨h_34, hf⟩ := in_some hf
        refine sj_iald C 8 0 rfl rfl h_34 rfl dM_meet_34 ?_
        refine sj_iconst C dM_meet_35 ki_2 ?_
        refine sj_iload_n C dM_meet_36 1 rfl rfl ?_
        refine sj_imul C dM_meet_37 ?_
        refine sj_icmp_ge C 44 dM_meet_38 (by decide) (fun c_38 => ?_) (fun c_38 => ?_)
        · have hf := (if_pos c_38).symm.trans hf
          refine sj_iconst C dM_meet_44 ki_0 ?_
          refine sj_istore_n (lv' := [(2, .int 0), (0, .ref g0), (1, .int p1)]) C dM_meet_45 rfl (by decide) rfl ?_
          refine sj_iconst C dM_meet_46 ki_0 ?_
          refine sj_istore_n (lv' := [(3, .int 0), (2, .int 0), (0, .ref g0), (1, .int p1)]) C dM_meet_47 rfl (by decide) rfl ?_
          exact sj_lv [2, 3, 1, 0] rfl (hb_48 fu p1 0 0 gO_11 gL_11 gT_11 gB_11 gC_11 gP_11 gR_11 gG_11 gn_11 hf)
        · have hf := (if_neg c_38).symm.trans hf
          exact sj_lv [] rfl (hb_41 gO_11 gL_11 gT_11 gB_11 gC_11 gP_11 gR_11 gG_11 gn_11 hf)
abbrev rM_outOf : Room := { frames := 0, cells := 0, slots := 0, locals := 0 }
set_option maxHeartbeats 4000000 in
set_option maxRecDepth 100000 in
theorem cM_outOf (l : Launch) (dC : Nat → ClassId) (dI : Nat → Nat → Nat) (cI cZ cB : ClassId)  (p1 : Int32) (r : Int32)  (hf : fM_outOf p1 = some r) : MI l yM_outOf wM_outOf rM_outOf (dC, dI) (tyl cI cZ cB) [Value.int p1] [] [] r := by
  refine MI_of "StepColumnsModel" rfl (by decide) (Nat.le_of_ble_eq_true rfl) ?_
  intro p e s m below meth c A Q C hQ
  unfold fM_outOf at hf
  change SJ p l e rM_outOf s m (List.toArray [Value.int p1]) below meth c A (dC, dI) 1 Q [] [(0, .int p1)] 0 []
  refine sj_iload_n C dM_outOf_0 0 rfl rfl ?_
  refine sj_sipush C dM_outOf_1 ks_1000 ?_
  refine sj_idiv C dM_outOf_4 kz_1000 ?_
  refine sj_sipush C dM_outOf_5 ks_1000 ?_
  refine sj_irem C dM_outOf_8 kz_1000 ?_
  cases hf
  exact hQ 9 _ dM_outOf_9
abbrev rM_reliefBy : Room := { frames := 4, cells := 0, slots := 0, locals := 95 }
set_option maxHeartbeats 4000000 in
set_option maxRecDepth 100000 in
theorem cM_reliefBy (l : Launch) (dC : Nat → ClassId) (dI : Nat → Nat → Nat) (cI cZ cB : ClassId) (g0 g1 g2 g3 g4 g5 g6 g7 g8 g9 g10 g11 : Nat) (gS gI gK gO gL gT gB gC gP gR gG : Nat → Int32) (gn : Int32) (p1 : Int32) (r : Int32) (gS' : Nat → Int32) (gO' : Nat → Int32) (gL' : Nat → Int32) (gT' : Nat → Int32) (gB' : Nat → Int32) (gn' : Int32) (hf : fM_reliefBy p1 gS gO gL gT gB gn = some (r, gS', gO', gL', gT', gB', gn')) : MI l yM_reliefBy wM_reliefBy rM_reliefBy (dC, dI) (tyl cI cZ cB) [Value.ref g0, Value.int p1] (wdM cI cZ cB g0 g1 g2 g3 g4 g5 g6 g7 g8 g9 g10 g11 gS gI gK gO gL gT gB gC gP gR gG gn) (wdM cI cZ cB g0 g1 g2 g3 g4 g5 g6 g7 g8 g9 g10 g11 gS' gI gK gO' gL' gT' gB' gC gP gR gG gn') r := by
  refine MI_of "StepColumnsModel" rfl (by decide) (Nat.le_of_ble_eq_true rfl) ?_
  intro p e s m below meth c A Q C hQ
  unfold fM_reliefBy at hf
  change SJ p l e rM_reliefBy s m (List.toArray [Value.ref g0, Value.int p1]) below meth c A (dC, dI) 5 Q (wdM cI cZ cB g0 g1 g2 g3 g4 g5 g6 g7 g8 g9 g10 g11 gS gI gK gO gL gT gB gC gP gR gG gn) [(0, .ref g0), (1, .int p1)] 0 []
  refine sj_aload_n C dM_reliefBy_0 0 rfl rfl ?_
  refine sj_get C nM_in 0 rfl rfl 0 (by decide) wd_435 rfl rfl dM_reliefBy_1 ?_
  refine sj_bipush C dM_reliefBy_4 kb_36 ?_
  refine sj_iload_n C dM_reliefBy_6 1 rfl rfl ?_
  refine sj_iadd C dM_reliefBy_7 ?_
  obtain ⟨h_8, hf⟩ := in_some hf
  refine sj_iald C 1 0 rfl rfl h_8 rfl dM_reliefBy_8 ?_
  refine sj_istore_n (lv' := [(2, .int (gS (36 + p1).toNatClampNeg)), (0, .ref g0), (1, .int p1)]) C dM_reliefBy_9 rfl (by decide) rfl ?_
  refine sj_aload_n C dM_reliefBy_10 1 rfl rfl ?_
  obtain ⟨r_11, gO_11, gL_11, gT_11, gB_11, gn_11, hq_11, hf⟩ := bd6_some hf
  refine sj_callVi (w1 := (wdM cI cZ cB g0 g1 g2 g3 g4 g5 g6 g7 g8 g9 g10 g11 gS gI gK gO_11 gL_11 gT_11 gB_11 gC gP gR gG gn_11)) (q0 := 0) C "StepColumnsModel" (cM_solve l dC dI cI cZ cB g0 g1 g2 g3 g4 g5 g6 g7 g8 g9 g10 g11 gS gI gK gO gL gT gB gC gP gR gG gn  r_11 gO_11 gL_11 gT_11 gB_11 gn_11 hq_11) wd_523 wd_525 wd_20 wd_39 wd_526 hM_solve rfl rfl ⟨Nat.le_of_ble_eq_true rfl, Nat.le_of_ble_eq_true rfl⟩ [0, 1, 2, 3, 4, 5, 6, 7, 8, 9, 10, 11] [] ⟨rfl, rfl, rfl, rfl, rfl, rfl, kv_12_0_1_2_3_4_5_6_7_8_9_10_11⟩ rfl rfl rfl rfl rfl (Nat.le_of_ble_eq_true rfl) dM_reliefBy_11 ?_
  obtain ⟨r_14, hq_14, hf⟩ := bd1_some hf
  refine sj_callSi (w1 := (wdM cI cZ cB g0 g1 g2 g3 g4 g5 g6 g7 g8 g9 g10 g11 gS gI gK gO_11 gL_11 gT_11 gB_11 gC gP gR gG gn_11)) C "StepColumnsModel" (cM_outOf l dC dI cI cZ cB   r_11 r_14 hq_14) wd_594 wd_595 wd_39 wd_596 hM_outOf rfl rfl ⟨Nat.le_of_ble_eq_true rfl, Nat.le_of_ble_eq_true rfl⟩ [] [0, 1, 2, 3, 4, 5, 6, 7, 8, 9, 10, 11] ⟨rfl, rfl, rfl, rfl, rfl, rfl, kv_12_⟩ rfl rfl (Nat.le_of_ble_eq_true rfl) dM_reliefBy_14 ?_
  refine sj_istore_n (lv' := [(3, .int r_14), (2, .int (gS (36 + p1).toNatClampNeg)), (0, .ref g0), (1, .int p1)]) C dM_reliefBy_17 rfl (by decide) rfl ?_
  refine sj_aload_n C dM_reliefBy_18 2 rfl rfl ?_
  refine sj_get C nM_in 0 rfl rfl 0 (by decide) wd_435 rfl rfl dM_reliefBy_19 ?_
  refine sj_bipush C dM_reliefBy_22 kb_36 ?_
  refine sj_iload_n C dM_reliefBy_24 3 rfl rfl ?_
  refine sj_iadd C dM_reliefBy_25 ?_
  refine sj_bipush C dM_reliefBy_26 kb_30 ?_
  obtain ⟨h_28, hf⟩ := in_some hf
  refine sj_iast (w' := (wdM cI cZ cB g0 g1 g2 g3 g4 g5 g6 g7 g8 g9 g10 g11 ((upd gS (36 + p1).toNatClampNeg 30)) gI gK gO_11 gL_11 gT_11 gB_11 gC gP gR gG gn_11)) C 1 0 rfl rfl h_28 rfl dM_reliefBy_28 rfl ?_
  refine sj_aload_n C dM_reliefBy_29 2 rfl rfl ?_
  obtain ⟨r_30, gO_30, gL_30, gT_30, gB_30, gn_30, hq_30, hf⟩ := bd6_some hf
  refine sj_callVi (w1 := (wdM cI cZ cB g0 g1 g2 g3 g4 g5 g6 g7 g8 g9 g10 g11 ((upd gS (36 + p1).toNatClampNeg 30)) gI gK gO_30 gL_30 gT_30 gB_30 gC gP gR gG gn_30)) (q0 := 0) C "StepColumnsModel" (cM_solve l dC dI cI cZ cB g0 g1 g2 g3 g4 g5 g6 g7 g8 g9 g10 g11 (upd gS (36 + p1).toNatClampNeg 30) gI gK gO_11 gL_11 gT_11 gB_11 gC gP gR gG gn_11  r_30 gO_30 gL_30 gT_30 gB_30 gn_30 hq_30) wd_523 wd_525 wd_20 wd_39 wd_526 hM_solve rfl rfl ⟨Nat.le_of_ble_eq_true rfl, Nat.le_of_ble_eq_true rfl⟩ [0, 1, 2, 3, 4, 5, 6, 7, 8, 9, 10, 11] [] ⟨rfl, rfl, rfl, rfl, rfl, rfl, kv_12_0_1_2_3_4_5_6_7_8_9_10_11⟩ rfl rfl rfl rfl rfl (Nat.le_of_ble_eq_true rfl) dM_reliefBy_30 ?_
  obtain ⟨r_33, hq_33, hf⟩ := bd1_some hf
  refine sj_callSi (w1 := (wdM cI cZ cB g0 g1 g2 g3 g4 g5 g6 g7 g8 g9 g10 g11 ((upd gS (36 + p1).toNatClampNeg 30)) gI gK gO_30 gL_30 gT_30 gB_30 gC gP gR gG gn_30)) C "StepColumnsModel" (cM_outOf l dC dI cI cZ cB   r_30 r_33 hq_33) wd_594 wd_595 wd_39 wd_596 hM_outOf rfl rfl ⟨Nat.le_of_ble_eq_true rfl, Nat.le_of_ble_eq_true rfl⟩ [] [0, 1, 2, 3, 4, 5, 6, 7, 8, 9, 10, 11] ⟨rfl, rfl, rfl, rfl, rfl, rfl, kv_12_⟩ rfl rfl (Nat.le_of_ble_eq_true rfl) dM_reliefBy_33 ?_
  refine sj_istore (lv' := [(4, .int r_33), (3, .int r_14), (2, .int (gS (36 + p1).toNatClampNeg)), (0, .ref g0), (1, .int p1)]) C dM_reliefBy_36 (by decide) rfl ?_
  refine sj_aload_n C dM_reliefBy_38 3 rfl rfl ?_
  refine sj_get C nM_in 0 rfl rfl 0 (by decide) wd_435 rfl rfl dM_reliefBy_39 ?_
  refine sj_bipush C dM_reliefBy_42 kb_36 ?_
  refine sj_iload_n C dM_reliefBy_44 4 rfl rfl ?_
  refine sj_iadd C dM_reliefBy_45 ?_
  refine sj_iload_n C dM_reliefBy_46 2 rfl rfl ?_
  obtain ⟨h_47, hf⟩ := in_some hf
  refine sj_iast (w' := (wdM cI cZ cB g0 g1 g2 g3 g4 g5 g6 g7 g8 g9 g10 g11 ((upd (upd gS (36 + p1).toNatClampNeg 30) (36 + p1).toNatClampNeg (gS (36 + p1).toNatClampNeg))) gI gK gO_30 gL_30 gT_30 gB_30 gC gP gR gG gn_30)) C 1 0 rfl rfl h_47 rfl dM_reliefBy_47 rfl ?_
  refine sj_iload_n C dM_reliefBy_48 1 rfl rfl ?_
  refine sj_iload C dM_reliefBy_49 0 rfl ?_
  refine sj_isub C dM_reliefBy_51 ?_
  cases hf
  exact hQ 52 _ dM_reliefBy_52
abbrev rM_relief : Room := { frames := 5, cells := 0, slots := 0, locals := 119 }
set_option maxHeartbeats 4000000 in
set_option maxRecDepth 100000 in
theorem cM_relief (l : Launch) (dC : Nat → ClassId) (dI : Nat → Nat → Nat) (cI cZ cB : ClassId) (g0 g1 g2 g3 g4 g5 g6 g7 g8 g9 g10 g11 : Nat) (gS gI gK gO gL gT gB gC gP gR gG : Nat → Int32) (gn : Int32) (p1 : Int32) (r : Int32) (gS' : Nat → Int32) (gO' : Nat → Int32) (gL' : Nat → Int32) (gT' : Nat → Int32) (gB' : Nat → Int32) (gn' : Int32) (hf : fM_relief p1 gS gO gL gT gB gn = some (r, gS', gO', gL', gT', gB', gn')) : MI l yM_relief wM_relief rM_relief (dC, dI) (tyl cI cZ cB) [Value.ref g0, Value.int p1] (wdM cI cZ cB g0 g1 g2 g3 g4 g5 g6 g7 g8 g9 g10 g11 gS gI gK gO gL gT gB gC gP gR gG gn) (wdM cI cZ cB g0 g1 g2 g3 g4 g5 g6 g7 g8 g9 g10 g11 gS' gI gK gO' gL' gT' gB' gC gP gR gG gn') r := by
  refine MI_of "StepColumnsModel" rfl (by decide) (Nat.le_of_ble_eq_true rfl) ?_
  intro p e s m below meth c A Q C hQ
  have hb_43 : ∀ (t0 : Int32) (gS gO gL gT gB : Nat → Int32) (gn : Int32), fM_relief_b43 t0 gS gO gL gT gB gn = some (r, gS', gO', gL', gT', gB', gn') → SJ p l e rM_relief s m (List.toArray [Value.ref g0, Value.int p1]) below meth c A (dC, dI) 2 Q (wdM cI cZ cB g0 g1 g2 g3 g4 g5 g6 g7 g8 g9 g10 g11 gS gI gK gO gL gT gB gC gP gR gG gn) [] 43 [.int t0] := by
    intro t0 gS gO gL gT gB gn hf
    unfold fM_relief_b43 at hf
    cases hf
    exact hQ 43 _ dM_relief_43
  unfold fM_relief at hf
  change SJ p l e rM_relief s m (List.toArray [Value.ref g0, Value.int p1]) below meth c A (dC, dI) 2 Q (wdM cI cZ cB g0 g1 g2 g3 g4 g5 g6 g7 g8 g9 g10 g11 gS gI gK gO gL gT gB gC gP gR gG gn) [(0, .ref g0), (1, .int p1)] 0 []
  refine sj_aload_n C dM_relief_0 0 rfl rfl ?_
  refine sj_iload_n C dM_relief_1 1 rfl rfl ?_
  obtain ⟨r_2, hq_2, hf⟩ := bd1_some hf
  refine sj_callVi (w1 := (wdM cI cZ cB g0 g1 g2 g3 g4 g5 g6 g7 g8 g9 g10 g11 gS gI gK gO gL gT gB gC gP gR gG gn)) (q0 := 0) C "StepColumnsModel" (cM_isItem l dC dI cI cZ cB g0 g1 g2 g3 g4 g5 g6 g7 g8 g9 g10 g11 gS gI gK gO gL gT gB gC gP gR gG gn p1 r_2 hq_2) wd_487 wd_489 wd_16 wd_39 wd_490 hM_isItem rfl rfl ⟨Nat.le_of_ble_eq_true rfl, Nat.le_of_ble_eq_true rfl⟩ [0, 1, 2, 3, 4, 5, 6, 7, 8, 9, 10, 11] [] ⟨rfl, rfl, rfl, rfl, rfl, rfl, kv_12_0_1_2_3_4_5_6_7_8_9_10_11⟩ rfl rfl rfl rfl rfl (Nat.le_of_ble_eq_true rfl) dM_relief_2 ?_
  refine sj_if_ne C 10 dM_relief_5 (by decide) (fun c_5 => ?_) (fun c_5 => ?_)
  · have hf := (if_neg c_5).symm.trans hf
    refine sj_aload_n C dM_relief_10 0 rfl rfl ?_
    refine sj_get C nM_in 0 rfl rfl 0 (by decide) wd_435 rfl rfl dM_relief_11 ?_
    refine sj_iload_n C dM_relief_14 1 rfl rfl ?_
    obtain ⟨h_15, hf⟩ := in_some hf
    refine sj_iald C 1 0 rfl rfl h_15 rfl dM_relief_15 ?_
    refine sj_if_ne C 22 dM_relief_16 (by decide) (fun c_16 => ?_) (fun c_16 => ?_)
    · have hf := (if_neg c_16).symm.trans hf
      refine sj_aload_n C dM_relief_22 0 rfl rfl ?_
      obtain ⟨r_23, gO_23, gL_23, gT_23, gB_23, gn_23, hq_23, hf⟩ := bd6_some hf
      refine sj_callVi (w1 := (wdM cI cZ cB g0 g1 g2 g3 g4 g5 g6 g7 g8 g9 g10 g11 gS gI gK gO_23 gL_23 gT_23 gB_23 gC gP gR gG gn_23)) (q0 := 0) C "StepColumnsModel" (cM_solve l dC dI cI cZ cB g0 g1 g2 g3 g4 g5 g6 g7 g8 g9 g10 g11 gS gI gK gO gL gT gB gC gP gR gG gn  r_23 gO_23 gL_23 gT_23 gB_23 gn_23 hq_23) wd_523 wd_525 wd_20 wd_39 wd_526 hM_solve rfl rfl ⟨Nat.le_of_ble_eq_true rfl, Nat.le_of_ble_eq_true rfl⟩ [0, 1, 2, 3, 4, 5, 6, 7, 8, 9, 10, 11] [] ⟨rfl, rfl, rfl, rfl, rfl, rfl, kv_12_0_1_2_3_4_5_6_7_8_9_10_11⟩ rfl rfl rfl rfl rfl (Nat.le_of_ble_eq_true rfl) dM_relief_23 ?_
      refine sj_if_ge C 34 dM_relief_26 (by decide) (fun c_26 => ?_) (fun c_26 => ?_)
      · have hf := (if_pos c_26).symm.trans hf
        refine sj_sipush C dM_relief_34 ks_1000 ?_
        refine sj_aload_n C dM_relief_37 0 rfl rfl ?_
        refine sj_iload_n C dM_relief_38 1 rfl rfl ?_
        obtain ⟨r_39, gS_39, gO_39, gL_39, gT_39, gB_39, gn_39, hq_39, hf⟩ := bd7_some hf
        refine sj_callVi (w1 := (wdM cI cZ cB g0 g1 g2 g3 g4 g5 g6 g7 g8 g9 g10 g11 gS_39 gI gK gO_39 gL_39 gT_39 gB_39 gC gP gR gG gn_39)) (q0 := 0) C "StepColumnsModel" (cM_reliefBy l dC dI cI cZ cB g0 g1 g2 g3 g4 g5 g6 g7 g8 g9 g10 g11 gS gI gK gO_23 gL_23 gT_23 gB_23 gC gP gR gG gn_23 p1 r_39 gS_39 gO_39 gL_39 gT_39 gB_39 gn_39 hq_39) wd_590 wd_592 wd_31 wd_39 wd_593 hM_reliefBy rfl rfl ⟨Nat.le_of_ble_eq_true rfl, Nat.le_of_ble_eq_true rfl⟩ [0, 1, 2, 3, 4, 5, 6, 7, 8, 9, 10, 11] [] ⟨rfl, rfl, rfl, rfl, rfl, rfl, kv_12_0_1_2_3_4_5_6_7_8_9_10_11⟩ rfl rfl rfl rfl rfl (Nat.le_of_ble_eq_true rfl) dM_relief_39 ?_
        refine sj_iadd C dM_relief_42 ?_
        exact sj_lv [] rfl (hb_43 (1000 + r_39) gS_39 gO_39 gL_39 gT_39 gB_39 gn_39 hf)
      · have hf := (if_neg c_26).symm.trans hf
        refine sj_bipush C dM_relief_29 kb_m6 ?_
        refine sj_goto C 43 dM_relief_31 (by decide) ?_
        exact sj_lv [] rfl (hb_43 (-6) gS gO_23 gL_23 gT_23 gB_23 gn_23 hf)
    · have hf := (if_pos c_16).symm.trans hf
      refine sj_bipush C dM_relief_19 kb_m2 ?_
      cases hf
      exact hQ 21 _ dM_relief_21
  · have hf := (if_pos c_5).symm.trans hf
    refine sj_iconst C dM_relief_8 ki_m1 ?_
    cases hf
    exact hQ 9 _ dM_relief_9
abbrev rM_culprit : Room := { frames := 5, cells := 0, slots := 0, locals := 119 }
set_option maxHeartbeats 4000000 in
set_option maxRecDepth 100000 in
theorem cM_culprit (l : Launch) (dC : Nat → ClassId) (dI : Nat → Nat → Nat) (cI cZ cB : ClassId) (g0 g1 g2 g3 g4 g5 g6 g7 g8 g9 g10 g11 : Nat) (gS gI gK gO gL gT gB gC gP gR gG : Nat → Int32) (gn : Int32) (r : Int32) (gS' : Nat → Int32) (gO' : Nat → Int32) (gL' : Nat → Int32) (gT' : Nat → Int32) (gB' : Nat → Int32) (gn' : Int32) (hf : fM_culprit gS gO gL gT gB gn = some (r, gS', gO', gL', gT', gB', gn')) : MI l yM_culprit wM_culprit rM_culprit (dC, dI) (tyl cI cZ cB) [Value.ref g0] (wdM cI cZ cB g0 g1 g2 g3 g4 g5 g6 g7 g8 g9 g10 g11 gS gI gK gO gL gT gB gC gP gR gG gn) (wdM cI cZ cB g0 g1 g2 g3 g4 g5 g6 g7 g8 g9 g10 g11 gS' gI gK gO' gL' gT' gB' gC gP gR gG gn') r := by
  refine MI_of "StepColumnsModel" rfl (by decide) (Nat.le_of_ble_eq_true rfl) ?_
  intro p e s m below meth c A Q C hQ
  have hb_72 : ∀ (K17 : Int32 → Int32 → Int32 → (Nat → Int32) → (Nat → Int32) → (Nat → Int32) → (Nat → Int32) → (Nat → Int32) → Int32 → Option (Int32 × (Nat → Int32) × (Nat → Int32) × (Nat → Int32) × (Nat → Int32) × (Nat → Int32) × Int32)) (hK17 : ∀ (v1 v2 v3 : Int32) (gS gO gL gT gB : Nat → Int32) (gn : Int32), K17 v1 v2 v3 gS gO gL gT gB gn = some (r, gS', gO', gL', gT', gB', gn') → SJ p l e rM_culprit s m (List.toArray [Value.ref g0]) below meth c A (dC, dI) 5 Q (wdM cI cZ cB g0 g1 g2 g3 g4 g5 g6 g7 g8 g9 g10 g11 gS gI gK gO gL gT gB gC gP gR gG gn) [(0, .ref g0), (1, .int v1), (2, .int v2), (3, .int v3)] 17 []) (v1 v3 t0 : Int32) (gS gO gL gT gB : Nat → Int32) (gn : Int32), fM_culprit_b72 K17 v1 v3 t0 gS gO gL gT gB gn = some (r, gS', gO', gL', gT', gB', gn') → SJ p l e rM_culprit s m (List.toArray [Value.ref g0]) below meth c A (dC, dI) 5 Q (wdM cI cZ cB g0 g1 g2 g3 g4 g5 g6 g7 g8 g9 g10 g11 gS gI gK gO gL gT gB gC gP gR gG gn) [(0, .ref g0), (1, .int v1), (3, .int v3)] 72 [.int t0] := by
    intro K17 hK17 v1 v3 t0 gS gO gL gT gB gn hf
    unfold fM_culprit_b72 at hf
    refine sj_istore_n (lv' := [(2, .int t0), (0, .ref g0), (1, .int v1), (3, .int v3)]) C dM_culprit_72 rfl (by decide) rfl ?_
    refine sj_iinc (v := (v3 + 1)) (lv' := [(3, .int (v3 + 1)), (2, .int t0), (0, .ref g0), (1, .int v1)]) C dM_culprit_73 3 rfl (by rw [ki_1]) (by decide) rfl ?_
    refine sj_goto C 17 dM_culprit_76 (by decide) ?_
    exact sj_lv [2, 3, 1, 0] rfl (hK17 v1 t0 (v3 + 1) gS gO gL gT gB gn hf)
  have hb_59 : ∀ (K17 : Int32 → Int32 → Int32 → (Nat → Int32) → (Nat → Int32) → (Nat → Int32) → (Nat → Int32) → (Nat → Int32) → Int32 → Option (Int32 × (Nat → Int32) × (Nat → Int32) × (Nat → Int32) × (Nat → Int32) × (Nat → Int32) × Int32)) (hK17 : ∀ (v1 v2 v3 : Int32) (gS gO gL gT gB : Nat → Int32) (gn : Int32), K17 v1 v2 v3 gS gO gL gT gB gn = some (r, gS', gO', gL', gT', gB', gn') → SJ p l e rM_culprit s m (List.toArray [Value.ref g0]) below meth c A (dC, dI) 5 Q (wdM cI cZ cB g0 g1 g2 g3 g4 g5 g6 g7 g8 g9 g10 g11 gS gI gK gO gL gT gB gC gP gR gG gn) [(0, .ref g0), (1, .int v1), (2, .int v2), (3, .int v3)] 17 []) (v2 v3 v4 t0 : Int32) (gS gO gL gT gB : Nat → Int32) (gn : Int32), fM_culprit_b59 K17 v2 v3 v4 t0 gS gO gL gT gB gn = some (r, gS', gO', gL', gT', gB', gn') → SJ p l e rM_culprit s m (List.toArray [Value.ref g0]) below meth c A (dC, dI) 5 Q (wdM cI cZ cB g0 g1 g2 g3 g4 g5 g6 g7 g8 g9 g10 g11 gS gI gK gO gL gT gB gC gP gR gG gn) [(0, .ref g0), (2, .int v2), (3, .int v3), (4, .int v4)] 59 [.int t0] := by
    intro K17 hK17 v2 v3 v4 t0 gS gO gL gT gB gn hf
    unfold fM_culprit_b59 at hf
    refine sj_istore_n (lv' := [(1, .int t0), (0, .ref g0), (2, .int v2), (3, .int v3), (4, .int v4)]) C dM_culprit_59 rfl (by decide) rfl ?_
    refine sj_iload C dM_culprit_60 4 rfl ?_
    refine sj_iload_n C dM_culprit_62 2 rfl rfl ?_
    refine sj_icmp_le C 71 dM_culprit_63 (by decide) (fun c_63 => ?_) (fun c_63 => ?_)
    · have hf := (if_pos c_63).symm.trans hf
      refine sj_iload_n C dM_culprit_71 2 rfl rfl ?_
      exact sj_lv [1, 0, 3] rfl (hb_72 K17 hK17 t0 v3 v2 gS gO gL gT gB gn hf)
    · have hf := (if_neg c_63).symm.trans hf
      refine sj_iload C dM_culprit_66 4 rfl ?_
      refine sj_goto C 72 dM_culprit_68 (by decide) ?_
      exact sj_lv [1, 0, 3] rfl (hb_72 K17 hK17 t0 v3 v4 gS gO gL gT gB gn hf)
  have hb_46 : ∀ (K17 : Int32 → Int32 → Int32 → (Nat → Int32) → (Nat → Int32) → (Nat → Int32) → (Nat → Int32) → (Nat → Int32) → Int32 → Option (Int32 × (Nat → Int32) × (Nat → Int32) × (Nat → Int32) × (Nat → Int32) × (Nat → Int32) × Int32)) (hK17 : ∀ (v1 v2 v3 : Int32) (gS gO gL gT gB : Nat → Int32) (gn : Int32), K17 v1 v2 v3 gS gO gL gT gB gn = some (r, gS', gO', gL', gT', gB', gn') → SJ p l e rM_culprit s m (List.toArray [Value.ref g0]) below meth c A (dC, dI) 5 Q (wdM cI cZ cB g0 g1 g2 g3 g4 g5 g6 g7 g8 g9 g10 g11 gS gI gK gO gL gT gB gC gP gR gG gn) [(0, .ref g0), (1, .int v1), (2, .int v2), (3, .int v3)] 17 []) (v1 v2 v3 t0 : Int32) (gS gO gL gT gB : Nat → Int32) (gn : Int32), fM_culprit_b46 K17 v1 v2 v3 t0 gS gO gL gT gB gn = some (r, gS', gO', gL', gT', gB', gn') → SJ p l e rM_culprit s m (List.toArray [Value.ref g0]) below meth c A (dC, dI) 5 Q (wdM cI cZ cB g0 g1 g2 g3 g4 g5 g6 g7 g8 g9 g10 g11 gS gI gK gO gL gT gB gC gP gR gG gn) [(0, .ref g0), (1, .int v1), (2, .int v2), (3, .int v3)] 46 [.int t0] := by
    intro K17 hK17 v1 v2 v3 t0 gS gO gL gT gB gn hf
    unfold fM_culprit_b46 at hf
    refine sj_istore (lv' := [(4, .int t0), (0, .ref g0), (1, .int v1), (2, .int v2), (3, .int v3)]) C dM_culprit_46 (by decide) rfl ?_
    refine sj_iload C dM_culprit_48 0 rfl ?_
    refine sj_iload_n C dM_culprit_50 3 rfl rfl ?_
    refine sj_icmp_le C 58 dM_culprit_51 (by decide) (fun c_51 => ?_) (fun c_51 => ?_)
    · have hf := (if_pos c_51).symm.trans hf
      refine sj_iload_n C dM_culprit_58 2 rfl rfl ?_
      exact sj_lv [1, 3, 4, 0] rfl (hb_59 K17 hK17 v2 v3 t0 v1 gS gO gL gT gB gn hf)
    · have hf := (if_neg c_51).symm.trans hf
      refine sj_iload_n C dM_culprit_54 4 rfl rfl ?_
      refine sj_goto C 59 dM_culprit_55 (by decide) ?_
      exact sj_lv [1, 3, 4, 0] rfl (hb_59 K17 hK17 v2 v3 t0 v3 gS gO gL gT gB gn hf)
  have hb_17 : ∀ (n : Nat) (v1 v2 v3 : Int32) (gS gO gL gT gB : Nat → Int32) (gn : Int32), fM_culprit_b17 n v1 v2 v3 gS gO gL gT gB gn = some (r, gS', gO', gL', gT', gB', gn') → SJ p l e rM_culprit s m (List.toArray [Value.ref g0]) below meth c A (dC, dI) 5 Q (wdM cI cZ cB g0 g1 g2 g3 g4 g5 g6 g7 g8 g9 g10 g11 gS gI gK gO gL gT gB gC gP gR gG gn) [(0, .ref g0), (1, .int v1), (2, .int v2), (3, .int v3)] 17 [] := by
    intro n
    induction n with
    | zero => intro v1 v2 v3 gS gO gL gT gB gn hf; cases hf
    | succ n IH =>
      intro v1 v2 v3 gS gO gL gT gB gn hf
      unfold fM_culprit_b17 at hf
      refine sj_iload_n C dM_culprit_17 3 rfl rfl ?_
      refine sj_aload_n C dM_culprit_18 0 rfl rfl ?_
      refine sj_get C nM_in 0 rfl rfl 0 (by decide) wd_435 rfl rfl dM_culprit_19 ?_
      refine sj_bipush C dM_culprit_22 kb_50 ?_
      refine sj_iald C 1 0 rfl rfl kn_50_51 kc_50 dM_culprit_24 ?_
      refine sj_icmp_ge C 79 dM_culprit_25 (by decide) (fun c_25 => ?_) (fun c_25 => ?_)
      · have hf := (if_pos c_25).symm.trans hf
        refine sj_iload_n C dM_culprit_79 1 rfl rfl ?_
        cases hf
        exact hQ 80 _ dM_culprit_80
      · have hf := (if_neg c_25).symm.trans hf
        refine sj_aload_n C dM_culprit_28 0 rfl rfl ?_
        refine sj_get C nM_in 0 rfl rfl 0 (by decide) wd_435 rfl rfl dM_culprit_29 ?_
        refine sj_iload_n C dM_culprit_32 3 rfl rfl ?_
        obtain ⟨h_33, hf⟩ := in_some hf
        refine sj_iald C 1 0 rfl rfl h_33 rfl dM_culprit_33 ?_
        refine sj_if_ne C 41 dM_culprit_34 (by decide) (fun c_34 => ?_) (fun c_34 => ?_)
        · have hf := (if_neg c_34).symm.trans hf
          refine sj_aload_n C dM_culprit_41 0 rfl rfl ?_
          refine sj_iload_n C dM_culprit_42 3 rfl rfl ?_
          obtain ⟨r_43, gS_43, gO_43, gL_43, gT_43, gB_43, gn_43, hq_43, hf⟩ := bd7_some hf
          refine sj_callVi (w1 := (wdM cI cZ cB g0 g1 g2 g3 g4 g5 g6 g7 g8 g9 g10 g11 gS_43 gI gK gO_43 gL_43 gT_43 gB_43 gC gP gR gG gn_43)) (q0 := 0) C "StepColumnsModel" (cM_reliefBy l dC dI cI cZ cB g0 g1 g2 g3 g4 g5 g6 g7 g8 g9 g10 g11 gS gI gK gO gL gT gB gC gP gR gG gn v3 r_43 gS_43 gO_43 gL_43 gT_43 gB_43 gn_43 hq_43) wd_590 wd_592 wd_31 wd_39 wd_593 hM_reliefBy rfl rfl ⟨Nat.le_of_ble_eq_true rfl, Nat.le_of_ble_eq_true rfl⟩ [0, 1, 2, 3, 4, 5, 6, 7, 8, 9, 10, 11] [] ⟨rfl, rfl, rfl, rfl, rfl, rfl, kv_12_0_1_2_3_4_5_6_7_8_9_10_11⟩ rfl rfl rfl rfl rfl (Nat.le_of_ble_eq_true rfl) dM_culprit_43 ?_
          exact sj_lv [0, 1, 2, 3] rfl (hb_46 (fM_culprit_b17 n) IH v1 v2 v3 r_43 gS_43 gO_43 gL_43 gT_43 gB_43 gn_43 hf)
        · have hf := (if_pos c_34).symm.trans hf
          refine sj_iconst C dM_culprit_37 ki_0 ?_
          refine sj_goto C 46 dM_culprit_38 (by decide) ?_
          exact sj_lv [0, 1, 2, 3] rfl (hb_46 (fM_culprit_b17 n) IH v1 v2 v3 0 gS gO gL gT gB gn hf)
  unfold fM_culprit at hf
  change SJ p l e rM_culprit s m (List.toArray [Value.ref g0]) below meth c A (dC, dI) 5 Q (wdM cI cZ cB g0 g1 g2 g3 g4 g5 g6 g7 g8 g9 g10 g11 gS gI gK gO gL gT gB gC gP gR gG gn) [(0, .ref g0)] 0 []
  refine sj_aload_n C dM_culprit_0 0 rfl rfl ?_
  obtain ⟨r_1, gO_1, gL_1, gT_1, gB_1, gn_1, hq_1, hf⟩ := bd6_some hf
  refine sj_callVi (w1 := (wdM cI cZ cB g0 g1 g2 g3 g4 g5 g6 g7 g8 g9 g10 g11 gS gI gK gO_1 gL_1 gT_1 gB_1 gC gP gR gG gn_1)) (q0 := 0) C "StepColumnsModel" (cM_solve l dC dI cI cZ cB g0 g1 g2 g3 g4 g5 g6 g7 g8 g9 g10 g11 gS gI gK gO gL gT gB gC gP gR gG gn  r_1 gO_1 gL_1 gT_1 gB_1 gn_1 hq_1) wd_523 wd_525 wd_20 wd_39 wd_526 hM_solve rfl rfl ⟨Nat.le_of_ble_eq_true rfl, Nat.le_of_ble_eq_true rfl⟩ [0, 1, 2, 3, 4, 5, 6, 7, 8, 9, 10, 11] [] ⟨rfl, rfl, rfl, rfl, rfl, rfl, kv_12_0_1_2_3_4_5_6_7_8_9_10_11⟩ rfl rfl rfl rfl rfl (Nat.le_of_ble_eq_true rfl) dM_culprit_1 ?_
  refine sj_if_ge C 10 dM_culprit_4 (by decide) (fun c_4 => ?_) (fun c_4 => ?_)
  · have hf := (if_pos c_4).symm.trans hf
    refine sj_bipush C dM_culprit_10 kb_m6 ?_
    refine sj_istore_n (lv' := [(1, .int (-6)), (0, .ref g0)]) C dM_culprit_12 rfl (by decide) rfl ?_
    refine sj_iconst C dM_culprit_13 ki_0 ?_
    refine sj_istore_n (lv' := [(2, .int 0), (1, .int (-6)), (0, .ref g0)]) C dM_culprit_14 rfl (by decide) rfl ?_
    refine sj_iconst C dM_culprit_15 ki_0 ?_
    refine sj_istore_n (lv' := [(3, .int 0), (2, .int 0), (1, .int (-6)), (0, .ref g0)]) C dM_culprit_16 rfl (by decide) rfl ?_
    exact sj_lv [3, 2, 1, 0] rfl (hb_17 fu (-6) 0 0 gS gO_1 gL_1 gT_1 gB_1 gn_1 hf)
  · have hf := (if_neg c_4).symm.trans hf
    refine sj_bipush C dM_culprit_7 kb_m6 ?_
    cases hf
    exact hQ 9 _ dM_culprit_9
abbrev rM_fits : Room := { frames := 4, cells := 0, slots := 0, locals := 95 }
set_option maxHeartbeats 4000000 in
set_option maxRecDepth 100000 in
theorem cM_fits (l : Launch) (dC : Nat → ClassId) (dI : Nat → Nat → Nat) (cI cZ cB : ClassId) (g0 g1 g2 g3 g4 g5 g6 g7 g8 g9 g10 g11 : Nat) (gS gI gK gO gL gT gB gC gP gR gG : Nat → Int32) (gn : Int32) (p1 p2 : Int32) (r : Int32) (gS' : Nat → Int32) (gO' : Nat → Int32) (gL' : Nat → Int32) (gT' : Nat → Int32) (gB' : Nat → Int32) (gn' : Int32) (hf : fM_fits p1 p2 gS gO gL gT gB gn = some (r, gS', gO', gL', gT', gB', gn')) : MI l yM_fits wM_fits rM_fits (dC, dI) (tyl cI cZ cB) [Value.ref g0, Value.int p1, Value.int p2] (wdM cI cZ cB g0 g1 g2 g3 g4 g5 g6 g7 g8 g9 g10 g11 gS gI gK gO gL gT gB gC gP gR gG gn) (wdM cI cZ cB g0 g1 g2 g3 g4 g5 g6 g7 g8 g9 g10 g11 gS' gI gK gO' gL' gT' gB' gC gP gR gG gn') r := by
  refine MZ_of "StepColumnsModel" rfl (by decide) (Nat.le_of_ble_eq_true rfl) ?_
  intro p e s m below meth c A Q C hQ
  have hb_49 : ∀ (t0 : Int32) (gS gO gL gT gB : Nat → Int32) (gn : Int32), fM_fits_b49 t0 gS gO gL gT gB gn = some (r, gS', gO', gL', gT', gB', gn') → SJ p l e rM_fits s m (List.toArray [Value.ref g0, Value.int p1, Value.int p2]) below meth c A (dC, dI) 5 Q (wdM cI cZ cB g0 g1 g2 g3 g4 g5 g6 g7 g8 g9 g10 g11 gS gI gK gO gL gT gB gC gP gR gG gn) [] 49 [.int t0] := by
    intro t0 gS gO gL gT gB gn hf
    unfold fM_fits_b49 at hf
    obtain ⟨h_49, hf⟩ := in_some hf
    cases hf
    exact hQ 49 _ (Decidable.not_not.mp h_49) dM_fits_49
  have hb_48 : ∀ (gS gO gL gT gB : Nat → Int32) (gn : Int32), fM_fits_b48 gS gO gL gT gB gn = some (r, gS', gO', gL', gT', gB', gn') → SJ p l e rM_fits s m (List.toArray [Value.ref g0, Value.int p1, Value.int p2]) below meth c A (dC, dI) 5 Q (wdM cI cZ cB g0 g1 g2 g3 g4 g5 g6 g7 g8 g9 g10 g11 gS gI gK gO gL gT gB gC gP gR gG gn) [] 48 [] := by
    intro gS gO gL gT gB gn hf
    unfold fM_fits_b48 at hf
    refine sj_iconst C dM_fits_48 ki_0 ?_
    exact sj_lv [] rfl (hb_49 0 gS gO gL gT gB gn hf)
  unfold fM_fits at hf
  change SJ p l e rM_fits s m (List.toArray [Value.ref g0, Value.int p1, Value.int p2]) below meth c A (dC, dI) 5 Q (wdM cI cZ cB g0 g1 g2 g3 g4 g5 g6 g7 g8 g9 g10 g11 gS gI gK gO gL gT gB gC gP gR gG gn) [(0, .ref g0), (1, .int p1), (2, .int p2)] 0 []
  refine sj_aload_n C dM_fits_0 0 rfl rfl ?_
  refine sj_get C nM_in 0 rfl rfl 0 (by decide) wd_435 rfl rfl dM_fits_1 ?_
  refine sj_bipush C dM_fits_4 kb_49 ?_
  refine sj_iald C 1 0 rfl rfl kn_49_51 kc_49 dM_fits_6 ?_
  refine sj_istore_n (lv' := [(3, .int (gS 49)), (0, .ref g0), (1, .int p1), (2, .int p2)]) C dM_fits_7 rfl (by decide) rfl ?_
  refine sj_aload_n C dM_fits_8 1 rfl rfl ?_
  refine sj_get C nM_in 0 rfl rfl 0 (by decide) wd_435 rfl rfl dM_fits_9 ?_
  refine sj_bipush C dM_fits_12 kb_49 ?_
  refine sj_iload_n C dM_fits_14 3 rfl rfl ?_
  refine sj_iast (w' := (wdM cI cZ cB g0 g1 g2 g3 g4 g5 g6 g7 g8 g9 g10 g11 ((upd gS 49 p2)) gI gK gO gL gT gB gC gP gR gG gn)) C 1 0 rfl rfl kn_49_51 kc_49 dM_fits_15 rfl ?_
  refine sj_aload_n C dM_fits_16 1 rfl rfl ?_
  obtain ⟨r_17, gO_17, gL_17, gT_17, gB_17, gn_17, hq_17, hf⟩ := bd6_some hf
  refine sj_callVi (w1 := (wdM cI cZ cB g0 g1 g2 g3 g4 g5 g6 g7 g8 g9 g10 g11 ((upd gS 49 p2)) gI gK gO_17 gL_17 gT_17 gB_17 gC gP gR gG gn_17)) (q0 := 0) C "StepColumnsModel" (cM_solve l dC dI cI cZ cB g0 g1 g2 g3 g4 g5 g6 g7 g8 g9 g10 g11 (upd gS 49 p2) gI gK gO gL gT gB gC gP gR gG gn  r_17 gO_17 gL_17 gT_17 gB_17 gn_17 hq_17) wd_523 wd_525 wd_20 wd_39 wd_526 hM_solve rfl rfl ⟨Nat.le_of_ble_eq_true rfl, Nat.le_of_ble_eq_true rfl⟩ [0, 1, 2, 3, 4, 5, 6, 7, 8, 9, 10, 11] [] ⟨rfl, rfl, rfl, rfl, rfl, rfl, kv_12_0_1_2_3_4_5_6_7_8_9_10_11⟩ rfl rfl rfl rfl rfl (Nat.le_of_ble_eq_true rfl) dM_fits_17 ?_
  refine sj_istore (lv' := [(4, .int r_17), (3, .int (gS 49)), (0, .ref g0), (1, .int p1), (2, .int p2)]) C dM_fits_20 (by decide) rfl ?_
  refine sj_aload_n C dM_fits_22 2 rfl rfl ?_
  refine sj_get C nM_in 0 rfl rfl 0 (by decide) wd_435 rfl rfl dM_fits_23 ?_
  refine sj_bipush C dM_fits_26 kb_49 ?_
  refine sj_iload_n C dM_fits_28 1 rfl rfl ?_
  refine sj_iast (w' := (wdM cI cZ cB g0 g1 g2 g3 g4 g5 g6 g7 g8 g9 g10 g11 ((upd (upd gS 49 p2) 49 (gS 49))) gI gK gO_17 gL_17 gT_17 gB_17 gC gP gR gG gn_17)) C 1 0 rfl rfl kn_49_51 kc_49 dM_fits_29 rfl ?_
  refine sj_iload C dM_fits_30 0 rfl ?_
  refine sj_if_lt C 48 dM_fits_32 (by decide) (fun c_32 => ?_) (fun c_32 => ?_)
  · have hf := (if_pos c_32).symm.trans hf
    exact sj_lv [] rfl (hb_48 (upd (upd gS 49 p2) 49 (gS 49)) gO_17 gL_17 gT_17 gB_17 gn_17 hf)
  · have hf := (if_neg c_32).symm.trans hf
    refine sj_iload C dM_fits_35 0 rfl ?_
    refine sj_ldc C wd_546 dM_fits_37 ?_
    refine sj_idiv C dM_fits_39 kz_1000000 ?_
    refine sj_iload_n C dM_fits_40 3 rfl rfl ?_
    refine sj_icmp_gt C 48 dM_fits_41 (by decide) (fun c_41 => ?_) (fun c_41 => ?_)
    · have hf := (if_pos c_41).symm.trans hf
      exact sj_lv [] rfl (hb_48 (upd (upd gS 49 p2) 49 (gS 49)) gO_17 gL_17 gT_17 gB_17 gn_17 hf)
    · have hf := (if_neg c_41).symm.trans hf
      refine sj_iconst C dM_fits_44 ki_1 ?_
      refine sj_goto C 49 dM_fits_45 (by decide) ?_
      exact sj_lv [] rfl (hb_49 1 (upd (upd gS 49 p2) 49 (gS 49)) gO_17 gL_17 gT_17 gB_17 gn_17 hf)
abbrev rM_fit : Room := { frames := 5, cells := 0, slots := 0, locals := 119 }
set_option maxHeartbeats 4000000 in
set_option maxRecDepth 100000 in
theorem cM_fit (l : Launch) (dC : Nat → ClassId) (dI : Nat → Nat → Nat) (cI cZ cB : ClassId) (g0 g1 g2 g3 g4 g5 g6 g7 g8 g9 g10 g11 : Nat) (gS gI gK gO gL gT gB gC gP gR gG : Nat → Int32) (gn : Int32) (p1 : Int32) (r : Int32) (gS' : Nat → Int32) (gO' : Nat → Int32) (gL' : Nat → Int32) (gT' : Nat → Int32) (gB' : Nat → Int32) (gn' : Int32) (hf : fM_fit p1 gS gO gL gT gB gn = some (r, gS', gO', gL', gT', gB', gn')) : MI l yM_fit wM_fit rM_fit (dC, dI) (tyl cI cZ cB) [Value.ref g0, Value.int p1] (wdM cI cZ cB g0 g1 g2 g3 g4 g5 g6 g7 g8 g9 g10 g11 gS gI gK gO gL gT gB gC gP gR gG gn) (wdM cI cZ cB g0 g1 g2 g3 g4 g5 g6 g7 g8 g9 g10 g11 gS' gI gK gO' gL' gT' gB' gC gP gR gG gn') r := by
  refine MI_of "StepColumnsModel" rfl (by decide) (Nat.le_of_ble_eq_true rfl) ?_
  intro p e s m below meth c A Q C hQ
  have hb_81 : ∀ (K35 : Int32 → Int32 → Int32 → (Nat → Int32) → (Nat → Int32) → (Nat → Int32) → (Nat → Int32) → (Nat → Int32) → Int32 → Option (Int32 × (Nat → Int32) × (Nat → Int32) × (Nat → Int32) × (Nat → Int32) × (Nat → Int32) × Int32)) (hK35 : ∀ (v1 v2 v3 : Int32) (gS gO gL gT gB : Nat → Int32) (gn : Int32), K35 v1 v2 v3 gS gO gL gT gB gn = some (r, gS', gO', gL', gT', gB', gn') → SJ p l e rM_fit s m (List.toArray [Value.ref g0, Value.int p1]) below meth c A (dC, dI) 6 Q (wdM cI cZ cB g0 g1 g2 g3 g4 g5 g6 g7 g8 g9 g10 g11 gS gI gK gO gL gT gB gC gP gR gG gn) [(0, .ref g0), (1, .int v1), (2, .int v2), (3, .int v3)] 35 []) (v1 v3 t0 : Int32) (gS gO gL gT gB : Nat → Int32) (gn : Int32), fM_fit_b81 K35 v1 v3 t0 gS gO gL gT gB gn = some (r, gS', gO', gL', gT', gB', gn') → SJ p l e rM_fit s m (List.toArray [Value.ref g0, Value.int p1]) below meth c A (dC, dI) 6 Q (wdM cI cZ cB g0 g1 g2 g3 g4 g5 g6 g7 g8 g9 g10 g11 gS gI gK gO gL gT gB gC gP gR gG gn) [(0, .ref g0), (1, .int v1), (3, .int v3)] 81 [.int t0] := by
    intro K35 hK35 v1 v3 t0 gS gO gL gT gB gn hf
    unfold fM_fit_b81 at hf
    refine sj_istore_n (lv' := [(2, .int t0), (0, .ref g0), (1, .int v1), (3, .int v3)]) C dM_fit_81 rfl (by decide) rfl ?_
    refine sj_goto C 35 dM_fit_82 (by decide) ?_
    exact sj_lv [1, 2, 0, 3] rfl (hK35 v1 t0 v3 gS gO gL gT gB gn hf)
  have hb_67 : ∀ (K35 : Int32 → Int32 → Int32 → (Nat → Int32) → (Nat → Int32) → (Nat → Int32) → (Nat → Int32) → (Nat → Int32) → Int32 → Option (Int32 × (Nat → Int32) × (Nat → Int32) × (Nat → Int32) × (Nat → Int32) × (Nat → Int32) × Int32)) (hK35 : ∀ (v1 v2 v3 : Int32) (gS gO gL gT gB : Nat → Int32) (gn : Int32), K35 v1 v2 v3 gS gO gL gT gB gn = some (r, gS', gO', gL', gT', gB', gn') → SJ p l e rM_fit s m (List.toArray [Value.ref g0, Value.int p1]) below meth c A (dC, dI) 6 Q (wdM cI cZ cB g0 g1 g2 g3 g4 g5 g6 g7 g8 g9 g10 g11 gS gI gK gO gL gT gB gC gP gR gG gn) [(0, .ref g0), (1, .int v1), (2, .int v2), (3, .int v3)] 35 []) (v1 v2 v4 v5 t0 : Int32) (gS gO gL gT gB : Nat → Int32) (gn : Int32), fM_fit_b67 K35 v1 v2 v4 v5 t0 gS gO gL gT gB gn = some (r, gS', gO', gL', gT', gB', gn') → SJ p l e rM_fit s m (List.toArray [Value.ref g0, Value.int p1]) below meth c A (dC, dI) 6 Q (wdM cI cZ cB g0 g1 g2 g3 g4 g5 g6 g7 g8 g9 g10 g11 gS gI gK gO gL gT gB gC gP gR gG gn) [(0, .ref g0), (1, .int v1), (2, .int v2), (4, .int v4), (5, .int v5)] 67 [.int t0] := by
    intro K35 hK35 v1 v2 v4 v5 t0 gS gO gL gT gB gn hf
    unfold fM_fit_b67 at hf
    refine sj_istore_n (lv' := [(3, .int t0), (0, .ref g0), (1, .int v1), (2, .int v2), (4, .int v4), (5, .int v5)]) C dM_fit_67 rfl (by decide) rfl ?_
    refine sj_iload C dM_fit_68 5 rfl ?_
    refine sj_if_eq C 77 dM_fit_70 (by decide) (fun c_70 => ?_) (fun c_70 => ?_)
    · have hf := (if_pos c_70).symm.trans hf
      refine sj_iload C dM_fit_77 4 rfl ?_
      refine sj_iconst C dM_fit_79 ki_1 ?_
      refine sj_iadd C dM_fit_80 ?_
      exact sj_lv [1, 2, 0] rfl (hb_81 K35 hK35 v1 t0 (v4 + 1) gS gO gL gT gB gn hf)
    · have hf := (if_neg c_70).symm.trans hf
      refine sj_iload_n C dM_fit_73 3 rfl rfl ?_
      refine sj_goto C 81 dM_fit_74 (by decide) ?_
      exact sj_lv [1, 2, 0] rfl (hb_81 K35 hK35 v1 t0 v2 gS gO gL gT gB gn hf)
  have hb_35 : ∀ (n : Nat) (v1 v2 v3 : Int32) (gS gO gL gT gB : Nat → Int32) (gn : Int32), fM_fit_b35 n v1 v2 v3 gS gO gL gT gB gn = some (r, gS', gO', gL', gT', gB', gn') → SJ p l e rM_fit s m (List.toArray [Value.ref g0, Value.int p1]) below meth c A (dC, dI) 6 Q (wdM cI cZ cB g0 g1 g2 g3 g4 g5 g6 g7 g8 g9 g10 g11 gS gI gK gO gL gT gB gC gP gR gG gn) [(0, .ref g0), (1, .int v1), (2, .int v2), (3, .int v3)] 35 [] := by
    intro n
    induction n with
    | zero => intro v1 v2 v3 gS gO gL gT gB gn hf; cases hf
    | succ n IH =>
      intro v1 v2 v3 gS gO gL gT gB gn hf
      unfold fM_fit_b35 at hf
      refine sj_iload_n C dM_fit_35 2 rfl rfl ?_
      refine sj_iload_n C dM_fit_36 3 rfl rfl ?_
      refine sj_icmp_ge C 85 dM_fit_37 (by decide) (fun c_37 => ?_) (fun c_37 => ?_)
      · have hf := (if_pos c_37).symm.trans hf
        refine sj_iload_n C dM_fit_85 2 rfl rfl ?_
        cases hf
        exact hQ 86 _ dM_fit_86
      · have hf := (if_neg c_37).symm.trans hf
        refine sj_iload_n C dM_fit_40 2 rfl rfl ?_
        refine sj_iload_n C dM_fit_41 3 rfl rfl ?_
        refine sj_iadd C dM_fit_42 ?_
        refine sj_iconst C dM_fit_43 ki_2 ?_
        refine sj_idiv C dM_fit_44 kz_2 ?_
        refine sj_istore (lv' := [(4, .int ((v2 + v3) / 2)), (0, .ref g0), (1, .int v1), (2, .int v2), (3, .int v3)]) C dM_fit_45 (by decide) rfl ?_
        refine sj_aload_n C dM_fit_47 1 rfl rfl ?_
        refine sj_iload_n C dM_fit_48 2 rfl rfl ?_
        refine sj_iload C dM_fit_49 0 rfl ?_
        obtain ⟨r_51, gS_51, gO_51, gL_51, gT_51, gB_51, gn_51, hq_51, hf⟩ := bd7_some hf
        refine sj_callVi (w1 := (wdM cI cZ cB g0 g1 g2 g3 g4 g5 g6 g7 g8 g9 g10 g11 gS_51 gI gK gO_51 gL_51 gT_51 gB_51 gC gP gR gG gn_51)) (q0 := 0) C "StepColumnsModel" (cM_fits l dC dI cI cZ cB g0 g1 g2 g3 g4 g5 g6 g7 g8 g9 g10 g11 gS gI gK gO gL gT gB gC gP gR gG gn v1 ((v2 + v3) / 2) r_51 gS_51 gO_51 gL_51 gT_51 gB_51 gn_51 hq_51) wd_605 wd_607 wd_32 wd_39 wd_608 hM_fits rfl rfl ⟨Nat.le_of_ble_eq_true rfl, Nat.le_of_ble_eq_true rfl⟩ [0, 1, 2, 3, 4, 5, 6, 7, 8, 9, 10, 11] [] ⟨rfl, rfl, rfl, rfl, rfl, rfl, kv_12_0_1_2_3_4_5_6_7_8_9_10_11⟩ rfl rfl rfl rfl rfl (Nat.le_of_ble_eq_true rfl) dM_fit_51 ?_
        refine sj_istore (lv' := [(5, .int r_51), (4, .int ((v2 + v3) / 2)), (0, .ref g0), (1, .int v1), (2, .int v2), (3, .int v3)]) C dM_fit_54 (by decide) rfl ?_
        refine sj_iload C dM_fit_56 0 rfl ?_
        refine sj_if_eq C 66 dM_fit_58 (by decide) (fun c_58 => ?_) (fun c_58 => ?_)
        · have hf := (if_pos c_58).symm.trans hf
          refine sj_iload_n C dM_fit_66 5 rfl rfl ?_
          exact sj_lv [2, 3, 4, 1, 0] rfl (hb_67 (fM_fit_b35 n) IH v1 v2 ((v2 + v3) / 2) r_51 v3 gS_51 gO_51 gL_51 gT_51 gB_51 gn_51 hf)
        · have hf := (if_neg c_58).symm.trans hf
          refine sj_iload C dM_fit_61 1 rfl ?_
          refine sj_goto C 67 dM_fit_63 (by decide) ?_
          exact sj_lv [2, 3, 4, 1, 0] rfl (hb_67 (fM_fit_b35 n) IH v1 v2 ((v2 + v3) / 2) r_51 ((v2 + v3) / 2) gS_51 gO_51 gL_51 gT_51 gB_51 gn_51 hf)
  unfold fM_fit at hf
  change SJ p l e rM_fit s m (List.toArray [Value.ref g0, Value.int p1]) below meth c A (dC, dI) 6 Q (wdM cI cZ cB g0 g1 g2 g3 g4 g5 g6 g7 g8 g9 g10 g11 gS gI gK gO gL gT gB gC gP gR gG gn) [(0, .ref g0), (1, .int p1)] 0 []
  refine sj_iload_n C dM_fit_0 1 rfl rfl ?_
  refine sj_iconst C dM_fit_1 ki_0 ?_
  refine sj_sipush C dM_fit_2 ks_150 ?_
  obtain ⟨r_5, hq_5, hf⟩ := bd1_some hf
  refine sj_callSi (w1 := (wdM cI cZ cB g0 g1 g2 g3 g4 g5 g6 g7 g8 g9 g10 g11 gS gI gK gO gL gT gB gC gP gR gG gn)) C "StepColumnsModel" (cM_in l dC dI cI cZ cB   p1 0 150 r_5 hq_5) wd_477 wd_478 wd_39 wd_479 hM_in rfl rfl ⟨Nat.le_of_ble_eq_true rfl, Nat.le_of_ble_eq_true rfl⟩ [] [0, 1, 2, 3, 4, 5, 6, 7, 8, 9, 10, 11] ⟨rfl, rfl, rfl, rfl, rfl, rfl, kv_12_⟩ rfl rfl (Nat.le_of_ble_eq_true rfl) dM_fit_5 ?_
  refine sj_if_ne C 14 dM_fit_8 (by decide) (fun c_8 => ?_) (fun c_8 => ?_)
  · have hf := (if_neg c_8).symm.trans hf
    refine sj_aload_n C dM_fit_14 0 rfl rfl ?_
    refine sj_iload_n C dM_fit_15 1 rfl rfl ?_
    refine sj_sipush C dM_fit_16 ks_200 ?_
    obtain ⟨r_19, gS_19, gO_19, gL_19, gT_19, gB_19, gn_19, hq_19, hf⟩ := bd7_some hf
    refine sj_callVi (w1 := (wdM cI cZ cB g0 g1 g2 g3 g4 g5 g6 g7 g8 g9 g10 g11 gS_19 gI gK gO_19 gL_19 gT_19 gB_19 gC gP gR gG gn_19)) (q0 := 0) C "StepColumnsModel" (cM_fits l dC dI cI cZ cB g0 g1 g2 g3 g4 g5 g6 g7 g8 g9 g10 g11 gS gI gK gO gL gT gB gC gP gR gG gn p1 200 r_19 gS_19 gO_19 gL_19 gT_19 gB_19 gn_19 hq_19) wd_605 wd_607 wd_32 wd_39 wd_608 hM_fits rfl rfl ⟨Nat.le_of_ble_eq_true rfl, Nat.le_of_ble_eq_true rfl⟩ [0, 1, 2, 3, 4, 5, 6, 7, 8, 9, 10, 11] [] ⟨rfl, rfl, rfl, rfl, rfl, rfl, kv_12_0_1_2_3_4_5_6_7_8_9_10_11⟩ rfl rfl rfl rfl rfl (Nat.le_of_ble_eq_true rfl) dM_fit_19 ?_
    refine sj_if_ne C 28 dM_fit_22 (by decide) (fun c_22 => ?_) (fun c_22 => ?_)
    · have hf := (if_neg c_22).symm.trans hf
      refine sj_bipush C dM_fit_28 kb_12 ?_
      refine sj_istore_n (lv' := [(2, .int 12), (0, .ref g0), (1, .int p1)]) C dM_fit_30 rfl (by decide) rfl ?_
      refine sj_sipush C dM_fit_31 ks_200 ?_
      refine sj_istore_n (lv' := [(3, .int 200), (2, .int 12), (0, .ref g0), (1, .int p1)]) C dM_fit_34 rfl (by decide) rfl ?_
      exact sj_lv [2, 3, 1, 0] rfl (hb_35 fu p1 12 200 gS_19 gO_19 gL_19 gT_19 gB_19 gn_19 hf)
    · have hf := (if_pos c_22).symm.trans hf
      refine sj_bipush C dM_fit_25 kb_m6 ?_
      cases hf
      exact hQ 27 _ dM_fit_27
  · have hf := (if_pos c_8).symm.trans hf
    refine sj_bipush C dM_fit_11 kb_m2 ?_
    cases hf
    exact hQ 13 _ dM_fit_13
abbrev rM_image : Room := { frames := 1, cells := 0, slots := 0, locals := 22 }
set_option maxHeartbeats 4000000 in
set_option maxRecDepth 100000 in
theorem cM_image (l : Launch) (dC : Nat → ClassId) (dI : Nat → Nat → Nat) (cI cZ cB : ClassId) (g0 g1 g2 g3 g4 g5 g6 g7 g8 g9 g10 g11 : Nat) (gS gI gK gO gL gT gB gC gP gR gG : Nat → Int32) (gn : Int32) (p1 : Int32) (r : Int32) (gI' : Nat → Int32) (gK' : Nat → Int32) (hf : fM_image p1 gS gI gK = some (r, gI', gK')) : MI l yM_image wM_image rM_image (dC, dI) (tyl cI cZ cB) [Value.ref g0, Value.int p1] (wdM cI cZ cB g0 g1 g2 g3 g4 g5 g6 g7 g8 g9 g10 g11 gS gI gK gO gL gT gB gC gP gR gG gn) (wdM cI cZ cB g0 g1 g2 g3 g4 g5 g6 g7 g8 g9 g10 g11 gS gI' gK' gO gL gT gB gC gP gR gG gn) r := by
  refine MI_of "StepColumnsModel" rfl (by decide) (Nat.le_of_ble_eq_true rfl) ?_
  intro p e s m below meth c A Q C hQ
  have hb_14 : ∀ (n : Nat) (v1 v2 : Int32) (gI gK : Nat → Int32), fM_image_b14 n v1 v2 gS gI gK = some (r, gI', gK') → SJ p l e rM_image s m (List.toArray [Value.ref g0, Value.int p1]) below meth c A (dC, dI) 3 Q (wdM cI cZ cB g0 g1 g2 g3 g4 g5 g6 g7 g8 g9 g10 g11 gS gI gK gO gL gT gB gC gP gR gG gn) [(0, .ref g0), (1, .int v1), (2, .int v2)] 14 [] := by
    intro n
    induction n with
    | zero => intro v1 v2 gI gK hf; cases hf
    | succ n IH =>
      intro v1 v2 gI gK hf
      unfold fM_image_b14 at hf
      refine sj_iload_n C dM_image_14 2 rfl rfl ?_
      refine sj_bipush C dM_image_15 kb_51 ?_
      refine sj_icmp_ge C 43 dM_image_17 (by decide) (fun c_17 => ?_) (fun c_17 => ?_)
      · have hf := (if_pos c_17).symm.trans hf
        refine sj_aload_n C dM_image_43 0 rfl rfl ?_
        refine sj_get C nM_in 0 rfl rfl 2 (by decide) wd_437 rfl rfl dM_image_44 ?_
        refine sj_iload_n C dM_image_47 1 rfl rfl ?_
        refine sj_iconst C dM_image_48 ki_1 ?_
        obtain ⟨h_49, hf⟩ := in_some hf
        refine sj_zast (w' := (wdM cI cZ cB g0 g1 g2 g3 g4 g5 g6 g7 g8 g9 g10 g11 gS gI ((upd gK v1.toNatClampNeg 1)) gO gL gT gB gC gP gR gG gn)) C 3 1 rfl rfl (Or.inr rfl) h_49 rfl dM_image_49 rfl ?_
        refine sj_iconst C dM_image_50 ki_1 ?_
        cases hf
        exact hQ 51 _ dM_image_51
      · have hf := (if_neg c_17).symm.trans hf
        refine sj_aload_n C dM_image_20 0 rfl rfl ?_
        refine sj_get C nM_in 0 rfl rfl 1 (by decide) wd_436 rfl rfl dM_image_21 ?_
        refine sj_bipush C dM_image_24 kb_51 ?_
        refine sj_iload_n C dM_image_26 1 rfl rfl ?_
        refine sj_imul C dM_image_27 ?_
        refine sj_iload_n C dM_image_28 2 rfl rfl ?_
        refine sj_iadd C dM_image_29 ?_
        refine sj_aload_n C dM_image_30 0 rfl rfl ?_
        refine sj_get C nM_in 0 rfl rfl 0 (by decide) wd_435 rfl rfl dM_image_31 ?_
        refine sj_iload_n C dM_image_34 2 rfl rfl ?_
        obtain ⟨h_35, hf⟩ := in_some hf
        refine sj_iald C 1 0 rfl rfl h_35 rfl dM_image_35 ?_
        obtain ⟨h_36, hf⟩ := in_some hf
        refine sj_iast (w' := (wdM cI cZ cB g0 g1 g2 g3 g4 g5 g6 g7 g8 g9 g10 g11 gS ((upd gI ((51 * v1) + v2).toNatClampNeg (gS v2.toNatClampNeg))) gK gO gL gT gB gC gP gR gG gn)) C 2 0 rfl rfl h_36 rfl dM_image_36 rfl ?_
        refine sj_iinc (v := (v2 + 1)) (lv' := [(2, .int (v2 + 1)), (0, .ref g0), (1, .int v1)]) C dM_image_37 2 rfl (by rw [ki_1]) (by decide) rfl ?_
        refine sj_goto C 14 dM_image_40 (by decide) ?_
        exact sj_lv [1, 2, 0] rfl (IH v1 (v2 + 1) (upd gI ((51 * v1) + v2).toNatClampNeg (gS v2.toNatClampNeg)) gK hf)
  unfold fM_image at hf
  change SJ p l e rM_image s m (List.toArray [Value.ref g0, Value.int p1]) below meth c A (dC, dI) 3 Q (wdM cI cZ cB g0 g1 g2 g3 g4 g5 g6 g7 g8 g9 g10 g11 gS gI gK gO gL gT gB gC gP gR gG gn) [(0, .ref g0), (1, .int p1)] 0 []
  refine sj_iload_n C dM_image_0 1 rfl rfl ?_
  refine sj_iconst C dM_image_1 ki_0 ?_
  refine sj_iconst C dM_image_2 ki_1 ?_
  obtain ⟨r_3, hq_3, hf⟩ := bd1_some hf
  refine sj_callSi (w1 := (wdM cI cZ cB g0 g1 g2 g3 g4 g5 g6 g7 g8 g9 g10 g11 gS gI gK gO gL gT gB gC gP gR gG gn)) C "StepColumnsModel" (cM_in l dC dI cI cZ cB   p1 0 1 r_3 hq_3) wd_477 wd_478 wd_39 wd_479 hM_in rfl rfl ⟨Nat.le_of_ble_eq_true rfl, Nat.le_of_ble_eq_true rfl⟩ [] [0, 1, 2, 3, 4, 5, 6, 7, 8, 9, 10, 11] ⟨rfl, rfl, rfl, rfl, rfl, rfl, kv_12_⟩ rfl rfl (Nat.le_of_ble_eq_true rfl) dM_image_3 ?_
  refine sj_if_ne C 12 dM_image_6 (by decide) (fun c_6 => ?_) (fun c_6 => ?_)
  · have hf := (if_neg c_6).symm.trans hf
    refine sj_iconst C dM_image_12 ki_0 ?_
    refine sj_istore_n (lv' := [(2, .int 0), (0, .ref g0), (1, .int p1)]) C dM_image_13 rfl (by decide) rfl ?_
    exact sj_lv [1, 2, 0] rfl (hb_14 fu p1 0 gI gK hf)
  · have hf := (if_pos c_6).symm.trans hf
    refine sj_bipush C dM_image_9 kb_m2 ?_
    cases hf
    exact hQ 11 _ dM_image_11
abbrev rM_restore : Room := { frames := 1, cells := 0, slots := 0, locals := 22 }
set_option maxHeartbeats 4000000 in
set_option maxRecDepth 100000 in
theorem cM_restore (l : Launch) (dC : Nat → ClassId) (dI : Nat → Nat → Nat) (cI cZ cB : ClassId) (g0 g1 g2 g3 g4 g5 g6 g7 g8 g9 g10 g11 : Nat) (gS gI gK gO gL gT gB gC gP gR gG : Nat → Int32) (gn : Int32) (p1 : Int32) (r : Int32) (gS' : Nat → Int32) (hf : fM_restore p1 gS gI gK = some (r, gS')) : MI l yM_restore wM_restore rM_restore (dC, dI) (tyl cI cZ cB) [Value.ref g0, Value.int p1] (wdM cI cZ cB g0 g1 g2 g3 g4 g5 g6 g7 g8 g9 g10 g11 gS gI gK gO gL gT gB gC gP gR gG gn) (wdM cI cZ cB g0 g1 g2 g3 g4 g5 g6 g7 g8 g9 g10 g11 gS' gI gK gO gL gT gB gC gP gR gG gn) r := by
  refine MI_of "StepColumnsModel" rfl (by decide) (Nat.le_of_ble_eq_true rfl) ?_
  intro p e s m below meth c A Q C hQ
  have hb_26 : ∀ (n : Nat) (v1 v2 : Int32) (gS : Nat → Int32), fM_restore_b26 n v1 v2 gS gI gK = some (r, gS') → SJ p l e rM_restore s m (List.toArray [Value.ref g0, Value.int p1]) below meth c A (dC, dI) 3 Q (wdM cI cZ cB g0 g1 g2 g3 g4 g5 g6 g7 g8 g9 g10 g11 gS gI gK gO gL gT gB gC gP gR gG gn) [(0, .ref g0), (1, .int v1), (2, .int v2)] 26 [] := by
    intro n
    induction n with
    | zero => intro v1 v2 gS hf; cases hf
    | succ n IH =>
      intro v1 v2 gS hf
      unfold fM_restore_b26 at hf
      refine sj_iload_n C dM_restore_26 2 rfl rfl ?_
      refine sj_bipush C dM_restore_27 kb_51 ?_
      refine sj_icmp_ge C 55 dM_restore_29 (by decide) (fun c_29 => ?_) (fun c_29 => ?_)
      · have hf := (if_pos c_29).symm.trans hf
        refine sj_iconst C dM_restore_55 ki_1 ?_
        cases hf
        exact hQ 56 _ dM_restore_56
      · have hf := (if_neg c_29).symm.trans hf
        refine sj_aload_n C dM_restore_32 0 rfl rfl ?_
        refine sj_get C nM_in 0 rfl rfl 0 (by decide) wd_435 rfl rfl dM_restore_33 ?_
        refine sj_iload_n C dM_restore_36 2 rfl rfl ?_
        refine sj_aload_n C dM_restore_37 0 rfl rfl ?_
        refine sj_get C nM_in 0 rfl rfl 1 (by decide) wd_436 rfl rfl dM_restore_38 ?_
        refine sj_bipush C dM_restore_41 kb_51 ?_
        refine sj_iload_n C dM_restore_43 1 rfl rfl ?_
        refine sj_imul C dM_restore_44 ?_
        refine sj_iload_n C dM_restore_45 2 rfl rfl ?_
        refine sj_iadd C dM_restore_46 ?_
        obtain ⟨h_47, hf⟩ := in_some hf
        refine sj_iald C 2 0 rfl rfl h_47 rfl dM_restore_47 ?_
        obtain ⟨h_48, hf⟩ := in_some hf
        refine sj_iast (w' := (wdM cI cZ cB g0 g1 g2 g3 g4 g5 g6 g7 g8 g9 g10 g11 ((upd gS v2.toNatClampNeg (gI ((51 * v1) + v2).toNatClampNeg))) gI gK gO gL gT gB gC gP gR gG gn)) C 1 0 rfl rfl h_48 rfl dM_restore_48 rfl ?_
        refine sj_iinc (v := (v2 + 1)) (lv' := [(2, .int (v2 + 1)), (0, .ref g0), (1, .int v1)]) C dM_restore_49 2 rfl (by rw [ki_1]) (by decide) rfl ?_
        refine sj_goto C 26 dM_restore_52 (by decide) ?_
        exact sj_lv [1, 2, 0] rfl (IH v1 (v2 + 1) (upd gS v2.toNatClampNeg (gI ((51 * v1) + v2).toNatClampNeg)) hf)
  unfold fM_restore at hf
  change SJ p l e rM_restore s m (List.toArray [Value.ref g0, Value.int p1]) below meth c A (dC, dI) 3 Q (wdM cI cZ cB g0 g1 g2 g3 g4 g5 g6 g7 g8 g9 g10 g11 gS gI gK gO gL gT gB gC gP gR gG gn) [(0, .ref g0), (1, .int p1)] 0 []
  refine sj_iload_n C dM_restore_0 1 rfl rfl ?_
  refine sj_iconst C dM_restore_1 ki_0 ?_
  refine sj_iconst C dM_restore_2 ki_1 ?_
  obtain ⟨r_3, hq_3, hf⟩ := bd1_some hf
  refine sj_callSi (w1 := (wdM cI cZ cB g0 g1 g2 g3 g4 g5 g6 g7 g8 g9 g10 g11 gS gI gK gO gL gT gB gC gP gR gG gn)) C "StepColumnsModel" (cM_in l dC dI cI cZ cB   p1 0 1 r_3 hq_3) wd_477 wd_478 wd_39 wd_479 hM_in rfl rfl ⟨Nat.le_of_ble_eq_true rfl, Nat.le_of_ble_eq_true rfl⟩ [] [0, 1, 2, 3, 4, 5, 6, 7, 8, 9, 10, 11] ⟨rfl, rfl, rfl, rfl, rfl, rfl, kv_12_⟩ rfl rfl (Nat.le_of_ble_eq_true rfl) dM_restore_3 ?_
  refine sj_if_ne C 12 dM_restore_6 (by decide) (fun c_6 => ?_) (fun c_6 => ?_)
  · have hf := (if_neg c_6).symm.trans hf
    refine sj_aload_n C dM_restore_12 0 rfl rfl ?_
    refine sj_get C nM_in 0 rfl rfl 2 (by decide) wd_437 rfl rfl dM_restore_13 ?_
    refine sj_iload_n C dM_restore_16 1 rfl rfl ?_
    obtain ⟨h_17, hf⟩ := in_some hf
    refine sj_zald C 3 1 rfl rfl h_17 rfl dM_restore_17 ?_
    refine sj_if_ne C 24 dM_restore_18 (by decide) (fun c_18 => ?_) (fun c_18 => ?_)
    · have hf := (if_neg c_18).symm.trans hf
      refine sj_iconst C dM_restore_24 ki_0 ?_
      refine sj_istore_n (lv' := [(2, .int 0), (0, .ref g0), (1, .int p1)]) C dM_restore_25 rfl (by decide) rfl ?_
      exact sj_lv [1, 2, 0] rfl (hb_26 fu p1 0 gS hf)
    · have hf := (if_pos c_18).symm.trans hf
      refine sj_bipush C dM_restore_21 kb_m3 ?_
      cases hf
      exact hQ 23 _ dM_restore_23
  · have hf := (if_pos c_6).symm.trans hf
    refine sj_bipush C dM_restore_9 kb_m2 ?_
    cases hf
    exact hQ 11 _ dM_restore_11
abbrev rM_ofKind : Room := { frames := 0, cells := 0, slots := 0, locals := 0 }
set_option maxHeartbeats 4000000 in
set_option maxRecDepth 100000 in
theorem cM_ofKind (l : Launch) (dC : Nat → ClassId) (dI : Nat → Nat → Nat) (cI cZ cB : ClassId) (g0 g1 g2 g3 g4 g5 g6 g7 g8 g9 g10 g11 : Nat) (gS gI gK gO gL gT gB gC gP gR gG : Nat → Int32) (gn : Int32) (p1 : Int32) (r : Int32)  (hf : fM_ofKind p1 gS = some r) : MI l yM_ofKind wM_ofKind rM_ofKind (dC, dI) (tyl cI cZ cB) [Value.ref g0, Value.int p1] (wdM cI cZ cB g0 g1 g2 g3 g4 g5 g6 g7 g8 g9 g10 g11 gS gI gK gO gL gT gB gC gP gR gG gn) (wdM cI cZ cB g0 g1 g2 g3 g4 g5 g6 g7 g8 g9 g10 g11 gS gI gK gO gL gT gB gC gP gR gG gn) r := by
  refine MI_of "StepColumnsModel" rfl (by decide) (Nat.le_of_ble_eq_true rfl) ?_
  intro p e s m below meth c A Q C hQ
  have hb_31 : ∀ (K4 : Int32 → Int32 → Int32 → (Nat → Int32) → Option (Int32)) (hK4 : ∀ (v1 v2 v3 : Int32) , K4 v1 v2 v3 gS = some r → SJ p l e rM_ofKind s m (List.toArray [Value.ref g0, Value.int p1]) below meth c A (dC, dI) 4 Q (wdM cI cZ cB g0 g1 g2 g3 g4 g5 g6 g7 g8 g9 g10 g11 gS gI gK gO gL gT gB gC gP gR gG gn) [(0, .ref g0), (1, .int v1), (2, .int v2), (3, .int v3)] 4 []) (v1 v3 t0 t1 : Int32), fM_ofKind_b31 K4 v1 v3 t0 t1 gS = some r → SJ p l e rM_ofKind s m (List.toArray [Value.ref g0, Value.int p1]) below meth c A (dC, dI) 4 Q (wdM cI cZ cB g0 g1 g2 g3 g4 g5 g6 g7 g8 g9 g10 g11 gS gI gK gO gL gT gB gC gP gR gG gn) [(0, .ref g0), (1, .int v1), (3, .int v3)] 31 [.int t1, .int t0] := by
    intro K4 hK4 v1 v3 t0 t1 hf
    unfold fM_ofKind_b31 at hf
    refine sj_iadd C dM_ofKind_31 ?_
    refine sj_istore_n (lv' := [(2, .int (t0 + t1)), (0, .ref g0), (1, .int v1), (3, .int v3)]) C dM_ofKind_32 rfl (by decide) rfl ?_
    refine sj_iinc (v := (v3 + 1)) (lv' := [(3, .int (v3 + 1)), (2, .int (t0 + t1)), (0, .ref g0), (1, .int v1)]) C dM_ofKind_33 3 rfl (by rw [ki_1]) (by decide) rfl ?_
    refine sj_goto C 4 dM_ofKind_36 (by decide) ?_
    exact sj_lv [2, 3, 1, 0] rfl (hK4 v1 (t0 + t1) (v3 + 1) hf)
  have hb_4 : ∀ (n : Nat) (v1 v2 v3 : Int32), fM_ofKind_b4 n v1 v2 v3 gS = some r → SJ p l e rM_ofKind s m (List.toArray [Value.ref g0, Value.int p1]) below meth c A (dC, dI) 4 Q (wdM cI cZ cB g0 g1 g2 g3 g4 g5 g6 g7 g8 g9 g10 g11 gS gI gK gO gL gT gB gC gP gR gG gn) [(0, .ref g0), (1, .int v1), (2, .int v2), (3, .int v3)] 4 [] := by
    intro n
    induction n with
    | zero => intro v1 v2 v3 hf; cases hf
    | succ n IH =>
      intro v1 v2 v3 hf
      unfold fM_ofKind_b4 at hf
      refine sj_iload_n C dM_ofKind_4 3 rfl rfl ?_
      refine sj_aload_n C dM_ofKind_5 0 rfl rfl ?_
      refine sj_get C nM_in 0 rfl rfl 0 (by decide) wd_435 rfl rfl dM_ofKind_6 ?_
      refine sj_bipush C dM_ofKind_9 kb_50 ?_
      refine sj_iald C 1 0 rfl rfl kn_50_51 kc_50 dM_ofKind_11 ?_
      refine sj_icmp_ge C 39 dM_ofKind_12 (by decide) (fun c_12 => ?_) (fun c_12 => ?_)
      · have hf := (if_pos c_12).symm.trans hf
        refine sj_iload_n C dM_ofKind_39 2 rfl rfl ?_
        cases hf
        exact hQ 40 _ dM_ofKind_40
      · have hf := (if_neg c_12).symm.trans hf
        refine sj_iload_n C dM_ofKind_15 2 rfl rfl ?_
        refine sj_aload_n C dM_ofKind_16 0 rfl rfl ?_
        refine sj_get C nM_in 0 rfl rfl 0 (by decide) wd_435 rfl rfl dM_ofKind_17 ?_
        refine sj_iload_n C dM_ofKind_20 3 rfl rfl ?_
        obtain ⟨h_21, hf⟩ := in_some hf
        refine sj_iald C 1 0 rfl rfl h_21 rfl dM_ofKind_21 ?_
        refine sj_iload_n C dM_ofKind_22 1 rfl rfl ?_
        refine sj_icmp_ne C 30 dM_ofKind_23 (by decide) (fun c_23 => ?_) (fun c_23 => ?_)
        · have hf := (if_neg c_23).symm.trans hf
          refine sj_iconst C dM_ofKind_30 ki_0 ?_
          exact sj_lv [0, 1, 3] rfl (hb_31 (fM_ofKind_b4 n) IH v1 v3 v2 0 hf)
        · have hf := (if_pos c_23).symm.trans hf
          refine sj_iconst C dM_ofKind_26 ki_1 ?_
          refine sj_goto C 31 dM_ofKind_27 (by decide) ?_
          exact sj_lv [0, 1, 3] rfl (hb_31 (fM_ofKind_b4 n) IH v1 v3 v2 1 hf)
  unfold fM_ofKind at hf
  change SJ p l e rM_ofKind s m (List.toArray [Value.ref g0, Value.int p1]) below meth c A (dC, dI) 4 Q (wdM cI cZ cB g0 g1 g2 g3 g4 g5 g6 g7 g8 g9 g10 g11 gS gI gK gO gL gT gB gC gP gR gG gn) [(0, .ref g0), (1, .int p1)] 0 []
  refine sj_iconst C dM_ofKind_0 ki_0 ?_
  refine sj_istore_n (lv' := [(2, .int 0), (0, .ref g0), (1, .int p1)]) C dM_ofKind_1 rfl (by decide) rfl ?_
  refine sj_iconst C dM_ofKind_2 ki_0 ?_
  refine sj_istore_n (lv' := [(3, .int 0), (2, .int 0), (0, .ref g0), (1, .int p1)]) C dM_ofKind_3 rfl (by decide) rfl ?_
  exact sj_lv [2, 3, 1, 0] rfl (hb_4 fu p1 0 0 hf)
abbrev rM_count : Room := { frames := 1, cells := 0, slots := 0, locals := 23 }
set_option maxHeartbeats 4000000 in
set_option maxRecDepth 100000 in
theorem cM_count (l : Launch) (dC : Nat → ClassId) (dI : Nat → Nat → Nat) (cI cZ cB : ClassId) (g0 g1 g2 g3 g4 g5 g6 g7 g8 g9 g10 g11 : Nat) (gS gI gK gO gL gT gB gC gP gR gG : Nat → Int32) (gn : Int32) (p1 : Int32) (r : Int32) (gO' : Nat → Int32) (gL' : Nat → Int32) (gT' : Nat → Int32) (gn' : Int32) (hf : fM_count p1 gS gK gO gL gT gn = some (r, gO', gL', gT', gn')) : MI l yM_count wM_count rM_count (dC, dI) (tyl cI cZ cB) [Value.ref g0, Value.int p1] (wdM cI cZ cB g0 g1 g2 g3 g4 g5 g6 g7 g8 g9 g10 g11 gS gI gK gO gL gT gB gC gP gR gG gn) (wdM cI cZ cB g0 g1 g2 g3 g4 g5 g6 g7 g8 g9 g10 g11 gS gI gK gO' gL' gT' gB gC gP gR gG gn') r := by
  refine MI_of "StepColumnsModel" rfl (by decide) (Nat.le_of_ble_eq_true rfl) ?_
  intro p e s m below meth c A Q C hQ
  have hb_113 : ∀ (t0 t1 : Int32) (gO gL gT : Nat → Int32) (gn : Int32), fM_count_b113 t0 t1 gS gK gO gL gT gn = some (r, gO', gL', gT', gn') → SJ p l e rM_count s m (List.toArray [Value.ref g0, Value.int p1]) below meth c A (dC, dI) 2 Q (wdM cI cZ cB g0 g1 g2 g3 g4 g5 g6 g7 g8 g9 g10 g11 gS gI gK gO gL gT gB gC gP gR gG gn) [] 113 [.int t1, .int t0] := by
    intro t0 t1 gO gL gT gn hf
    unfold fM_count_b113 at hf
    refine sj_iadd C dM_count_113 ?_
    cases hf
    exact hQ 114 _ dM_count_114
  have hb_99 : ∀ (t0 : Int32) (gO gL gT : Nat → Int32) (gn : Int32), fM_count_b99 t0 gS gK gO gL gT gn = some (r, gO', gL', gT', gn') → SJ p l e rM_count s m (List.toArray [Value.ref g0, Value.int p1]) below meth c A (dC, dI) 2 Q (wdM cI cZ cB g0 g1 g2 g3 g4 g5 g6 g7 g8 g9 g10 g11 gS gI gK gO gL gT gB gC gP gR gG gn) [(0, .ref g0)] 99 [.int t0] := by
    intro t0 gO gL gT gn hf
    unfold fM_count_b99 at hf
    refine sj_aload_n C dM_count_99 0 rfl rfl ?_
    refine sj_get C nM_in 0 rfl rfl 2 (by decide) wd_437 rfl rfl dM_count_100 ?_
    refine sj_iconst C dM_count_103 ki_1 ?_
    refine sj_zald C 3 1 rfl rfl kn_1_2 kc_1 dM_count_104 ?_
    refine sj_if_eq C 112 dM_count_105 (by decide) (fun c_105 => ?_) (fun c_105 => ?_)
    · have hf := (if_pos c_105).symm.trans hf
      refine sj_iconst C dM_count_112 ki_0 ?_
      exact sj_lv [] rfl (hb_113 t0 0 gO gL gT gn hf)
    · have hf := (if_neg c_105).symm.trans hf
      refine sj_iconst C dM_count_108 ki_2 ?_
      refine sj_goto C 113 dM_count_109 (by decide) ?_
      exact sj_lv [] rfl (hb_113 t0 2 gO gL gT gn hf)
  unfold fM_count at hf
  change SJ p l e rM_count s m (List.toArray [Value.ref g0, Value.int p1]) below meth c A (dC, dI) 2 Q (wdM cI cZ cB g0 g1 g2 g3 g4 g5 g6 g7 g8 g9 g10 g11 gS gI gK gO gL gT gB gC gP gR gG gn) [(0, .ref g0), (1, .int p1)] 0 []
  refine sj_iload_n C dM_count_0 1 rfl rfl ?_
  refine sj_bipush C dM_count_1 kb_10 ?_
  refine sj_bipush C dM_count_3 kb_12 ?_
  obtain ⟨r_5, hq_5, hf⟩ := bd1_some hf
  refine sj_callSi (w1 := (wdM cI cZ cB g0 g1 g2 g3 g4 g5 g6 g7 g8 g9 g10 g11 gS gI gK gO gL gT gB gC gP gR gG gn)) C "StepColumnsModel" (cM_in l dC dI cI cZ cB   p1 10 12 r_5 hq_5) wd_477 wd_478 wd_39 wd_479 hM_in rfl rfl ⟨Nat.le_of_ble_eq_true rfl, Nat.le_of_ble_eq_true rfl⟩ [] [0, 1, 2, 3, 4, 5, 6, 7, 8, 9, 10, 11] ⟨rfl, rfl, rfl, rfl, rfl, rfl, kv_12_⟩ rfl rfl (Nat.le_of_ble_eq_true rfl) dM_count_5 ?_
  refine sj_if_eq C 20 dM_count_8 (by decide) (fun c_8 => ?_) (fun c_8 => ?_)
  · have hf := (if_pos c_8).symm.trans hf
    refine sj_aload_n C dM_count_20 0 rfl rfl ?_
    obtain ⟨gO_21, gL_21, gT_21, gn_21, hq_21, hf⟩ := bd4_some hf
    refine sj_callVv (w1 := (wdM cI cZ cB g0 g1 g2 g3 g4 g5 g6 g7 g8 g9 g10 g11 gS gI gK gO_21 gL_21 gT_21 gB gC gP gR gG gn_21)) (q0 := 0) C "StepColumnsModel" (cM_layThings l dC dI cI cZ cB g0 g1 g2 g3 g4 g5 g6 g7 g8 g9 g10 g11 gS gI gK gO gL gT gB gC gP gR gG gn  gO_21 gL_21 gT_21 gn_21 hq_21) wd_527 wd_529 wd_21 wd_39 wd_530 hM_layThings rfl rfl ⟨Nat.le_of_ble_eq_true rfl, Nat.le_of_ble_eq_true rfl⟩ [0, 1, 2, 3, 4, 5, 6, 7, 8, 9, 10, 11] [] ⟨rfl, rfl, rfl, rfl, rfl, rfl, kv_12_0_1_2_3_4_5_6_7_8_9_10_11⟩ rfl rfl rfl rfl rfl (Nat.le_of_ble_eq_true rfl) dM_count_21 ?_
    refine sj_iload_n C dM_count_24 1 rfl rfl ?_
    by_cases c_25_0 : p1 = 0
    · have hf := (if_pos c_25_0).symm.trans hf
      refine sj_tabIn (off := 35) C 60 0 c_25_0 dM_count_25 (by decide +kernel) (by decide +kernel) (by decide +kernel) (by decide) ?_
      refine sj_aload_n C dM_count_60 0 rfl rfl ?_
      refine sj_get C nM_in 0 rfl rfl 0 (by decide) wd_435 rfl rfl dM_count_61 ?_
      refine sj_bipush C dM_count_64 kb_50 ?_
      refine sj_iald C 1 0 rfl rfl kn_50_51 kc_50 dM_count_66 ?_
      cases hf
      exact hQ 67 _ dM_count_67
    have hf := (if_neg c_25_0).symm.trans hf
    by_cases c_25_1 : p1 = 1
    · have hf := (if_pos c_25_1).symm.trans hf
      refine sj_tabIn (off := 43) C 68 1 c_25_1 dM_count_25 (by decide +kernel) (by decide +kernel) (by decide +kernel) (by decide) ?_
      refine sj_aload_n C dM_count_68 0 rfl rfl ?_
      refine sj_get C nM_in 0 rfl rfl 6 (by decide) wd_441 rfl rfl dM_count_69 ?_
      cases hf
      exact hQ 72 _ dM_count_72
    have hf := (if_neg c_25_1).symm.trans hf
    by_cases c_25_2 : p1 = 2
    · have hf := (if_pos c_25_2).symm.trans hf
      refine sj_tabIn (off := 48) C 73 2 c_25_2 dM_count_25 (by decide +kernel) (by decide +kernel) (by decide +kernel) (by decide) ?_
      refine sj_aload_n C dM_count_73 0 rfl rfl ?_
      refine sj_get C nM_in 0 rfl rfl 0 (by decide) wd_435 rfl rfl dM_count_74 ?_
      refine sj_bipush C dM_count_77 kb_48 ?_
      refine sj_iload_n C dM_count_79 1 rfl rfl ?_
      refine sj_iadd C dM_count_80 ?_
      refine sj_iconst C dM_count_81 ki_2 ?_
      refine sj_isub C dM_count_82 ?_
      obtain ⟨h_83, hf⟩ := in_some hf
      refine sj_iald C 1 0 rfl rfl h_83 rfl dM_count_83 ?_
      cases hf
      exact hQ 84 _ dM_count_84
    have hf := (if_neg c_25_2).symm.trans hf
    by_cases c_25_3 : p1 = 3
    · have hf := (if_pos c_25_3).symm.trans hf
      refine sj_tabIn (off := 48) C 73 3 c_25_3 dM_count_25 (by decide +kernel) (by decide +kernel) (by decide +kernel) (by decide) ?_
      refine sj_aload_n C dM_count_73 0 rfl rfl ?_
      refine sj_get C nM_in 0 rfl rfl 0 (by decide) wd_435 rfl rfl dM_count_74 ?_
      refine sj_bipush C dM_count_77 kb_48 ?_
      refine sj_iload_n C dM_count_79 1 rfl rfl ?_
      refine sj_iadd C dM_count_80 ?_
      refine sj_iconst C dM_count_81 ki_2 ?_
      refine sj_isub C dM_count_82 ?_
      obtain ⟨h_83, hf⟩ := in_some hf
      refine sj_iald C 1 0 rfl rfl h_83 rfl dM_count_83 ?_
      cases hf
      exact hQ 84 _ dM_count_84
    have hf := (if_neg c_25_3).symm.trans hf
    by_cases c_25_4 : p1 = 4
    · have hf := (if_pos c_25_4).symm.trans hf
      refine sj_tabIn (off := 60) C 85 4 c_25_4 dM_count_25 (by decide +kernel) (by decide +kernel) (by decide +kernel) (by decide) ?_
      refine sj_aload_n C dM_count_85 0 rfl rfl ?_
      refine sj_get C nM_in 0 rfl rfl 2 (by decide) wd_437 rfl rfl dM_count_86 ?_
      refine sj_iconst C dM_count_89 ki_0 ?_
      refine sj_zald C 3 1 rfl rfl kn_0_2 kc_0 dM_count_90 ?_
      refine sj_if_eq C 98 dM_count_91 (by decide) (fun c_91 => ?_) (fun c_91 => ?_)
      · have hf := (if_pos c_91).symm.trans hf
        refine sj_iconst C dM_count_98 ki_0 ?_
        exact sj_lv [0] rfl (hb_99 0 gO_21 gL_21 gT_21 gn_21 hf)
      · have hf := (if_neg c_91).symm.trans hf
        refine sj_iconst C dM_count_94 ki_1 ?_
        refine sj_goto C 99 dM_count_95 (by decide) ?_
        exact sj_lv [0] rfl (hb_99 1 gO_21 gL_21 gT_21 gn_21 hf)
    have hf := (if_neg c_25_4).symm.trans hf
    have e_0 : ¬ (p1).toInt = 0 := fun h => c_25_0 (sw_inj h (by decide +kernel))
    have e_1 : ¬ (p1).toInt = 1 := fun h => c_25_1 (sw_inj h (by decide +kernel))
    have e_2 : ¬ (p1).toInt = 2 := fun h => c_25_2 (sw_inj h (by decide +kernel))
    have e_3 : ¬ (p1).toInt = 3 := fun h => c_25_3 (sw_inj h (by decide +kernel))
    have e_4 : ¬ (p1).toInt = 4 := fun h => c_25_4 (sw_inj h (by decide +kernel))
    refine sj_tabOut C 115 dM_count_25 (by omega) (by decide) ?_
    refine sj_bipush C dM_count_115 kb_m2 ?_
    cases hf
    exact hQ 117 _ dM_count_117
  · have hf := (if_neg c_8).symm.trans hf
    refine sj_aload_n C dM_count_11 0 rfl rfl ?_
    refine sj_iload_n C dM_count_12 1 rfl rfl ?_
    refine sj_bipush C dM_count_13 kb_10 ?_
    refine sj_isub C dM_count_15 ?_
    obtain ⟨r_16, hq_16, hf⟩ := bd1_some hf
    refine sj_callVi (w1 := (wdM cI cZ cB g0 g1 g2 g3 g4 g5 g6 g7 g8 g9 g10 g11 gS gI gK gO gL gT gB gC gP gR gG gn)) (q0 := 0) C "StepColumnsModel" (cM_ofKind l dC dI cI cZ cB g0 g1 g2 g3 g4 g5 g6 g7 g8 g9 g10 g11 gS gI gK gO gL gT gB gC gP gR gG gn (p1 - 10) r_16 hq_16) wd_621 wd_623 wd_33 wd_39 wd_624 hM_ofKind rfl rfl ⟨Nat.le_of_ble_eq_true rfl, Nat.le_of_ble_eq_true rfl⟩ [0, 1, 2, 3, 4, 5, 6, 7, 8, 9, 10, 11] [] ⟨rfl, rfl, rfl, rfl, rfl, rfl, kv_12_0_1_2_3_4_5_6_7_8_9_10_11⟩ rfl rfl rfl rfl rfl (Nat.le_of_ble_eq_true rfl) dM_count_16 ?_
    cases hf
    exact hQ 19 _ dM_count_19
