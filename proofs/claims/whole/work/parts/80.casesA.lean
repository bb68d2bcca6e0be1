set_option maxHeartbeats 4000000 in
set_option maxRecDepth 100000 in
theorem case_add {p : Program} {l : Launch} {e : Env} {s : State} {m : MethodId} {below : List Frame} {meth : Method} {c : Code} {dC : Nat → ClassId} {dI : Nat → Nat → Nat} {cI cZ cB : ClassId} {b L : Nat} {xs : Nat → Int32} {Q : State → Prop} {a : Nat} (C : SC p s m #[Value.ref b] c code 4 "StepColumnsLaw" (fun q : Nat => s.heap.size ≤ q) (dC, dI) (tyl cI cZ cB)) (hX : va_X b L xs s s.heap) (hbl : b < s.heap.size) (hbA : ¬ (fun q : Nat => s.heap.size ≤ q) b) (hL : L ≤ 2560) (ha : a + 5 ≤ L) (x0 x1 b0 b1 b2 b3 b4 s0 s1 s2 l0 l1 l2 l3 l4 i0 i1 i2 i3 i4 j0 j1 j2 j3 j4 g0 g1 g2 g3 g4 g5 g6 g7 g8 g9 g10 g11 : Nat) (xk xl : Int32) (bK bZ bL bM : Nat → Int32) (bi bg bh : Int32) (sB sO : Nat → Int32) (sh sw sr : Int32) (lI lC lT lR : Nat → Int32) (lth lro lsp lle lex lco lou : Int32) (iK iZ iL iM : Nat → Int32) (ii ig ih : Int32) (jK jZ jL jM : Nat → Int32) (ji jg jh : Int32) (gS gI gK gO gL gT gB gC gP gR gG : Nat → Int32) (gn : Int32) (hI : Inv xk xl bK bZ bL bM bi bg bh lI lC lT lR lth lro lsp lle lex lco lou iK iZ iL iM ii ig ih jK jZ jL jM ji jg jh gS gI gK) (kk : ∀ (xk2 xl2 : Int32) (bK2 bZ2 bL2 bM2 : Nat → Int32) (bi2 bg2 bh2 : Int32) (sB2 sO2 : Nat → Int32) (sh2 sw2 sr2 : Int32) (lI2 lC2 lT2 lR2 : Nat → Int32) (lth2 lro2 lsp2 lle2 lex2 lco2 lou2 : Int32) (iK2 iZ2 iL2 iM2 : Nat → Int32) (ii2 ig2 ih2 : Int32) (jK2 jZ2 jL2 jM2 : Nat → Int32) (ji2 jg2 jh2 : Int32) (gS2 gI2 gK2 gO2 gL2 gT2 gB2 gC2 gP2 gR2 gG2 : Nat → Int32) (gn2 : Int32), Inv xk2 xl2 bK2 bZ2 bL2 bM2 bi2 bg2 bh2 lI2 lC2 lT2 lR2 lth2 lro2 lsp2 lle2 lex2 lco2 lou2 iK2 iZ2 iL2 iM2 ii2 ig2 ih2 jK2 jZ2 jL2 jM2 ji2 jg2 jh2 gS2 gI2 gK2 → SN p l e room_1 s m #[Value.ref b] below meth c (fun q : Nat => s.heap.size ≤ q) (dC, dI) 4 Q 600000 7302250 (wdW cI cZ cB x0 x1 b0 b1 b2 b3 b4 s0 s1 s2 l0 l1 l2 l3 l4 i0 i1 i2 i3 i4 j0 j1 j2 j3 j4 g0 g1 g2 g3 g4 g5 g6 g7 g8 g9 g10 g11 xk2 xl2 bK2 bZ2 bL2 bM2 bi2 bg2 bh2 sB2 sO2 sh2 sw2 sr2 lI2 lC2 lT2 lR2 lth2 lro2 lsp2 lle2 lex2 lco2 lou2 iK2 iZ2 iL2 iM2 ii2 ig2 ih2 jK2 jZ2 jL2 jM2 ji2 jg2 jh2 gS2 gI2 gK2 gO2 gL2 gT2 gB2 gC2 gP2 gR2 gG2 gn2) [(0, .ref b), (1, .ref x0), (2, .ref g0), (3, .int (nI a))] 580 []) : SN p l e room_1 s m #[Value.ref b] below meth c (fun q : Nat => s.heap.size ≤ q) (dC, dI) 4 Q 600000 7302250 (wdW cI cZ cB x0 x1 b0 b1 b2 b3 b4 s0 s1 s2 l0 l1 l2 l3 l4 i0 i1 i2 i3 i4 j0 j1 j2 j3 j4 g0 g1 g2 g3 g4 g5 g6 g7 g8 g9 g10 g11 xk xl bK bZ bL bM bi bg bh sB sO sh sw sr lI lC lT lR lth lro lsp lle lex lco lou iK iZ iL iM ii ig ih jK jZ jL jM ji jg jh gS gI gK gO gL gT gB gC gP gR gG gn) [(0, .ref b), (1, .ref x0), (2, .ref g0), (3, .int (nI a))] 112 [] := by
  obtain ⟨r, xl', bK', bZ', bL', bM', bi', gS', hx, hm, hI2⟩ := op_add (xs (nI a + 1).toNatClampNeg) (xs (nI a + 2).toNatClampNeg) (xs (nI a + 3).toNatClampNeg) (xs (nI a + 4).toNatClampNeg) xk xl bK bZ bL bM bi bg bh lI lC lT lR lth lro lsp lle lex lco lou iK iZ iL iM ii ig ih jK jZ jL jM ji jg jh gS gI gK hI
  refine sn_aload_n C dW_law_112 1 rfl rfl ?_
  refine sn_aload_n C dW_law_113 0 rfl rfl ?_
  refine sn_iload_n C dW_law_114 3 rfl rfl ?_
  refine sn_iconst C dW_law_115 ki_1 ?_
  refine sn_iadd C dW_law_116 ?_
  refine sn_sld C hX hbl hbA (i := nI a + 1) (law_in ha hL 1 (by omega) kl_1) dW_law_117 ?_
  refine sn_aload_n C dW_law_118 0 rfl rfl ?_
  refine sn_iload_n C dW_law_119 3 rfl rfl ?_
  refine sn_iconst C dW_law_120 ki_2 ?_
  refine sn_iadd C dW_law_121 ?_
  refine sn_sld C hX hbl hbA (i := nI a + 2) (law_in ha hL 2 (by omega) kl_2) dW_law_122 ?_
  refine sn_aload_n C dW_law_123 0 rfl rfl ?_
  refine sn_iload_n C dW_law_124 3 rfl rfl ?_
  refine sn_iconst C dW_law_125 ki_3 ?_
  refine sn_iadd C dW_law_126 ?_
  refine sn_sld C hX hbl hbA (i := nI a + 3) (law_in ha hL 3 (by omega) kl_3) dW_law_127 ?_
  refine sn_aload_n C dW_law_128 0 rfl rfl ?_
  refine sn_iload_n C dW_law_129 3 rfl rfl ?_
  refine sn_iconst C dW_law_130 ki_4 ?_
  refine sn_iadd C dW_law_131 ?_
  refine sn_sld C hX hbl hbA (i := nI a + 4) (law_in ha hL 4 (by omega) kl_4) dW_law_132 ?_
  refine sn_callVj (w1 := (wdW cI cZ cB x0 x1 b0 b1 b2 b3 b4 s0 s1 s2 l0 l1 l2 l3 l4 i0 i1 i2 i3 i4 j0 j1 j2 j3 j4 g0 g1 g2 g3 g4 g5 g6 g7 g8 g9 g10 g11 xk xl' bK' bZ' bL' bM' bi' bg bh sB sO sh sw sr lI lC lT lR lth lro lsp lle lex lco lou iK iZ iL iM ii ig ih jK jZ jL jM ji jg jh gS gI gK gO gL gT gB gC gP gR gG gn)) (q0 := 0) C "StepColumns" (cX_add l dC dI cI cZ cB x0 x1 b0 b1 b2 b3 b4 s0 s1 s2 l0 l1 l2 l3 l4 xk xl bK bZ bL bM bi bg bh sB sO sh sw sr lI lC lT lR lth lro lsp lle lex lco lou (xs (nI a + 1).toNatClampNeg) (xs (nI a + 2).toNatClampNeg) (xs (nI a + 3).toNatClampNeg) (xs (nI a + 4).toNatClampNeg) r xl' bK' bZ' bL' bM' bi' hx) (PJ_LL rfl) wd_185 wd_186 wd_187 wd_35 wd_188 hX_add rfl rfl ⟨Nat.le_of_ble_eq_true rfl, Nat.le_of_ble_eq_true rfl⟩ rfl rfl rfl rfl rfl ⟨Nat.le_of_ble_eq_true rfl, Nat.le_of_ble_eq_true rfl⟩ (Nat.le_of_ble_eq_true rfl) dW_law_133 ?_
  refine sn_aload_n C dW_law_136 2 rfl rfl ?_
  refine sn_aload_n C dW_law_137 0 rfl rfl ?_
  refine sn_iload_n C dW_law_138 3 rfl rfl ?_
  refine sn_iconst C dW_law_139 ki_1 ?_
  refine sn_iadd C dW_law_140 ?_
  refine sn_sld C hX hbl hbA (i := nI a + 1) (law_in ha hL 1 (by omega) kl_1) dW_law_141 ?_
  refine sn_aload_n C dW_law_142 0 rfl rfl ?_
  refine sn_iload_n C dW_law_143 3 rfl rfl ?_
  refine sn_iconst C dW_law_144 ki_2 ?_
  refine sn_iadd C dW_law_145 ?_
  refine sn_sld C hX hbl hbA (i := nI a + 2) (law_in ha hL 2 (by omega) kl_2) dW_law_146 ?_
  refine sn_aload_n C dW_law_147 0 rfl rfl ?_
  refine sn_iload_n C dW_law_148 3 rfl rfl ?_
  refine sn_iconst C dW_law_149 ki_3 ?_
  refine sn_iadd C dW_law_150 ?_
  refine sn_sld C hX hbl hbA (i := nI a + 3) (law_in ha hL 3 (by omega) kl_3) dW_law_151 ?_
  refine sn_aload_n C dW_law_152 0 rfl rfl ?_
  refine sn_iload_n C dW_law_153 3 rfl rfl ?_
  refine sn_iconst C dW_law_154 ki_4 ?_
  refine sn_iadd C dW_law_155 ?_
  refine sn_sld C hX hbl hbA (i := nI a + 4) (law_in ha hL 4 (by omega) kl_4) dW_law_156 ?_
  refine sn_callVj (w1 := (wdW cI cZ cB x0 x1 b0 b1 b2 b3 b4 s0 s1 s2 l0 l1 l2 l3 l4 i0 i1 i2 i3 i4 j0 j1 j2 j3 j4 g0 g1 g2 g3 g4 g5 g6 g7 g8 g9 g10 g11 xk xl' bK' bZ' bL' bM' bi' bg bh sB sO sh sw sr lI lC lT lR lth lro lsp lle lex lco lou iK iZ iL iM ii ig ih jK jZ jL jM ji jg jh gS' gI gK gO gL gT gB gC gP gR gG gn)) (q0 := 0) C "StepColumnsModel" (cM_add l dC dI cI cZ cB g0 g1 g2 g3 g4 g5 g6 g7 g8 g9 g10 g11 gS gI gK gO gL gT gB gC gP gR gG gn (xs (nI a + 1).toNatClampNeg) (xs (nI a + 2).toNatClampNeg) (xs (nI a + 3).toNatClampNeg) (xs (nI a + 4).toNatClampNeg) r gS' hm) (PJ_R rfl) wd_473 wd_474 wd_475 wd_39 wd_476 hM_add rfl rfl ⟨Nat.le_of_ble_eq_true rfl, Nat.le_of_ble_eq_true rfl⟩ rfl rfl rfl rfl rfl ⟨Nat.le_of_ble_eq_true rfl, Nat.le_of_ble_eq_true rfl⟩ (Nat.le_of_ble_eq_true rfl) dW_law_157 ?_
  refine sn_icmp_eq C 580 dW_law_160 (by decide) (fun _ => ?_) (fun cc_ => absurd rfl cc_)
  exact kk xk xl' bK' bZ' bL' bM' bi' bg bh sB sO sh sw sr lI lC lT lR lth lro lsp lle lex lco lou iK iZ iL iM ii ig ih jK jZ jL jM ji jg jh gS' gI gK gO gL gT gB gC gP gR gG gn hI2
set_option maxHeartbeats 4000000 in
set_option maxRecDepth 100000 in
theorem case_change {p : Program} {l : Launch} {e : Env} {s : State} {m : MethodId} {below : List Frame} {meth : Method} {c : Code} {dC : Nat → ClassId} {dI : Nat → Nat → Nat} {cI cZ cB : ClassId} {b L : Nat} {xs : Nat → Int32} {Q : State → Prop} {a : Nat} (C : SC p s m #[Value.ref b] c code 4 "StepColumnsLaw" (fun q : Nat => s.heap.size ≤ q) (dC, dI) (tyl cI cZ cB)) (hX : va_X b L xs s s.heap) (hbl : b < s.heap.size) (hbA : ¬ (fun q : Nat => s.heap.size ≤ q) b) (hL : L ≤ 2560) (ha : a + 5 ≤ L) (x0 x1 b0 b1 b2 b3 b4 s0 s1 s2 l0 l1 l2 l3 l4 i0 i1 i2 i3 i4 j0 j1 j2 j3 j4 g0 g1 g2 g3 g4 g5 g6 g7 g8 g9 g10 g11 : Nat) (xk xl : Int32) (bK bZ bL bM : Nat → Int32) (bi bg bh : Int32) (sB sO : Nat → Int32) (sh sw sr : Int32) (lI lC lT lR : Nat → Int32) (lth lro lsp lle lex lco lou : Int32) (iK iZ iL iM : Nat → Int32) (ii ig ih : Int32) (jK jZ jL jM : Nat → Int32) (ji jg jh : Int32) (gS gI gK gO gL gT gB gC gP gR gG : Nat → Int32) (gn : Int32) (hI : Inv xk xl bK bZ bL bM bi bg bh lI lC lT lR lth lro lsp lle lex lco lou iK iZ iL iM ii ig ih jK jZ jL jM ji jg jh gS gI gK) (kk : ∀ (xk2 xl2 : Int32) (bK2 bZ2 bL2 bM2 : Nat → Int32) (bi2 bg2 bh2 : Int32) (sB2 sO2 : Nat → Int32) (sh2 sw2 sr2 : Int32) (lI2 lC2 lT2 lR2 : Nat → Int32) (lth2 lro2 lsp2 lle2 lex2 lco2 lou2 : Int32) (iK2 iZ2 iL2 iM2 : Nat → Int32) (ii2 ig2 ih2 : Int32) (jK2 jZ2 jL2 jM2 : Nat → Int32) (ji2 jg2 jh2 : Int32) (gS2 gI2 gK2 gO2 gL2 gT2 gB2 gC2 gP2 gR2 gG2 : Nat → Int32) (gn2 : Int32), Inv xk2 xl2 bK2 bZ2 bL2 bM2 bi2 bg2 bh2 lI2 lC2 lT2 lR2 lth2 lro2 lsp2 lle2 lex2 lco2 lou2 iK2 iZ2 iL2 iM2 ii2 ig2 ih2 jK2 jZ2 jL2 jM2 ji2 jg2 jh2 gS2 gI2 gK2 → SN p l e room_1 s m #[Value.ref b] below meth c (fun q : Nat => s.heap.size ≤ q) (dC, dI) 4 Q 600000 7302250 (wdW cI cZ cB x0 x1 b0 b1 b2 b3 b4 s0 s1 s2 l0 l1 l2 l3 l4 i0 i1 i2 i3 i4 j0 j1 j2 j3 j4 g0 g1 g2 g3 g4 g5 g6 g7 g8 g9 g10 g11 xk2 xl2 bK2 bZ2 bL2 bM2 bi2 bg2 bh2 sB2 sO2 sh2 sw2 sr2 lI2 lC2 lT2 lR2 lth2 lro2 lsp2 lle2 lex2 lco2 lou2 iK2 iZ2 iL2 iM2 ii2 ig2 ih2 jK2 jZ2 jL2 jM2 ji2 jg2 jh2 gS2 gI2 gK2 gO2 gL2 gT2 gB2 gC2 gP2 gR2 gG2 gn2) [(0, .ref b), (1, .ref x0), (2, .ref g0), (3, .int (nI a))] 580 []) : SN p l e room_1 s m #[Value.ref b] below meth c (fun q : Nat => s.heap.size ≤ q) (dC, dI) 4 Q 600000 7302250 (wdW cI cZ cB x0 x1 b0 b1 b2 b3 b4 s0 s1 s2 l0 l1 l2 l3 l4 i0 i1 i2 i3 i4 j0 j1 j2 j3 j4 g0 g1 g2 g3 g4 g5 g6 g7 g8 g9 g10 g11 xk xl bK bZ bL bM bi bg bh sB sO sh sw sr lI lC lT lR lth lro lsp lle lex lco lou iK iZ iL iM ii ig ih jK jZ jL jM ji jg jh gS gI gK gO gL gT gB gC gP gR gG gn) [(0, .ref b), (1, .ref x0), (2, .ref g0), (3, .int (nI a))] 165 [] := by
  obtain ⟨r, xl', bZ', bL', bM', gS', hx, hm, hI2⟩ := op_change (xs (nI a + 1).toNatClampNeg) (xs (nI a + 2).toNatClampNeg) (xs (nI a + 3).toNatClampNeg) xk xl bK bZ bL bM bi bg bh lI lC lT lR lth lro lsp lle lex lco lou iK iZ iL iM ii ig ih jK jZ jL jM ji jg jh gS gI gK hI
  refine sn_aload_n C dW_law_165 1 rfl rfl ?_
  refine sn_aload_n C dW_law_166 0 rfl rfl ?_
  refine sn_iload_n C dW_law_167 3 rfl rfl ?_
  refine sn_iconst C dW_law_168 ki_1 ?_
  refine sn_iadd C dW_law_169 ?_
  refine sn_sld C hX hbl hbA (i := nI a + 1) (law_in ha hL 1 (by omega) kl_1) dW_law_170 ?_
  refine sn_aload_n C dW_law_171 0 rfl rfl ?_
  refine sn_iload_n C dW_law_172 3 rfl rfl ?_
  refine sn_iconst C dW_law_173 ki_2 ?_
  refine sn_iadd C dW_law_174 ?_
  refine sn_sld C hX hbl hbA (i := nI a + 2) (law_in ha hL 2 (by omega) kl_2) dW_law_175 ?_
  refine sn_aload_n C dW_law_176 0 rfl rfl ?_
  refine sn_iload_n C dW_law_177 3 rfl rfl ?_
  refine sn_iconst C dW_law_178 ki_3 ?_
  refine sn_iadd C dW_law_179 ?_
  refine sn_sld C hX hbl hbA (i := nI a + 3) (law_in ha hL 3 (by omega) kl_3) dW_law_180 ?_
  refine sn_callVj (w1 := (wdW cI cZ cB x0 x1 b0 b1 b2 b3 b4 s0 s1 s2 l0 l1 l2 l3 l4 i0 i1 i2 i3 i4 j0 j1 j2 j3 j4 g0 g1 g2 g3 g4 g5 g6 g7 g8 g9 g10 g11 xk xl' bK bZ' bL' bM' bi bg bh sB sO sh sw sr lI lC lT lR lth lro lsp lle lex lco lou iK iZ iL iM ii ig ih jK jZ jL jM ji jg jh gS gI gK gO gL gT gB gC gP gR gG gn)) (q0 := 0) C "StepColumns" (cX_change l dC dI cI cZ cB x0 x1 b0 b1 b2 b3 b4 s0 s1 s2 l0 l1 l2 l3 l4 xk xl bK bZ bL bM bi bg bh sB sO sh sw sr lI lC lT lR lth lro lsp lle lex lco lou (xs (nI a + 1).toNatClampNeg) (xs (nI a + 2).toNatClampNeg) (xs (nI a + 3).toNatClampNeg) r xl' bZ' bL' bM' hx) (PJ_LL rfl) wd_199 wd_200 wd_201 wd_35 wd_202 hX_change rfl rfl ⟨Nat.le_of_ble_eq_true rfl, Nat.le_of_ble_eq_true rfl⟩ rfl rfl rfl rfl rfl ⟨Nat.le_of_ble_eq_true rfl, Nat.le_of_ble_eq_true rfl⟩ (Nat.le_of_ble_eq_true rfl) dW_law_181 ?_
  refine sn_aload_n C dW_law_184 2 rfl rfl ?_
  refine sn_aload_n C dW_law_185 0 rfl rfl ?_
  refine sn_iload_n C dW_law_186 3 rfl rfl ?_
  refine sn_iconst C dW_law_187 ki_1 ?_
  refine sn_iadd C dW_law_188 ?_
  refine sn_sld C hX hbl hbA (i := nI a + 1) (law_in ha hL 1 (by omega) kl_1) dW_law_189 ?_
  refine sn_aload_n C dW_law_190 0 rfl rfl ?_
  refine sn_iload_n C dW_law_191 3 rfl rfl ?_
  refine sn_iconst C dW_law_192 ki_2 ?_
  refine sn_iadd C dW_law_193 ?_
  refine sn_sld C hX hbl hbA (i := nI a + 2) (law_in ha hL 2 (by omega) kl_2) dW_law_194 ?_
  refine sn_aload_n C dW_law_195 0 rfl rfl ?_
  refine sn_iload_n C dW_law_196 3 rfl rfl ?_
  refine sn_iconst C dW_law_197 ki_3 ?_
  refine sn_iadd C dW_law_198 ?_
  refine sn_sld C hX hbl hbA (i := nI a + 3) (law_in ha hL 3 (by omega) kl_3) dW_law_199 ?_
  refine sn_callVj (w1 := (wdW cI cZ cB x0 x1 b0 b1 b2 b3 b4 s0 s1 s2 l0 l1 l2 l3 l4 i0 i1 i2 i3 i4 j0 j1 j2 j3 j4 g0 g1 g2 g3 g4 g5 g6 g7 g8 g9 g10 g11 xk xl' bK bZ' bL' bM' bi bg bh sB sO sh sw sr lI lC lT lR lth lro lsp lle lex lco lou iK iZ iL iM ii ig ih jK jZ jL jM ji jg jh gS' gI gK gO gL gT gB gC gP gR gG gn)) (q0 := 0) C "StepColumnsModel" (cM_change l dC dI cI cZ cB g0 g1 g2 g3 g4 g5 g6 g7 g8 g9 g10 g11 gS gI gK gO gL gT gB gC gP gR gG gn (xs (nI a + 1).toNatClampNeg) (xs (nI a + 2).toNatClampNeg) (xs (nI a + 3).toNatClampNeg) r gS' hm) (PJ_R rfl) wd_483 wd_484 wd_485 wd_39 wd_486 hM_change rfl rfl ⟨Nat.le_of_ble_eq_true rfl, Nat.le_of_ble_eq_true rfl⟩ rfl rfl rfl rfl rfl ⟨Nat.le_of_ble_eq_true rfl, Nat.le_of_ble_eq_true rfl⟩ (Nat.le_of_ble_eq_true rfl) dW_law_200 ?_
  refine sn_icmp_eq C 580 dW_law_203 (by decide) (fun _ => ?_) (fun cc_ => absurd rfl cc_)
  exact kk xk xl' bK bZ' bL' bM' bi bg bh sB sO sh sw sr lI lC lT lR lth lro lsp lle lex lco lou iK iZ iL iM ii ig ih jK jZ jL jM ji jg jh gS' gI gK gO gL gT gB gC gP gR gG gn hI2
set_option maxHeartbeats 4000000 in
set_option maxRecDepth 100000 in
theorem case_remove {p : Program} {l : Launch} {e : Env} {s : State} {m : MethodId} {below : List Frame} {meth : Method} {c : Code} {dC : Nat → ClassId} {dI : Nat → Nat → Nat} {cI cZ cB : ClassId} {b L : Nat} {xs : Nat → Int32} {Q : State → Prop} {a : Nat} (C : SC p s m #[Value.ref b] c code 4 "StepColumnsLaw" (fun q : Nat => s.heap.size ≤ q) (dC, dI) (tyl cI cZ cB)) (hX : va_X b L xs s s.heap) (hbl : b < s.heap.size) (hbA : ¬ (fun q : Nat => s.heap.size ≤ q) b) (hL : L ≤ 2560) (ha : a + 5 ≤ L) (x0 x1 b0 b1 b2 b3 b4 s0 s1 s2 l0 l1 l2 l3 l4 i0 i1 i2 i3 i4 j0 j1 j2 j3 j4 g0 g1 g2 g3 g4 g5 g6 g7 g8 g9 g10 g11 : Nat) (xk xl : Int32) (bK bZ bL bM : Nat → Int32) (bi bg bh : Int32) (sB sO : Nat → Int32) (sh sw sr : Int32) (lI lC lT lR : Nat → Int32) (lth lro lsp lle lex lco lou : Int32) (iK iZ iL iM : Nat → Int32) (ii ig ih : Int32) (jK jZ jL jM : Nat → Int32) (ji jg jh : Int32) (gS gI gK gO gL gT gB gC gP gR gG : Nat → Int32) (gn : Int32) (hI : Inv xk xl bK bZ bL bM bi bg bh lI lC lT lR lth lro lsp lle lex lco lou iK iZ iL iM ii ig ih jK jZ jL jM ji jg jh gS gI gK) (kk : ∀ (xk2 xl2 : Int32) (bK2 bZ2 bL2 bM2 : Nat → Int32) (bi2 bg2 bh2 : Int32) (sB2 sO2 : Nat → Int32) (sh2 sw2 sr2 : Int32) (lI2 lC2 lT2 lR2 : Nat → Int32) (lth2 lro2 lsp2 lle2 lex2 lco2 lou2 : Int32) (iK2 iZ2 iL2 iM2 : Nat → Int32) (ii2 ig2 ih2 : Int32) (jK2 jZ2 jL2 jM2 : Nat → Int32) (ji2 jg2 jh2 : Int32) (gS2 gI2 gK2 gO2 gL2 gT2 gB2 gC2 gP2 gR2 gG2 : Nat → Int32) (gn2 : Int32), Inv xk2 xl2 bK2 bZ2 bL2 bM2 bi2 bg2 bh2 lI2 lC2 lT2 lR2 lth2 lro2 lsp2 lle2 lex2 lco2 lou2 iK2 iZ2 iL2 iM2 ii2 ig2 ih2 jK2 jZ2 jL2 jM2 ji2 jg2 jh2 gS2 gI2 gK2 → SN p l e room_1 s m #[Value.ref b] below meth c (fun q : Nat => s.heap.size ≤ q) (dC, dI) 4 Q 600000 7302250 (wdW cI cZ cB x0 x1 b0 b1 b2 b3 b4 s0 s1 s2 l0 l1 l2 l3 l4 i0 i1 i2 i3 i4 j0 j1 j2 j3 j4 g0 g1 g2 g3 g4 g5 g6 g7 g8 g9 g10 g11 xk2 xl2 bK2 bZ2 bL2 bM2 bi2 bg2 bh2 sB2 sO2 sh2 sw2 sr2 lI2 lC2 lT2 lR2 lth2 lro2 lsp2 lle2 lex2 lco2 lou2 iK2 iZ2 iL2 iM2 ii2 ig2 ih2 jK2 jZ2 jL2 jM2 ji2 jg2 jh2 gS2 gI2 gK2 gO2 gL2 gT2 gB2 gC2 gP2 gR2 gG2 gn2) [(0, .ref b), (1, .ref x0), (2, .ref g0), (3, .int (nI a))] 580 []) : SN p l e room_1 s m #[Value.ref b] below meth c (fun q : Nat => s.heap.size ≤ q) (dC, dI) 4 Q 600000 7302250 (wdW cI cZ cB x0 x1 b0 b1 b2 b3 b4 s0 s1 s2 l0 l1 l2 l3 l4 i0 i1 i2 i3 i4 j0 j1 j2 j3 j4 g0 g1 g2 g3 g4 g5 g6 g7 g8 g9 g10 g11 xk xl bK bZ bL bM bi bg bh sB sO sh sw sr lI lC lT lR lth lro lsp lle lex lco lou iK iZ iL iM ii ig ih jK jZ jL jM ji jg jh gS gI gK gO gL gT gB gC gP gR gG gn) [(0, .ref b), (1, .ref x0), (2, .ref g0), (3, .int (nI a))] 208 [] := by
  obtain ⟨r, xl', bK', bZ', bL', bM', bi', gS', hx, hm, hI2⟩ := op_remove (xs (nI a + 1).toNatClampNeg) xk xl bK bZ bL bM bi bg bh lI lC lT lR lth lro lsp lle lex lco lou iK iZ iL iM ii ig ih jK jZ jL jM ji jg jh gS gI gK hI
  refine sn_aload_n C dW_law_208 1 rfl rfl ?_
  refine sn_aload_n C dW_law_209 0 rfl rfl ?_
  refine sn_iload_n C dW_law_210 3 rfl rfl ?_
  refine sn_iconst C dW_law_211 ki_1 ?_
  refine sn_iadd C dW_law_212 ?_
  refine sn_sld C hX hbl hbA (i := nI a + 1) (law_in ha hL 1 (by omega) kl_1) dW_law_213 ?_
  refine sn_callVj (w1 := (wdW cI cZ cB x0 x1 b0 b1 b2 b3 b4 s0 s1 s2 l0 l1 l2 l3 l4 i0 i1 i2 i3 i4 j0 j1 j2 j3 j4 g0 g1 g2 g3 g4 g5 g6 g7 g8 g9 g10 g11 xk xl' bK' bZ' bL' bM' bi' bg bh sB sO sh sw sr lI lC lT lR lth lro lsp lle lex lco lou iK iZ iL iM ii ig ih jK jZ jL jM ji jg jh gS gI gK gO gL gT gB gC gP gR gG gn)) (q0 := 0) C "StepColumns" (cX_remove l dC dI cI cZ cB x0 x1 b0 b1 b2 b3 b4 s0 s1 s2 l0 l1 l2 l3 l4 xk xl bK bZ bL bM bi bg bh sB sO sh sw sr lI lC lT lR lth lro lsp lle lex lco lou (xs (nI a + 1).toNatClampNeg) r xl' bK' bZ' bL' bM' bi' hx) (PJ_LL rfl) wd_219 wd_220 wd_221 wd_35 wd_222 hX_remove rfl rfl ⟨Nat.le_of_ble_eq_true rfl, Nat.le_of_ble_eq_true rfl⟩ rfl rfl rfl rfl rfl ⟨Nat.le_of_ble_eq_true rfl, Nat.le_of_ble_eq_true rfl⟩ (Nat.le_of_ble_eq_true rfl) dW_law_214 ?_
  refine sn_aload_n C dW_law_217 2 rfl rfl ?_
  refine sn_aload_n C dW_law_218 0 rfl rfl ?_
  refine sn_iload_n C dW_law_219 3 rfl rfl ?_
  refine sn_iconst C dW_law_220 ki_1 ?_
  refine sn_iadd C dW_law_221 ?_
  refine sn_sld C hX hbl hbA (i := nI a + 1) (law_in ha hL 1 (by omega) kl_1) dW_law_222 ?_
  refine sn_callVj (w1 := (wdW cI cZ cB x0 x1 b0 b1 b2 b3 b4 s0 s1 s2 l0 l1 l2 l3 l4 i0 i1 i2 i3 i4 j0 j1 j2 j3 j4 g0 g1 g2 g3 g4 g5 g6 g7 g8 g9 g10 g11 xk xl' bK' bZ' bL' bM' bi' bg bh sB sO sh sw sr lI lC lT lR lth lro lsp lle lex lco lou iK iZ iL iM ii ig ih jK jZ jL jM ji jg jh gS' gI gK gO gL gT gB gC gP gR gG gn)) (q0 := 0) C "StepColumnsModel" (cM_remove l dC dI cI cZ cB g0 g1 g2 g3 g4 g5 g6 g7 g8 g9 g10 g11 gS gI gK gO gL gT gB gC gP gR gG gn (xs (nI a + 1).toNatClampNeg) r gS' hm) (PJ_R rfl) wd_491 wd_492 wd_493 wd_39 wd_494 hM_remove rfl rfl ⟨Nat.le_of_ble_eq_true rfl, Nat.le_of_ble_eq_true rfl⟩ rfl rfl rfl rfl rfl ⟨Nat.le_of_ble_eq_true rfl, Nat.le_of_ble_eq_true rfl⟩ (Nat.le_of_ble_eq_true rfl) dW_law_223 ?_
  refine sn_icmp_eq C 580 dW_law_226 (by decide) (fun _ => ?_) (fun cc_ => absurd rfl cc_)
  exact kk xk xl' bK' bZ' bL' bM' bi' bg bh sB sO sh sw sr lI lC lT lR lth lro lsp lle lex lco lou iK iZ iL iM ii ig ih jK jZ jL jM ji jg jh gS' gI gK gO gL gT gB gC gP gR gG gn hI2
set_option maxHeartbeats 4000000 in
set_option maxRecDepth 100000 in
theorem case_move {p : Program} {l : Launch} {e : Env} {s : State} {m : MethodId} {below : List Frame} {meth : Method} {c : Code} {dC : Nat → ClassId} {dI : Nat → Nat → Nat} {cI cZ cB : ClassId} {b L : Nat} {xs : Nat → Int32} {Q : State → Prop} {a : Nat} (C : SC p s m #[Value.ref b] c code 4 "StepColumnsLaw" (fun q : Nat => s.heap.size ≤ q) (dC, dI) (tyl cI cZ cB)) (hX : va_X b L xs s s.heap) (hbl : b < s.heap.size) (hbA : ¬ (fun q : Nat => s.heap.size ≤ q) b) (hL : L ≤ 2560) (ha : a + 5 ≤ L) (x0 x1 b0 b1 b2 b3 b4 s0 s1 s2 l0 l1 l2 l3 l4 i0 i1 i2 i3 i4 j0 j1 j2 j3 j4 g0 g1 g2 g3 g4 g5 g6 g7 g8 g9 g10 g11 : Nat) (xk xl : Int32) (bK bZ bL bM : Nat → Int32) (bi bg bh : Int32) (sB sO : Nat → Int32) (sh sw sr : Int32) (lI lC lT lR : Nat → Int32) (lth lro lsp lle lex lco lou : Int32) (iK iZ iL iM : Nat → Int32) (ii ig ih : Int32) (jK jZ jL jM : Nat → Int32) (ji jg jh : Int32) (gS gI gK gO gL gT gB gC gP gR gG : Nat → Int32) (gn : Int32) (hI : Inv xk xl bK bZ bL bM bi bg bh lI lC lT lR lth lro lsp lle lex lco lou iK iZ iL iM ii ig ih jK jZ jL jM ji jg jh gS gI gK) (kk : ∀ (xk2 xl2 : Int32) (bK2 bZ2 bL2 bM2 : Nat → Int32) (bi2 bg2 bh2 : Int32) (sB2 sO2 : Nat → Int32) (sh2 sw2 sr2 : Int32) (lI2 lC2 lT2 lR2 : Nat → Int32) (lth2 lro2 lsp2 lle2 lex2 lco2 lou2 : Int32) (iK2 iZ2 iL2 iM2 : Nat → Int32) (ii2 ig2 ih2 : Int32) (jK2 jZ2 jL2 jM2 : Nat → Int32) (ji2 jg2 jh2 : Int32) (gS2 gI2 gK2 gO2 gL2 gT2 gB2 gC2 gP2 gR2 gG2 : Nat → Int32) (gn2 : Int32), Inv xk2 xl2 bK2 bZ2 bL2 bM2 bi2 bg2 bh2 lI2 lC2 lT2 lR2 lth2 lro2 lsp2 lle2 lex2 lco2 lou2 iK2 iZ2 iL2 iM2 ii2 ig2 ih2 jK2 jZ2 jL2 jM2 ji2 jg2 jh2 gS2 gI2 gK2 → SN p l e room_1 s m #[Value.ref b] below meth c (fun q : Nat => s.heap.size ≤ q) (dC, dI) 4 Q 600000 7302250 (wdW cI cZ cB x0 x1 b0 b1 b2 b3 b4 s0 s1 s2 l0 l1 l2 l3 l4 i0 i1 i2 i3 i4 j0 j1 j2 j3 j4 g0 g1 g2 g3 g4 g5 g6 g7 g8 g9 g10 g11 xk2 xl2 bK2 bZ2 bL2 bM2 bi2 bg2 bh2 sB2 sO2 sh2 sw2 sr2 lI2 lC2 lT2 lR2 lth2 lro2 lsp2 lle2 lex2 lco2 lou2 iK2 iZ2 iL2 iM2 ii2 ig2 ih2 jK2 jZ2 jL2 jM2 ji2 jg2 jh2 gS2 gI2 gK2 gO2 gL2 gT2 gB2 gC2 gP2 gR2 gG2 gn2) [(0, .ref b), (1, .ref x0), (2, .ref g0), (3, .int (nI a))] 580 []) : SN p l e room_1 s m #[Value.ref b] below meth c (fun q : Nat => s.heap.size ≤ q) (dC, dI) 4 Q 600000 7302250 (wdW cI cZ cB x0 x1 b0 b1 b2 b3 b4 s0 s1 s2 l0 l1 l2 l3 l4 i0 i1 i2 i3 i4 j0 j1 j2 j3 j4 g0 g1 g2 g3 g4 g5 g6 g7 g8 g9 g10 g11 xk xl bK bZ bL bM bi bg bh sB sO sh sw sr lI lC lT lR lth lro lsp lle lex lco lou iK iZ iL iM ii ig ih jK jZ jL jM ji jg jh gS gI gK gO gL gT gB gC gP gR gG gn) [(0, .ref b), (1, .ref x0), (2, .ref g0), (3, .int (nI a))] 231 [] := by
  obtain ⟨r, xl', bK', bZ', bL', bM', gS', hx, hm, hI2⟩ := op_move (xs (nI a + 1).toNatClampNeg) (xs (nI a + 2).toNatClampNeg) xk xl bK bZ bL bM bi bg bh lI lC lT lR lth lro lsp lle lex lco lou iK iZ iL iM ii ig ih jK jZ jL jM ji jg jh gS gI gK hI
  refine sn_aload_n C dW_law_231 1 rfl rfl ?_
  refine sn_aload_n C dW_law_232 0 rfl rfl ?_
  refine sn_iload_n C dW_law_233 3 rfl rfl ?_
  refine sn_iconst C dW_law_234 ki_1 ?_
  refine sn_iadd C dW_law_235 ?_
  refine sn_sld C hX hbl hbA (i := nI a + 1) (law_in ha hL 1 (by omega) kl_1) dW_law_236 ?_
  refine sn_aload_n C dW_law_237 0 rfl rfl ?_
  refine sn_iload_n C dW_law_238 3 rfl rfl ?_
  refine sn_iconst C dW_law_239 ki_2 ?_
  refine sn_iadd C dW_law_240 ?_
  refine sn_sld C hX hbl hbA (i := nI a + 2) (law_in ha hL 2 (by omega) kl_2) dW_law_241 ?_
  refine sn_callVj (w1 := (wdW cI cZ cB x0 x1 b0 b1 b2 b3 b4 s0 s1 s2 l0 l1 l2 l3 l4 i0 i1 i2 i3 i4 j0 j1 j2 j3 j4 g0 g1 g2 g3 g4 g5 g6 g7 g8 g9 g10 g11 xk xl' bK' bZ' bL' bM' bi bg bh sB sO sh sw sr lI lC lT lR lth lro lsp lle lex lco lou iK iZ iL iM ii ig ih jK jZ jL jM ji jg jh gS gI gK gO gL gT gB gC gP gR gG gn)) (q0 := 0) C "StepColumns" (cX_move l dC dI cI cZ cB x0 x1 b0 b1 b2 b3 b4 s0 s1 s2 l0 l1 l2 l3 l4 xk xl bK bZ bL bM bi bg bh sB sO sh sw sr lI lC lT lR lth lro lsp lle lex lco lou (xs (nI a + 1).toNatClampNeg) (xs (nI a + 2).toNatClampNeg) r xl' bK' bZ' bL' bM' hx) (PJ_LL rfl) wd_230 wd_231 wd_232 wd_35 wd_233 hX_move rfl rfl ⟨Nat.le_of_ble_eq_true rfl, Nat.le_of_ble_eq_true rfl⟩ rfl rfl rfl rfl rfl ⟨Nat.le_of_ble_eq_true rfl, Nat.le_of_ble_eq_true rfl⟩ (Nat.le_of_ble_eq_true rfl) dW_law_242 ?_
  refine sn_aload_n C dW_law_245 2 rfl rfl ?_
  refine sn_aload_n C dW_law_246 0 rfl rfl ?_
  refine sn_iload_n C dW_law_247 3 rfl rfl ?_
  refine sn_iconst C dW_law_248 ki_1 ?_
  refine sn_iadd C dW_law_249 ?_
  refine sn_sld C hX hbl hbA (i := nI a + 1) (law_in ha hL 1 (by omega) kl_1) dW_law_250 ?_
  refine sn_aload_n C dW_law_251 0 rfl rfl ?_
  refine sn_iload_n C dW_law_252 3 rfl rfl ?_
  refine sn_iconst C dW_law_253 ki_2 ?_
  refine sn_iadd C dW_law_254 ?_
  refine sn_sld C hX hbl hbA (i := nI a + 2) (law_in ha hL 2 (by omega) kl_2) dW_law_255 ?_
  refine sn_callVj (w1 := (wdW cI cZ cB x0 x1 b0 b1 b2 b3 b4 s0 s1 s2 l0 l1 l2 l3 l4 i0 i1 i2 i3 i4 j0 j1 j2 j3 j4 g0 g1 g2 g3 g4 g5 g6 g7 g8 g9 g10 g11 xk xl' bK' bZ' bL' bM' bi bg bh sB sO sh sw sr lI lC lT lR lth lro lsp lle lex lco lou iK iZ iL iM ii ig ih jK jZ jL jM ji jg jh gS' gI gK gO gL gT gB gC gP gR gG gn)) (q0 := 0) C "StepColumnsModel" (cM_move l dC dI cI cZ cB g0 g1 g2 g3 g4 g5 g6 g7 g8 g9 g10 g11 gS gI gK gO gL gT gB gC gP gR gG gn (xs (nI a + 1).toNatClampNeg) (xs (nI a + 2).toNatClampNeg) r gS' hm) (PJ_R rfl) wd_499 wd_500 wd_501 wd_39 wd_502 hM_move rfl rfl ⟨Nat.le_of_ble_eq_true rfl, Nat.le_of_ble_eq_true rfl⟩ rfl rfl rfl rfl rfl ⟨Nat.le_of_ble_eq_true rfl, Nat.le_of_ble_eq_true rfl⟩ (Nat.le_of_ble_eq_true rfl) dW_law_256 ?_
  refine sn_icmp_eq C 580 dW_law_259 (by decide) (fun _ => ?_) (fun cc_ => absurd rfl cc_)
  exact kk xk xl' bK' bZ' bL' bM' bi bg bh sB sO sh sw sr lI lC lT lR lth lro lsp lle lex lco lou iK iZ iL iM ii ig ih jK jZ jL jM ji jg jh gS' gI gK gO gL gT gB gC gP gR gG gn hI2
set_option maxHeartbeats 4000000 in
set_option maxRecDepth 100000 in
theorem case_set {p : Program} {l : Launch} {e : Env} {s : State} {m : MethodId} {below : List Frame} {meth : Method} {c : Code} {dC : Nat → ClassId} {dI : Nat → Nat → Nat} {cI cZ cB : ClassId} {b L : Nat} {xs : Nat → Int32} {Q : State → Prop} {a : Nat} (C : SC p s m #[Value.ref b] c code 4 "StepColumnsLaw" (fun q : Nat => s.heap.size ≤ q) (dC, dI) (tyl cI cZ cB)) (hX : va_X b L xs s s.heap) (hbl : b < s.heap.size) (hbA : ¬ (fun q : Nat => s.heap.size ≤ q) b) (hL : L ≤ 2560) (ha : a + 5 ≤ L) (x0 x1 b0 b1 b2 b3 b4 s0 s1 s2 l0 l1 l2 l3 l4 i0 i1 i2 i3 i4 j0 j1 j2 j3 j4 g0 g1 g2 g3 g4 g5 g6 g7 g8 g9 g10 g11 : Nat) (xk xl : Int32) (bK bZ bL bM : Nat → Int32) (bi bg bh : Int32) (sB sO : Nat → Int32) (sh sw sr : Int32) (lI lC lT lR : Nat → Int32) (lth lro lsp lle lex lco lou : Int32) (iK iZ iL iM : Nat → Int32) (ii ig ih : Int32) (jK jZ jL jM : Nat → Int32) (ji jg jh : Int32) (gS gI gK gO gL gT gB gC gP gR gG : Nat → Int32) (gn : Int32) (hI : Inv xk xl bK bZ bL bM bi bg bh lI lC lT lR lth lro lsp lle lex lco lou iK iZ iL iM ii ig ih jK jZ jL jM ji jg jh gS gI gK) (kk : ∀ (xk2 xl2 : Int32) (bK2 bZ2 bL2 bM2 : Nat → Int32) (bi2 bg2 bh2 : Int32) (sB2 sO2 : Nat → Int32) (sh2 sw2 sr2 : Int32) (lI2 lC2 lT2 lR2 : Nat → Int32) (lth2 lro2 lsp2 lle2 lex2 lco2 lou2 : Int32) (iK2 iZ2 iL2 iM2 : Nat → Int32) (ii2 ig2 ih2 : Int32) (jK2 jZ2 jL2 jM2 : Nat → Int32) (ji2 jg2 jh2 : Int32) (gS2 gI2 gK2 gO2 gL2 gT2 gB2 gC2 gP2 gR2 gG2 : Nat → Int32) (gn2 : Int32), Inv xk2 xl2 bK2 bZ2 bL2 bM2 bi2 bg2 bh2 lI2 lC2 lT2 lR2 lth2 lro2 lsp2 lle2 lex2 lco2 lou2 iK2 iZ2 iL2 iM2 ii2 ig2 ih2 jK2 jZ2 jL2 jM2 ji2 jg2 jh2 gS2 gI2 gK2 → SN p l e room_1 s m #[Value.ref b] below meth c (fun q : Nat => s.heap.size ≤ q) (dC, dI) 4 Q 600000 7302250 (wdW cI cZ cB x0 x1 b0 b1 b2 b3 b4 s0 s1 s2 l0 l1 l2 l3 l4 i0 i1 i2 i3 i4 j0 j1 j2 j3 j4 g0 g1 g2 g3 g4 g5 g6 g7 g8 g9 g10 g11 xk2 xl2 bK2 bZ2 bL2 bM2 bi2 bg2 bh2 sB2 sO2 sh2 sw2 sr2 lI2 lC2 lT2 lR2 lth2 lro2 lsp2 lle2 lex2 lco2 lou2 iK2 iZ2 iL2 iM2 ii2 ig2 ih2 jK2 jZ2 jL2 jM2 ji2 jg2 jh2 gS2 gI2 gK2 gO2 gL2 gT2 gB2 gC2 gP2 gR2 gG2 gn2) [(0, .ref b), (1, .ref x0), (2, .ref g0), (3, .int (nI a))] 580 []) : SN p l e room_1 s m #[Value.ref b] below meth c (fun q : Nat => s.heap.size ≤ q) (dC, dI) 4 Q 600000 7302250 (wdW cI cZ cB x0 x1 b0 b1 b2 b3 b4 s0 s1 s2 l0 l1 l2 l3 l4 i0 i1 i2 i3 i4 j0 j1 j2 j3 j4 g0 g1 g2 g3 g4 g5 g6 g7 g8 g9 g10 g11 xk xl bK bZ bL bM bi bg bh sB sO sh sw sr lI lC lT lR lth lro lsp lle lex lco lou iK iZ iL iM ii ig ih jK jZ jL jM ji jg jh gS gI gK gO gL gT gB gC gP gR gG gn) [(0, .ref b), (1, .ref x0), (2, .ref g0), (3, .int (nI a))] 264 [] := by
  obtain ⟨r, xl', bg', bh', gS', hx, hm, hI2⟩ := op_set (xs (nI a + 1).toNatClampNeg) (xs (nI a + 2).toNatClampNeg) xk xl bK bZ bL bM bi bg bh lI lC lT lR lth lro lsp lle lex lco lou iK iZ iL iM ii ig ih jK jZ jL jM ji jg jh gS gI gK hI
  refine sn_aload_n C dW_law_264 1 rfl rfl ?_
  refine sn_aload_n C dW_law_265 0 rfl rfl ?_
  refine sn_iload_n C dW_law_266 3 rfl rfl ?_
  refine sn_iconst C dW_law_267 ki_1 ?_
  refine sn_iadd C dW_law_268 ?_
  refine sn_sld C hX hbl hbA (i := nI a + 1) (law_in ha hL 1 (by omega) kl_1) dW_law_269 ?_
  refine sn_aload_n C dW_law_270 0 rfl rfl ?_
  refine sn_iload_n C dW_law_271 3 rfl rfl ?_
  refine sn_iconst C dW_law_272 ki_2 ?_
  refine sn_iadd C dW_law_273 ?_
  refine sn_sld C hX hbl hbA (i := nI a + 2) (law_in ha hL 2 (by omega) kl_2) dW_law_274 ?_
  refine sn_callVj (w1 := (wdW cI cZ cB x0 x1 b0 b1 b2 b3 b4 s0 s1 s2 l0 l1 l2 l3 l4 i0 i1 i2 i3 i4 j0 j1 j2 j3 j4 g0 g1 g2 g3 g4 g5 g6 g7 g8 g9 g10 g11 xk xl' bK bZ bL bM bi bg' bh' sB sO sh sw sr lI lC lT lR lth lro lsp lle lex lco lou iK iZ iL iM ii ig ih jK jZ jL jM ji jg jh gS gI gK gO gL gT gB gC gP gR gG gn)) (q0 := 0) C "StepColumns" (cX_set l dC dI cI cZ cB x0 x1 b0 b1 b2 b3 b4 s0 s1 s2 l0 l1 l2 l3 l4 xk xl bK bZ bL bM bi bg bh sB sO sh sw sr lI lC lT lR lth lro lsp lle lex lco lou (xs (nI a + 1).toNatClampNeg) (xs (nI a + 2).toNatClampNeg) r xl' bg' bh' hx) (PJ_LL rfl) wd_234 wd_235 wd_236 wd_35 wd_237 hX_set rfl rfl ⟨Nat.le_of_ble_eq_true rfl, Nat.le_of_ble_eq_true rfl⟩ rfl rfl rfl rfl rfl ⟨Nat.le_of_ble_eq_true rfl, Nat.le_of_ble_eq_true rfl⟩ (Nat.le_of_ble_eq_true rfl) dW_law_275 ?_
  refine sn_aload_n C dW_law_278 2 rfl rfl ?_
  refine sn_aload_n C dW_law_279 0 rfl rfl ?_
  refine sn_iload_n C dW_law_280 3 rfl rfl ?_
  refine sn_iconst C dW_law_281 ki_1 ?_
  refine sn_iadd C dW_law_282 ?_
  refine sn_sld C hX hbl hbA (i := nI a + 1) (law_in ha hL 1 (by omega) kl_1) dW_law_283 ?_
  refine sn_aload_n C dW_law_284 0 rfl rfl ?_
  refine sn_iload_n C dW_law_285 3 rfl rfl ?_
  refine sn_iconst C dW_law_286 ki_2 ?_
  refine sn_iadd C dW_law_287 ?_
  refine sn_sld C hX hbl hbA (i := nI a + 2) (law_in ha hL 2 (by omega) kl_2) dW_law_288 ?_
  refine sn_callVj (w1 := (wdW cI cZ cB x0 x1 b0 b1 b2 b3 b4 s0 s1 s2 l0 l1 l2 l3 l4 i0 i1 i2 i3 i4 j0 j1 j2 j3 j4 g0 g1 g2 g3 g4 g5 g6 g7 g8 g9 g10 g11 xk xl' bK bZ bL bM bi bg' bh' sB sO sh sw sr lI lC lT lR lth lro lsp lle lex lco lou iK iZ iL iM ii ig ih jK jZ jL jM ji jg jh gS' gI gK gO gL gT gB gC gP gR gG gn)) (q0 := 0) C "StepColumnsModel" (cM_set l dC dI cI cZ cB g0 g1 g2 g3 g4 g5 g6 g7 g8 g9 g10 g11 gS gI gK gO gL gT gB gC gP gR gG gn (xs (nI a + 1).toNatClampNeg) (xs (nI a + 2).toNatClampNeg) r gS' hm) (PJ_R rfl) wd_507 wd_508 wd_509 wd_39 wd_510 hM_set rfl rfl ⟨Nat.le_of_ble_eq_true rfl, Nat.le_of_ble_eq_true rfl⟩ rfl rfl rfl rfl rfl ⟨Nat.le_of_ble_eq_true rfl, Nat.le_of_ble_eq_true rfl⟩ (Nat.le_of_ble_eq_true rfl) dW_law_289 ?_
  refine sn_icmp_eq C 580 dW_law_292 (by decide) (fun _ => ?_) (fun cc_ => absurd rfl cc_)
  exact kk xk xl' bK bZ bL bM bi bg' bh' sB sO sh sw sr lI lC lT lR lth lro lsp lle lex lco lou iK iZ iL iM ii ig ih jK jZ jL jM ji jg jh gS' gI gK gO gL gT gB gC gP gR gG gn hI2
set_option maxHeartbeats 4000000 in
set_option maxRecDepth 100000 in
theorem case_item {p : Program} {l : Launch} {e : Env} {s : State} {m : MethodId} {below : List Frame} {meth : Method} {c : Code} {dC : Nat → ClassId} {dI : Nat → Nat → Nat} {cI cZ cB : ClassId} {b L : Nat} {xs : Nat → Int32} {Q : State → Prop} {a : Nat} (C : SC p s m #[Value.ref b] c code 4 "StepColumnsLaw" (fun q : Nat => s.heap.size ≤ q) (dC, dI) (tyl cI cZ cB)) (hX : va_X b L xs s s.heap) (hbl : b < s.heap.size) (hbA : ¬ (fun q : Nat => s.heap.size ≤ q) b) (hL : L ≤ 2560) (ha : a + 5 ≤ L) (x0 x1 b0 b1 b2 b3 b4 s0 s1 s2 l0 l1 l2 l3 l4 i0 i1 i2 i3 i4 j0 j1 j2 j3 j4 g0 g1 g2 g3 g4 g5 g6 g7 g8 g9 g10 g11 : Nat) (xk xl : Int32) (bK bZ bL bM : Nat → Int32) (bi bg bh : Int32) (sB sO : Nat → Int32) (sh sw sr : Int32) (lI lC lT lR : Nat → Int32) (lth lro lsp lle lex lco lou : Int32) (iK iZ iL iM : Nat → Int32) (ii ig ih : Int32) (jK jZ jL jM : Nat → Int32) (ji jg jh : Int32) (gS gI gK gO gL gT gB gC gP gR gG : Nat → Int32) (gn : Int32) (hI : Inv xk xl bK bZ bL bM bi bg bh lI lC lT lR lth lro lsp lle lex lco lou iK iZ iL iM ii ig ih jK jZ jL jM ji jg jh gS gI gK) (kk : ∀ (xk2 xl2 : Int32) (bK2 bZ2 bL2 bM2 : Nat → Int32) (bi2 bg2 bh2 : Int32) (sB2 sO2 : Nat → Int32) (sh2 sw2 sr2 : Int32) (lI2 lC2 lT2 lR2 : Nat → Int32) (lth2 lro2 lsp2 lle2 lex2 lco2 lou2 : Int32) (iK2 iZ2 iL2 iM2 : Nat → Int32) (ii2 ig2 ih2 : Int32) (jK2 jZ2 jL2 jM2 : Nat → Int32) (ji2 jg2 jh2 : Int32) (gS2 gI2 gK2 gO2 gL2 gT2 gB2 gC2 gP2 gR2 gG2 : Nat → Int32) (gn2 : Int32), Inv xk2 xl2 bK2 bZ2 bL2 bM2 bi2 bg2 bh2 lI2 lC2 lT2 lR2 lth2 lro2 lsp2 lle2 lex2 lco2 lou2 iK2 iZ2 iL2 iM2 ii2 ig2 ih2 jK2 jZ2 jL2 jM2 ji2 jg2 jh2 gS2 gI2 gK2 → SN p l e room_1 s m #[Value.ref b] below meth c (fun q : Nat => s.heap.size ≤ q) (dC, dI) 4 Q 600000 7302250 (wdW cI cZ cB x0 x1 b0 b1 b2 b3 b4 s0 s1 s2 l0 l1 l2 l3 l4 i0 i1 i2 i3 i4 j0 j1 j2 j3 j4 g0 g1 g2 g3 g4 g5 g6 g7 g8 g9 g10 g11 xk2 xl2 bK2 bZ2 bL2 bM2 bi2 bg2 bh2 sB2 sO2 sh2 sw2 sr2 lI2 lC2 lT2 lR2 lth2 lro2 lsp2 lle2 lex2 lco2 lou2 iK2 iZ2 iL2 iM2 ii2 ig2 ih2 jK2 jZ2 jL2 jM2 ji2 jg2 jh2 gS2 gI2 gK2 gO2 gL2 gT2 gB2 gC2 gP2 gR2 gG2 gn2) [(0, .ref b), (1, .ref x0), (2, .ref g0), (3, .int (nI a))] 580 []) : SN p l e room_1 s m #[Value.ref b] below meth c (fun q : Nat => s.heap.size ≤ q) (dC, dI) 4 Q 600000 7302250 (wdW cI cZ cB x0 x1 b0 b1 b2 b3 b4 s0 s1 s2 l0 l1 l2 l3 l4 i0 i1 i2 i3 i4 j0 j1 j2 j3 j4 g0 g1 g2 g3 g4 g5 g6 g7 g8 g9 g10 g11 xk xl bK bZ bL bM bi bg bh sB sO sh sw sr lI lC lT lR lth lro lsp lle lex lco lou iK iZ iL iM ii ig ih jK jZ jL jM ji jg jh gS gI gK gO gL gT gB gC gP gR gG gn) [(0, .ref b), (1, .ref x0), (2, .ref g0), (3, .int (nI a))] 297 [] := by
  obtain ⟨r, hx, hm, hI2⟩ := op_item (xs (nI a + 1).toNatClampNeg) (xs (nI a + 2).toNatClampNeg) xk xl bK bZ bL bM bi bg bh lI lC lT lR lth lro lsp lle lex lco lou iK iZ iL iM ii ig ih jK jZ jL jM ji jg jh gS gI gK hI
  refine sn_aload_n C dW_law_297 1 rfl rfl ?_
  refine sn_aload_n C dW_law_298 0 rfl rfl ?_
  refine sn_iload_n C dW_law_299 3 rfl rfl ?_
  refine sn_iconst C dW_law_300 ki_1 ?_
  refine sn_iadd C dW_law_301 ?_
  refine sn_sld C hX hbl hbA (i := nI a + 1) (law_in ha hL 1 (by omega) kl_1) dW_law_302 ?_
  refine sn_aload_n C dW_law_303 0 rfl rfl ?_
  refine sn_iload_n C dW_law_304 3 rfl rfl ?_
  refine sn_iconst C dW_law_305 ki_2 ?_
  refine sn_iadd C dW_law_306 ?_
  refine sn_sld C hX hbl hbA (i := nI a + 2) (law_in ha hL 2 (by omega) kl_2) dW_law_307 ?_
  refine sn_callVj (w1 := (wdW cI cZ cB x0 x1 b0 b1 b2 b3 b4 s0 s1 s2 l0 l1 l2 l3 l4 i0 i1 i2 i3 i4 j0 j1 j2 j3 j4 g0 g1 g2 g3 g4 g5 g6 g7 g8 g9 g10 g11 xk xl bK bZ bL bM bi bg bh sB sO sh sw sr lI lC lT lR lth lro lsp lle lex lco lou iK iZ iL iM ii ig ih jK jZ jL jM ji jg jh gS gI gK gO gL gT gB gC gP gR gG gn)) (q0 := 0) C "StepColumns" (cX_item l dC dI cI cZ cB x0 x1 b0 b1 b2 b3 b4 s0 s1 s2 l0 l1 l2 l3 l4 xk xl bK bZ bL bM bi bg bh sB sO sh sw sr lI lC lT lR lth lro lsp lle lex lco lou (xs (nI a + 1).toNatClampNeg) (xs (nI a + 2).toNatClampNeg) r hx) (PJ_LL rfl) wd_238 wd_239 wd_240 wd_35 wd_241 hX_item rfl rfl ⟨Nat.le_of_ble_eq_true rfl, Nat.le_of_ble_eq_true rfl⟩ rfl rfl rfl rfl rfl ⟨Nat.le_of_ble_eq_true rfl, Nat.le_of_ble_eq_true rfl⟩ (Nat.le_of_ble_eq_true rfl) dW_law_308 ?_
  refine sn_aload_n C dW_law_311 2 rfl rfl ?_
  refine sn_aload_n C dW_law_312 0 rfl rfl ?_
  refine sn_iload_n C dW_law_313 3 rfl rfl ?_
  refine sn_iconst C dW_law_314 ki_1 ?_
  refine sn_iadd C dW_law_315 ?_
  refine sn_sld C hX hbl hbA (i := nI a + 1) (law_in ha hL 1 (by omega) kl_1) dW_law_316 ?_
  refine sn_aload_n C dW_law_317 0 rfl rfl ?_
  refine sn_iload_n C dW_law_318 3 rfl rfl ?_
  refine sn_iconst C dW_law_319 ki_2 ?_
  refine sn_iadd C dW_law_320 ?_
  refine sn_sld C hX hbl hbA (i := nI a + 2) (law_in ha hL 2 (by omega) kl_2) dW_law_321 ?_
  refine sn_callVj (w1 := (wdW cI cZ cB x0 x1 b0 b1 b2 b3 b4 s0 s1 s2 l0 l1 l2 l3 l4 i0 i1 i2 i3 i4 j0 j1 j2 j3 j4 g0 g1 g2 g3 g4 g5 g6 g7 g8 g9 g10 g11 xk xl bK bZ bL bM bi bg bh sB sO sh sw sr lI lC lT lR lth lro lsp lle lex lco lou iK iZ iL iM ii ig ih jK jZ jL jM ji jg jh gS gI gK gO gL gT gB gC gP gR gG gn)) (q0 := 0) C "StepColumnsModel" (cM_item l dC dI cI cZ cB g0 g1 g2 g3 g4 g5 g6 g7 g8 g9 g10 g11 gS gI gK gO gL gT gB gC gP gR gG gn (xs (nI a + 1).toNatClampNeg) (xs (nI a + 2).toNatClampNeg) r hm) (PJ_R rfl) wd_511 wd_512 wd_513 wd_39 wd_514 hM_item rfl rfl ⟨Nat.le_of_ble_eq_true rfl, Nat.le_of_ble_eq_true rfl⟩ rfl rfl rfl rfl rfl ⟨Nat.le_of_ble_eq_true rfl, Nat.le_of_ble_eq_true rfl⟩ (Nat.le_of_ble_eq_true rfl) dW_law_322 ?_
  refine sn_icmp_eq C 580 dW_law_325 (by decide) (fun _ => ?_) (fun cc_ => absurd rfl cc_)
  exact kk xk xl bK bZ bL bM bi bg bh sB sO sh sw sr lI lC lT lR lth lro lsp lle lex lco lou iK iZ iL iM ii ig ih jK jZ jL jM ji jg jh gS gI gK gO gL gT gB gC gP gR gG gn hI2
