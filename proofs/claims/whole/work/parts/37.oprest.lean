theorem rg_cong {P : Pb} {g g' : Nat → Int32} {o : Nat} (hn : pn P ≤ 12) (h : RG P o g) (hg : ∀ q, q < 51 → g' (o + q) = g (o + q)) : RG P o g' := by
  obtain ⟨h1, h2, h3, h4⟩ := h
  refine ⟨by rw [hg _ (by omega), h1], by rw [hg _ (by omega), h2], by rw [hg _ (by omega), h3], fun i hi => ?_⟩
  obtain ⟨f1, f2, f3, f4⟩ := h4 i hi
  refine ⟨by rw [hg _ (by omega), f1], ?_, ?_, ?_⟩
  · rw [show o + 12 + i = o + (12 + i) by omega, hg _ (by omega), ← Nat.add_assoc, f2]
  · rw [show o + 24 + i = o + (24 + i) by omega, hg _ (by omega), ← Nat.add_assoc, f3]
  · rw [show o + 36 + i = o + (36 + i) by omega, hg _ (by omega), ← Nat.add_assoc, f4]
theorem in_01 {p : Int32} (h1 : ¬ p < 0) (h2 : p < 2) : p = 0 ∨ p = 1 := by
  rw [i_lt] at h1 h2
  rw [i_eq, i_eq]
  rw [ln_0, nt (by omega)] at h1
  rw [ln_2, nt (by omega)] at h2
  rw [ln_0, ln_1, nt (by omega), nt (by omega)]
  omega
theorem in_02 {p : Int32} (h2 : ¬ p < 2) : 1 < p := by
  rw [i_lt] at *
  rw [ln_2, nt (by omega)] at h2
  rw [ln_1, nt (by omega)]
  omega
theorem kp_0 {a b : Nat} (ha : a ≤ 1) (hb : b ≤ 1) : nI (a + 2 * b) ||| (1 <<< ((0 : Int32) &&& 31)) = nI (1 + 2 * b) := by
  rcases (show a = 0 ∨ a = 1 by omega) with rfl | rfl <;> rcases (show b = 0 ∨ b = 1 by omega) with rfl | rfl <;> decide +kernel
theorem kp_1 {a b : Nat} (ha : a ≤ 1) (hb : b ≤ 1) : nI (a + 2 * b) ||| (1 <<< ((1 : Int32) &&& 31)) = nI (a + 2 * 1) := by
  rcases (show a = 0 ∨ a = 1 by omega) with rfl | rfl <;> rcases (show b = 0 ∨ b = 1 by omega) with rfl | rfl <;> decide +kernel
theorem kq_0 {a b : Nat} (ha : a ≤ 1) (hb : b ≤ 1) : (nI (a + 2 * b) >>> ((0 : Int32) &&& 31)) &&& 1 = nI a := by
  rcases (show a = 0 ∨ a = 1 by omega) with rfl | rfl <;> rcases (show b = 0 ∨ b = 1 by omega) with rfl | rfl <;> decide +kernel
theorem kq_1 {a b : Nat} (ha : a ≤ 1) (hb : b ≤ 1) : (nI (a + 2 * b) >>> ((1 : Int32) &&& 31)) &&& 1 = nI b := by
  rcases (show a = 0 ∨ a = 1 by omega) with rfl | rfl <;> rcases (show b = 0 ∨ b = 1 by omega) with rfl | rfl <;> decide +kernel
theorem z_lt0 : ¬ (0 : Int32) < 0 := by decide
theorem z_lt1 : ¬ (1 : Int32) < 0 := by decide
theorem z_lt2 : (0 : Int32) < 2 := by decide
theorem z_lt3 : (1 : Int32) < 2 := by decide
theorem z_lt4 : ¬ (1 : Int32) < 1 := by decide
theorem op_image (p1 : Int32) (xk xl : Int32) (bK bZ bL bM : Nat → Int32) (bi bg bh : Int32) (lI lC lT lR : Nat → Int32) (lth lro lsp lle lex lco lou : Int32) (iK iZ iL iM : Nat → Int32) (ii ig ih : Int32) (jK jZ jL jM : Nat → Int32) (ji jg jh : Int32) (gS gI gK : Nat → Int32) (h : Inv xk xl bK bZ bL bM bi bg bh lI lC lT lR lth lro lsp lle lex lco lou iK iZ iL iM ii ig ih jK jZ jL jM ji jg jh gS gI gK) : ∃ (r : Int32) (xk' : Int32) (iK' : Nat → Int32) (iZ' : Nat → Int32) (iL' : Nat → Int32) (iM' : Nat → Int32) (ii' : Int32) (ig' : Int32) (ih' : Int32) (jK' : Nat → Int32) (jZ' : Nat → Int32) (jL' : Nat → Int32) (jM' : Nat → Int32) (ji' : Int32) (jg' : Int32) (jh' : Int32) (gI' : Nat → Int32) (gK' : Nat → Int32), fX_image p1 xk bK bZ bL bM bi bg bh iK iZ iL iM ii ig ih jK jZ jL jM ji jg jh = some (r, xk', iK', iZ', iL', iM', ii', ig', ih', jK', jZ', jL', jM', ji', jg', jh') ∧ fM_image p1 gS gI gK = some (r, gI', gK') ∧ Inv xk' xl bK bZ bL bM bi bg bh lI lC lT lR lth lro lsp lle lex lco lou iK' iZ' iL' iM' ii' ig' ih' jK' jZ' jL' jM' ji' jg' jh' gS gI' gK' := by
  have h0 := h
  obtain ⟨P, Pi, Pj, a, b, hV, hRB, hRG, ha, hb, hxk, hk0, hk1, hi, hj, hl⟩ := h
  have hn12 := hV.1
  subst hxk
  unfold fX_image fM_image fX_image_b9
  rw [mi_eq, bd1_s]
  by_cases c1 : p1 < 0
  · refine ⟨-2, _, iK, iZ, iL, iM, ii, ig, ih, jK, jZ, jL, jM, ji, jg, jh, gI, gK, ?_, ?_, h0⟩
    · rw [if_pos c1]
    · simp [c1]
  by_cases c2 : p1 < 2
  · rcases in_01 c1 c2 with rfl | rfl
    · obtain ⟨cK, cZ, cL, cM, k1, k2⟩ := cp_eq iK iZ iL iM ii ig ih bK bZ bL bM bi bg bh
      obtain ⟨g, m1, m2⟩ := im_lp (k := 0) (by omega) gS gK 51 fu 0 gI (by omega) (by rw [fu_eq]; omega) (by omega)
      refine ⟨1, nI (1 + 2 * b), cK, cZ, cL, cM, bi, bg, bh, jK, jZ, jL, jM, ji, jg, jh, g, upd gK 0 1, ?_, ?_, P, P, Pj, 1, b, hV, hRB, hRG, by omega, hb, rfl, ?_, ?_, ?_, ?_, hl⟩
      · rw [if_neg c1, if_pos c2, if_pos rfl, k1, bd7_s, kp_0 ha hb]
      · simp only [z_lt0, z_lt1, one_ne, if_false]
        rw [ln_0]
        exact m1
      · rw [pk_us, ln_1]
      · rw [pk_un (by decide), hk1]
      · intro _
        refine ⟨hV, cp_RB hn12 hRB k2, im_RG hn12 hRG (fun q hq => ?_)⟩
        rw [m2]
        have e : 51 * 0 + 0 ≤ 0 + q ∧ 0 + q < 51 * 0 + 51 := by omega
        rw [if_pos e, show 0 + q - 51 * 0 = q by omega]
      · intro h
        obtain ⟨q1, q2, q3⟩ := hj h
        refine ⟨q1, q2, rg_cong q1.1 q3 (fun q hq => ?_)⟩
        rw [m2]
        have e : ¬ (51 * 0 + 0 ≤ 51 + q ∧ 51 + q < 51 * 0 + 51) := by omega
        rw [if_neg e]
    · obtain ⟨cK, cZ, cL, cM, k1, k2⟩ := cp_eq jK jZ jL jM ji jg jh bK bZ bL bM bi bg bh
      obtain ⟨g, m1, m2⟩ := im_lp (k := 1) (by omega) gS gK 51 fu 0 gI (by omega) (by rw [fu_eq]; omega) (by omega)
      refine ⟨1, nI (a + 2 * 1), iK, iZ, iL, iM, ii, ig, ih, cK, cZ, cL, cM, bi, bg, bh, g, upd gK 1 1, ?_, ?_, P, Pi, P, a, 1, hV, hRB, hRG, ha, by omega, rfl, ?_, ?_, ?_, ?_, hl⟩
      · rw [if_neg c1, if_pos c2, if_neg one_ne, if_pos rfl, k1, bd7_s, kp_1 ha hb]
      · simp only [z_lt1, z_lt4, one_ne, if_false]
        rw [ln_0, ln_1]
        exact m1
      · rw [pk_un (by decide), hk0]
      · rw [pk_us, ln_1]
      · intro h
        obtain ⟨q1, q2, q3⟩ := hi h
        refine ⟨q1, q2, rg_cong q1.1 q3 (fun q hq => ?_)⟩
        rw [m2]
        have e : ¬ (51 * 1 + 0 ≤ 0 + q ∧ 0 + q < 51 * 1 + 51) := by omega
        rw [if_neg e]
      · intro _
        refine ⟨hV, cp_RB hn12 hRB k2, im_RG hn12 hRG (fun q hq => ?_)⟩
        rw [m2]
        have e : 51 * 1 + 0 ≤ 51 + q ∧ 51 + q < 51 * 1 + 51 := by omega
        rw [if_pos e, show 51 + q - 51 * 1 = q by omega]
  · refine ⟨-2, _, iK, iZ, iL, iM, ii, ig, ih, jK, jZ, jL, jM, ji, jg, jh, gI, gK, ?_, ?_, h0⟩
    · rw [if_neg c1, if_neg c2]
    · simp [c1, in_02 c2]
theorem op_restore (p1 : Int32) (xk xl : Int32) (bK bZ bL bM : Nat → Int32) (bi bg bh : Int32) (lI lC lT lR : Nat → Int32) (lth lro lsp lle lex lco lou : Int32) (iK iZ iL iM : Nat → Int32) (ii ig ih : Int32) (jK jZ jL jM : Nat → Int32) (ji jg jh : Int32) (gS gI gK : Nat → Int32) (h : Inv xk xl bK bZ bL bM bi bg bh lI lC lT lR lth lro lsp lle lex lco lou iK iZ iL iM ii ig ih jK jZ jL jM ji jg jh gS gI gK) : ∃ (r : Int32) (xl' : Int32) (bK' : Nat → Int32) (bZ' : Nat → Int32) (bL' : Nat → Int32) (bM' : Nat → Int32) (bi' : Int32) (bg' : Int32) (bh' : Int32) (gS' : Nat → Int32), fX_restore p1 xk xl bK bZ bL bM bi bg bh iK iZ iL iM ii ig ih jK jZ jL jM ji jg jh = some (r, xl', bK', bZ', bL', bM', bi', bg', bh') ∧ fM_restore p1 gS gI gK = some (r, gS') ∧ Inv xk xl' bK' bZ' bL' bM' bi' bg' bh' lI lC lT lR lth lro lsp lle lex lco lou iK iZ iL iM ii ig ih jK jZ jL jM ji jg jh gS' gI gK := by
  have h0 := h
  obtain ⟨P, Pi, Pj, a, b, hV, hRB, hRG, ha, hb, hxk, hk0, hk1, hi, hj, hl⟩ := h
  have hn12 := hV.1
  subst hxk
  unfold fX_restore fM_restore fX_restore_b9
  rw [mi_eq, bd1_s]
  by_cases c1 : p1 < 0
  · refine ⟨-2, xl, bK, bZ, bL, bM, bi, bg, bh, gS, ?_, ?_, h0⟩
    · rw [if_pos c1]
    · simp [c1]
  by_cases c2 : p1 < 2
  · rcases in_01 c1 c2 with rfl | rfl
    · rw [if_neg c1, if_pos c2, kq_0 ha hb]
      simp only [z_lt0, z_lt1, one_ne, if_false, if_true]
      have i0 : (if False ∨ 2 ≤ (0 : Int32).toNatClampNeg then none else if gK (0 : Int32).toNatClampNeg = 0 then some (-3, gS) else fM_restore_b26 fu 0 0 gS gI gK) = if gK 0 = 0 then some (-3, gS) else fM_restore_b26 fu 0 0 gS gI gK := by
        rw [show (0 : Int32).toNatClampNeg = 0 by decide +kernel, if_neg (by decide)]
      rw [i0, hk0]
      by_cases e : a = 0
      · have e' : nI a = 0 := by rw [e, nI_0]
        exact ⟨-3, xl, bK, bZ, bL, bM, bi, bg, bh, gS, by rw [if_pos e'], by rw [if_pos e'], h0⟩
      · have e' : ¬ nI a = 0 := by rw [ln_0, nI_eq (by omega) (by omega)]; exact e
        obtain ⟨q1, q2, q3⟩ := hi (by omega)
        obtain ⟨cK, cZ, cL, cM, k1, k2⟩ := cp_eq bK bZ bL bM bi bg bh iK iZ iL iM ii ig ih
        obtain ⟨g, m1, m2⟩ := re_lp (k := 0) (by omega) gI gK 51 fu 0 gS (by omega) (by rw [fu_eq]; omega) (by omega)
        refine ⟨1, 0, cK, cZ, cL, cM, ii, ig, ih, g, ?_, ?_, Pi, Pi, Pj, a, b, q1, cp_RB q1.1 q2 k2, im_RG' q1.1 q3 (fun q hq => ?_), ha, hb, rfl, hk0, hk1, hi, hj, Or.inl rfl⟩
        · rw [if_neg e', k1, bd7_s]
        · rw [if_neg e', ln_0]
          exact m1
        · rw [m2]
          have e : 0 ≤ q ∧ q < 51 := by omega
          rw [if_pos e]
    · rw [if_neg c1, if_pos c2, kq_1 ha hb]
      simp only [z_lt1, z_lt4, one_ne, if_false, if_true]
      rw [show (if False ∨ 2 ≤ (1 : Int32).toNatClampNeg then none else if gK (1 : Int32).toNatClampNeg = 0 then some (-3, gS) else fM_restore_b26 fu 1 0 gS gI gK) = if gK 1 = 0 then some (-3, gS) else fM_restore_b26 fu 1 0 gS gI gK by rw [show (1 : Int32).toNatClampNeg = 1 by decide +kernel, if_neg (by decide)], hk1]
      by_cases e : b = 0
      · have e' : nI b = 0 := by rw [e, nI_0]
        exact ⟨-3, xl, bK, bZ, bL, bM, bi, bg, bh, gS, by rw [if_pos e'], by rw [if_pos e'], h0⟩
      · have e' : ¬ nI b = 0 := by rw [ln_0, nI_eq (by omega) (by omega)]; exact e
        obtain ⟨q1, q2, q3⟩ := hj (by omega)
        obtain ⟨cK, cZ, cL, cM, k1, k2⟩ := cp_eq bK bZ bL bM bi bg bh jK jZ jL jM ji jg jh
        obtain ⟨g, m1, m2⟩ := re_lp (k := 1) (by omega) gI gK 51 fu 0 gS (by omega) (by rw [fu_eq]; omega) (by omega)
        refine ⟨1, 0, cK, cZ, cL, cM, ji, jg, jh, g, ?_, ?_, Pj, Pi, Pj, a, b, q1, cp_RB q1.1 q2 k2, im_RG' q1.1 q3 (fun q hq => ?_), ha, hb, rfl, hk0, hk1, hi, hj, Or.inl rfl⟩
        · rw [if_neg e', k1, bd7_s]
        · rw [if_neg e', ln_0, ln_1]
          exact m1
        · rw [m2]
          have e : 0 ≤ q ∧ q < 51 := by omega
          rw [if_pos e]
  · refine ⟨-2, xl, bK, bZ, bL, bM, bi, bg, bh, gS, ?_, ?_, h0⟩
    · rw [if_neg c1, if_neg c2]
    · simp [c1, in_02 c2]
theorem inv_start : Inv 0 0 (fun _ => 0) (fun _ => 0) (fun _ => 0) (fun _ => 0) 0 10 120 (fun _ => 0) (fun _ => 0) (fun _ => 0) (fun _ => 0) 0 0 0 0 0 0 0 (fun _ => 0) (fun _ => 0) (fun _ => 0) (fun _ => 0) 0 10 120 (fun _ => 0) (fun _ => 0) (fun _ => 0) (fun _ => 0) 0 10 120 (upd (upd (fun _ => 0) 48 10) 49 120) (fun _ => 0) (fun _ => 0) := by
  refine ⟨(fun _ => 0, fun _ => 0, fun _ => 0, fun _ => 0, 0, 10, 120), (fun _ => 0, fun _ => 0, fun _ => 0, fun _ => 0, 0, 10, 120), (fun _ => 0, fun _ => 0, fun _ => 0, fun _ => 0, 0, 10, 120), 0, 0, ?_, ?_, ?_, by omega, by omega, ln_0, ln_0, ln_0, fun h => by omega, fun h => by omega, Or.inl rfl⟩
  · exact ⟨by show 0 ≤ 12; omega, by show 3 ≤ 10; omega, by show 10 ≤ 20; omega, by show 12 ≤ 120; omega, by show 120 ≤ 200; omega, fun i hi => absurd (show i < 0 from hi) (by omega)⟩
  · exact ⟨ln_0, ln_10, ln_120, fun i hi => absurd (show i < 0 from hi) (by omega)⟩
  · refine ⟨?_, ?_, ?_, fun i hi => absurd (show i < 0 from hi) (by omega)⟩
    · show upd (upd (fun _ => 0) 48 10) 49 120 50 = nI 0; rw [pk_un (by decide), pk_un (by decide), ln_0]
    · show upd (upd (fun _ => 0) 48 10) 49 120 48 = nI 10; rw [pk_un (by decide), pk_us, ln_10]
    · show upd (upd (fun _ => 0) 48 10) 49 120 49 = nI 120; rw [pk_us, ln_120]
