/-- the loop of a removal: all behind i go one down, to the place m -/
theorem rm_lp {m : Nat} (hm : m < 12) : ∀ (d n i : Nat) (gS : Nat → Int32), i ≤ m → gS 50 = nI m → m - i ≤ d → d < n → ∃ g, fM_remove_b23 n (nI i) gS = some (nI m, g) ∧ (∀ q, 48 ≤ q → g q = gS q) ∧ ∀ r q, (r = 0 ∨ r = 12 ∨ r = 24 ∨ r = 36) → q < m → g (r + q) = if i ≤ q then gS (r + (q + 1)) else gS (r + q)
  | d, 0, _, _, _, _, _, h => absurd h (Nat.not_lt_zero _)
  | d, n + 1, i, gS, hi, h0, h1, h2 => by
    rw [fM_remove_b23, h0]
    by_cases c : m ≤ i
    · refine ⟨gS, by rw [if_pos (by rw [nI_leI (by omega) (by omega)]; exact c)], fun _ _ => rfl, fun r q hr hq => ?_⟩
      rw [if_neg (by omega)]
    · rw [if_neg (by rw [nI_leI (by omega) (by omega)]; exact c), nI_1, ms_sh (by omega) (by omega) (by omega), bd1_s]
      generalize hg1 : upd (upd (upd (upd gS i (gS (i + 1))) (12 + i) (gS (12 + (i + 1)))) (24 + i) (gS (24 + (i + 1)))) (36 + i) (gS (36 + (i + 1))) = g1
      have o1 : ∀ q, 48 ≤ q → g1 q = gS q := by
        intro q hq
        rw [← hg1, pk_un (by omega), pk_un (by omega), pk_un (by omega), pk_un (by omega)]
      have o2 : ∀ r q, (r = 0 ∨ r = 12 ∨ r = 24 ∨ r = 36) → q < 12 → g1 (r + q) = if q = i then gS (r + (q + 1)) else gS (r + q) := by
        intro r q hr hq
        rw [← hg1]
        by_cases e : q = i
        · subst e
          rw [if_pos rfl]
          rcases hr with rfl | rfl | rfl | rfl
          · simp only [Nat.zero_add]
            rw [pk_un (by omega), pk_un (by omega), pk_un (by omega), pk_us]
          · rw [pk_un (by omega), pk_un (by omega), pk_us]
          · rw [pk_un (by omega), pk_us]
          · rw [pk_us]
        · rw [if_neg e, pk_un (by omega), pk_un (by omega), pk_un (by omega), pk_un (by omega)]
      obtain ⟨g, k1, k2, k3⟩ := rm_lp hm (d - 1) n (i + 1) g1 (by omega) (by rw [o1 _ (by omega), h0]) (by omega) (by omega)
      refine ⟨g, k1, fun q hq => (k2 q hq).trans (o1 q hq), fun r q hr hq => ?_⟩
      rw [k3 r q hr hq]
      by_cases e1 : i + 1 ≤ q
      · have e2 : i ≤ q := by omega
        rw [if_pos e1, if_pos e2, o2 r (q + 1) hr (by omega), if_neg (by omega)]
      · rw [if_neg e1, o2 r q hr (by omega)]
        by_cases e2 : q = i
        · have e3 : i ≤ q := by omega
          rw [if_pos e2, if_pos e3]
        · have e3 : ¬ i ≤ q := by omega
          rw [if_neg e2, if_neg e3]
theorem op_remove (p1 : Int32) (xk xl : Int32) (bK bZ bL bM : Nat → Int32) (bi bg bh : Int32) (lI lC lT lR : Nat → Int32) (lth lro lsp lle lex lco lou : Int32) (iK iZ iL iM : Nat → Int32) (ii ig ih : Int32) (jK jZ jL jM : Nat → Int32) (ji jg jh : Int32) (gS gI gK : Nat → Int32) (h : Inv xk xl bK bZ bL bM bi bg bh lI lC lT lR lth lro lsp lle lex lco lou iK iZ iL iM ii ig ih jK jZ jL jM ji jg jh gS gI gK) : ∃ (r : Int32) (xl' : Int32) (bK' : Nat → Int32) (bZ' : Nat → Int32) (bL' : Nat → Int32) (bM' : Nat → Int32) (bi' : Int32) (gS' : Nat → Int32), fX_remove p1 xl bK bZ bL bM bi = some (r, xl', bK', bZ', bL', bM', bi') ∧ fM_remove p1 gS = some (r, gS') ∧ Inv xk xl' bK' bZ' bL' bM' bi' bg bh lI lC lT lR lth lro lsp lle lex lco lou iK iZ iL iM ii ig ih jK jZ jL jM ji jg jh gS' gI gK := by
  have h0 := h
  obtain ⟨P, Pi, Pj, a, b, hV, ⟨rfl, rfl, rfl, hB⟩, ⟨hG50, hG48, hG49, hG⟩, ha, hb, hxk, hk0, hk1, hi, hj, hl⟩ := h
  simp only [Nat.zero_add] at hG50 hG48 hG49 hG
  have hn12 := hV.1
  unfold fX_remove fM_remove
  rw [hs_eq, ms_eq (n := pn P) (by omega) hG50, bd1_s, bd1_s]
  by_cases c1 : p1 < 0
  · refine ⟨-1, xl, bK, bZ, bL, bM, nI (pn P), gS, ?_, ?_, h0⟩ <;> simp [c1]
  by_cases c2 : nI (pn P) ≤ p1
  · refine ⟨-1, xl, bK, bZ, bL, bM, nI (pn P), gS, ?_, ?_, h0⟩ <;> simp [c1, c2]
  simp only [if_neg c1, if_neg c2, one_ne, if_false]
  obtain ⟨x, hx, rfl⟩ := in_range (by omega) c1 c2
  obtain ⟨m, hm⟩ : ∃ m, pn P = m + 1 := ⟨pn P - 1, by omega⟩
  rw [hG50, hm, n_m1, bs_eq (by omega) (by omega), bd4_s]
  obtain ⟨g, k1, k2, k3⟩ := rm_lp (m := m) (by omega) (m - x) fu x (upd gS 50 (nI m)) (by omega) (by rw [pk_us]) (Nat.le_refl _) (by rw [fu_eq]; omega)
  have hxm : x < m + 1 := by omega
  refine ⟨nI m, 0, _, _, _, _, nI m, g, rfl, k1, rtP P x m m, Pi, Pj, a, b, rt_VB hV hx (by omega) (by omega), rt_RB hB hx (by omega) (by omega) rfl, ⟨?_, ?_, ?_, ?_⟩, ha, hb, hxk, hk0, hk1, hi, hj, Or.inl rfl⟩
  · rw [k2 _ (by omega)]; show upd gS 50 (nI m) 50 = nI m; rw [pk_us]
  · rw [k2 _ (by omega)]; show upd gS 50 (nI m) 48 = nI (pg P); rw [pk_un (by decide), hG48]
  · rw [k2 _ (by omega)]; show upd gS 50 (nI m) 49 = nI (ph P); rw [pk_un (by decide), hG49]
  · intro q hq
    have hq : q < m := hq
    have r0 := k3 0 q (Or.inl rfl) (by omega)
    have r1 := k3 12 q (Or.inr (Or.inl rfl)) (by omega)
    have r2 := k3 24 q (Or.inr (Or.inr (Or.inl rfl))) (by omega)
    have r3 := k3 36 q (Or.inr (Or.inr (Or.inr rfl))) (by omega)
    simp only [Nat.zero_add] at r0 ⊢
    have hrt : ∀ f : Nat → Nat, rt f x m q = if x ≤ q then f (q + 1) else f q := by
      intro f
      unfold rt
      rw [if_neg (by omega)]
      by_cases e : x ≤ q
      · rw [if_pos ⟨e, hq⟩, if_pos e]
      · have e1 : ¬ (x ≤ q ∧ q < m) := by omega
        have e2 : ¬ (m < q ∧ q ≤ x) := by omega
        rw [if_neg e1, if_neg e2, if_neg e]
    obtain ⟨f1, f2, f3, f4⟩ := hG q (by omega)
    obtain ⟨g1, g2, g3, g4⟩ := hG (q + 1) (by omega)
    refine ⟨?_, ?_, ?_, ?_⟩
    · show g q = nI (rt (pK P) x m q)
      rw [r0, hrt, pk_un (by omega), pk_un (by omega)]
      by_cases e : x ≤ q
      · rw [if_pos e, if_pos e, g1]
      · rw [if_neg e, if_neg e, f1]
    · show g (12 + q) = nI (rt (pZ P) x m q)
      rw [r1, hrt, pk_un (by omega), pk_un (by omega)]
      by_cases e : x ≤ q
      · rw [if_pos e, if_pos e, g2]
      · rw [if_neg e, if_neg e, f2]
    · show g (24 + q) = nI (rt (pL P) x m q)
      rw [r2, hrt, pk_un (by omega), pk_un (by omega)]
      by_cases e : x ≤ q
      · rw [if_pos e, if_pos e, g3]
      · rw [if_neg e, if_neg e, f3]
    · show g (36 + q) = nI (rt (pM P) x m q)
      rw [r3, hrt, pk_un (by omega), pk_un (by omega)]
      by_cases e : x ≤ q
      · rw [if_pos e, if_pos e, g4]
      · rw [if_neg e, if_neg e, f4]
/-- a book copied -/
theorem cp_lp (oK oZ oL oM : Nat → Int32) (oi og oh : Int32) : ∀ (d n i : Nat) (bK bZ bL bM : Nat → Int32) (bi bg bh : Int32), 12 - i ≤ d → d < n → i ≤ 12 → ∃ cK cZ cL cM, fB_copy_b2 n (nI i) bK bZ bL bM bi bg bh oK oZ oL oM oi og oh = some (cK, cZ, cL, cM, oi, og, oh) ∧ ∀ q, (cK q = if i ≤ q ∧ q < 12 then oK q else bK q) ∧ (cZ q = if i ≤ q ∧ q < 12 then oZ q else bZ q) ∧ (cL q = if i ≤ q ∧ q < 12 then oL q else bL q) ∧ (cM q = if i ≤ q ∧ q < 12 then oM q else bM q)
  | d, 0, _, _, _, _, _, _, _, _, _, h, _ => absurd h (Nat.not_lt_zero _)
  | d, n + 1, i, bK, bZ, bL, bM, bi, bg, bh, h1, h2, h3 => by
    rw [fB_copy_b2]
    by_cases c : 12 ≤ i
    · rw [if_pos (by rw [ln_12, nI_leI (by omega) (by omega)]; exact c)]
      refine ⟨bK, bZ, bL, bM, rfl, fun q => ?_⟩
      have e : ¬ (i ≤ q ∧ q < 12) := by omega
      simp only [if_neg e, and_self]
    · rw [if_neg (by rw [ln_12, nI_leI (by omega) (by omega)]; exact c), nI_1]
      simp (disch := omega) only [ig_f, nI_clamp, ig_g]
      obtain ⟨cK, cZ, cL, cM, k1, k2⟩ := cp_lp oK oZ oL oM oi og oh (d - 1) n (i + 1) (upd bK i (oK i)) (upd bZ i (oZ i)) (upd bL i (oL i)) (upd bM i (oM i)) bi bg bh (by omega) (by omega) (by omega)
      refine ⟨cK, cZ, cL, cM, k1, fun q => ?_⟩
      obtain ⟨e1, e2, e3, e4⟩ := k2 q
      rw [e1, e2, e3, e4]
      by_cases e : i + 1 ≤ q ∧ q < 12
      · have e' : i ≤ q ∧ q < 12 := by omega
        simp only [if_pos e, if_pos e', and_self]
      · by_cases ee : q = i
        · have e' : i ≤ q ∧ q < 12 := by omega
          subst ee
          simp only [if_neg e, if_pos e', pk_us, and_self]
        · have e' : ¬ (i ≤ q ∧ q < 12) := by omega
          simp only [if_neg e, if_neg e', pk_un ee, and_self]
theorem cp_eq (bK bZ bL bM : Nat → Int32) (bi bg bh : Int32) (oK oZ oL oM : Nat → Int32) (oi og oh : Int32) : ∃ cK cZ cL cM, fB_copy bK bZ bL bM bi bg bh oK oZ oL oM oi og oh = some (cK, cZ, cL, cM, oi, og, oh) ∧ ∀ q, q < 12 → cK q = oK q ∧ cZ q = oZ q ∧ cL q = oL q ∧ cM q = oM q := by
  obtain ⟨cK, cZ, cL, cM, k1, k2⟩ := cp_lp oK oZ oL oM oi og oh 12 fu 0 bK bZ bL bM bi bg bh (by omega) (by rw [fu_eq]; omega) (by omega)
  refine ⟨cK, cZ, cL, cM, by unfold fB_copy; rw [ln_0]; exact k1, fun q hq => ?_⟩
  obtain ⟨e1, e2, e3, e4⟩ := k2 q
  have e : 0 ≤ q ∧ q < 12 := by omega
  rw [if_pos e] at e1 e2 e3 e4
  exact ⟨e1, e2, e3, e4⟩
theorem cp_RB {P : Pb} {oK oZ oL oM cK cZ cL cM : Nat → Int32} {oi og oh : Int32} (hn : pn P ≤ 12) (h : RB P oK oZ oL oM oi og oh) (hc : ∀ q, q < 12 → cK q = oK q ∧ cZ q = oZ q ∧ cL q = oL q ∧ cM q = oM q) : RB P cK cZ cL cM oi og oh := by
  refine ⟨h.1, h.2.1, h.2.2.1, fun i hi => ?_⟩
  obtain ⟨e1, e2, e3, e4⟩ := hc i (by omega)
  rw [e1, e2, e3, e4]
  exact h.2.2.2 i hi
theorem im_lp {k : Nat} (hk : k < 2) (gS gK : Nat → Int32) : ∀ (d n i : Nat) (gI : Nat → Int32), 51 - i ≤ d → d < n → i ≤ 51 → ∃ g, fM_image_b14 n (nI k) (nI i) gS gI gK = some (1, g, upd gK k 1) ∧ ∀ q, g q = if 51 * k + i ≤ q ∧ q < 51 * k + 51 then gS (q - 51 * k) else gI q
  | d, 0, _, _, _, h, _ => absurd h (Nat.not_lt_zero _)
  | d, n + 1, i, gI, h1, h2, h3 => by
    rw [fM_image_b14]
    by_cases c : 51 ≤ i
    · rw [if_pos (by rw [ln_51, nI_leI (by omega) (by omega)]; exact c)]
      simp (disch := omega) only [ig_f, nI_clamp, ig_g]
      refine ⟨gI, rfl, fun q => ?_⟩
      have e : ¬ (51 * k + i ≤ q ∧ q < 51 * k + 51) := by omega
      rw [if_neg e]
    · rw [if_neg (by rw [ln_51, nI_leI (by omega) (by omega)]; exact c), nI_1]
      simp only [ln_51, pk_mul, nI_add]
      simp (disch := omega) only [ig_f, nI_clamp, ig_g]
      obtain ⟨g, k1, k2⟩ := im_lp hk gS gK (d - 1) n (i + 1) (upd gI (51 * k + i) (gS i)) (by omega) (by omega) (by omega)
      refine ⟨g, k1, fun q => ?_⟩
      rw [k2 q]
      by_cases e : 51 * k + (i + 1) ≤ q ∧ q < 51 * k + 51
      · have e' : 51 * k + i ≤ q ∧ q < 51 * k + 51 := by omega
        rw [if_pos e, if_pos e']
      · by_cases ee : q = 51 * k + i
        · have e' : 51 * k + i ≤ q ∧ q < 51 * k + 51 := by omega
          rw [if_neg e, if_pos e', ee, pk_us]
          congr 1
          omega
        · have e' : ¬ (51 * k + i ≤ q ∧ q < 51 * k + 51) := by omega
          rw [if_neg e, if_neg e', pk_un ee]
theorem re_lp {k : Nat} (hk : k < 2) (gI gK : Nat → Int32) : ∀ (d n i : Nat) (gS : Nat → Int32), 51 - i ≤ d → d < n → i ≤ 51 → ∃ g, fM_restore_b26 n (nI k) (nI i) gS gI gK = some (1, g) ∧ ∀ q, g q = if i ≤ q ∧ q < 51 then gI (51 * k + q) else gS q
  | d, 0, _, _, _, h, _ => absurd h (Nat.not_lt_zero _)
  | d, n + 1, i, gS, h1, h2, h3 => by
    rw [fM_restore_b26]
    by_cases c : 51 ≤ i
    · rw [if_pos (by rw [ln_51, nI_leI (by omega) (by omega)]; exact c)]
      refine ⟨gS, rfl, fun q => ?_⟩
      have e : ¬ (i ≤ q ∧ q < 51) := by omega
      rw [if_neg e]
    · rw [if_neg (by rw [ln_51, nI_leI (by omega) (by omega)]; exact c), nI_1]
      simp only [ln_51, pk_mul, nI_add]
      simp (disch := omega) only [ig_f, nI_clamp, ig_g]
      obtain ⟨g, k1, k2⟩ := re_lp hk gI gK (d - 1) n (i + 1) (upd gS i (gI (51 * k + i))) (by omega) (by omega) (by omega)
      refine ⟨g, k1, fun q => ?_⟩
      rw [k2 q]
      by_cases e : i + 1 ≤ q ∧ q < 51
      · have e' : i ≤ q ∧ q < 51 := by omega
        rw [if_pos e, if_pos e']
      · by_cases ee : q = i
        · have e' : i ≤ q ∧ q < 51 := by omega
          rw [if_neg e, if_pos e', ee, pk_us]
        · have e' : ¬ (i ≤ q ∧ q < 51) := by omega
          rw [if_neg e, if_neg e', pk_un ee]
theorem im_RG {P : Pb} {gS g : Nat → Int32} {o : Nat} (hn : pn P ≤ 12) (h : RG P 0 gS) (hg : ∀ q, q < 51 → g (o + q) = gS q) : RG P o g := by
  obtain ⟨h1, h2, h3, h4⟩ := h
  simp only [Nat.zero_add] at h1 h2 h3 h4
  refine ⟨by rw [hg _ (by omega), h1], by rw [hg _ (by omega), h2], by rw [hg _ (by omega), h3], fun i hi => ?_⟩
  obtain ⟨f1, f2, f3, f4⟩ := h4 i hi
  refine ⟨by rw [hg _ (by omega), f1], ?_, ?_, ?_⟩
  · rw [show o + 12 + i = o + (12 + i) by omega, hg _ (by omega), f2]
  · rw [show o + 24 + i = o + (24 + i) by omega, hg _ (by omega), f3]
  · rw [show o + 36 + i = o + (36 + i) by omega, hg _ (by omega), f4]
theorem im_RG' {P : Pb} {gI g : Nat → Int32} {o : Nat} (hn : pn P ≤ 12) (h : RG P o gI) (hg : ∀ q, q < 51 → g q = gI (o + q)) : RG P 0 g := by
  obtain ⟨h1, h2, h3, h4⟩ := h
  refine ⟨by rw [Nat.zero_add, hg _ (by omega), h1], by rw [Nat.zero_add, hg _ (by omega), h2], by rw [Nat.zero_add, hg _ (by omega), h3], fun i hi => ?_⟩
  obtain ⟨f1, f2, f3, f4⟩ := h4 i hi
  simp only [Nat.zero_add]
  refine ⟨by rw [hg _ (by omega), f1], ?_, ?_, ?_⟩
  · rw [hg _ (by omega), ← Nat.add_assoc, f2]
  · rw [hg _ (by omega), ← Nat.add_assoc, f3]
  · rw [hg _ (by omega), ← Nat.add_assoc, f4]
