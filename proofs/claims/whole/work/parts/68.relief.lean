theorem op_relief (p1 : Int32) (xk xl : Int32) (bK bZ bL bM : Nat → Int32) (bi bg bh : Int32) (sB sO : Nat → Int32) (sh sw sr : Int32) (lI lC lT lR : Nat → Int32) (lth lro lsp lle lex lco lou : Int32) (iK iZ iL iM : Nat → Int32) (ii ig ih : Int32) (jK jZ jL jM : Nat → Int32) (ji jg jh : Int32) (gS gI gK gO gL gT gB : Nat → Int32) (gn : Int32) (h : Inv xk xl bK bZ bL bM bi bg bh lI lC lT lR lth lro lsp lle lex lco lou iK iZ iL iM ii ig ih jK jZ jL jM ji jg jh gS gI gK) : ∃ (r : Int32) (xl' : Int32) (sB' : Nat → Int32) (sO' : Nat → Int32) (sh' : Int32) (sw' : Int32) (sr' : Int32) (lI' : Nat → Int32) (lC' : Nat → Int32) (lT' : Nat → Int32) (lR' : Nat → Int32) (lth' : Int32) (lro' : Int32) (lsp' : Int32) (lle' : Int32) (lex' : Int32) (lco' : Int32) (lou' : Int32) (gS' : Nat → Int32) (gO' : Nat → Int32) (gL' : Nat → Int32) (gT' : Nat → Int32) (gB' : Nat → Int32) (gn' : Int32), fX_relief p1 xl bK bZ bL bM bi bg bh sB sO sh sw sr lI lC lT lR lth lro lsp lle lex lco lou = some (r, xl', sB', sO', sh', sw', sr', lI', lC', lT', lR', lth', lro', lsp', lle', lex', lco', lou') ∧ fM_relief p1 gS gO gL gT gB gn = some (r, gS', gO', gL', gT', gB', gn') ∧ Inv xk xl' bK bZ bL bM bi bg bh lI' lC' lT' lR' lth' lro' lsp' lle' lex' lco' lou' iK iZ iL iM ii ig ih jK jZ jL jM ji jg jh gS' gI gK := by
  have h0 := h
  obtain ⟨P, Pi, Pj, a, b, hV, hRB, hRG, ha, hb, hxk, hk0, hk1, hi, hj, hl⟩ := h
  have h12 := hV.1
  have h50 := hRG.1
  rw [Nat.zero_add] at h50
  unfold fX_relief fM_relief fX_relief_b49 fM_relief_b43
  rw [hRB.1, hs_eq, bd1_s, ms_eq (by omega) h50, bd1_s]
  by_cases c1 : p1 < 0
  · rw [if_pos c1, if_pos rfl, if_pos rfl]
    rw [hRB.1] at h0
    exact ⟨_, _, _, _, _, _, _, _, _, _, _, _, _, _, _, _, _, _, _, _, _, _, _, _, rfl, rfl, h0⟩
  rw [if_neg c1]
  by_cases c2 : nI (pn P) ≤ p1
  · rw [if_pos c2, if_pos rfl, if_pos rfl]
    rw [hRB.1] at h0
    exact ⟨_, _, _, _, _, _, _, _, _, _, _, _, _, _, _, _, _, _, _, _, _, _, _, _, rfl, rfl, h0⟩
  obtain ⟨i, hip, rfl⟩ := in_range (by omega) c1 c2
  obtain ⟨r1, -, -, -⟩ := hRB.2.2.2 i hip
  obtain ⟨g1, -, -, -⟩ := hRG.2.2.2 i hip
  rw [Nat.zero_add] at g1
  rw [if_neg c2, if_neg one_ne, if_neg one_ne, ← hRB.1, ig_f (show i < 12 by omega) (by omega), ig_f (show i < 51 by omega) (by omega), nI_clamp (by omega), r1, g1]
  by_cases ck : pK P i = 0
  · rw [if_pos ((rb_kz hV hip).mpr ck), if_pos ((rb_kz hV hip).mpr ck)]
    exact ⟨_, _, _, _, _, _, _, _, _, _, _, _, _, _, _, _, _, _, _, _, _, _, _, _, rfl, rfl, h0⟩
  have ck2 : ¬ nI (pK P i) = 0 := fun q => ck ((rb_kz hV hip).mp q)
  rw [if_neg ck2, if_neg ck2]
  obtain ⟨sB', sO', sh', sw', sr', lI', lC', lT', lR', lth', lro', lsp', lle', lex', lco', lou', k1, k2⟩ := lb_eq hV hRB hl sB sO sh sw sr
  obtain ⟨gO1, gL1, gT1, gB1, m1, -, -⟩ := m_solve hV hRG gO gL gT gB gn
  have hI : Inv xk 1 bK bZ bL bM bi bg bh lI' lC' lT' lR' lth' lro' lsp' lle' lex' lco' lou' iK iZ iL iM ii ig ih jK jZ jL jM ji jg jh gS gI gK := ⟨P, Pi, Pj, a, b, hV, hRB, hRG, ha, hb, hxk, hk0, hk1, hi, hj, Or.inr ⟨rfl, k2⟩⟩
  rw [k1, bd18_s, m1, bd6_s]
  cases hv : VT P with
  | none =>
    rw [if_pos rfl, if_pos rfl, oi_none, if_neg oi_neg]
    exact ⟨_, _, _, _, _, _, _, _, _, _, _, _, _, _, _, _, _, _, _, _, _, _, _, _, rfl, rfl, hI⟩
  | some v =>
    have ne : ¬ (some v = (none : Option Nat)) := fun q => by cases q
    rcases k2 with ⟨q, -⟩ | ⟨-, -, d1, d2, d3, d4, d5, d6, d7⟩
    · rw [hv] at q; cases q
    have eo : lou' = nI (ou P) := by
      rw [d4, q_out hV hv]
      unfold ou
      rw [hv]; rfl
    obtain ⟨sB2, sO2, sh2, sw2, sr2, x1⟩ := xr_eq hV hRB hip ck hv sB' sO' sh' sw' sr'
    obtain ⟨gO2, gL2, gT2, gB2, gn2, y1⟩ := mr_eq2 hV hRG hip ck hv gO1 gL1 gT1 gB1 (nI (tt P))
    rw [if_neg ne, if_neg one_ne, eo, x1, bd6_s, oi_some, if_pos (nI_pos' (VT_lt hV hv)), y1, bd7_s]
    rw [eo] at hI
    exact ⟨_, _, _, _, _, _, _, _, _, _, _, _, _, _, _, _, _, _, _, _, _, _, _, _, rfl, rfl, hI⟩
/-! CULPRIT -/
def rn (P : Pb) (i : Nat) : Nat := if pK P i = 0 then 0 else ou P - ou (wd P i)
theorem rn_le (P : Pb) (i : Nat) : rn P i ≤ ou P := by
  unfold rn
  by_cases c : pK P i = 0
  · rw [if_pos c]; exact Nat.zero_le _
  · rw [if_neg c]; exact Nat.sub_le _ _
/-- of r items from i on: the first that has more than all before it, f being found with m -/
def cu (P : Pb) : Nat → Nat → Nat → Int32 → Int32
  | 0, _, _, f => f
  | r + 1, i, m, f => if rn P i ≤ m then cu P r (i + 1) m f else cu P r (i + 1) (rn P i) (nI i)
theorem cu_stay {P : Pb} {m : Nat} {f : Int32} (h : ou P ≤ m) : ∀ r i, cu P r i m f = f
  | 0, _ => rfl
  | r + 1, i => by
    have := rn_le P i
    rw [cu, if_pos (by omega)]
    exact cu_stay h r (i + 1)
theorem rl_le {a b m : Nat} (ha : a < 1000) (hb : b < 1000) (hm : m < 1000) : nI a - nI b ≤ nI m ↔ a - b ≤ m := by
  rw [i_le, pk_sub_toInt (by omega) (by omega), nt (by omega)]
  omega
theorem xc_lp {P : Pb} (hV : VB P) {bK bZ bL bM : Nat → Int32} {bi bg bh : Int32} (hR : RB P bK bZ bL bM bi bg bh) {v : Nat} (hv : VT P = some v) (xl : Int32) (lI lC lT lR : Nat → Int32) (lth lro lsp lle lex lco : Int32) : ∀ (d n i m : Nat) (f : Int32) (sB sO : Nat → Int32) (sh sw sr : Int32), pn P - i ≤ d → d < n → i ≤ pn P → m ≤ ou P → ∃ sB' sO' sh' sw' sr', fX_culprit_b17 n f (nI m) (nI i) xl bK bZ bL bM bi bg bh sB sO sh sw sr lI lC lT lR lth lro lsp lle lex lco (nI (ou P)) = some (cu P (pn P - i) i m f, xl, sB', sO', sh', sw', sr', lI, lC, lT, lR, lth, lro, lsp, lle, lex, lco, nI (ou P))
  | d, 0, _, _, _, _, _, _, _, _, _, hh, _, _ => absurd hh (Nat.not_lt_zero _)
  | d, n + 1, i, m, f, sB, sO, sh, sw, sr, h1, h2, h3, h4 => by
    have h12 := hV.1
    have ho := ou_lt P
    rw [fX_culprit_b17]
    unfold fX_culprit_b79
    by_cases c0 : pn P ≤ i
    · have e : pn P - i = 0 := by omega
      rw [if_pos (by rw [hR.1, nI_leI (by omega) (by omega)]; exact c0), e]
      exact ⟨_, _, _, _, _, rfl⟩
    · have hip : i < pn P := by omega
      rw [if_neg (by rw [hR.1, nI_leI (by omega) (by omega)]; exact c0)]
      by_cases c1 : ou P ≤ m
      · rw [if_pos (by rw [nI_leI (by omega) (by omega)]; exact c1), cu_stay c1]
        exact ⟨_, _, _, _, _, rfl⟩
      · obtain ⟨r1, -, -, -⟩ := hR.2.2.2 i hip
        rw [if_neg (by rw [nI_leI (by omega) (by omega)]; exact c1), ig_f (show i < 12 by omega) (by omega), nI_clamp (by omega), r1]
        have es : pn P - i = (pn P - (i + 1)) + 1 := by omega
        have ecu : cu P (pn P - i) i m f = if rn P i ≤ m then cu P (pn P - (i + 1)) (i + 1) m f else cu P (pn P - (i + 1)) (i + 1) (rn P i) (nI i) := by rw [es]; rfl
        rw [ecu]
        unfold fX_culprit_b60 fX_culprit_b73
        by_cases ck : pK P i = 0
        · have er : rn P i = 0 := by unfold rn; rw [if_pos ck]
          rw [if_pos ((rb_kz hV hip).mpr ck), if_pos (nI_pos' (by omega)), nI_1, er, if_pos (Nat.zero_le _)]
          exact xc_lp hV hR hv xl lI lC lT lR lth lro lsp lle lex lco (d - 1) n (i + 1) m f sB sO sh sw sr (by omega) (by omega) (by omega) h4
        · have er : rn P i = ou P - ou (wd P i) := by unfold rn; rw [if_neg ck]
          have ho2 := ou_lt (wd P i)
          obtain ⟨sB2, sO2, sh2, sw2, sr2, x1⟩ := xr_eq hV hR hip ck hv sB sO sh sw sr
          rw [if_neg (fun q => ck ((rb_kz hV hip).mp q)), x1, bd6_s, nI_1]
          by_cases c2 : rn P i ≤ m
          · rw [if_pos ((rl_le ho ho2 (by omega)).mpr (by omega)), if_pos c2]
            exact xc_lp hV hR hv xl lI lC lT lR lth lro lsp lle lex lco (d - 1) n (i + 1) m f sB2 sO2 sh2 sw2 sr2 (by omega) (by omega) (by omega) h4
          · rw [if_neg (fun q => c2 (by have := (rl_le ho ho2 (by omega)).mp q; omega)), if_neg c2, pk_sub (by omega), ← er]
            exact xc_lp hV hR hv xl lI lC lT lR lth lro lsp lle lex lco (d - 1) n (i + 1) (rn P i) (nI i) sB2 sO2 sh2 sw2 sr2 (by omega) (by omega) (by omega) (rn_le P i)
theorem mc_lp {P : Pb} (hV : VB P) {gS : Nat → Int32} (hR : RG P 0 gS) {v : Nat} (hv : VT P = some v) : ∀ (d n i m : Nat) (f : Int32) (gO gL gT gB : Nat → Int32) (gn : Int32), pn P - i ≤ d → d < n → i ≤ pn P → m ≤ ou P → ∃ gO' gL' gT' gB' gn', fM_culprit_b17 n f (nI m) (nI i) gS gO gL gT gB gn = some (cu P (pn P - i) i m f, gS, gO', gL', gT', gB', gn')
  | d, 0, _, _, _, _, _, _, _, _, _, hh, _, _ => absurd hh (Nat.not_lt_zero _)
  | d, n + 1, i, m, f, gO, gL, gT, gB, gn, h1, h2, h3, h4 => by
    have h12 := hV.1
    have ho := ou_lt P
    have h50 := hR.1
    rw [Nat.zero_add] at h50
    rw [fM_culprit_b17, h50]
    by_cases c0 : pn P ≤ i
    · have e : pn P - i = 0 := by omega
      rw [if_pos (by rw [nI_leI (by omega) (by omega)]; exact c0), e]
      exact ⟨_, _, _, _, _, rfl⟩
    · have hip : i < pn P := by omega
      obtain ⟨g1, -, -, -⟩ := hR.2.2.2 i hip
      rw [Nat.zero_add] at g1
      rw [if_neg (by rw [nI_leI (by omega) (by omega)]; exact c0), ig_f (show i < 51 by omega) (by omega), nI_clamp (by omega), g1]
      have es : pn P - i = (pn P - (i + 1)) + 1 := by omega
      have ecu : cu P (pn P - i) i m f = if rn P i ≤ m then cu P (pn P - (i + 1)) (i + 1) m f else cu P (pn P - (i + 1)) (i + 1) (rn P i) (nI i) := by rw [es]; rfl
      rw [ecu]
      unfold fM_culprit_b46 fM_culprit_b59 fM_culprit_b72
      by_cases ck : pK P i = 0
      · have er : rn P i = 0 := by unfold rn; rw [if_pos ck]
        rw [if_pos ((rb_kz hV hip).mpr ck), if_pos (nI_pos' (by omega)), if_pos (nI_pos' (by omega)), nI_1, er, if_pos (Nat.zero_le _)]
        exact mc_lp hV hR hv (d - 1) n (i + 1) m f gO gL gT gB gn (by omega) (by omega) (by omega) h4
      · have er : rn P i = ou P - ou (wd P i) := by unfold rn; rw [if_neg ck]
        have ho2 := ou_lt (wd P i)
        obtain ⟨gO2, gL2, gT2, gB2, gn2, x1⟩ := mr_eq2 hV hR hip ck hv gO gL gT gB gn
        rw [if_neg (fun q => ck ((rb_kz hV hip).mp q)), x1, bd7_s, nI_1]
        by_cases c2 : rn P i ≤ m
        · have q0 : nI (ou P) - nI (ou (wd P i)) ≤ nI m := (rl_le ho ho2 (by omega)).mpr (by omega)
          rw [if_pos q0, if_pos q0, if_pos c2]
          exact mc_lp hV hR hv (d - 1) n (i + 1) m f gO2 gL2 gT2 gB2 gn2 (by omega) (by omega) (by omega) h4
        · have q0 : ¬ nI (ou P) - nI (ou (wd P i)) ≤ nI m := fun q => c2 (by have := (rl_le ho ho2 (by omega)).mp q; omega)
          rw [if_neg q0, if_neg q0, if_neg c2, pk_sub (by omega), ← er]
          exact mc_lp hV hR hv (d - 1) n (i + 1) (rn P i) (nI i) gO2 gL2 gT2 gB2 gn2 (by omega) (by omega) (by omega) (rn_le P i)
theorem op_culprit (xk xl : Int32) (bK bZ bL bM : Nat → Int32) (bi bg bh : Int32) (sB sO : Nat → Int32) (sh sw sr : Int32) (lI lC lT lR : Nat → Int32) (lth lro lsp lle lex lco lou : Int32) (iK iZ iL iM : Nat → Int32) (ii ig ih : Int32) (jK jZ jL jM : Nat → Int32) (ji jg jh : Int32) (gS gI gK gO gL gT gB : Nat → Int32) (gn : Int32) (h : Inv xk xl bK bZ bL bM bi bg bh lI lC lT lR lth lro lsp lle lex lco lou iK iZ iL iM ii ig ih jK jZ jL jM ji jg jh gS gI gK) : ∃ (r : Int32) (xl' : Int32) (sB' : Nat → Int32) (sO' : Nat → Int32) (sh' : Int32) (sw' : Int32) (sr' : Int32) (lI' : Nat → Int32) (lC' : Nat → Int32) (lT' : Nat → Int32) (lR' : Nat → Int32) (lth' : Int32) (lro' : Int32) (lsp' : Int32) (lle' : Int32) (lex' : Int32) (lco' : Int32) (lou' : Int32) (gS' : Nat → Int32) (gO' : Nat → Int32) (gL' : Nat → Int32) (gT' : Nat → Int32) (gB' : Nat → Int32) (gn' : Int32), fX_culprit xl bK bZ bL bM bi bg bh sB sO sh sw sr lI lC lT lR lth lro lsp lle lex lco lou = some (r, xl', sB', sO', sh', sw', sr', lI', lC', lT', lR', lth', lro', lsp', lle', lex', lco', lou') ∧ fM_culprit gS gO gL gT gB gn = some (r, gS', gO', gL', gT', gB', gn') ∧ Inv xk xl' bK bZ bL bM bi bg bh lI' lC' lT' lR' lth' lro' lsp' lle' lex' lco' lou' iK iZ iL iM ii ig ih jK jZ jL jM ji jg jh gS' gI gK := by
  have h0 := h
  obtain ⟨P, Pi, Pj, a, b, hV, hRB, hRG, ha, hb, hxk, hk0, hk1, hi, hj, hl⟩ := h
  have h12 := hV.1
  unfold fX_culprit fM_culprit
  obtain ⟨sB', sO', sh', sw', sr', lI', lC', lT', lR', lth', lro', lsp', lle', lex', lco', lou', k1, k2⟩ := lb_eq hV hRB hl sB sO sh sw sr
  obtain ⟨gO1, gL1, gT1, gB1, m1, -, -⟩ := m_solve hV hRG gO gL gT gB gn
  have hI : Inv xk 1 bK bZ bL bM bi bg bh lI' lC' lT' lR' lth' lro' lsp' lle' lex' lco' lou' iK iZ iL iM ii ig ih jK jZ jL jM ji jg jh gS gI gK := ⟨P, Pi, Pj, a, b, hV, hRB, hRG, ha, hb, hxk, hk0, hk1, hi, hj, Or.inr ⟨rfl, k2⟩⟩
  rw [k1, bd18_s, m1, bd6_s]
  cases hv : VT P with
  | none =>
    rw [if_pos rfl, if_pos rfl, oi_none, if_neg oi_neg]
    exact ⟨_, _, _, _, _, _, _, _, _, _, _, _, _, _, _, _, _, _, _, _, _, _, _, _, rfl, rfl, hI⟩
  | some v =>
    have ne : ¬ (some v = (none : Option Nat)) := fun q => by cases q
    rcases k2 with ⟨q, -⟩ | ⟨-, -, d1, d2, d3, d4, d5, d6, d7⟩
    · rw [hv] at q; cases q
    have eo : lou' = nI (ou P) := by
      rw [d4, q_out hV hv]
      unfold ou
      rw [hv]; rfl
    obtain ⟨sB2, sO2, sh2, sw2, sr2, x1⟩ := xc_lp hV hRB hv 1 lI' lC' lT' lR' lth' lro' lsp' lle' lex' lco' 12 fu 0 0 (-6) sB' sO' sh' sw' sr' (by omega) (by rw [fu_eq]; omega) (by omega) (Nat.zero_le _)
    obtain ⟨gO2, gL2, gT2, gB2, gn2, y1⟩ := mc_lp hV hRG hv 12 fu 0 0 (-6) gO1 gL1 gT1 gB1 (nI (tt P)) (by omega) (by rw [fu_eq]; omega) (by omega) (Nat.zero_le _)
    rw [nI_0] at x1 y1
    rw [if_neg ne, if_neg one_ne, eo, x1, oi_some, if_pos (nI_pos' (VT_lt hV hv)), y1]
    rw [eo] at hI
    exact ⟨_, _, _, _, _, _, _, _, _, _, _, _, _, _, _, _, _, _, _, _, _, _, _, _, rfl, rfl, hI⟩
