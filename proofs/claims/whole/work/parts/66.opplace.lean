/-! PLACE -/
section MP
variable {gS gO gL gT gC gP gR gG : Nat → Int32}
theorem mp_none {n0 : Nat} (hn : n0 ≤ 144) {p1 p2 p3 : Int32} (gB : Nat → Int32) (hno : ∀ t, t < n0 → ¬ (gO t = p1 ∧ gL t = p2)) : ∀ (d n t : Nat), t ≤ n0 → n0 - t ≤ d → d < n → fM_place_b35 n p1 p2 p3 (nI t) gS gO gL gT gB gC gP gR gG (nI n0) = some (-6, gO, gL, gT, gB, gC, gP, gR, gG, nI n0)
  | d, 0, _, _, _, hh => absurd hh (Nat.not_lt_zero _)
  | d, n + 1, t, h0, h1, h2 => by
    rw [fM_place_b35]
    by_cases c0 : n0 ≤ t
    · rw [if_pos (by rw [nI_leI (by omega) (by omega)]; exact c0)]
    · rw [if_neg (by rw [nI_leI (by omega) (by omega)]; exact c0), ig_f (show t < 144 by omega) (by omega), ig_f (show t < 144 by omega) (by omega), nI_clamp (by omega)]
      have ih := mp_none hn (p3 := p3) gB hno (d - 1) n (t + 1) (by omega) (by omega) (by omega)
      have k126 : fM_place_b126 (fM_place_b35 n) p1 p2 p3 (nI t) gS gO gL gT gB gC gP gR gG (nI n0) = some (-6, gO, gL, gT, gB, gC, gP, gR, gG, nI n0) := by
        unfold fM_place_b126
        rw [nI_1]; exact ih
      rw [k126]
      by_cases c1 : gO t = p1
      · rw [if_pos c1, if_neg (fun q => hno t (by omega) ⟨c1, q⟩)]
      · rw [if_neg c1]
theorem mp_found {n0 t0 : Nat} (hn : n0 ≤ 144) (ht0 : t0 < n0) {p1 p2 p3 : Int32} (gB : Nat → Int32) (hg : ¬ gS 48 = 0) (h3 : gO t0 = p1) (h4 : gL t0 = p2) (hno : ∀ t, t < t0 → ¬ (gO t = p1 ∧ gL t = p2)) : ∀ (d n t : Nat), t ≤ t0 → t0 - t ≤ d → d < n → fM_place_b35 n p1 p2 p3 (nI t) gS gO gL gT gB gC gP gR gG (nI n0) = some ((if p3 = 0 then gC t0 else if p3 = 1 then gP t0 else if p3 = 2 then gR t0 else gP t0 - gP t0 / gS 48 * gS 48), gO, gL, gT, gB, gC, gP, gR, gG, nI n0)
  | d, 0, _, _, _, hh => absurd hh (Nat.not_lt_zero _)
  | d, n + 1, t, h0, h1, h2 => by
    rw [fM_place_b35]
    rw [if_neg (by rw [nI_leI (by omega) (by omega)]; omega), ig_f (show t < 144 by omega) (by omega), ig_f (show t < 144 by omega) (by omega), ig_f (show t < 144 by omega) (by omega), ig_f (show t < 144 by omega) (by omega), ig_f (show t < 144 by omega) (by omega), ig_f (show t < 144 by omega) (by omega), nI_clamp (by omega)]
    by_cases c : t = t0
    · subst c
      unfold fM_place_b125
      rw [if_pos h3, if_pos h4, if_neg hg]
      by_cases e0 : p3 = 0
      · rw [if_pos e0, if_pos e0]
      · rw [if_neg e0, if_neg e0]
        by_cases e1 : p3 = 1
        · rw [if_pos e1, if_pos e1]
        · rw [if_neg e1, if_neg e1]
          by_cases e2 : p3 = 2
          · rw [if_pos e2, if_pos e2]
          · rw [if_neg e2, if_neg e2]
    · have ih := mp_found hn ht0 (p3 := p3) gB hg h3 h4 hno (d - 1) n (t + 1) (by omega) (by omega) (by omega)
      have k126 : fM_place_b126 (fM_place_b35 n) p1 p2 p3 (nI t) gS gO gL gT gB gC gP gR gG (nI n0) = some ((if p3 = 0 then gC t0 else if p3 = 1 then gP t0 else if p3 = 2 then gR t0 else gP t0 - gP t0 / gS 48 * gS 48), gO, gL, gT, gB, gC, gP, gR, gG, nI n0) := by
        unfold fM_place_b126
        rw [nI_1]; exact ih
      rw [k126]
      by_cases c1 : gO t = p1
      · rw [if_pos c1, if_neg (fun q => hno t (by omega) ⟨c1, q⟩)]
      · rw [if_neg c1]
end MP
theorem op_place (p1 p2 p3 : Int32) (xk xl : Int32) (bK bZ bL bM : Nat → Int32) (bi bg bh : Int32) (sB sO : Nat → Int32) (sh sw sr : Int32) (lI lC lT lR : Nat → Int32) (lth lro lsp lle lex lco lou : Int32) (iK iZ iL iM : Nat → Int32) (ii ig ih : Int32) (jK jZ jL jM : Nat → Int32) (ji jg jh : Int32) (gS gI gK gO gL gT gB gC gP gR gG : Nat → Int32) (gn : Int32) (h : Inv xk xl bK bZ bL bM bi bg bh lI lC lT lR lth lro lsp lle lex lco lou iK iZ iL iM ii ig ih jK jZ jL jM ji jg jh gS gI gK) : ∃ (r : Int32) (xl' : Int32) (sB' : Nat → Int32) (sO' : Nat → Int32) (sh' : Int32) (sw' : Int32) (sr' : Int32) (lI' : Nat → Int32) (lC' : Nat → Int32) (lT' : Nat → Int32) (lR' : Nat → Int32) (lth' : Int32) (lro' : Int32) (lsp' : Int32) (lle' : Int32) (lex' : Int32) (lco' : Int32) (lou' : Int32) (gO' : Nat → Int32) (gL' : Nat → Int32) (gT' : Nat → Int32) (gB' : Nat → Int32) (gC' : Nat → Int32) (gP' : Nat → Int32) (gR' : Nat → Int32) (gG' : Nat → Int32) (gn' : Int32), fX_place p1 p2 p3 xl bK bZ bL bM bi bg bh sB sO sh sw sr lI lC lT lR lth lro lsp lle lex lco lou = some (r, xl', sB', sO', sh', sw', sr', lI', lC', lT', lR', lth', lro', lsp', lle', lex', lco', lou') ∧ fM_place p1 p2 p3 gS gO gL gT gB gC gP gR gG gn = some (r, gO', gL', gT', gB', gC', gP', gR', gG', gn') ∧ Inv xk xl' bK bZ bL bM bi bg bh lI' lC' lT' lR' lth' lro' lsp' lle' lex' lco' lou' iK iZ iL iM ii ig ih jK jZ jL jM ji jg jh gS gI gK := by
  have h0 := h
  obtain ⟨P, Pi, Pj, a, b, hV, hRB, hRG, ha, hb, hxk, hk0, hk1, hi, hj, hl⟩ := h
  have htt := tt_le hV
  have h12 := hV.1
  have hg : 3 ≤ pg P ∧ pg P ≤ 20 := ⟨hV.2.1, hV.2.2.1⟩
  have h50 := hRG.1
  have h48 := hRG.2.1
  rw [Nat.zero_add] at h50 h48
  unfold fX_place fM_place fX_place_b22
  rw [hRB.1, hs_eq, bd1_s, ms_eq (by omega) h50, bd1_s]
  by_cases c1 : p1 < 0
  · rw [if_pos c1, if_pos rfl, if_pos rfl]
    rw [hRB.1] at h0
    exact ⟨_, _, _, _, _, _, _, _, _, _, _, _, _, _, _, _, _, _, _, _, _, _, _, _, _, _, _, rfl, rfl, h0⟩
  rw [if_neg c1]
  by_cases c2 : nI (pn P) ≤ p1
  · rw [if_pos c2, if_pos rfl, if_pos rfl]
    rw [hRB.1] at h0
    exact ⟨_, _, _, _, _, _, _, _, _, _, _, _, _, _, _, _, _, _, _, _, _, _, _, _, _, _, _, rfl, rfl, h0⟩
  obtain ⟨i, hip, rfl⟩ := in_range (by omega) c1 c2
  rw [if_neg c2, if_neg one_ne, if_neg one_ne, mi_eq, bd1_s, ← hRB.1]
  by_cases c3 : p3 < 0
  · rw [if_pos c3, if_pos c3, if_pos rfl]
    exact ⟨_, _, _, _, _, _, _, _, _, _, _, _, _, _, _, _, _, _, _, _, _, _, _, _, _, _, _, rfl, rfl, h0⟩
  rw [if_neg c3, if_neg c3]
  by_cases c4 : p3 ≤ 3
  · have c5 : ¬ (3 : Int32) < p3 := fun q => by
      rw [i_le] at c4; rw [i_lt] at q; omega
    rw [if_pos c4, if_neg c5, if_neg one_ne, b_things hV hRB hip, bd1_s]
    have htb := tn_b hV hip
    obtain ⟨gO', gL', gT', gB', gC', gP', gR', gG', m1, m2, m3⟩ := m_layBest hV hRG gO gL gT gB gC gP gR gG gn
    rw [m1, bd10_s]
    -- no such thing
    have miss : (p2 < 0 ∨ nI (tn P i) ≤ p2) → (if (if VT P = none then (0 : Int32) else 1) = 0 then some ((-6 : Int32), gO', gL', gT', gB', gC', gP', gR', gG', nI (tt P)) else fM_place_b35 fu (nI i) p2 p3 0 gS gO' gL' gT' gB' gC' gP' gR' gG' (nI (tt P))) = some ((-6 : Int32), gO', gL', gT', gB', gC', gP', gR', gG', nI (tt P)) := by
      intro hp
      have hno : ∀ t, t < tt P → ¬ (gO' t = nI i ∧ gL' t = p2) := by
        rintro t ht ⟨q1, q2⟩
        obtain ⟨t1, t2, t3⟩ := th_q hV m2 ht
        obtain ⟨s1, s2, s3⟩ := q_t hV ht
        rw [t1, nI_eq (by omega) (by omega)] at q1
        rw [q1] at s2
        rw [t2] at q2
        rw [← q2] at hp
        rcases hp with hp | hp
        · exact nI_pos (by omega) hp
        · rw [nI_leI (by omega) (by omega)] at hp
          omega
      have w := mp_none (gS := gS) (gT := gT') (gC := gC') (gP := gP') (gR := gR') (gG := gG') (p3 := p3) (show tt P ≤ 144 by omega) gB' hno 144 fu 0 (by omega) (by omega) (by rw [fu_eq]; omega)
      rw [nI_0] at w
      rw [w]
      by_cases c : (if VT P = none then (0 : Int32) else 1) = 0
      · rw [if_pos c]
      · rw [if_neg c]
    unfold fX_place_b48
    by_cases d1 : p2 < 0
    · rw [if_pos d1, miss (Or.inl d1)]
      exact ⟨_, _, _, _, _, _, _, _, _, _, _, _, _, _, _, _, _, _, _, _, _, _, _, _, _, _, _, rfl, rfl, h0⟩
    rw [if_neg d1]
    by_cases d2 : nI (tn P i) ≤ p2
    · rw [if_pos d2, miss (Or.inr d2)]
      exact ⟨_, _, _, _, _, _, _, _, _, _, _, _, _, _, _, _, _, _, _, _, _, _, _, _, _, _, _, rfl, rfl, h0⟩
    obtain ⟨k, hk, rfl⟩ := in_range (by omega) d1 d2
    rw [if_neg d2]
    obtain ⟨sB', sO', sh', sw', sr', lI', lC', lT', lR', lth', lro', lsp', lle', lex', lco', lou', k1, k2⟩ := lb_eq hV hRB hl sB sO sh sw sr
    have hI : Inv xk 1 bK bZ bL bM bi bg bh lI' lC' lT' lR' lth' lro' lsp' lle' lex' lco' lou' iK iZ iL iM ii ig ih jK jZ jL jM ji jg jh gS gI gK := ⟨P, Pi, Pj, a, b, hV, hRB, hRG, ha, hb, hxk, hk0, hk1, hi, hj, Or.inr ⟨rfl, k2⟩⟩
    rw [k1, bd18_s]
    cases hv : VT P with
    | none =>
      rw [if_pos rfl, if_pos rfl, if_pos rfl]
      exact ⟨_, _, _, _, _, _, _, _, _, _, _, _, _, _, _, _, _, _, _, _, _, _, _, _, _, _, _, rfl, rfl, hI⟩
    | some v =>
      have ne : ¬ (some v = (none : Option Nat)) := fun q => by cases q
      have hL := m3 (by rw [hv]; exact ne)
      rw [if_neg ne, if_neg one_ne, if_neg one_ne]
      rcases k2 with ⟨q, -⟩ | ⟨-, -, d1, d2, -⟩
      · rw [hv] at q; cases q
      obtain ⟨s1, s2, s3⟩ := q_ik hV hip hk
      obtain ⟨t1, t2, t3⟩ := th_q hV m2 s3
      rw [s1] at t1
      rw [s2] at t2
      obtain ⟨l1, l2, l3, l4⟩ := hL _ s3
      obtain ⟨-, x2, x3, x4⟩ := d2 _ s3
      obtain ⟨b1, b2, b3, b4⟩ := q_bd hV hv s3
      have w := mp_found (gS := gS) (gT := gT') (gC := gC') (gP := gP') (gR := gR') (gG := gG') (p3 := p3) (show tt P ≤ 144 by omega) s3 gB' (by rw [h48]; exact nI_ne0 (by omega) (by omega)) t1 t2 (fun t ht q => by
        obtain ⟨q1, q2⟩ := q
        have ht2 : t < tt P := by omega
        obtain ⟨y1, y2, y3⟩ := th_q hV m2 ht2
        obtain ⟨z1, z2, z3⟩ := q_t hV ht2
        rw [y1, nI_eq (by omega) (by omega)] at q1
        rw [q1] at z2 z3
        rw [y2, nI_eq (by omega) (by omega)] at q2
        omega) 144 fu 0 (by omega) (by omega) (by rw [fu_eq]; omega)
      rw [nI_0] at w
      rw [w, b_thb hV hRB (show i ≤ pn P by omega), bd1_s, nI_add]
      have kx : fL_ofThing (nI (pr P i + k)) p3 lC' lT' lR' lth' bg = some (if p3 = 0 then gC' (pr P i + k) else if p3 = 1 then gP' (pr P i + k) else if p3 = 2 then gR' (pr P i + k) else gP' (pr P i + k) - gP' (pr P i + k) / gS 48 * gS 48) := by
        have kg : fB_beyondGrid (nI (qt P (pr P i + k))) (nI (pg P)) = some (nI (qt P (pr P i + k)) - nI (qt P (pr P i + k)) / nI (pg P) * nI (pg P)) := by
          unfold fB_beyondGrid fB_beyondGrid_b18
          rw [if_pos (by rw [ln_3, nI_leI (by omega) (by omega)]; exact hg.1), if_neg (nI_ne0 (by omega) (by omega))]
        unfold fL_ofThing
        rw [if_neg (nI_pos (by omega)), d1, if_pos (by rw [nI_ltI (by omega) (by omega)]; exact s3), ig_f (show pr P i + k < 144 by omega) (by omega), ig_f (show pr P i + k < 144 by omega) (by omega), ig_f (show pr P i + k < 144 by omega) (by omega), ig_f (show pr P i + k < 144 by omega) (by omega), nI_clamp (by omega), x2, x3, x4, l1, l2, l3, h48, hRB.2.1, kg, bd1_s]
        by_cases e0 : p3 = 0
        · rw [if_pos e0, if_pos e0]
        · rw [if_neg e0, if_neg e0]
          by_cases e1 : p3 = 1
          · rw [if_pos e1, if_pos e1]
          · rw [if_neg e1, if_neg e1]
            by_cases e2 : p3 = 2
            · rw [if_pos e2, if_pos e2]
            · rw [if_neg e2, if_neg e2]
      rw [kx, bd1_s]
      exact ⟨_, _, _, _, _, _, _, _, _, _, _, _, _, _, _, _, _, _, _, _, _, _, _, _, _, _, _, rfl, rfl, hI⟩
  · have c5 : (3 : Int32) < p3 := by
      rw [i_le] at c4; rw [i_lt]; omega
    rw [if_neg c4, if_pos c5, if_pos rfl]
    exact ⟨_, _, _, _, _, _, _, _, _, _, _, _, _, _, _, _, _, _, _, _, _, _, _, _, _, _, _, rfl, rfl, h0⟩
