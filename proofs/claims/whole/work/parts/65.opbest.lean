/-! BEST -/
section MB
variable {P : Pb} {gS gO gL gT gC gP gR gG : Nat → Int32}
theorem th_q (hV : VB P) (hT : TH P gO gL gT) {t : Nat} (ht : t < tt P) : gO t = nI (qi P t) ∧ gL t = nI (qk P t) ∧ gT t = nI (ta P (qi P t)) := by
  obtain ⟨a1, a2, a3⟩ := q_t hV ht
  have := hT _ _ a1 a2
  rw [a3] at this
  exact this
theorem mq_line (hV : VB P) (h : RG P 0 gS) (hT : TH P gO gL gT) {t : Nat} (ht : t < tt P) : fM_isLine (nI t) gS gO = some (if pK P (qi P t) = 0 then 1 else 0) := by
  obtain ⟨a1, a2, a3⟩ := q_t hV ht
  have := m_line hV h hT a1 a2
  rwa [a3] at this
theorem mo_eq (hV : VB P) (h : RG P 0 gS) (hT : TH P gO gL gT) {v0 : Nat} (hv : VT P = some v0) (hL : LB P gC gP gR gG (tt P)) {t : Nat} (ht : t < tt P) : fM_isOut (nI t) gS gO gP = some (nI (isO P t)) := by
  have htt := tt_le hV
  have hg : 3 ≤ pg P ∧ pg P ≤ 20 := ⟨hV.2.1, hV.2.2.1⟩
  obtain ⟨b1, b2, b3, b4⟩ := q_bd hV hv ht
  have h48 := h.2.1
  rw [Nat.zero_add] at h48
  unfold fM_isOut fM_isOut_b29 fM_isOut_b30 isO
  rw [mq_line hV h hT ht, bd1_s]
  by_cases c : pK P (qi P t) = 0
  · rw [if_pos c, if_neg one_ne, ig_f (show t < 144 by omega) (by omega), nI_clamp (by omega), h48, if_neg (nI_ne0 (by omega) (by omega)), (hL t ht).2.1, pk_rem (by omega) (by omega) (by omega)]
    have hm := Nat.mod_lt (qt P t) (show pg P > 0 by omega)
    by_cases d : qt P t % pg P = 0
    · have e3 : ¬ (pK P (qi P t) = 0 ∧ ¬ qt P t % pg P = 0) := fun q => q.2 d
      rw [if_pos (by rw [d, nI_0]), if_neg e3, if_neg (fun q => q (Or.inl rfl)), nI_0]
    · have e3 : pK P (qi P t) = 0 ∧ ¬ qt P t % pg P = 0 := ⟨c, d⟩
      rw [if_neg (nI_ne0 (by omega) (by omega)), if_pos e3, if_neg (fun q => q (Or.inr rfl)), ← ln_1]
  · have e3 : ¬ (pK P (qi P t) = 0 ∧ ¬ qt P t % pg P = 0) := fun q => c q.1
    rw [if_neg c, if_pos rfl, if_neg e3, if_neg (fun q => q (Or.inl rfl)), nI_0]
theorem ml_eq (hV : VB P) (hL : LB P gC gP gR gG (tt P)) {t : Nat} (ht : t < tt P) : fM_isLast (nI t) gG (nI (tt P)) = some (if t + 1 = tt P ∨ (qx P (t + 1)).isNone then 1 else 0) := by
  have htt := tt_le hV
  unfold fM_isLast fM_isLast_b21 fM_isLast_b26
  rw [ln_1, pk_sub (by omega)]
  by_cases c : t + 1 = tt P
  · have e : t = tt P - 1 := by omega
    have e3 : t + 1 = tt P ∨ (qx P (t + 1)).isNone := Or.inl c
    rw [if_pos (by rw [← e]), if_pos e3, ← ln_1, if_neg (fun q => q (Or.inr rfl))]
  · have e : ¬ t = tt P - 1 := by omega
    rw [if_neg (by rw [nI_eq (by omega) (by omega)]; exact e), nI_add, ig_f (show t + 1 < 144 by omega) (by omega), nI_clamp (by omega), (hL (t + 1) (by omega)).2.2.2]
    cases hx : (qx P (t + 1)).isNone with
    | true =>
      have e3 : t + 1 = tt P ∨ true = true := Or.inr rfl
      rw [if_pos rfl, if_pos e3, if_neg (show ¬ nI 1 = 0 by decide +kernel), ← ln_1, if_neg (fun q => q (Or.inr rfl))]
    | false =>
      have e3 : ¬ (t + 1 = tt P ∨ false = true) := fun q => by
        rcases q with q | q
        · exact c q
        · cases q
      have e4 : ¬ (false = true) := fun q => by cases q
      rw [if_neg e4, if_neg e3, if_pos nI_0, if_neg (fun q => q (Or.inl rfl))]
theorem mb_lp (hV : VB P) (h : RG P 0 gS) (hT : TH P gO gL gT) {v0 : Nat} (hv : VT P = some v0) (hL : LB P gC gP gR gG (tt P)) (p1 : Int32) (gB : Nat → Int32) : ∀ (d n t : Nat), t ≤ tt P → tt P - t ≤ d → d < n → fM_best_b35 n p1 (nI (sm (isO P) t)) (nI (sm (qr P) t)) (nI (sm (isS P) t)) (nI (sm (isE P) t)) (nI t) gS gO gL gT gB gC gP gR gG (nI (tt P)) = fM_best_b181 p1 (nI (sm (isO P) (tt P))) (nI (sm (qr P) (tt P))) (nI (sm (isS P) (tt P))) (nI (sm (isE P) (tt P))) (nI (qn P (tt P))) gS gO gL gT gB gC gP gR gG (nI (tt P))
  | d, 0, _, _, _, hh => absurd hh (Nat.not_lt_zero _)
  | d, n + 1, t, h0, h1, h2 => by
    have htt := tt_le hV
    rw [fM_best_b35]
    by_cases c0 : tt P ≤ t
    · have e : t = tt P := by omega
      subst e
      rw [if_pos (by rw [nI_leI (by omega) (by omega)]; exact c0)]
      by_cases c1 : tt P = 0
      · have e2 : qn P (tt P) = 0 := by rw [c1]; rfl
        rw [if_pos (by rw [c1, nI_0]), e2, nI_0]
      · have hn := qn_pos P (tt P) (by omega)
        rw [if_neg (nI_ne0 (by omega) (by omega)), ln_1, pk_sub (by omega), ig_f (show tt P - 1 < 144 by omega) (by omega), nI_clamp (by omega), (hL (tt P - 1) (by omega)).1, nI_add]
        unfold qo
        rw [show tt P - 1 + 1 = tt P by omega, show qn P (tt P) - 1 + 1 = qn P (tt P) by omega]
    · rw [if_neg (by rw [nI_leI (by omega) (by omega)]; exact c0)]
      have ht : t < tt P := by omega
      obtain ⟨hi, hk, hik⟩ := q_t hV ht
      obtain ⟨b1, b2, b3, b4⟩ := q_bd hV hv ht
      obtain ⟨t1, t2, t3⟩ := th_q hV hT ht
      obtain ⟨l1, l2, l3, l4⟩ := hL t ht
      have hkb := (tn_b hV hi).2
      have h49 := h.2.2.1
      rw [Nat.zero_add] at h49
      have key : (if nI (isO P t) = 0 then fM_best_b59 (fM_best_b35 n) p1 (nI (sm (qr P) t)) (nI (sm (isS P) t)) (nI (sm (isE P) t)) (nI t) (nI (sm (isO P) t)) 0 gS gO gL gT gB gC gP gR gG (nI (tt P)) else fM_best_b59 (fM_best_b35 n) p1 (nI (sm (qr P) t)) (nI (sm (isS P) t)) (nI (sm (isE P) t)) (nI t) (nI (sm (isO P) t)) 1 gS gO gL gT gB gC gP gR gG (nI (tt P))) = fM_best_b59 (fM_best_b35 n) p1 (nI (sm (qr P) t)) (nI (sm (isS P) t)) (nI (sm (isE P) t)) (nI t) (nI (sm (isO P) t)) (nI (isO P t)) gS gO gL gT gB gC gP gR gG (nI (tt P)) := by
        have : isO P t = 0 ∨ isO P t = 1 := by
          unfold isO
          by_cases c : pK P (qi P t) = 0 ∧ ¬ qt P t % pg P = 0
          · rw [if_pos c]; exact Or.inr rfl
          · rw [if_neg c]; exact Or.inl rfl
        rcases this with q | q
        · rw [q, if_pos nI_0, nI_0]
        · rw [q, if_neg (show ¬ nI 1 = 0 by decide +kernel), ← ln_1]
      rw [mo_eq hV h hT hv hL ht, bd1_s, key]
      have k107 : ∀ x, fM_best_b107 (fM_best_b35 n) p1 (nI (sm (isO P) (t + 1))) (nI (sm (qr P) (t + 1))) (nI (sm (isE P) t)) (nI t) (nI (sm (isS P) t)) x gS gO gL gT gB gC gP gR gG (nI (tt P)) = fM_best_b35 n p1 (nI (sm (isO P) (t + 1))) (nI (sm (qr P) (t + 1))) (nI (sm (isS P) t) + x) (nI (sm (isE P) (t + 1))) (nI (t + 1)) gS gO gL gT gB gC gP gR gG (nI (tt P)) := by
        intro x
        unfold fM_best_b107 fM_best_b148
        rw [ml_eq hV hL ht, bd1_s]
        show _ = fM_best_b35 n p1 _ _ _ (nI (sm (isE P) t + isE P t)) _ gS gO gL gT gB gC gP gR gG _
        unfold isE
        by_cases c : t + 1 = tt P ∨ (qx P (t + 1)).isNone
        · rw [if_pos c, if_pos c, if_neg one_ne, ig_f (show t < 144 by omega) (by omega), ig_f (show t < 144 by omega) (by omega), nI_clamp (by omega), h49, l2, t3, pk_sub (by omega), pk_sub (by omega), nI_add, nI_1, Nat.sub_sub]
        · rw [if_neg c, if_neg c, if_pos rfl, ln_0, nI_add, nI_1]
      have k59 : fM_best_b59 (fM_best_b35 n) p1 (nI (sm (qr P) t)) (nI (sm (isS P) t)) (nI (sm (isE P) t)) (nI t) (nI (sm (isO P) t)) (nI (isO P t)) gS gO gL gT gB gC gP gR gG (nI (tt P)) = fM_best_b35 n p1 (nI (sm (isO P) (t + 1))) (nI (sm (qr P) (t + 1))) (nI (sm (isS P) (t + 1))) (nI (sm (isE P) (t + 1))) (nI (t + 1)) gS gO gL gT gB gC gP gR gG (nI (tt P)) := by
        unfold fM_best_b59 fM_best_b106
        rw [ig_f (show t < 144 by omega) (by omega), ig_f (show t < 144 by omega) (by omega), ig_f (show t < 144 by omega) (by omega), nI_clamp (by omega), l4, l3, t2, nI_add, nI_add, mq_line hV h hT ht, bd1_s]
        have e1 : sm (isO P) t + isO P t = sm (isO P) (t + 1) := rfl
        have e2 : sm (qr P) t + qr P t = sm (qr P) (t + 1) := rfl
        have e3 : nI (sm (isS P) (t + 1)) = nI (sm (isS P) t) + nI (isS P t) := by rw [nI_add]; rfl
        have e4 : isS P t = if (qx P t).isNone ∧ pK P (qi P t) = 0 ∧ 0 < qk P t then 1 else 0 := rfl
        rw [e1, e2, k107, k107, e3, e4]
        cases hx : (qx P t).isNone with
        | false =>
          have n1 : ¬ (false = true) := fun q => by cases q
          have n2 : ¬ (false = true ∧ pK P (qi P t) = 0 ∧ 0 < qk P t) := fun q => n1 q.1
          rw [if_neg n1, if_neg n2, if_pos nI_0, nI_0]
        | true =>
          rw [if_pos rfl, if_neg (show ¬ nI 1 = 0 by decide +kernel)]
          by_cases c : pK P (qi P t) = 0
          · rw [if_pos c, if_neg one_ne]
            by_cases d : 0 < qk P t
            · have n2 : true = true ∧ pK P (qi P t) = 0 ∧ 0 < qk P t := ⟨rfl, c, d⟩
              rw [if_neg (nI_nle d (by omega)), if_pos n2, ln_1]
            · have e0 : qk P t = 0 := by omega
              have n2 : ¬ (true = true ∧ pK P (qi P t) = 0 ∧ 0 < qk P t) := fun q => d q.2.2
              rw [if_pos (by rw [e0]; decide +kernel), if_neg n2, nI_0]
          · have n2 : ¬ (true = true ∧ pK P (qi P t) = 0 ∧ 0 < qk P t) := fun q => c q.2.1
            rw [if_neg c, if_pos rfl, if_neg n2, nI_0]
      rw [k59]
      exact mb_lp hV h hT hv hL p1 gB (d - 1) n (t + 1) (by omega) (by omega) (by omega)
end MB
theorem op_best (p1 : Int32) (xk xl : Int32) (bK bZ bL bM : Nat → Int32) (bi bg bh : Int32) (sB sO : Nat → Int32) (sh sw sr : Int32) (lI lC lT lR : Nat → Int32) (lth lro lsp lle lex lco lou : Int32) (iK iZ iL iM : Nat → Int32) (ii ig ih : Int32) (jK jZ jL jM : Nat → Int32) (ji jg jh : Int32) (gS gI gK gO gL gT gB gC gP gR gG : Nat → Int32) (gn : Int32) (h : Inv xk xl bK bZ bL bM bi bg bh lI lC lT lR lth lro lsp lle lex lco lou iK iZ iL iM ii ig ih jK jZ jL jM ji jg jh gS gI gK) : ∃ (r : Int32) (xl' : Int32) (sB' : Nat → Int32) (sO' : Nat → Int32) (sh' : Int32) (sw' : Int32) (sr' : Int32) (lI' : Nat → Int32) (lC' : Nat → Int32) (lT' : Nat → Int32) (lR' : Nat → Int32) (lth' : Int32) (lro' : Int32) (lsp' : Int32) (lle' : Int32) (lex' : Int32) (lco' : Int32) (lou' : Int32) (gO' : Nat → Int32) (gL' : Nat → Int32) (gT' : Nat → Int32) (gB' : Nat → Int32) (gC' : Nat → Int32) (gP' : Nat → Int32) (gR' : Nat → Int32) (gG' : Nat → Int32) (gn' : Int32), fX_best p1 xl bK bZ bL bM bi bg bh sB sO sh sw sr lI lC lT lR lth lro lsp lle lex lco lou = some (r, xl', sB', sO', sh', sw', sr', lI', lC', lT', lR', lth', lro', lsp', lle', lex', lco', lou') ∧ fM_best p1 gS gO gL gT gB gC gP gR gG gn = some (r, gO', gL', gT', gB', gC', gP', gR', gG', gn') ∧ Inv xk xl' bK bZ bL bM bi bg bh lI' lC' lT' lR' lth' lro' lsp' lle' lex' lco' lou' iK iZ iL iM ii ig ih jK jZ jL jM ji jg jh gS gI gK := by
  have h0 := h
  obtain ⟨P, Pi, Pj, a, b, hV, hRB, hRG, ha, hb, hxk, hk0, hk1, hi, hj, hl⟩ := h
  have htt := tt_le hV
  unfold fX_best fM_best fX_best_b9
  rw [mi_eq, bd1_s]
  by_cases c1 : p1 < 0
  · rw [if_pos c1, if_pos c1, if_pos rfl]
    exact ⟨_, _, _, _, _, _, _, _, _, _, _, _, _, _, _, _, _, _, _, _, _, _, _, _, _, _, _, rfl, rfl, h0⟩
  · rw [if_neg c1, if_neg c1]
    by_cases c2 : p1 ≤ 4
    · have c3 : ¬ (4 : Int32) < p1 := fun q => by
        rw [i_le] at c2; rw [i_lt] at q; omega
      rw [if_pos c2, if_neg c3, if_neg one_ne]
      obtain ⟨sB', sO', sh', sw', sr', lI', lC', lT', lR', lth', lro', lsp', lle', lex', lco', lou', k1, k2⟩ := lb_eq hV hRB hl sB sO sh sw sr
      obtain ⟨gO', gL', gT', gB', gC', gP', gR', gG', m1, m2, m3⟩ := m_layBest hV hRG gO gL gT gB gC gP gR gG gn
      have hI : Inv xk 1 bK bZ bL bM bi bg bh lI' lC' lT' lR' lth' lro' lsp' lle' lex' lco' lou' iK iZ iL iM ii ig ih jK jZ jL jM ji jg jh gS gI gK := ⟨P, Pi, Pj, a, b, hV, hRB, hRG, ha, hb, hxk, hk0, hk1, hi, hj, Or.inr ⟨rfl, k2⟩⟩
      rw [k1, bd18_s, m1, bd10_s]
      unfold fX_best_b32
      cases hv : VT P with
      | none =>
        rw [if_pos rfl, if_pos rfl, if_pos rfl]
        exact ⟨_, _, _, _, _, _, _, _, _, _, _, _, _, _, _, _, _, _, _, _, _, _, _, _, _, _, _, rfl, rfl, hI⟩
      | some v =>
        have ne : ¬ (some v = (none : Option Nat)) := fun q => by cases q
        have hL := m3 (by rw [hv]; exact ne)
        rw [if_neg ne, if_neg one_ne, if_neg one_ne]
        rcases k2 with ⟨q, -⟩ | ⟨-, -, d1, d2, d3, d4, d5, d6, d7⟩
        · rw [hv] at q; cases q
        have w := mb_lp hV hRG m2 hv hL p1 gB' 144 fu 0 (by omega) (by omega) (by rw [fu_eq]; omega)
        have w2 : fM_best_b35 fu p1 0 0 0 0 0 gS gO' gL' gT' gB' gC' gP' gR' gG' (nI (tt P)) = fM_best_b181 p1 (nI (sm (isO P) (tt P))) (nI (sm (qr P) (tt P))) (nI (sm (isS P) (tt P))) (nI (sm (isE P) (tt P))) (nI (qn P (tt P))) gS gO' gL' gT' gB' gC' gP' gR' gG' (nI (tt P)) := w
        rw [w2]
        unfold fL_total fM_best_b181 fM_best_b222
        rw [d3, d4, d5, d6, d7]
        rw [d3, d4, d5, d6, d7] at hI
        by_cases e0 : p1 = 0
        · rw [if_pos e0, if_pos e0, bd1_s]
          exact ⟨_, _, _, _, _, _, _, _, _, _, _, _, _, _, _, _, _, _, _, _, _, _, _, _, _, _, _, rfl, rfl, hI⟩
        · rw [if_neg e0, if_neg e0]
          by_cases e1 : p1 = 1
          · rw [if_pos e1, if_pos e1, bd1_s]
            exact ⟨_, _, _, _, _, _, _, _, _, _, _, _, _, _, _, _, _, _, _, _, _, _, _, _, _, _, _, rfl, rfl, hI⟩
          · rw [if_neg e1, if_neg e1]
            by_cases e2 : p1 = 2
            · rw [if_pos e2, if_pos e2, bd1_s]
              exact ⟨_, _, _, _, _, _, _, _, _, _, _, _, _, _, _, _, _, _, _, _, _, _, _, _, _, _, _, rfl, rfl, hI⟩
            · rw [if_neg e2, if_neg e2]
              by_cases e3 : p1 = 3
              · rw [if_pos e3, if_pos e3, bd1_s]
                exact ⟨_, _, _, _, _, _, _, _, _, _, _, _, _, _, _, _, _, _, _, _, _, _, _, _, _, _, _, rfl, rfl, hI⟩
              · rw [if_neg e3, if_neg e3, bd1_s]
                exact ⟨_, _, _, _, _, _, _, _, _, _, _, _, _, _, _, _, _, _, _, _, _, _, _, _, _, _, _, rfl, rfl, hI⟩
    · have c3 : (4 : Int32) < p1 := by
        rw [i_le] at c2; rw [i_lt]; omega
      rw [if_neg c2, if_pos c3, if_pos rfl]
      exact ⟨_, _, _, _, _, _, _, _, _, _, _, _, _, _, _, _, _, _, _, _, _, _, _, _, _, _, _, rfl, rfl, h0⟩
