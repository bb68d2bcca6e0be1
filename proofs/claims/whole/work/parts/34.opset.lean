def sg (P : Pb) (g h : Nat) : Pb := (pK P, pZ P, pL P, pM P, pn P, g, h)
theorem one_ne : ¬ (1 : Int32) = 0 := by decide
theorem zero_ne : ¬ (0 : Int32) = 1 := by decide
theorem op_set (p1 p2 : Int32) (xk xl : Int32) (bK bZ bL bM : Nat → Int32) (bi bg bh : Int32) (lI lC lT lR : Nat → Int32) (lth lro lsp lle lex lco lou : Int32) (iK iZ iL iM : Nat → Int32) (ii ig ih : Int32) (jK jZ jL jM : Nat → Int32) (ji jg jh : Int32) (gS gI gK : Nat → Int32) (h : Inv xk xl bK bZ bL bM bi bg bh lI lC lT lR lth lro lsp lle lex lco lou iK iZ iL iM ii ig ih jK jZ jL jM ji jg jh gS gI gK) : ∃ (r : Int32) (xl' : Int32) (bg' : Int32) (bh' : Int32) (gS' : Nat → Int32), fX_set p1 p2 xl bg bh = some (r, xl', bg', bh') ∧ fM_set p1 p2 gS = some (r, gS') ∧ Inv xk xl' bK bZ bL bM bi bg' bh' lI lC lT lR lth lro lsp lle lex lco lou iK iZ iL iM ii ig ih jK jZ jL jM ji jg jh gS' gI gK := by
  have h0 := h
  obtain ⟨P, Pi, Pj, a, b, hV, ⟨rfl, rfl, rfl, hB⟩, ⟨hG50, hG48, hG49, hG⟩, ha, hb, hxk, hk0, hk1, hi, hj, hl⟩ := h
  simp only [Nat.zero_add] at hG50 hG48 hG49 hG
  have hn12 := hV.1
  unfold fX_set fM_set
  rw [mi_eq, bd1_s]
  unfold fX_set_b34 fX_set_b71 fX_set_b74 fM_set_b38 fM_set_b20 fM_set_b32
  by_cases c0 : p1 = 0
  · subst c0
    have z0 : ¬ (0 : Int32) < 0 := by decide
    have z1 : ¬ (1 : Int32) < 0 := by decide
    simp only [z0, z1, one_ne, zero_ne, if_false, if_true]
    rw [mi_eq, bd1_s]
    by_cases d1 : p2 < 3
    · refine ⟨-2, xl, nI (pg P), nI (ph P), gS, ?_, ?_, h0⟩ <;> simp [d1, fM_set_b38]
    by_cases d2 : 20 < p2
    · refine ⟨-2, xl, nI (pg P), nI (ph P), gS, ?_, ?_, h0⟩ <;> simp [d1, d2, fM_set_b38]
    simp only [d1, d2, one_ne, if_false]
    obtain ⟨q, hq, rfl⟩ := in_range (n := 21) (x := p2) (by omega) (fun h => d1 (by rw [i_lt] at *; rw [ln_3, nt (by omega)]; rw [ln_0, nt (by omega)] at h; omega)) (fun h => d2 (by rw [i_lt]; rw [i_le, nt (by omega)] at h; rw [ln_20, nt (by omega)]; omega))
    have hq3 : 3 ≤ q := by
      rcases Nat.lt_or_ge q 3 with w | w
      · exact absurd (by rw [ln_3, nI_ltI (by omega) (by omega)]; exact w) d1
      · exact w
    have e48 : (48 : Int32) + 0 = nI 48 := by decide +kernel
    refine ⟨nI (pg P), 0, nI q, nI (ph P), upd gS 48 (nI q), rfl, ?_, sg P q (ph P), Pi, Pj, a, b, ?_, ⟨rfl, rfl, rfl, hB⟩, ?_, ha, hb, hxk, hk0, hk1, hi, hj, Or.inl rfl⟩
    · rw [e48]
      simp (disch := omega) only [ig_f, ig_g, nI_clamp, hG48]
    · exact ⟨hV.1, hq3, by show q ≤ 20; omega, hV.2.2.2.1, hV.2.2.2.2.1, hV.2.2.2.2.2⟩
    · refine ⟨?_, ?_, ?_, ?_⟩
      · show upd gS 48 (nI q) 50 = _
        rw [pk_un (by decide), hG50]; rfl
      · show upd gS 48 (nI q) 48 = _
        rw [pk_us]; rfl
      · show upd gS 48 (nI q) 49 = _
        rw [pk_un (by decide), hG49]; rfl
      · intro i hi'
        have hi' : i < pn P := hi'
        simp only [Nat.zero_add]
        rw [pk_un (by omega), pk_un (by omega), pk_un (by omega), pk_un (by omega)]
        exact hG i hi'
  · by_cases c1 : p1 = 1
    · subst c1
      have z0 : ¬ (1 : Int32) < 0 := by decide
      have z1 : ¬ (1 : Int32) < 1 := by decide
      simp only [z0, z1, one_ne, if_false, if_true]
      rw [mi_eq, bd1_s]
      by_cases d1 : p2 < 12
      · refine ⟨-2, xl, nI (pg P), nI (ph P), gS, ?_, ?_, h0⟩ <;> simp [d1, fM_set_b38]
      by_cases d2 : 200 < p2
      · refine ⟨-2, xl, nI (pg P), nI (ph P), gS, ?_, ?_, h0⟩ <;> simp [d1, d2, fM_set_b38]
      simp only [d1, d2, one_ne, if_false]
      obtain ⟨q, hq, rfl⟩ := in_range (n := 201) (x := p2) (by omega) (fun h => d1 (by rw [i_lt] at *; rw [ln_12, nt (by omega)]; rw [ln_0, nt (by omega)] at h; omega)) (fun h => d2 (by rw [i_lt]; rw [i_le, nt (by omega)] at h; rw [ln_200, nt (by omega)]; omega))
      have hq3 : 12 ≤ q := by
        rcases Nat.lt_or_ge q 12 with w | w
        · exact absurd (by rw [ln_12, nI_ltI (by omega) (by omega)]; exact w) d1
        · exact w
      have e48 : (48 : Int32) + 1 = nI 49 := by decide +kernel
      refine ⟨nI (ph P), 0, nI (pg P), nI q, upd gS 49 (nI q), rfl, ?_, sg P (pg P) q, Pi, Pj, a, b, ?_, ⟨rfl, rfl, rfl, hB⟩, ?_, ha, hb, hxk, hk0, hk1, hi, hj, Or.inl rfl⟩
      · rw [e48]
        simp (disch := omega) only [ig_f, ig_g, nI_clamp, hG49]
      · exact ⟨hV.1, hV.2.1, hV.2.2.1, hq3, by show q ≤ 200; omega, hV.2.2.2.2.2⟩
      · refine ⟨?_, ?_, ?_, ?_⟩
        · show upd gS 49 (nI q) 50 = _
          rw [pk_un (by decide), hG50]; rfl
        · show upd gS 49 (nI q) 48 = _
          rw [pk_un (by decide), hG48]; rfl
        · show upd gS 49 (nI q) 49 = _
          rw [pk_us]; rfl
        · intro i hi'
          have hi' : i < pn P := hi'
          simp only [Nat.zero_add]
          rw [pk_un (by omega), pk_un (by omega), pk_un (by omega), pk_un (by omega)]
          exact hG i hi'
    · refine ⟨-2, xl, nI (pg P), nI (ph P), gS, ?_, ?_, h0⟩
      · simp [c0, c1]
      · by_cases d1 : p1 < 0
        · simp [d1]
        by_cases d2 : 1 < p1
        · simp [d1, d2]
        · exact absurd (show p1 = 0 ∨ p1 = 1 from by
            rw [i_lt] at d1 d2
            rw [i_eq, i_eq]
            rw [ln_0, nt (by omega)] at d1
            rw [ln_1, nt (by omega)] at d2
            rw [ln_0, ln_1, nt (by omega), nt (by omega)]
            omega) (fun h => h.elim c0 c1)
def cZ (P : Pb) (j m : Nat) : Pb := (pK P, va_up (pZ P) j m, pL P, pM P, pn P, pg P, ph P)
def cL (P : Pb) (j m : Nat) : Pb := (pK P, pZ P, va_up (pL P) j m, pM P, pn P, pg P, ph P)
def cM (P : Pb) (j m : Nat) : Pb := (pK P, pZ P, pL P, va_up (pM P) j m, pn P, pg P, ph P)
theorem ch_RG {P P' : Pb} {gS : Nat → Int32} {j q m : Nat} (hq : q = 1 ∨ q = 2 ∨ q = 3) (hj : j < pn P) (hn : pn P ≤ 12) (h50 : gS 50 = nI (pn P)) (h48 : gS 48 = nI (pg P)) (h49 : gS 49 = nI (ph P)) (h : ∀ i, i < pn P → gS i = nI (pK P i) ∧ gS (12 + i) = nI (pZ P i) ∧ gS (24 + i) = nI (pL P i) ∧ gS (36 + i) = nI (pM P i)) (hP : P' = if q = 1 then cZ P j m else if q = 2 then cL P j m else cM P j m) : RG P' 0 (upd gS (12 * q + j) (nI m)) := by
  rcases hq with rfl | rfl | rfl
  · simp only [if_true] at hP
    subst hP
    refine ⟨?_, ?_, ?_, ?_⟩
    · show upd gS (12 * 1 + j) (nI m) 50 = nI (pn P); rw [pk_un (by omega), h50]
    · show upd gS (12 * 1 + j) (nI m) 48 = nI (pg P); rw [pk_un (by omega), h48]
    · show upd gS (12 * 1 + j) (nI m) 49 = nI (ph P); rw [pk_un (by omega), h49]
    · intro i hi
      have hi : i < pn P := hi
      obtain ⟨f1, f2, f3, f4⟩ := h i hi
      simp only [Nat.zero_add]
      refine ⟨by rw [pk_un (by omega), f1]; rfl, ?_, by rw [pk_un (by omega), f3]; rfl, by rw [pk_un (by omega), f4]; rfl⟩
      show _ = nI (va_up (pZ P) j m i)
      by_cases e : i = j
      · subst e; rw [up_s, pk_us]
      · rw [up_n _ _ e, pk_un (by omega), f2]
  · rw [if_neg (by decide), if_pos rfl] at hP
    subst hP
    refine ⟨?_, ?_, ?_, ?_⟩
    · show upd gS (12 * 2 + j) (nI m) 50 = nI (pn P); rw [pk_un (by omega), h50]
    · show upd gS (12 * 2 + j) (nI m) 48 = nI (pg P); rw [pk_un (by omega), h48]
    · show upd gS (12 * 2 + j) (nI m) 49 = nI (ph P); rw [pk_un (by omega), h49]
    · intro i hi
      have hi : i < pn P := hi
      obtain ⟨f1, f2, f3, f4⟩ := h i hi
      simp only [Nat.zero_add]
      refine ⟨by rw [pk_un (by omega), f1]; rfl, by rw [pk_un (by omega), f2]; rfl, ?_, by rw [pk_un (by omega), f4]; rfl⟩
      show _ = nI (va_up (pL P) j m i)
      by_cases e : i = j
      · subst e; rw [up_s, pk_us]
      · rw [up_n _ _ e, pk_un (by omega), f3]
  · rw [if_neg (by decide), if_neg (by decide)] at hP
    subst hP
    refine ⟨?_, ?_, ?_, ?_⟩
    · show upd gS (12 * 3 + j) (nI m) 50 = nI (pn P); rw [pk_un (by omega), h50]
    · show upd gS (12 * 3 + j) (nI m) 48 = nI (pg P); rw [pk_un (by omega), h48]
    · show upd gS (12 * 3 + j) (nI m) 49 = nI (ph P); rw [pk_un (by omega), h49]
    · intro i hi
      have hi : i < pn P := hi
      obtain ⟨f1, f2, f3, f4⟩ := h i hi
      simp only [Nat.zero_add]
      refine ⟨by rw [pk_un (by omega), f1]; rfl, by rw [pk_un (by omega), f2]; rfl, by rw [pk_un (by omega), f3]; rfl, ?_⟩
      show _ = nI (va_up (pM P) j m i)
      by_cases e : i = j
      · subst e; rw [up_s, pk_us]
      · rw [up_n _ _ e, pk_un (by omega), f4]
theorem mc_eq {v1 v2 v3 : Int32} {gS : Nat → Int32} {q j : Nat} (hq : q ≤ 3) (hj : j < 12) (h1 : v1 = nI j) (h2 : v2 = nI q) : fM_change_b110 v1 v2 v3 gS = some (gS (12 * q + j), upd gS (12 * q + j) v3) := by
  subst h1; subst h2
  unfold fM_change_b110
  simp only [ln_12, pk_mul, nI_add]
  simp (disch := omega) only [ig_f, ig_g, nI_clamp]
theorem op_change (p1 p2 p3 : Int32) (xk xl : Int32) (bK bZ bL bM : Nat → Int32) (bi bg bh : Int32) (lI lC lT lR : Nat → Int32) (lth lro lsp lle lex lco lou : Int32) (iK iZ iL iM : Nat → Int32) (ii ig ih : Int32) (jK jZ jL jM : Nat → Int32) (ji jg jh : Int32) (gS gI gK : Nat → Int32) (h : Inv xk xl bK bZ bL bM bi bg bh lI lC lT lR lth lro lsp lle lex lco lou iK iZ iL iM ii ig ih jK jZ jL jM ji jg jh gS gI gK) : ∃ (r : Int32) (xl' : Int32) (bZ' : Nat → Int32) (bL' : Nat → Int32) (bM' : Nat → Int32) (gS' : Nat → Int32), fX_change p1 p2 p3 xl bK bZ bL bM bi = some (r, xl', bZ', bL', bM') ∧ fM_change p1 p2 p3 gS = some (r, gS') ∧ Inv xk xl' bK bZ' bL' bM' bi bg bh lI lC lT lR lth lro lsp lle lex lco lou iK iZ iL iM ii ig ih jK jZ jL jM ji jg jh gS' gI gK := by
  have h0 := h
  obtain ⟨P, Pi, Pj, a, b, hV, ⟨rfl, rfl, rfl, hB⟩, ⟨hG50, hG48, hG49, hG⟩, ha, hb, hxk, hk0, hk1, hi, hj, hl⟩ := h
  simp only [Nat.zero_add] at hG50 hG48 hG49 hG
  have hn12 := hV.1
  unfold fX_change fM_change
  rw [hs_eq, ms_eq (n := pn P) (by omega) hG50, bd1_s, bd1_s]
  by_cases c1 : p1 < 0
  · refine ⟨-1, xl, bZ, bL, bM, gS, ?_, ?_, h0⟩ <;> simp [c1]
  by_cases c2 : nI (pn P) ≤ p1
  · refine ⟨-1, xl, bZ, bL, bM, gS, ?_, ?_, h0⟩ <;> simp [c1, c2]
  simp only [if_neg c1, if_neg c2, one_ne, if_false]
  rw [mi_eq, bd1_s]
  obtain ⟨j, hjn, rfl⟩ := in_range (by omega) c1 c2
  obtain ⟨e1, e2, e3, e4⟩ := hB j hjn
  obtain ⟨f1, f2, f3, f4⟩ := hG j hjn
  have hvj := hV.2.2.2.2.2 j hjn
  have hk2 := hvj.1
  unfold fX_changeFits fX_changeFits_b77 fX_changeFits_b78
  simp (disch := omega) only [ig_f, ig_g, nI_clamp, e1, e3, e4, f1]
  have kz : (nI (pK P j) = 0) ↔ pK P j = 0 := by rw [ln_0, nI_eq (by omega) (by omega)]
  have hz12 : ∀ x : Int32, ¬ x < 1 → ¬ (if nI (pK P j) = 0 then (12 : Int32) else 80) < x → ∃ m, x = nI m ∧ 1 ≤ m ∧ m ≤ (if pK P j = 0 then 12 else 80) := by
    intro x x1 x2
    obtain ⟨m, hm, rfl⟩ := in_range (n := 81) (x := x) (by omega) (fun h => x1 (by rw [i_lt] at *; rw [ln_1, nt (by omega)]; rw [ln_0, nt (by omega)] at h; omega)) (fun h => x2 (by
      rw [i_lt]; rw [i_le, nt (by omega)] at h
      split
      · rw [ln_12, nt (by omega)]; omega
      · rw [ln_80, nt (by omega)]; omega))
    refine ⟨m, rfl, ?_, ?_⟩
    · rcases Nat.lt_or_ge m 1 with q | q
      · exact absurd (by rw [ln_1, nI_ltI (by omega) (by omega)]; exact q) x1
      · exact q
    · by_cases e : pK P j = 0
      · rw [if_pos e]; rw [if_pos (kz.mpr e), ln_12, nI_ltI (by omega) (by omega)] at x2; omega
      · rw [if_neg e]; rw [if_neg (fun h => e (kz.mp h)), ln_80, nI_ltI (by omega) (by omega)] at x2; omega
  by_cases w1 : p2 = 1
  · subst w1
    have t1 : ¬ (1 : Int32) < 1 := by decide
    have t2 : ¬ (3 : Int32) < 1 := by decide
    simp only [t1, t2, one_ne, if_true, if_false, sf_eq, ss_eq, bd1_s]
    by_cases s1 : p3 < 1
    · refine ⟨-2, xl, bZ, bL, bM, gS, ?_, ?_, h0⟩ <;> simp [s1, fM_change_b64, fM_change_b107, bd1_s]
    by_cases s2 : (if nI (pK P j) = 0 then (12 : Int32) else 80) < p3
    · refine ⟨-2, xl, bZ, bL, bM, gS, ?_, ?_, h0⟩
      · simp only [s1, s2, if_true, if_false, bd1_s]; simp [bd1_s]
      · simp only [s1, s2, if_true, if_false, fM_change_b64, fM_change_b107]
    obtain ⟨m, rfl, hm1, hm2⟩ := hz12 p3 s1 s2
    simp only [s1, s2, if_false]
    refine ⟨nI (pZ P j), 0, upd bZ j (nI m), bL, bM, upd gS (12 * 1 + j) (nI m), ?_, ?_, cZ P j m, Pi, Pj, a, b, ?_, ⟨rfl, rfl, rfl, ?_⟩, ch_RG (Or.inl rfl) hjn hn12 hG50 hG48 hG49 hG rfl, ha, hb, hxk, hk0, hk1, hi, hj, Or.inl rfl⟩
    · have t3 : ¬ ((1 : Int32) = 0 ∨ False) := by decide
      unfold fB_number fB_write fB_write_b55
      simp (disch := omega) only [ig_f, ig_g, nI_clamp, one_ne, e2, if_true, if_false, bd1_s, bd3_s]
      simp [bd1_s, bd3_s]
    · unfold fM_change_b64 fM_change_b89
      have t4 : ¬ (1 : Int32) = 2 := by decide
      have t5 : ¬ (1 : Int32) = 3 := by decide
      simp only [one_ne, t4, t5, if_false]
      rw [mc_eq (q := 1) (by omega) (by omega) rfl ln_1, f2]
    · refine ⟨hV.1, hV.2.1, hV.2.2.1, hV.2.2.2.1, hV.2.2.2.2.1, ?_⟩
      intro i hi'
      have hi' : i < pn P := hi'
      have hv := hV.2.2.2.2.2 i hi'
      show pK P i ≤ 2 ∧ (pK P i = 0 → 1 ≤ va_up (pZ P) j m i ∧ va_up (pZ P) j m i ≤ 12 ∧ pL P i = 0 ∧ pM P i = 0) ∧ (pK P i ≠ 0 → 1 ≤ va_up (pZ P) j m i ∧ va_up (pZ P) j m i ≤ 80 ∧ pL P i ≤ pM P i ∧ pM P i ≤ 30)
      by_cases e : i = j
      · subst e
        rw [up_s]
        refine ⟨hv.1, fun h => ?_, fun h => ?_⟩
        · rw [if_pos h] at hm2; exact ⟨hm1, hm2, (hv.2.1 h).2.2⟩
        · rw [if_neg h] at hm2; exact ⟨hm1, hm2, (hv.2.2 h).2.2⟩
      · rw [up_n _ _ e]; exact hv
    · intro i hi'
      have hi' : i < pn P := hi'
      obtain ⟨g1, g2, g3, g4⟩ := hB i hi'
      refine ⟨g1, ?_, g3, g4⟩
      show upd bZ j (nI m) i = nI (va_up (pZ P) j m i)
      by_cases e : i = j
      · subst e; rw [up_s, pk_us]
      · rw [up_n _ _ e, pk_un e, g2]
  by_cases kz0 : pK P j = 0
  · have kz1 := kz.mpr kz0
    refine ⟨-2, xl, bZ, bL, bM, gS, ?_, ?_, h0⟩
    · simp [w1, kz1, bd1_s]
    · simp only [w1, kz1, if_true, if_false, fM_change_b63, fM_change_b64, fM_change_b107]
      simp
  have kz1 : ¬ nI (pK P j) = 0 := fun h => kz0 (kz.mp h)
  have hvp := hvj.2.2 kz0
  by_cases w2 : p2 = 2
  · subst w2
    have t1 : ¬ (2 : Int32) < 1 := by decide
    have t2 : ¬ (3 : Int32) < 2 := by decide
    have t3 : ¬ (2 : Int32) = 1 := by decide
    simp only [t1, t2, t3, kz1, one_ne, if_true, if_false, bf_eq, mi_eq, bd1_s]
    have m30 : ¬ (30 : Int32) < nI (pM P j) := by rw [ln_30, nI_ltI (by omega) (by omega)]; omega
    by_cases s1 : p3 < 0
    · refine ⟨-2, xl, bZ, bL, bM, gS, ?_, ?_, h0⟩ <;> simp [s1, fM_change_b63, fM_change_b64, fM_change_b107, bd1_s]
    by_cases s2 : nI (pM P j) < p3
    · refine ⟨-2, xl, bZ, bL, bM, gS, ?_, ?_, h0⟩
      · simp [s1, s2, bd1_s]
      · unfold fM_change_b63 fM_change_b64 fM_change_b107
        simp only [ln_36, nI_add]
        simp (disch := omega) only [ig_f, ig_g, nI_clamp, f4, s2, if_true]
        simp
    obtain ⟨m, hm, rfl⟩ := in_range (n := 31) (x := p3) (by omega) s1 (fun h => s2 (by rw [i_lt, nt (by omega)]; rw [i_le, nt (by omega)] at h; omega))
    have hmM : m ≤ pM P j := by rw [nI_ltI (by omega) (by omega)] at s2; omega
    have s3 : ¬ (30 : Int32) < nI m := by rw [ln_30, nI_ltI (by omega) (by omega)]; omega
    simp only [s1, s2, s3, m30, one_ne, if_false]
    refine ⟨nI (pL P j), 0, bZ, upd bL j (nI m), bM, upd gS (12 * 2 + j) (nI m), ?_, ?_, cL P j m, Pi, Pj, a, b, ?_, ⟨rfl, rfl, rfl, ?_⟩, ch_RG (Or.inr (Or.inl rfl)) hjn hn12 hG50 hG48 hG49 hG rfl, ha, hb, hxk, hk0, hk1, hi, hj, Or.inl rfl⟩
    · have t6 : ¬ (2 : Int32) = 0 := by decide
      unfold fB_number fB_write fB_write_b55
      simp (disch := omega) only [ig_f, ig_g, nI_clamp, t3, t6, one_ne, e3, if_true, if_false, bd1_s, bd3_s]
      simp [bd1_s, bd3_s]
    · unfold fM_change_b64 fM_change_b89
      have t5 : ¬ (2 : Int32) = 3 := by decide
      simp only [ln_36, nI_add]
      simp (disch := omega) only [ig_f, ig_g, nI_clamp, f4, one_ne, s2, t5, if_true, if_false]
      rw [mc_eq (q := 2) (by omega) (by omega) rfl ln_2, f3]
    · refine ⟨hV.1, hV.2.1, hV.2.2.1, hV.2.2.2.1, hV.2.2.2.2.1, ?_⟩
      intro i hi'
      have hi' : i < pn P := hi'
      have hv := hV.2.2.2.2.2 i hi'
      show pK P i ≤ 2 ∧ (pK P i = 0 → 1 ≤ pZ P i ∧ pZ P i ≤ 12 ∧ va_up (pL P) j m i = 0 ∧ pM P i = 0) ∧ (pK P i ≠ 0 → 1 ≤ pZ P i ∧ pZ P i ≤ 80 ∧ va_up (pL P) j m i ≤ pM P i ∧ pM P i ≤ 30)
      by_cases e : i = j
      · subst e
        rw [up_s]
        refine ⟨hv.1, fun h => absurd h kz0, fun h => ?_⟩
        have := hv.2.2 h
        exact ⟨this.1, this.2.1, hmM, this.2.2.2⟩
      · rw [up_n _ _ e]; exact hv
    · intro i hi'
      have hi' : i < pn P := hi'
      obtain ⟨g1, g2, g3, g4⟩ := hB i hi'
      refine ⟨g1, g2, ?_, g4⟩
      show upd bL j (nI m) i = nI (va_up (pL P) j m i)
      by_cases e : i = j
      · subst e; rw [up_s, pk_us]
      · rw [up_n _ _ e, pk_un e, g3]
  by_cases w3 : p2 = 3
  · subst w3
    have t1 : ¬ (3 : Int32) < 1 := by decide
    have t2 : ¬ (3 : Int32) < 3 := by decide
    have t3 : ¬ (3 : Int32) = 1 := by decide
    have t4 : ¬ (3 : Int32) = 2 := by decide
    simp only [t1, t2, t3, t4, kz1, one_ne, if_true, if_false, bf_eq, mi_eq, bd1_s]
    have l0 : ¬ nI (pL P j) < 0 := nI_pos (by omega)
    by_cases s2 : p3 < nI (pL P j)
    · refine ⟨-2, xl, bZ, bL, bM, gS, ?_, ?_, h0⟩
      · simp [l0, s2, bd1_s]
      · have s3 : ¬ nI (pL P j) ≤ p3 := by rw [i_le]; rw [i_lt] at s2; omega
        unfold fM_change_b63 fM_change_b64 fM_change_b89 fM_change_b107
        simp only [ln_24, nI_add]
        simp (disch := omega) only [ig_f, ig_g, nI_clamp, f3, s3, t4, if_true, if_false]
        simp
    by_cases s1 : 30 < p3
    · refine ⟨-2, xl, bZ, bL, bM, gS, ?_, ?_, h0⟩
      · simp [l0, s1, s2, bd1_s]
      · simp only [s1, if_true, fM_change_b63, fM_change_b64, fM_change_b107]
        split <;> simp
    have s4 : ¬ p3 < 0 := by rw [i_lt] at *; rw [nt (by omega)] at s2; rw [ln_0, nt (by omega)]; omega
    obtain ⟨m, hm, rfl⟩ := in_range (n := 31) (x := p3) (by omega) s4 (fun h => s1 (by rw [i_lt]; rw [i_le, nt (by omega)] at h; rw [ln_30, nt (by omega)]; omega))
    have hmM : pL P j ≤ m := by rw [nI_ltI (by omega) (by omega)] at s2; omega
    have s3 : nI (pL P j) ≤ nI m := by rw [nI_leI (by omega) (by omega)]; exact hmM
    simp only [s1, s2, s4, l0, one_ne, if_false]
    refine ⟨nI (pM P j), 0, bZ, bL, upd bM j (nI m), upd gS (12 * 3 + j) (nI m), ?_, ?_, cM P j m, Pi, Pj, a, b, ?_, ⟨rfl, rfl, rfl, ?_⟩, ch_RG (Or.inr (Or.inr rfl)) hjn hn12 hG50 hG48 hG49 hG rfl, ha, hb, hxk, hk0, hk1, hi, hj, Or.inl rfl⟩
    · have t6 : ¬ (3 : Int32) = 0 := by decide
      unfold fB_number fB_write fB_write_b55
      simp (disch := omega) only [ig_f, ig_g, nI_clamp, t3, t4, t6, one_ne, e4, if_true, if_false, bd1_s, bd3_s]
      simp [bd1_s, bd3_s]
    · unfold fM_change_b64 fM_change_b89
      simp only [ln_24, nI_add]
      simp (disch := omega) only [ig_f, ig_g, nI_clamp, f3, one_ne, s3, t4, if_true, if_false]
      rw [mc_eq (q := 3) (by omega) (by omega) rfl ln_3, f4]
    · refine ⟨hV.1, hV.2.1, hV.2.2.1, hV.2.2.2.1, hV.2.2.2.2.1, ?_⟩
      intro i hi'
      have hi' : i < pn P := hi'
      have hv := hV.2.2.2.2.2 i hi'
      show pK P i ≤ 2 ∧ (pK P i = 0 → 1 ≤ pZ P i ∧ pZ P i ≤ 12 ∧ pL P i = 0 ∧ va_up (pM P) j m i = 0) ∧ (pK P i ≠ 0 → 1 ≤ pZ P i ∧ pZ P i ≤ 80 ∧ pL P i ≤ va_up (pM P) j m i ∧ va_up (pM P) j m i ≤ 30)
      by_cases e : i = j
      · subst e
        rw [up_s]
        refine ⟨hv.1, fun h => absurd h kz0, fun h => ?_⟩
        have := hv.2.2 h
        exact ⟨this.1, this.2.1, hmM, by omega⟩
      · rw [up_n _ _ e]; exact hv
    · intro i hi'
      have hi' : i < pn P := hi'
      obtain ⟨g1, g2, g3, g4⟩ := hB i hi'
      refine ⟨g1, g2, g3, ?_⟩
      show upd bM j (nI m) i = nI (va_up (pM P) j m i)
      by_cases e : i = j
      · subst e; rw [up_s, pk_us]
      · rw [up_n _ _ e, pk_un e, g4]
  refine ⟨-2, xl, bZ, bL, bM, gS, ?_, ?_, h0⟩
  · simp [w1, w2, w3, kz1, bd1_s]
  · by_cases d1 : p2 < 1
    · simp [d1]
    by_cases d2 : 3 < p2
    · simp [d1, d2]
    · exact absurd (show p2 = 1 ∨ p2 = 2 ∨ p2 = 3 from by
        rw [i_lt] at d1 d2
        rw [i_eq, i_eq, i_eq]
        rw [ln_1, nt (by omega)] at d1
        rw [ln_3, nt (by omega)] at d2
        rw [ln_1, ln_2, ln_3, nt (by omega), nt (by omega), nt (by omega)]
        omega) (fun h => h.elim w1 (fun h => h.elim w2 w3))
