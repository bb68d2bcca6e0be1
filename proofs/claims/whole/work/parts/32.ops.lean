theorem in_r3 {p : Int32} (h1 : ¬ p < 0) (h2 : ¬ 3 < p) : ∃ q, q < 4 ∧ p = nI q := in_range (by omega) h1 (fun h => h2 (by rw [i_lt] at *; rw [i_le] at h; rw [nt (by omega)] at h; rw [ln_3, nt (by omega)]; omega))
theorem op_item (p1 p2 : Int32) (xk xl : Int32) (bK bZ bL bM : Nat → Int32) (bi bg bh : Int32) (lI lC lT lR : Nat → Int32) (lth lro lsp lle lex lco lou : Int32) (iK iZ iL iM : Nat → Int32) (ii ig ih : Int32) (jK jZ jL jM : Nat → Int32) (ji jg jh : Int32) (gS gI gK : Nat → Int32) (h : Inv xk xl bK bZ bL bM bi bg bh lI lC lT lR lth lro lsp lle lex lco lou iK iZ iL iM ii ig ih jK jZ jL jM ji jg jh gS gI gK) : ∃ (r : Int32), fX_item p1 p2 bK bZ bL bM bi = some r ∧ fM_item p1 p2 gS = some r ∧ Inv xk xl bK bZ bL bM bi bg bh lI lC lT lR lth lro lsp lle lex lco lou iK iZ iL iM ii ig ih jK jZ jL jM ji jg jh gS gI gK := by
  have h0 := h
  obtain ⟨P, Pi, Pj, a, b, hV, ⟨rfl, rfl, rfl, hB⟩, ⟨hG50, hG48, hG49, hG⟩, ha, hb, hxk, hk0, hk1, hi, hj, hl⟩ := h
  simp only [Nat.zero_add] at hG50 hG48 hG49 hG
  have hn12 := hV.1
  unfold fX_item fM_item
  rw [hs_eq, ms_eq (n := pn P) (by omega) hG50, bd1_s, bd1_s]
  by_cases c1 : p1 < 0
  · exact ⟨-1, by simp [c1], by simp [c1], h0⟩
  by_cases c2 : nI (pn P) ≤ p1
  · exact ⟨-1, by simp [c1, c2], by simp [c1, c2], h0⟩
  simp only [if_neg c1, if_neg c2]
  rw [mi_eq, bd1_s]
  obtain ⟨j, hjn, rfl⟩ := in_range (by omega) c1 c2
  unfold fX_item_b22 fX_item_b36 fM_item_b35
  by_cases d1 : p2 < 0
  · exact ⟨-2, by simp [d1], by simp [d1], h0⟩
  by_cases d2 : 3 < p2
  · have d3 : ¬ p2 ≤ 3 := by rw [i_le]; rw [i_lt] at d2; omega
    exact ⟨-2, by simp [d1, d3], by simp [d1, d2], h0⟩
  obtain ⟨q, hq, rfl⟩ := in_r3 d1 d2
  have d3 : nI q ≤ 3 := by rw [ln_3, nI_leI (by omega) (by omega)]; omega
  simp only [if_neg d1, if_neg d2, if_pos d3]
  obtain ⟨e1, e2, e3, e4⟩ := hB j hjn
  obtain ⟨f1, f2, f3, f4⟩ := hG j hjn
  unfold fB_number
  simp only [ln_12, pk_mul, nI_add]
  rcases (show q = 0 ∨ q = 1 ∨ q = 2 ∨ q = 3 by omega) with rfl | rfl | rfl | rfl
  · refine ⟨nI (pK P j), ?_, ?_, h0⟩
    · simp (disch := omega) only [ig_f, nI_0, if_true]
      simp (disch := omega) [nI_clamp, e1, bd1_s]
    · simp (disch := omega) only [ig_f]
      simp (disch := omega) [nI_clamp, f1]
  · refine ⟨nI (pZ P j), ?_, ?_, h0⟩
    · simp (disch := omega) only [ig_f, ← ln_1]
      simp (disch := omega) [nI_clamp, e2, bd1_s]
    · simp (disch := omega) only [ig_f]
      simp (disch := omega) [nI_clamp, f2]
  · refine ⟨nI (pL P j), ?_, ?_, h0⟩
    · simp (disch := omega) only [ig_f, ← ln_2]
      simp (disch := omega) [nI_clamp, e3, bd1_s]
    · simp (disch := omega) only [ig_f]
      simp (disch := omega) [nI_clamp, f3]
  · refine ⟨nI (pM P j), ?_, ?_, h0⟩
    · simp (disch := omega) only [ig_f, ← ln_3]
      simp (disch := omega) [nI_clamp, e4, bd1_s]
    · simp (disch := omega) only [ig_f]
      simp (disch := omega) [nI_clamp, f4]
