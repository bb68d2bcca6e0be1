theorem ig_g {α : Type} {i N : Nat} (h : i < N) (hN : N < 2 ^ 31) {A B : α} : (if nI i < 0 ∨ N ≤ i then A else B) = B := if_neg (fun q => q.elim (nI_pos (by omega)) (fun q => by omega))
theorem sf_eq {a b : Int32} : fX_sizeFits a b = some (if b < 1 then 0 else if (if a = 0 then 12 else 80) < b then 0 else 1) := by
  unfold fX_sizeFits fX_sizeFits_b17 fX_sizeFits_b24 fX_sizeFits_b25
  by_cases h1 : b < 1
  · simp [h1]
  · by_cases h2 : a = 0
    · simp only [h1, h2, if_true, if_false]
      split <;> simp
    · simp only [h1, h2, if_false]
      split <;> simp
theorem ss_eq {a b : Int32} : fM_isSize a b = some (if b < 1 then 0 else if (if a = 0 then 12 else 80) < b then 0 else 1) := by
  unfold fM_isSize fM_isSize_b13
  by_cases h2 : a = 0
  · simp only [h2, if_true, mi_eq, bd1_s]
    split
    · simp
    · split <;> simp
  · simp only [h2, if_false, mi_eq, bd1_s]
    split
    · simp
    · split <;> simp
theorem bf_eq {a b : Int32} : fX_boundsFit a b = some (if a < 0 then 0 else if b < a then 0 else if 30 < b then 0 else 1) := by
  unfold fX_boundsFit fX_boundsFit_b19 fX_boundsFit_b20
  by_cases h1 : a < 0
  · simp [h1]
  · by_cases h2 : b < a
    · simp [h1, h2]
    · by_cases h3 : 30 < b <;> simp [h1, h2, h3]
/-- one item more -/
def apP (P : Pb) (k m x y : Nat) : Pb := (va_up (pK P) (pn P) k, va_up (pZ P) (pn P) m, va_up (pL P) (pn P) x, va_up (pM P) (pn P) y, pn P + 1, pg P, ph P)
theorem up_s {α : Type} (f : Nat → α) (k : Nat) (v : α) : va_up f k v k = v := by simp [va_up]
theorem up_n {α : Type} (f : Nat → α) {k j : Nat} (v : α) (h : j ≠ k) : va_up f k v j = f j := by simp [va_up, h]
theorem ap_VB {P : Pb} (hV : VB P) (hn : pn P < 12) {k m x y : Nat} (h : k ≤ 2 ∧ (k = 0 → 1 ≤ m ∧ m ≤ 12 ∧ x = 0 ∧ y = 0) ∧ (k ≠ 0 → 1 ≤ m ∧ m ≤ 80 ∧ x ≤ y ∧ y ≤ 30)) : VB (apP P k m x y) := by
  obtain ⟨h1, h2, h3, h4, h5, h6⟩ := hV
  refine ⟨by show pn P + 1 ≤ 12; omega, h2, h3, h4, h5, ?_⟩
  intro i hi
  have hi : i < pn P + 1 := hi
  show va_up (pK P) (pn P) k i ≤ 2 ∧ (va_up (pK P) (pn P) k i = 0 → 1 ≤ va_up (pZ P) (pn P) m i ∧ va_up (pZ P) (pn P) m i ≤ 12 ∧ va_up (pL P) (pn P) x i = 0 ∧ va_up (pM P) (pn P) y i = 0) ∧ (va_up (pK P) (pn P) k i ≠ 0 → 1 ≤ va_up (pZ P) (pn P) m i ∧ va_up (pZ P) (pn P) m i ≤ 80 ∧ va_up (pL P) (pn P) x i ≤ va_up (pM P) (pn P) y i ∧ va_up (pM P) (pn P) y i ≤ 30)
  by_cases e : i = pn P
  · subst e; simp only [up_s]; exact h
  · simp only [up_n _ _ e]; exact h6 i (by omega)
theorem ap_RB {P : Pb} {bK bZ bL bM : Nat → Int32} {bg bh : Int32} (h : RB P bK bZ bL bM (nI (pn P)) bg bh) (k m x y : Nat) : RB (apP P k m x y) (upd bK (pn P) (nI k)) (upd bZ (pn P) (nI m)) (upd bL (pn P) (nI x)) (upd bM (pn P) (nI y)) (nI (pn P) + 1) bg bh := by
  obtain ⟨-, h2, h3, h4⟩ := h
  refine ⟨nI_1 _, h2, h3, ?_⟩
  intro i hi
  have hi : i < pn P + 1 := hi
  show upd bK (pn P) (nI k) i = nI (va_up (pK P) (pn P) k i) ∧ upd bZ (pn P) (nI m) i = nI (va_up (pZ P) (pn P) m i) ∧ upd bL (pn P) (nI x) i = nI (va_up (pL P) (pn P) x i) ∧ upd bM (pn P) (nI y) i = nI (va_up (pM P) (pn P) y i)
  by_cases e : i = pn P
  · subst e; simp only [up_s, pk_us, and_self]
  · simp only [up_n _ _ e, pk_un e]; exact h4 i (by omega)
theorem ap_RG {P : Pb} {gS : Nat → Int32} (hn : pn P < 12) (h50 : gS 50 = nI (pn P)) (h48 : gS 48 = nI (pg P)) (h49 : gS 49 = nI (ph P)) (h : ∀ i, i < pn P → gS i = nI (pK P i) ∧ gS (12 + i) = nI (pZ P i) ∧ gS (24 + i) = nI (pL P i) ∧ gS (36 + i) = nI (pM P i)) (k m x y : Nat) (z : Int32) (hz : z = nI (pn P + 1)) : RG (apP P k m x y) 0 (upd (upd (upd (upd (upd gS (pn P) (nI k)) (12 + pn P) (nI m)) (24 + pn P) (nI x)) (36 + pn P) (nI y)) 50 z) := by
  have e48 : (48 : Nat) ≠ 50 := by decide
  refine ⟨?_, ?_, ?_, ?_⟩
  · show upd _ 50 z 50 = nI (pn P + 1)
    rw [pk_us, hz]
  · show upd _ 50 z 48 = nI (pg P)
    rw [pk_un (by omega), pk_un (by omega), pk_un (by omega), pk_un (by omega), pk_un (by omega), h48]
  · show upd _ 50 z 49 = nI (ph P)
    rw [pk_un (by omega), pk_un (by omega), pk_un (by omega), pk_un (by omega), pk_un (by omega), h49]
  · intro i hi
    have hi : i < pn P + 1 := hi
    simp only [Nat.zero_add]
    by_cases e : i = pn P
    · subst e
      refine ⟨?_, ?_, ?_, ?_⟩
      · show _ = nI (va_up (pK P) (pn P) k (pn P))
        rw [up_s, pk_un (by omega), pk_un (by omega), pk_un (by omega), pk_un (by omega), pk_us]
      · show _ = nI (va_up (pZ P) (pn P) m (pn P))
        rw [up_s, pk_un (by omega), pk_un (by omega), pk_un (by omega), pk_us]
      · show _ = nI (va_up (pL P) (pn P) x (pn P))
        rw [up_s, pk_un (by omega), pk_un (by omega), pk_us]
      · show _ = nI (va_up (pM P) (pn P) y (pn P))
        rw [up_s, pk_un (by omega), pk_us]
    · obtain ⟨f1, f2, f3, f4⟩ := h i (by omega)
      refine ⟨?_, ?_, ?_, ?_⟩
      · show _ = nI (va_up (pK P) (pn P) k i)
        rw [up_n _ _ e, pk_un (by omega), pk_un (by omega), pk_un (by omega), pk_un (by omega), pk_un (by omega), f1]
      · show _ = nI (va_up (pZ P) (pn P) m i)
        rw [up_n _ _ e, pk_un (by omega), pk_un (by omega), pk_un (by omega), pk_un (by omega), pk_un (by omega), f2]
      · show _ = nI (va_up (pL P) (pn P) x i)
        rw [up_n _ _ e, pk_un (by omega), pk_un (by omega), pk_un (by omega), pk_un (by omega), pk_un (by omega), f3]
      · show _ = nI (va_up (pM P) (pn P) y i)
        rw [up_n _ _ e, pk_un (by omega), pk_un (by omega), pk_un (by omega), pk_un (by omega), pk_un (by omega), f4]
theorem add_c {P : Pb} {k m x y : Nat} {p3 p4 : Int32} (xl : Int32) {bK bZ bL bM : Nat → Int32} (hn : pn P < 12) (hk : k < 3) (hx : nI x = if nI k = 0 then 0 else p3) (hy : nI y = if nI k = 0 then 0 else p4) : fX_add_b36 (nI k) (nI m) p3 p4 xl bK bZ bL bM (nI (pn P)) = some (nI (pn P), 0, upd bK (pn P) (nI k), upd bZ (pn P) (nI m), upd bL (pn P) (nI x), upd bM (pn P) (nI y), nI (pn P) + 1) := by
  unfold fX_add_b36 fX_add_b71 fX_add_b81 fB_append
  have c1 : nI (pn P) < 12 := by rw [ln_12, nI_ltI (by omega) (by omega)]; exact hn
  simp only [if_pos c1]
  simp (disch := omega) only [ig_f, ig_g, nI_clamp]
  by_cases e : nI k = 0
  · simp only [e, if_true] at hx hy ⊢
    rw [hx, hy, bd6_s]
  · simp only [e, if_false] at hx hy ⊢
    rw [hx, hy, bd6_s]
theorem add_m {P : Pb} {k m x y : Nat} {p3 p4 : Int32} {gS : Nat → Int32} (hn : pn P < 12) (h50 : gS 50 = nI (pn P)) (hx : nI x = if nI k = 0 then 0 else p3) (hy : nI y = if nI k = 0 then 0 else p4) : fM_add_b54 (nI k) (nI m) p3 p4 gS = some (nI (pn P), upd (upd (upd (upd (upd gS (pn P) (nI k)) (12 + pn P) (nI m)) (24 + pn P) (nI x)) (36 + pn P) (nI y)) 50 (nI (pn P + 1))) := by
  unfold fM_add_b54 fM_add_b110 fM_add_b130
  have c1 : ¬ nI (pn P) = 12 := by rw [ln_12, nI_eq (by omega) (by omega)]; omega
  rw [h50, if_neg c1]
  simp only [ln_12, ln_24, ln_36, nI_add]
  simp (disch := omega) only [ig_f, ig_g, nI_clamp]
  have h51 : ∀ z w : Int32, ∀ q : Nat → Int32, q 50 = nI (pn P) → upd q (36 + pn P) w 50 + 1 = nI (pn P + 1) := fun z w q hq => by rw [pk_un (by omega), hq]; exact nI_1 _
  have h52 : ∀ w : Int32, upd (upd (upd gS (pn P) (nI k)) (12 + pn P) (nI m)) (24 + pn P) w 50 = nI (pn P) := fun w => by rw [pk_un (by omega), pk_un (by omega), pk_un (by omega), h50]
  by_cases e : nI k = 0
  · simp only [e, if_true] at hx hy h52 ⊢
    rw [hx, hy, h51 0 _ _ (h52 _)]
  · simp only [e, if_false] at hx hy ⊢
    rw [hx, hy, h51 0 _ _ (h52 _)]
theorem op_add (p1 p2 p3 p4 : Int32) (xk xl : Int32) (bK bZ bL bM : Nat → Int32) (bi bg bh : Int32) (lI lC lT lR : Nat → Int32) (lth lro lsp lle lex lco lou : Int32) (iK iZ iL iM : Nat → Int32) (ii ig ih : Int32) (jK jZ jL jM : Nat → Int32) (ji jg jh : Int32) (gS gI gK : Nat → Int32) (h : Inv xk xl bK bZ bL bM bi bg bh lI lC lT lR lth lro lsp lle lex lco lou iK iZ iL iM ii ig ih jK jZ jL jM ji jg jh gS gI gK) : ∃ (r : Int32) (xl' : Int32) (bK' : Nat → Int32) (bZ' : Nat → Int32) (bL' : Nat → Int32) (bM' : Nat → Int32) (bi' : Int32) (gS' : Nat → Int32), fX_add p1 p2 p3 p4 xl bK bZ bL bM bi = some (r, xl', bK', bZ', bL', bM', bi') ∧ fM_add p1 p2 p3 p4 gS = some (r, gS') ∧ Inv xk xl' bK' bZ' bL' bM' bi' bg bh lI lC lT lR lth lro lsp lle lex lco lou iK iZ iL iM ii ig ih jK jZ jL jM ji jg jh gS' gI gK := by
  have h0 := h
  obtain ⟨P, Pi, Pj, a, b, hV, ⟨rfl, rfl, rfl, hB⟩, ⟨hG50, hG48, hG49, hG⟩, ha, hb, hxk, hk0, hk1, hi, hj, hl⟩ := h
  simp only [Nat.zero_add] at hG50 hG48 hG49 hG
  have hn12 := hV.1
  unfold fX_add fM_add
  rw [mi_eq, bd1_s, sf_eq, bd1_s, ss_eq, bd1_s, bf_eq, bd1_s]
  by_cases c1 : p1 < 0
  · refine ⟨-2, xl, bK, bZ, bL, bM, nI (pn P), gS, ?_, ?_, h0⟩ <;> simp [c1, fX_add_b17, fM_add_b17]
  by_cases c2 : 2 < p1
  · refine ⟨-2, xl, bK, bZ, bL, bM, nI (pn P), gS, ?_, ?_, h0⟩ <;> simp [c1, c2, fX_add_b17, fM_add_b17]
  by_cases s1 : p2 < 1
  · refine ⟨-2, xl, bK, bZ, bL, bM, nI (pn P), gS, ?_, ?_, h0⟩ <;> simp [c1, c2, s1, fX_add_b17, fM_add_b17]
  by_cases s2 : (if p1 = 0 then (12 : Int32) else 80) < p2
  · refine ⟨-2, xl, bK, bZ, bL, bM, nI (pn P), gS, ?_, ?_, h0⟩ <;> simp only [c1, c2, s1, s2, fX_add_b17, fM_add_b17, if_true, if_false] <;> rfl
  simp only [c1, c2, s1, s2, if_false]
  have one0 : ¬ (1 : Int32) = 0 := by decide
  simp only [one0, if_false]
  obtain ⟨k, hk, rfl⟩ := in_range (n := 3) (by omega) c1 (fun h => c2 (by rw [i_lt]; rw [i_le, nt (by omega)] at h; rw [ln_2, nt (by omega)]; omega))
  obtain ⟨m, hm80, rfl⟩ := in_range (n := 81) (x := p2) (by omega) (fun h => s1 (by rw [i_lt] at *; rw [ln_1, nt (by omega)]; rw [ln_0, nt (by omega)] at h; omega)) (fun h => s2 (by
    rw [i_lt]; rw [i_le, nt (by omega)] at h
    split
    · rw [ln_12, nt (by omega)]; omega
    · rw [ln_80, nt (by omega)]; omega))
  have hm1 : 1 ≤ m := by
    rcases Nat.lt_or_ge m 1 with q | q
    · exact absurd (by rw [ln_1, nI_ltI (by omega) (by omega)]; exact q) s1
    · exact q
  by_cases e : nI k = 0
  · have hk0' : k = 0 := by rw [ln_0, nI_eq (by omega) (by omega)] at e; exact e
    have hm12 : m ≤ 12 := by
      rcases Nat.lt_or_ge 12 m with q | q
      · refine absurd ?_ s2
        rw [if_pos e, ln_12, nI_ltI (by omega) (by omega)]; exact q
      · exact q
    simp only [e, if_true]
    rw [← e]
    by_cases hf : pn P < 12
    · have hx : nI 0 = if nI k = 0 then 0 else p3 := by rw [if_pos e, nI_0]
      have hy : nI 0 = if nI k = 0 then 0 else p4 := by rw [if_pos e, nI_0]
      have hv : k ≤ 2 ∧ (k = 0 → 1 ≤ m ∧ m ≤ 12 ∧ (0 : Nat) = 0 ∧ (0 : Nat) = 0) ∧ (k ≠ 0 → 1 ≤ m ∧ m ≤ 80 ∧ 0 ≤ 0 ∧ 0 ≤ 30) := ⟨by omega, fun _ => ⟨hm1, hm12, rfl, rfl⟩, fun _ => ⟨hm1, by omega, by omega, by omega⟩⟩
      exact ⟨_, _, _, _, _, _, _, _, add_c xl hf hk hx hy, add_m hf hG50 hx hy, apP P k m 0 0, Pi, Pj, a, b, ap_VB hV hf hv, ap_RB ⟨rfl, rfl, rfl, hB⟩ k m 0 0, ap_RG hf hG50 hG48 hG49 hG k m 0 0 _ rfl, ha, hb, hxk, hk0, hk1, hi, hj, Or.inl rfl⟩
    · have e12 : pn P = 12 := by omega
      refine ⟨-4, xl, bK, bZ, bL, bM, nI (pn P), gS, ?_, ?_, h0⟩
      · unfold fX_add_b36
        rw [if_neg (by rw [ln_12, nI_ltI (by omega) (by omega)]; exact hf)]
      · unfold fM_add_b54
        rw [if_pos (by rw [hG50, e12, ln_12])]
  · have hk0' : k ≠ 0 := fun h => e (by rw [h, nI_0])
    simp only [e, if_false]
    rw [mi_eq, bd1_s, mi_eq, bd1_s]
    by_cases b1 : p3 < 0
    · refine ⟨-2, xl, bK, bZ, bL, bM, nI (pn P), gS, ?_, ?_, h0⟩ <;> simp [b1, fM_add_b51]
    by_cases b2 : p4 < p3
    · refine ⟨-2, xl, bK, bZ, bL, bM, nI (pn P), gS, ?_, ?_, h0⟩
      · simp [b1, b2]
      · have b3 : ¬ p3 ≤ p4 := by rw [i_le]; rw [i_lt] at b2; omega
        simp only [b1, b3, fM_add_b51, if_false]
        simp
    by_cases b3 : 30 < p4
    · refine ⟨-2, xl, bK, bZ, bL, bM, nI (pn P), gS, ?_, ?_, h0⟩
      · simp [b1, b2, b3]
      · simp only [b1, b3, fM_add_b51, if_false, if_true]
        simp
    have b4 : p3 ≤ p4 := by rw [i_le]; rw [i_lt] at b2; omega
    have b5 : ¬ 30 < p3 := by rw [i_lt] at *; rw [i_le] at b4; omega
    have b6 : ¬ p4 < 0 := by rw [i_lt] at *; rw [i_le] at b4; omega
    simp only [b1, b2, b3, b4, b5, b6, if_false, if_true, one0]
    obtain ⟨x, hx30, rfl⟩ := in_range (n := 31) (x := p3) (by omega) b1 (fun h => b5 (by rw [i_lt]; rw [i_le, nt (by omega)] at h; rw [ln_30, nt (by omega)]; omega))
    obtain ⟨y, hy30, rfl⟩ := in_range (n := 31) (x := p4) (by omega) b6 (fun h => b3 (by rw [i_lt]; rw [i_le, nt (by omega)] at h; rw [ln_30, nt (by omega)]; omega))
    have hxy : x ≤ y := by rw [nI_leI (by omega) (by omega)] at b4; exact b4
    by_cases hf : pn P < 12
    · have hx : nI x = if nI k = 0 then 0 else nI x := by rw [if_neg e]
      have hy : nI y = if nI k = 0 then 0 else nI y := by rw [if_neg e]
      have hv : k ≤ 2 ∧ (k = 0 → 1 ≤ m ∧ m ≤ 12 ∧ x = 0 ∧ y = 0) ∧ (k ≠ 0 → 1 ≤ m ∧ m ≤ 80 ∧ x ≤ y ∧ y ≤ 30) := ⟨by omega, fun h => absurd h hk0', fun _ => ⟨hm1, by omega, by omega, by omega⟩⟩
      exact ⟨_, _, _, _, _, _, _, _, add_c xl hf hk hx hy, add_m hf hG50 hx hy, apP P k m x y, Pi, Pj, a, b, ap_VB hV hf hv, ap_RB ⟨rfl, rfl, rfl, hB⟩ k m x y, ap_RG hf hG50 hG48 hG49 hG k m x y _ rfl, ha, hb, hxk, hk0, hk1, hi, hj, Or.inl rfl⟩
    · have e12 : pn P = 12 := by omega
      refine ⟨-4, xl, bK, bZ, bL, bM, nI (pn P), gS, ?_, ?_, h0⟩
      · unfold fX_add_b36
        rw [if_neg (by rw [ln_12, nI_ltI (by omega) (by omega)]; exact hf)]
      · unfold fM_add_b54
        rw [if_pos (by rw [hG50, e12, ln_12])]
