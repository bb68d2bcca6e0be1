theorem tn_b {P : Pb} (hV : VB P) {i : Nat} (hi : i < pn P) : 1 ≤ tn P i ∧ tn P i ≤ 12 := by
  have h := hV.2.2.2.2.2 i hi
  unfold tn
  by_cases e : pK P i = 0
  · rw [if_pos e]; have := h.2.1 e; omega
  · rw [if_neg e]; omega
theorem ta_b {P : Pb} (hV : VB P) {i : Nat} (hi : i < pn P) : 1 ≤ ta P i ∧ ta P i ≤ 80 := by
  have h := hV.2.2.2.2.2 i hi
  have h1 := hV.2.1
  have h2 := hV.2.2.1
  unfold ta
  by_cases e : pK P i = 0
  · rw [if_pos e]; omega
  · rw [if_neg e]; have := h.2.2 e; omega
theorem pr_le {P : Pb} (hV : VB P) : ∀ i, i ≤ pn P → pr P i ≤ 12 * i
  | 0, _ => Nat.le_refl _
  | i + 1, h => by
    have h1 := pr_le hV i (by omega)
    have h2 := (tn_b hV (i := i) (by omega)).2
    show pr P i + tn P i ≤ _
    omega
theorem pr_s (P : Pb) (i : Nat) : pr P (i + 1) = pr P i + tn P i := rfl
theorem pr_mono {P : Pb} {i j : Nat} (h : i ≤ j) : pr P i ≤ pr P j := by
  induction j with
  | zero => have : i = 0 := by omega
            subst this; exact Nat.le_refl _
  | succ j ih =>
    by_cases e : i = j + 1
    · subst e; exact Nat.le_refl _
    · have := ih (by omega)
      rw [pr_s]; omega
theorem pr_lt {P : Pb} {i j k : Nat} (hi : i < j) (hk : k < tn P i) : pr P i + k < pr P j := by
  have : pr P (i + 1) ≤ pr P j := pr_mono hi
  rw [pr_s] at this
  omega
theorem tt_le {P : Pb} (hV : VB P) : tt P ≤ 144 := by
  have h1 := pr_le hV (pn P) (Nat.le_refl _)
  have h2 := hV.1
  unfold tt
  omega
theorem rb_kz {P : Pb} (hV : VB P) {i : Nat} (hi : i < pn P) : nI (pK P i) = 0 ↔ pK P i = 0 := by
  have := (hV.2.2.2.2.2 i hi).1
  rw [ln_0, nI_eq (by omega) (by omega)]
theorem b_things {P : Pb} {bK bZ bL bM : Nat → Int32} {bi bg bh : Int32} (hV : VB P) (h : RB P bK bZ bL bM bi bg bh) {i : Nat} (hi : i < pn P) : fB_thingsOf (nI i) bK bZ = some (nI (tn P i)) := by
  have h12 := hV.1
  obtain ⟨e1, e2, -, -⟩ := h.2.2.2 i hi
  unfold fB_thingsOf fB_thingsOf_b19 tn
  simp (disch := omega) only [ig_f, nI_clamp, ig_g, e1, e2]
  by_cases e : pK P i = 0
  · rw [if_pos ((rb_kz hV hi).mpr e), if_pos e]
  · rw [if_neg (fun q => e ((rb_kz hV hi).mp q)), if_neg e, ln_1]
theorem b_tall {P : Pb} {bK bZ bL bM : Nat → Int32} {bi bg bh : Int32} (hV : VB P) (h : RB P bK bZ bL bM bi bg bh) {i : Nat} (hi : i < pn P) : fB_tall (nI i) bK bZ bg = some (nI (ta P i)) := by
  have h12 := hV.1
  obtain ⟨e1, e2, -, -⟩ := h.2.2.2 i hi
  unfold fB_tall fB_tall_b22 ta
  simp (disch := omega) only [ig_f, nI_clamp, ig_g, e1, e2]
  by_cases e : pK P i = 0
  · rw [if_pos ((rb_kz hV hi).mpr e), if_pos e, h.2.1]
  · rw [if_neg (fun q => e ((rb_kz hV hi).mp q)), if_neg e]
theorem b_before {P : Pb} {bK bZ bL bM : Nat → Int32} {bi bg bh : Int32} (hV : VB P) (h : RB P bK bZ bL bM bi bg bh) {m : Nat} (hm : m ≤ pn P) : ∀ (d n i : Nat), i ≤ m → m - i ≤ d → d < n → fB_thingsBefore_b4 n (nI m) (nI (pr P i)) (nI i) bK bZ = some (nI (pr P m))
  | d, 0, _, _, _, hh => absurd hh (Nat.not_lt_zero _)
  | d, n + 1, i, h0, h1, h2 => by
    have h12 := hV.1
    rw [fB_thingsBefore_b4]
    by_cases c : m ≤ i
    · have e : i = m := by omega
      subst e
      rw [if_pos (by rw [nI_leI (by omega) (by omega)]; exact c)]
    · rw [if_neg (by rw [nI_leI (by omega) (by omega)]; exact c), b_things hV h (by omega), bd1_s, nI_1, nI_add, ← pr_s]
      exact b_before hV h hm (d - 1) n (i + 1) (by omega) (by omega) (by omega)
theorem b_thb {P : Pb} {bK bZ bL bM : Nat → Int32} {bi bg bh : Int32} (hV : VB P) (h : RB P bK bZ bL bM bi bg bh) {m : Nat} (hm : m ≤ pn P) : fB_thingsBefore (nI m) bK bZ = some (nI (pr P m)) := by
  have h12 := hV.1
  have := b_before hV h hm m fu 0 (by omega) (by omega) (by rw [fu_eq]; omega)
  unfold fB_thingsBefore
  rw [ln_0]
  exact this
/-- how many of the first m items are of a kind -/
def ct (P : Pb) (k : Nat) : Nat → Nat
  | 0 => 0
  | i + 1 => ct P k i + if pK P i = k then 1 else 0
theorem b_items {P : Pb} {bK bZ bL bM : Nat → Int32} {bi bg bh : Int32} (hV : VB P) (h : RB P bK bZ bL bM bi bg bh) {k : Nat} (hk : k ≤ 2) : ∀ (d n i : Nat), i ≤ pn P → pn P - i ≤ d → d < n → fB_itemsOf_b4 n (nI k) (nI (ct P k i)) (nI i) bK bi = some (nI (ct P k (pn P)))
  | d, 0, _, _, _, hh => absurd hh (Nat.not_lt_zero _)
  | d, n + 1, i, h0, h1, h2 => by
    have h12 := hV.1
    rw [fB_itemsOf_b4, h.1]
    by_cases c : pn P ≤ i
    · have e : i = pn P := by omega
      rw [if_pos (by rw [nI_leI (by omega) (by omega)]; exact c), e]
    · rw [if_neg (by rw [nI_leI (by omega) (by omega)]; exact c)]
      have e1 := (h.2.2.2 i (by omega)).1
      have hk2 := (hV.2.2.2.2.2 i (by omega)).1
      simp (disch := omega) only [ig_f, nI_clamp, ig_g, e1, nI_eq]
      unfold fB_itemsOf_b25
      have ih := b_items hV h hk (d - 1) n (i + 1) (by omega) (by omega) (by omega)
      rw [h.1] at ih
      have es : ct P k (i + 1) = ct P k i + if pK P i = k then 1 else 0 := rfl
      rw [nI_1, nI_1]
      by_cases e : pK P i = k
      · rw [if_pos e] at es ⊢
        rw [← es]; exact ih
      · rw [if_neg e] at es ⊢
        have es : ct P k (i + 1) = ct P k i := es
        rw [← es]; exact ih
theorem m_kind {P : Pb} {gS : Nat → Int32} (hV : VB P) (h : RG P 0 gS) {k : Nat} (hk : k ≤ 2) : ∀ (d n i : Nat), i ≤ pn P → pn P - i ≤ d → d < n → fM_ofKind_b4 n (nI k) (nI (ct P k i)) (nI i) gS = some (nI (ct P k (pn P)))
  | d, 0, _, _, _, hh => absurd hh (Nat.not_lt_zero _)
  | d, n + 1, i, h0, h1, h2 => by
    have h12 := hV.1
    have h50 := h.1
    rw [Nat.zero_add] at h50
    rw [fM_ofKind_b4, h50]
    by_cases c : pn P ≤ i
    · have e : i = pn P := by omega
      rw [if_pos (by rw [nI_leI (by omega) (by omega)]; exact c), e]
    · rw [if_neg (by rw [nI_leI (by omega) (by omega)]; exact c)]
      have e1 := (h.2.2.2 i (by omega)).1
      rw [Nat.zero_add] at e1
      have hk2 := (hV.2.2.2.2.2 i (by omega)).1
      simp (disch := omega) only [ig_f, nI_clamp, ig_g, e1, nI_eq]
      unfold fM_ofKind_b31
      have ih := m_kind hV h hk (d - 1) n (i + 1) (by omega) (by omega) (by omega)
      have es : ct P k (i + 1) = ct P k i + if pK P i = k then 1 else 0 := rfl
      by_cases e : pK P i = k
      · rw [if_pos e] at es ⊢
        rw [nI_1, nI_1, ← es]; exact ih
      · rw [if_neg e] at es ⊢
        rw [ln_0, nI_add, ← es]
        rw [nI_1]; exact ih
/-- the things' tables of the reference -/
def TH (P : Pb) (gO gL gT : Nat → Int32) : Prop := ∀ i k, i < pn P → k < tn P i → gO (pr P i + k) = nI i ∧ gL (pr P i + k) = nI k ∧ gT (pr P i + k) = nI (ta P i)
theorem lt_in {P : Pb} {gS : Nat → Int32} (hV : VB P) (h : RG P 0 gS) {i : Nat} (hi : i < pn P) (K7 : Int32 → (Nat → Int32) → (Nat → Int32) → (Nat → Int32) → (Nat → Int32) → Int32 → Option ((Nat → Int32) × (Nat → Int32) × (Nat → Int32) × Int32)) : ∀ (d n k : Nat) (gO gL gT : Nat → Int32), k ≤ tn P i → tn P i - k ≤ d → d < n → fM_layThings_b43 K7 n (nI i) (nI (tn P i)) (nI k) gS gO gL gT (nI (pr P i + k)) = K7 (nI (i + 1)) gS (fun q => if pr P i + k ≤ q ∧ q < pr P (i + 1) then nI i else gO q) (fun q => if pr P i + k ≤ q ∧ q < pr P (i + 1) then nI (q - pr P i) else gL q) (fun q => if pr P i + k ≤ q ∧ q < pr P (i + 1) then nI (ta P i) else gT q) (nI (pr P (i + 1)))
  | d, 0, _, _, _, _, _, _, hh => absurd hh (Nat.not_lt_zero _)
  | d, n + 1, k, gO, gL, gT, h0, h1, h2 => by
    have h12 := hV.1
    have ht := tn_b hV hi
    have hp := pr_le hV i (by omega)
    rw [fM_layThings_b43]
    by_cases c : tn P i ≤ k
    · have e : k = tn P i := by omega
      rw [if_pos (by rw [nI_leI (by omega) (by omega)]; exact c), nI_1]
      have e1 : ∀ q, ¬ (pr P i + k ≤ q ∧ q < pr P (i + 1)) := fun q => by rw [pr_s]; omega
      simp only [e1, if_false]
      rw [pr_s, e]
    · rw [if_neg (by rw [nI_leI (by omega) (by omega)]; exact c)]
      obtain ⟨f1, f2, -, -⟩ := h.2.2.2 i hi
      have h48 := h.2.1
      simp only [Nat.zero_add] at f1 f2 h48
      unfold fM_layThings_b104
      simp only [ln_12, nI_add, nI_1]
      simp (disch := omega) only [ig_f, nI_clamp, ig_g, f1, f2, h48]
      have key : (if nI (pK P i) = 0 then fM_layThings_b43 K7 n (nI i) (nI (tn P i)) (nI (k + 1)) gS (upd gO (pr P i + k) (nI i)) (upd gL (pr P i + k) (nI k)) (upd gT (pr P i + k) (nI (pg P))) (nI (pr P i + k + 1)) else fM_layThings_b43 K7 n (nI i) (nI (tn P i)) (nI (k + 1)) gS (upd gO (pr P i + k) (nI i)) (upd gL (pr P i + k) (nI k)) (upd gT (pr P i + k) (nI (pZ P i))) (nI (pr P i + k + 1))) = fM_layThings_b43 K7 n (nI i) (nI (tn P i)) (nI (k + 1)) gS (upd gO (pr P i + k) (nI i)) (upd gL (pr P i + k) (nI k)) (upd gT (pr P i + k) (nI (ta P i))) (nI (pr P i + (k + 1))) := by
        unfold ta
        by_cases e : pK P i = 0
        · rw [if_pos ((rb_kz hV hi).mpr e), if_pos e]; rfl
        · rw [if_neg (fun q => e ((rb_kz hV hi).mp q)), if_neg e]; rfl
      rw [key, lt_in hV h hi K7 (d - 1) n (k + 1) _ _ _ (by omega) (by omega) (by omega)]
      have cg : ∀ (A B : Int32) (f : Nat → Int32) (F : Nat → Int32), F (pr P i + k) = A → (fun q => if pr P i + (k + 1) ≤ q ∧ q < pr P (i + 1) then F q else upd f (pr P i + k) A q) = fun q => if pr P i + k ≤ q ∧ q < pr P (i + 1) then F q else f q := by
        intro A B f F hF
        funext q
        by_cases e1 : pr P i + (k + 1) ≤ q ∧ q < pr P (i + 1)
        · have e2 : pr P i + k ≤ q ∧ q < pr P (i + 1) := by omega
          rw [if_pos e1, if_pos e2]
        · by_cases e3 : q = pr P i + k
          · have e2 : pr P i + k ≤ q ∧ q < pr P (i + 1) := by rw [pr_s]; omega
            rw [if_neg e1, if_pos e2, e3, pk_us, hF]
          · have e2 : ¬ (pr P i + k ≤ q ∧ q < pr P (i + 1)) := by omega
            rw [if_neg e1, if_neg e2, pk_un e3]
      rw [cg (nI i) 0 gO (fun _ => nI i) rfl, cg (nI k) 0 gL (fun q => nI (q - pr P i)) (by show nI _ = nI _; congr 1; omega), cg (nI (ta P i)) 0 gT (fun _ => nI (ta P i)) rfl]
theorem lt_out {P : Pb} {gS : Nat → Int32} (hV : VB P) (h : RG P 0 gS) : ∀ (d n i : Nat) (gO gL gT : Nat → Int32), i ≤ pn P → pn P - i ≤ d → d < n → ∃ gO' gL' gT', fM_layThings_b7 n (nI i) gS gO gL gT (nI (pr P i)) = some (gO', gL', gT', nI (tt P)) ∧ (∀ q, q < pr P i → gO' q = gO q ∧ gL' q = gL q ∧ gT' q = gT q) ∧ ∀ j k, i ≤ j → j < pn P → k < tn P j → gO' (pr P j + k) = nI j ∧ gL' (pr P j + k) = nI k ∧ gT' (pr P j + k) = nI (ta P j)
  | d, 0, _, _, _, _, _, _, hh => absurd hh (Nat.not_lt_zero _)
  | d, n + 1, i, gO, gL, gT, h0, h1, h2 => by
    have h12 := hV.1
    have h50 := h.1
    rw [Nat.zero_add] at h50
    rw [fM_layThings_b7, h50]
    by_cases c : pn P ≤ i
    · have e : i = pn P := by omega
      subst e
      rw [if_pos (by rw [nI_leI (by omega) (by omega)]; exact c)]
      exact ⟨gO, gL, gT, rfl, fun _ _ => ⟨rfl, rfl, rfl⟩, fun j k h1 h2 => by omega⟩
    · rw [if_neg (by rw [nI_leI (by omega) (by omega)]; exact c)]
      have hi : i < pn P := by omega
      have ht := tn_b hV hi
      obtain ⟨f1, f2, -, -⟩ := h.2.2.2 i hi
      simp only [Nat.zero_add] at f1 f2
      unfold fM_layThings_b40
      simp only [ln_12, nI_add]
      simp (disch := omega) only [ig_f, nI_clamp, ig_g, f1, f2]
      have key : (if nI (pK P i) = 0 then fM_layThings_b43 (fM_layThings_b7 n) fu (nI i) (nI (pZ P i)) 0 gS gO gL gT (nI (pr P i)) else fM_layThings_b43 (fM_layThings_b7 n) fu (nI i) 1 0 gS gO gL gT (nI (pr P i))) = fM_layThings_b43 (fM_layThings_b7 n) fu (nI i) (nI (tn P i)) (nI 0) gS gO gL gT (nI (pr P i + 0)) := by
        unfold tn
        by_cases e : pK P i = 0
        · rw [if_pos ((rb_kz hV hi).mpr e), if_pos e, ln_0]; rfl
        · rw [if_neg (fun q => e ((rb_kz hV hi).mp q)), if_neg e, ln_0, ln_1]; rfl
      rw [key, lt_in hV h hi _ (tn P i) fu 0 gO gL gT (by omega) (by omega) (by rw [fu_eq]; omega)]
      obtain ⟨gO', gL', gT', k1, k2, k3⟩ := lt_out hV h (d - 1) n (i + 1) (fun q => if pr P i + 0 ≤ q ∧ q < pr P (i + 1) then nI i else gO q) (fun q => if pr P i + 0 ≤ q ∧ q < pr P (i + 1) then nI (q - pr P i) else gL q) (fun q => if pr P i + 0 ≤ q ∧ q < pr P (i + 1) then nI (ta P i) else gT q) (by omega) (by omega) (by omega)
      refine ⟨gO', gL', gT', k1, fun q hq => ?_, fun j k hj1 hj2 hk => ?_⟩
      · obtain ⟨e1, e2, e3⟩ := k2 q (by rw [pr_s]; omega)
        have e : ¬ (pr P i + 0 ≤ q ∧ q < pr P (i + 1)) := by omega
        rw [e1, e2, e3]
        simp only [if_neg e, and_self]
      · by_cases e : j = i
        · subst e
          obtain ⟨e1, e2, e3⟩ := k2 (pr P j + k) (by rw [pr_s]; omega)
          have e : pr P j + 0 ≤ pr P j + k ∧ pr P j + k < pr P (j + 1) := by rw [pr_s]; omega
          rw [e1, e2, e3]
          simp only [if_pos e]
          simp only [Nat.add_sub_cancel_left, and_self]
        · exact k3 j k (by omega) hj2 hk
theorem lt_eq {P : Pb} {gS : Nat → Int32} (hV : VB P) (h : RG P 0 gS) (gO gL gT : Nat → Int32) (gn : Int32) : ∃ gO' gL' gT', fM_layThings gS gO gL gT gn = some (gO', gL', gT', nI (tt P)) ∧ TH P gO' gL' gT' := by
  have h12 := hV.1
  obtain ⟨gO', gL', gT', k1, -, k3⟩ := lt_out hV h 12 fu 0 gO gL gT (by omega) (by omega) (by rw [fu_eq]; omega)
  refine ⟨gO', gL', gT', ?_, fun i k hi hk => k3 i k (by omega) hi hk⟩
  unfold fM_layThings
  rw [ln_0]
  exact k1
theorem op_count (p1 : Int32) (xk xl : Int32) (bK bZ bL bM : Nat → Int32) (bi bg bh : Int32) (lI lC lT lR : Nat → Int32) (lth lro lsp lle lex lco lou : Int32) (iK iZ iL iM : Nat → Int32) (ii ig ih : Int32) (jK jZ jL jM : Nat → Int32) (ji jg jh : Int32) (gS gI gK gO gL gT : Nat → Int32) (gn : Int32) (h : Inv xk xl bK bZ bL bM bi bg bh lI lC lT lR lth lro lsp lle lex lco lou iK iZ iL iM ii ig ih jK jZ jL jM ji jg jh gS gI gK) : ∃ (r : Int32) (gO' : Nat → Int32) (gL' : Nat → Int32) (gT' : Nat → Int32) (gn' : Int32), fX_count p1 xk bK bZ bi bg bh = some r ∧ fM_count p1 gS gK gO gL gT gn = some (r, gO', gL', gT', gn') ∧ Inv xk xl bK bZ bL bM bi bg bh lI lC lT lR lth lro lsp lle lex lco lou iK iZ iL iM ii ig ih jK jZ jL jM ji jg jh gS gI gK := by
  have h0 := h
  obtain ⟨P, Pi, Pj, a, b, hV, hRB, hRG, ha, hb, hxk, hk0, hk1, hi, hj, hl⟩ := h
  have hn12 := hV.1
  have hG := hRG
  obtain ⟨hG50, hG48, hG49, -⟩ := hG
  simp only [Nat.zero_add] at hG50 hG48 hG49
  have hB := hRB
  obtain ⟨hb1, hb2, hb3, -⟩ := hB
  obtain ⟨gO', gL', gT', k1, k2⟩ := lt_eq hV hRG gO gL gT gn
  unfold fX_count fM_count
  rw [mi_eq, bd1_s, k1, bd4_s]
  have q0 : ∀ k, k ≤ 2 → fB_itemsOf (nI k) bK bi = some (nI (ct P k (pn P))) := fun k hk => by
    have := b_items hV hRB hk 12 fu 0 (by omega) (by omega) (by rw [fu_eq]; omega)
    unfold fB_itemsOf
    rw [ln_0]
    exact this
  have q1 : ∀ k, k ≤ 2 → fM_ofKind (nI k) gS = some (nI (ct P k (pn P))) := fun k hk => by
    have := m_kind hV hRG hk 12 fu 0 (by omega) (by omega) (by rw [fu_eq]; omega)
    unfold fM_ofKind
    rw [ln_0]
    exact this
  by_cases c0 : p1 = 0
  · subst c0
    refine ⟨nI (pn P), gO', gL', gT', nI (tt P), ?_, ?_, h0⟩
    · rw [if_pos rfl, hb1]
    · rw [if_pos (show (0 : Int32) < 10 by decide), if_pos rfl, if_pos rfl, hG50]
  by_cases c1 : p1 = 1
  · subst c1
    refine ⟨nI (tt P), gO', gL', gT', nI (tt P), ?_, ?_, h0⟩
    · rw [if_neg c0, if_pos rfl, hb1, b_thb hV hRB (Nat.le_refl _), bd1_s]; rfl
    · rw [if_pos (show (1 : Int32) < 10 by decide), if_pos rfl, if_neg c0, if_pos rfl]
  by_cases c2 : p1 = 2
  · subst c2
    refine ⟨nI (pg P), gO', gL', gT', nI (tt P), ?_, ?_, h0⟩
    · rw [if_neg c0, if_neg c1, if_pos rfl, hb2]
    · rw [if_pos (show (2 : Int32) < 10 by decide), if_pos rfl, if_neg c0, if_neg c1, if_pos rfl, show (48 : Int32) + 2 - 2 = nI 48 by decide +kernel]
      simp (disch := omega) only [ig_f, nI_clamp, ig_g, hG48]
  by_cases c3 : p1 = 3
  · subst c3
    refine ⟨nI (ph P), gO', gL', gT', nI (tt P), ?_, ?_, h0⟩
    · rw [if_neg c0, if_neg c1, if_neg c2, if_pos rfl, hb3]
    · rw [if_pos (show (3 : Int32) < 10 by decide), if_pos rfl, if_neg c0, if_neg c1, if_neg c2, if_pos rfl, show (48 : Int32) + 3 - 2 = nI 49 by decide +kernel]
      simp (disch := omega) only [ig_f, nI_clamp, ig_g, hG49]
  by_cases c4 : p1 = 4
  · subst c4
    refine ⟨nI (a + 2 * b), gO', gL', gT', nI (tt P), ?_, ?_, h0⟩
    · rw [if_neg c0, if_neg c1, if_neg c2, if_neg c3, if_pos rfl, hxk]
    · rw [if_pos (show (4 : Int32) < 10 by decide), if_pos rfl, if_neg c0, if_neg c1, if_neg c2, if_neg c3, if_pos rfl, hk0]
      unfold fM_count_b99 fM_count_b113
      rw [hk1]
      have n1 : ¬ nI 1 = 0 := by decide +kernel
      rcases (show a = 0 ∨ a = 1 by omega) with rfl | rfl <;> rcases (show b = 0 ∨ b = 1 by omega) with rfl | rfl
      · rw [if_pos nI_0, if_pos nI_0]; rfl
      · rw [if_pos nI_0, if_neg n1]; rfl
      · rw [if_neg n1, if_pos nI_0]; rfl
      · rw [if_neg n1, if_neg n1]; rfl
  by_cases d1 : p1 < 10
  · refine ⟨-2, gO', gL', gT', nI (tt P), ?_, ?_, h0⟩
    · have e1 : ¬ p1 = 10 := fun e => by rw [e] at d1; exact absurd d1 (by decide)
      have e2 : ¬ p1 = 11 := fun e => by rw [e] at d1; exact absurd d1 (by decide)
      have e3 : ¬ p1 = 12 := fun e => by rw [e] at d1; exact absurd d1 (by decide)
      simp only [c0, c1, c2, c3, c4, e1, e2, e3, if_false]
    · simp only [c0, c1, c2, c3, c4, d1, if_true, if_false]
  by_cases d2 : 12 < p1
  · refine ⟨-2, gO', gL', gT', nI (tt P), ?_, ?_, h0⟩
    · have e1 : ¬ p1 = 10 := fun e => by rw [e] at d2; exact absurd d2 (by decide)
      have e2 : ¬ p1 = 11 := fun e => by rw [e] at d2; exact absurd d2 (by decide)
      have e3 : ¬ p1 = 12 := fun e => by rw [e] at d2; exact absurd d2 (by decide)
      simp only [c0, c1, c2, c3, c4, e1, e2, e3, if_false]
    · simp only [c0, c1, c2, c3, c4, d1, d2, if_true, if_false]
  have d3 : p1 = 10 ∨ p1 = 11 ∨ p1 = 12 := by
    rw [i_lt] at d1 d2
    rw [i_eq, i_eq, i_eq]
    rw [ln_10, nt (by omega)] at d1
    rw [ln_12, nt (by omega)] at d2
    rw [ln_10, ln_11, ln_12, nt (by omega), nt (by omega), nt (by omega)]
    omega
  rw [if_neg d1, if_neg d2, if_neg one_ne]
  rcases d3 with rfl | rfl | rfl
  · refine ⟨nI (ct P 0 (pn P)), gO, gL, gT, gn, ?_, ?_, h0⟩
    · rw [if_neg c0, if_neg c1, if_neg c2, if_neg c3, if_neg c4, if_pos rfl, ln_0, q0 0 (by omega), bd1_s]
    · rw [show (10 : Int32) - 10 = nI 0 by decide +kernel, q1 0 (by omega), bd1_s]
  · refine ⟨nI (ct P 1 (pn P)), gO, gL, gT, gn, ?_, ?_, h0⟩
    · rw [if_neg c0, if_neg c1, if_neg c2, if_neg c3, if_neg c4, if_neg (show ¬ (11 : Int32) = 10 by decide), if_pos rfl, ln_1, q0 1 (by omega), bd1_s]
    · rw [show (11 : Int32) - 10 = nI 1 by decide +kernel, q1 1 (by omega), bd1_s]
  · refine ⟨nI (ct P 2 (pn P)), gO, gL, gT, gn, ?_, ?_, h0⟩
    · rw [if_neg c0, if_neg c1, if_neg c2, if_neg c3, if_neg c4, if_neg (show ¬ (12 : Int32) = 10 by decide), if_neg (show ¬ (12 : Int32) = 11 by decide), if_pos rfl, ln_2, q0 2 (by omega), bd1_s]
    · rw [show (12 : Int32) - 10 = nI 2 by decide +kernel, q1 2 (by omega), bd1_s]
