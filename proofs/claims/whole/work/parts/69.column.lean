/-! COLUMN -/
section CO
variable {P : Pb}
theorem qn_le (P : Pb) : ∀ t, qn P t ≤ t
  | 0 => Nat.le_refl _
  | t + 1 => by
    have := qn_le P t
    rw [qn_s]
    cases (qx P t).isNone
    · show qn P t + 0 ≤ _; omega
    · show qn P t + 1 ≤ _; omega
theorem qo_le (P : Pb) (t : Nat) : qo P t ≤ t := by
  have := qn_le P (t + 1)
  unfold qo; omega
theorem qo_0 (P : Pb) : qo P 0 = 0 := by
  have := qo_le P 0
  omega
theorem qo_1 (P : Pb) (t : Nat) : qo P (t + 1) = qo P t + if (qx P (t + 1)).isNone then 1 else 0 := by
  have h := qn_pos P (t + 1) (by omega)
  rw [qo_s]
  unfold qo
  omega
theorem qo_st (P : Pb) (t : Nat) : qo P t ≤ qo P (t + 1) ∧ qo P (t + 1) ≤ qo P t + 1 := by
  rw [qo_1]
  cases (qx P (t + 1)).isNone
  · show _ ≤ qo P t + 0 ∧ qo P t + 0 ≤ _; omega
  · show _ ≤ qo P t + 1 ∧ qo P t + 1 ≤ _; omega
theorem qo_mono (P : Pb) {s : Nat} : ∀ {t : Nat}, s ≤ t → qo P s ≤ qo P t
  | 0, h => by
    have : s = 0 := by omega
    rw [this]; exact Nat.le_refl _
  | t + 1, h => by
    by_cases e : s = t + 1
    · rw [e]; exact Nat.le_refl _
    · have h1 := qo_mono P (s := s) (t := t) (by omega)
      have h2 := (qo_st P t).1
      omega
theorem qo_top (P : Pb) {t : Nat} (h : t < tt P) : qo P t < qn P (tt P) := by
  have h1 := qo_mono P (show t ≤ tt P - 1 by omega)
  have h2 : qo P (tt P - 1) = qn P (tt P) - 1 := by
    unfold qo
    rw [show tt P - 1 + 1 = tt P by omega]
  have h3 := qn_pos P (tt P) (by omega)
  omega
/-- A is the first thing of column c, or of those behind it -/
def FT (P : Pb) (c A : Nat) : Prop := A ≤ tt P ∧ (∀ q, q < A → qo P q < c) ∧ ∀ q, A ≤ q → q < tt P → c ≤ qo P q
theorem FT_col {c A B : Nat} (hA : FT P c A) (hB : FT P (c + 1) B) {t : Nat} (ht : t < tt P) : qo P t = c ↔ A ≤ t ∧ t < B := by
  refine ⟨fun h => ⟨?_, ?_⟩, fun h => ?_⟩
  · apply Classical.byContradiction
    intro q
    have := hA.2.1 t (by omega)
    omega
  · apply Classical.byContradiction
    intro q
    have := hB.2.2 t (by omega) ht
    omega
  · have h1 := hA.2.2 t h.1 ht
    have h2 := hB.2.1 t h.2
    omega
theorem FT_le {c A B : Nat} (hA : FT P c A) (hB : FT P (c + 1) B) : A ≤ B := by
  apply Classical.byContradiction
  intro q
  have h1 := hA.2.1 B (by omega)
  have h2 := hB.2.2 B (Nat.le_refl _) (by have := hA.1; omega)
  omega
theorem FT_lt {c A B : Nat} (hA : FT P c A) (hB : FT P (c + 1) B) (hc : c < qn P (tt P)) : A < B ∧ A < tt P := by
  have hp : 0 < tt P := by
    apply Classical.byContradiction
    intro q
    have e : tt P = 0 := by omega
    have e2 : qn P 0 = 0 := rfl
    rw [e, e2] at hc
    omega
  have h2 : qo P (tt P - 1) = qn P (tt P) - 1 := by
    unfold qo
    rw [show tt P - 1 + 1 = tt P by omega]
  have hl : A < tt P := by
    apply Classical.byContradiction
    intro q
    have h1 := hA.2.1 (tt P - 1) (by omega)
    omega
  have e : qo P A = c := by
    have h1 := hA.2.2 A (Nat.le_refl _) hl
    rcases Nat.eq_zero_or_pos A with q | q
    · rw [q] at h1 ⊢
      have := qo_0 P
      omega
    · have h3 := hA.2.1 (A - 1) (by omega)
      have h4 := (qo_st P (A - 1)).2
      rw [show A - 1 + 1 = A by omega] at h4
      omega
  exact ⟨((FT_col hA hB hl).mp e).2, hl⟩
theorem ft_lp (hV : VB P) {lC : Nat → Int32} (hC : ∀ t, t < tt P → lC t = nI (qo P t)) {c : Nat} (hc : c ≤ 1000) : ∀ (d n t : Nat), t ≤ tt P → tt P - t ≤ d → d < n → (∀ q, q < t → qo P q < c) → ∃ A, fL_firstThing_b2 n (nI c) (nI t) lC (nI (tt P)) = some (nI A) ∧ FT P c A
  | d, 0, _, _, _, hh, _ => absurd hh (Nat.not_lt_zero _)
  | d, n + 1, t, h0, h1, h2, h3 => by
    have htt := tt_le hV
    rw [fL_firstThing_b2]
    unfold fL_firstThing_b26
    by_cases c0 : tt P ≤ t
    · rw [if_pos (by rw [nI_leI (by omega) (by omega)]; exact c0)]
      exact ⟨t, rfl, h0, h3, fun q a b => by omega⟩
    · have ht : t < tt P := by omega
      have hq := qo_le P t
      rw [if_neg (by rw [nI_leI (by omega) (by omega)]; exact c0), ig_f (show t < 144 by omega) (by omega), nI_clamp (by omega), hC t ht]
      by_cases c1 : c ≤ qo P t
      · rw [if_pos (by rw [nI_leI (by omega) (by omega)]; exact c1)]
        exact ⟨t, rfl, h0, h3, fun q a b => by have := qo_mono P a; omega⟩
      · rw [if_neg (by rw [nI_leI (by omega) (by omega)]; exact c1), nI_1]
        exact ft_lp hV hC hc (d - 1) n (t + 1) (by omega) (by omega) (by omega) (fun q hq => by
          by_cases e : q = t
          · rw [e]; omega
          · exact h3 q (by omega))
theorem ft_eq (hV : VB P) {lC : Nat → Int32} (hC : ∀ t, t < tt P → lC t = nI (qo P t)) {c : Nat} (hc : c ≤ 1000) : ∃ A, fL_firstThing (nI c) lC (nI (tt P)) = some (nI A) ∧ FT P c A := by
  have htt := tt_le hV
  have := ft_lp hV hC hc 144 fu 0 (by omega) (by omega) (by rw [fu_eq]; omega) (fun q hq => absurd hq (Nat.not_lt_zero _))
  unfold fL_firstThing
  rw [ln_0]
  exact this
/-- lines that are out among the m things from A on -/
def sa (P : Pb) (A m : Nat) : Nat := sm (fun q => isO P (A + q)) m
theorem sa_s (P : Pb) (A m : Nat) : sa P A (m + 1) = sa P A m + isO P (A + m) := rfl
theorem lo_lp (hV : VB P) {sh sw sr : Int32} {bK bZ bL bM : Nat → Int32} {bi bg : Int32} (h : RS P sh sw sr bK bZ bL bM bi bg) {v0 : Nat} (hv : VT P = some v0) {lI lT : Nat → Int32} (hL : ∀ t, t < tt P → lI t = nI (qi P t) ∧ lT t = nI (qt P t)) {A B : Nat} (hB : B ≤ tt P) (hB0 : 1 ≤ B) : ∀ (d n m : Nat), A + m ≤ B → B - (A + m) ≤ d → d < n → fL_outAmong_b5 n (nI (B - 1)) (nI (sa P A m)) (nI (A + m)) lI lT bK bg = some (nI (sa P A (B - A)))
  | d, 0, _, _, _, hh => absurd hh (Nat.not_lt_zero _)
  | d, n + 1, m, h0, h1, h2 => by
    have htt := tt_le hV
    rw [fL_outAmong_b5]
    by_cases c0 : A + m = B
    · rw [if_pos (by rw [nI_ltI (by omega) (by omega)]; omega), show B - A = m by omega]
    · have ht : A + m < tt P := by omega
      obtain ⟨l1, l2⟩ := hL _ ht
      obtain ⟨b1, b2, b3, b4⟩ := q_bd hV hv ht
      obtain ⟨a1, a2, a3⟩ := q_t hV ht
      rw [if_neg (by rw [nI_ltI (by omega) (by omega)]; omega), ig_f (show A + m < 144 by omega) (by omega), ig_f (show A + m < 144 by omega) (by omega), nI_clamp (by omega), l1, l2, b_out hV h a1 (by omega), bd1_s]
      have ih := lo_lp hV h hv hL (A := A) hB hB0 (d - 1) n (m + 1) (by omega) (by omega) (by omega)
      have e1 := isO_oz P (A + m)
      rw [sa_s] at ih
      unfold fL_outAmong_b38
      rw [nI_1, nI_1]
      by_cases c1 : oz P (qi P (A + m)) (qt P (A + m)) = 0
      · have e2 : isO P (A + m) = 0 := by omega
        rw [e2] at ih
        rw [if_pos c1, if_pos rfl]
        exact ih
      · have e2 : isO P (A + m) = 1 := by have := isO_le P (A + m); omega
        rw [e2] at ih
        rw [if_neg c1, if_neg one_ne]
        exact ih
/-- what the reference tells of a column -/
def cf (p2 v3 v4 v5 v6 v7 : Int32) : Int32 := if v3 = 0 then -6 else if p2 = 0 then v3 else if p2 = 1 then v4 else if p2 = 2 then v5 else if p2 = 3 then v6 else v7
theorem cf_0 {p2 v4 v5 v6 v7 : Int32} : cf p2 0 v4 v5 v6 v7 = -6 := by unfold cf; rw [if_pos rfl]
end CO
section CM
variable {P : Pb} {gS gO gL gT gC gP gR gG : Nat → Int32}
theorem mc3 {n0 : Nat} (hn : n0 ≤ 144) {p1 p2 v3 v4 v5 v6 v7 : Int32} (gB : Nat → Int32) {t0 : Nat} (hno : ∀ t, t0 ≤ t → t < n0 → ¬ gC t = p1) : ∀ (d n t : Nat), t0 ≤ t → t ≤ n0 → n0 - t ≤ d → d < n → fM_column_b41 n p1 p2 v3 v4 v5 v6 v7 (nI t) gS gO gL gT gB gC gP gR gG (nI n0) = some (cf p2 v3 v4 v5 v6 v7, gO, gL, gT, gB, gC, gP, gR, gG, nI n0)
  | d, 0, _, _, _, _, hh => absurd hh (Nat.not_lt_zero _)
  | d, n + 1, t, h0, h1, h2, h3 => by
    rw [fM_column_b41]
    by_cases c0 : n0 ≤ t
    · rw [if_pos (by rw [nI_leI (by omega) (by omega)]; exact c0)]
      unfold fM_column_b183 cf
      by_cases e0 : v3 = 0
      · rw [if_pos e0, if_pos e0]
      · rw [if_neg e0, if_neg e0]
        by_cases e1 : p2 = 0
        · rw [if_pos e1, if_pos e1]
        · rw [if_neg e1, if_neg e1]
          by_cases e2 : p2 = 1
          · rw [if_pos e2, if_pos e2]
          · rw [if_neg e2, if_neg e2]
            by_cases e3 : p2 = 2
            · rw [if_pos e3, if_pos e3]
            · rw [if_neg e3, if_neg e3]
              by_cases e4 : p2 = 3
              · rw [if_pos e4, if_pos e4]
              · rw [if_neg e4, if_neg e4]
    · rw [if_neg (by rw [nI_leI (by omega) (by omega)]; exact c0), ig_f (show t < 144 by omega) (by omega), nI_clamp (by omega), if_neg (hno t h0 (by omega))]
      unfold fM_column_b128
      rw [nI_1]
      exact mc3 hn gB hno (d - 1) n (t + 1) (by omega) (by omega) (by omega) (by omega)
/-- one thing of the column is read -/
theorem mc_step (hV : VB P) (h : RG P 0 gS) (hT : TH P gO gL gT) {v0 : Nat} (hv : VT P = some v0) (hL : LB P gC gP gR gG (tt P)) {t : Nat} (ht : t < tt P) (gB : Nat → Int32) (n : Nat) (p2 v3 v4 v5 v6 v7 : Int32) : fM_column_b41 (n + 1) (nI (qo P t)) p2 v3 v4 v5 v6 v7 (nI t) gS gO gL gT gB gC gP gR gG (nI (tt P)) = fM_column_b41 n (nI (qo P t)) p2 (v3 + 1) (nI (qt P t + ta P (qi P t))) (v5 + nI (isO P t)) (if 0 ≤ v6 then v6 else nI (qi P t)) (nI (qi P t)) (nI (t + 1)) gS gO gL gT gB gC gP gR gG (nI (tt P)) := by
  have htt := tt_le hV
  obtain ⟨t1, t2, t3⟩ := th_q hV hT ht
  obtain ⟨l1, l2, l3, l4⟩ := hL t ht
  have e0 : ¬ tt P ≤ t := by omega
  have k97 : ∀ x, fM_column_b97 (fM_column_b41 n) (nI (qo P t)) p2 (v3 + 1) (nI (qt P t + ta P (qi P t))) v6 (nI t) v5 x gS gO gL gT gB gC gP gR gG (nI (tt P)) = fM_column_b41 n (nI (qo P t)) p2 (v3 + 1) (nI (qt P t + ta P (qi P t))) (v5 + x) (if 0 ≤ v6 then v6 else nI (qi P t)) (nI (qi P t)) (nI (t + 1)) gS gO gL gT gB gC gP gR gG (nI (tt P)) := by
    intro x
    unfold fM_column_b97 fM_column_b117 fM_column_b128
    rw [ig_f (show t < 144 by omega) (by omega), ig_f (show t < 144 by omega) (by omega), nI_clamp (by omega), t1, nI_1]
    by_cases c : 0 ≤ v6
    · rw [if_pos c, if_pos c]
    · rw [if_neg c, if_neg c, ig_g (show t < 144 by omega) (by omega)]
  rw [fM_column_b41, if_neg (by rw [nI_leI (by omega) (by omega)]; exact e0), ig_f (show t < 144 by omega) (by omega), ig_f (show t < 144 by omega) (by omega), ig_f (show t < 144 by omega) (by omega), nI_clamp (by omega), l1, if_pos rfl, l2, t3, nI_add, mo_eq hV h hT hv hL ht, bd1_s, k97, k97]
  have : isO P t = 0 ∨ isO P t = 1 := by have := isO_le P t; omega
  rcases this with q | q
  · rw [q, if_pos nI_0, nI_0]
  · rw [q, if_neg (show ¬ nI 1 = 0 by decide +kernel), ← ln_1]
theorem mc2 (hV : VB P) (h : RG P 0 gS) (hT : TH P gO gL gT) {v0 : Nat} (hv : VT P = some v0) (hL : LB P gC gP gR gG (tt P)) (gB : Nat → Int32) {c A B : Nat} (hA : FT P c A) (hB : FT P (c + 1) B) {p2 : Int32} : ∀ (d n s : Nat), A + s < B → tt P - (A + s + 1) ≤ d → d < n → fM_column_b41 n (nI c) p2 (nI (s + 1)) (nI (qt P (A + s) + ta P (qi P (A + s)))) (nI (sa P A (s + 1))) (nI (qi P A)) (nI (qi P (A + s))) (nI (A + s + 1)) gS gO gL gT gB gC gP gR gG (nI (tt P)) = some (cf p2 (nI (B - A)) (nI (qt P (B - 1) + ta P (qi P (B - 1)))) (nI (sa P A (B - A))) (nI (qi P A)) (nI (qi P (B - 1))), gO, gL, gT, gB, gC, gP, gR, gG, nI (tt P))
  | d, 0, _, _, _, hh => absurd hh (Nat.not_lt_zero _)
  | d, n + 1, s, h0, h1, h2 => by
    have htt := tt_le hV
    have hBt := hB.1
    by_cases c0 : A + s + 1 = B
    · have e1 : B - 1 = A + s := by omega
      have e2 : B - A = s + 1 := by omega
      rw [e1, e2]
      exact mc3 htt gB (t0 := B) (fun t a b => by
        rw [(hL t b).1]
        have hc := (FT_col hA hB b)
        have hq := qo_le P t
        have hq2 := qo_le P A
        have hcA := hA.2.2 A (Nat.le_refl _) (by omega)
        rw [nI_eq (by omega) (by omega)]
        intro q
        have := hc.mp q
        omega) d (n + 1) (A + s + 1) (by omega) (by omega) (by omega) (by omega)
    · have ht : A + (s + 1) < tt P := by omega
      have hc : qo P (A + (s + 1)) = c := (FT_col hA hB ht).mpr ⟨by omega, by omega⟩
      have st := mc_step hV h hT hv hL ht gB n p2 (nI (s + 1)) (nI (qt P (A + s) + ta P (qi P (A + s)))) (nI (sa P A (s + 1))) (nI (qi P A)) (nI (qi P (A + s)))
      have hqA := (q_t hV (show A < tt P by omega)).1
      have h12 := hV.1
      rw [hc, nI_1, nI_add, if_pos (nI_pos' (by omega)), ← sa_s] at st
      rw [show A + s + 1 = A + (s + 1) by omega, st]
      exact mc2 hV h hT hv hL gB hA hB (d - 1) n (s + 1) (by omega) (by omega) (by omega)
theorem mc1 (hV : VB P) (h : RG P 0 gS) (hT : TH P gO gL gT) {v0 : Nat} (hv : VT P = some v0) (hL : LB P gC gP gR gG (tt P)) (gB : Nat → Int32) {c A B : Nat} (hc1 : c ≤ 1000) (hA : FT P c A) (hB : FT P (c + 1) B) (hAB : A < B) {p2 : Int32} : ∀ (d n t : Nat), t ≤ A → tt P - t ≤ d → d < n → fM_column_b41 n (nI c) p2 0 0 0 (-6) (-6) (nI t) gS gO gL gT gB gC gP gR gG (nI (tt P)) = some (cf p2 (nI (B - A)) (nI (qt P (B - 1) + ta P (qi P (B - 1)))) (nI (sa P A (B - A))) (nI (qi P A)) (nI (qi P (B - 1))), gO, gL, gT, gB, gC, gP, gR, gG, nI (tt P))
  | d, 0, _, _, _, hh => absurd hh (Nat.not_lt_zero _)
  | d, n + 1, t, h0, h1, h2 => by
    have htt := tt_le hV
    have hBt := hB.1
    by_cases c0 : t = A
    · subst c0
      have ht : t < tt P := by omega
      have hc : qo P t = c := (FT_col hA hB ht).mpr ⟨by omega, by omega⟩
      have st := mc_step hV h hT hv hL ht gB n p2 0 0 0 (-6) (-6)
      rw [hc, if_neg oi_neg, ln_0, ln_1, nI_add, nI_add, Nat.zero_add, Nat.zero_add] at st
      rw [ln_0, st]
      have e : isO P t = sa P t (0 + 1) := by
        rw [sa_s]
        show _ = 0 + isO P (t + 0)
        rw [Nat.zero_add]; rfl
      rw [e]
      exact mc2 hV h hT hv hL gB hA hB (d - 1) n 0 (by omega) (by omega) (by omega)
    · have ht : t < tt P := by omega
      have hq := qo_le P t
      have hlt := hA.2.1 t (by omega)
      have ne : ¬ qo P t = c := by omega
      have e0 : ¬ tt P ≤ t := by omega
      rw [fM_column_b41, if_neg (by rw [nI_leI (by omega) (by omega)]; exact e0), ig_f (show t < 144 by omega) (by omega), nI_clamp (by omega), (hL t ht).1, if_neg (by rw [nI_eq (by omega) (by omega)]; exact ne)]
      unfold fM_column_b128
      rw [nI_1]
      exact mc1 hV h hT hv hL gB hc1 hA hB hAB (d - 1) n (t + 1) (by omega) (by omega) (by omega)
end CM
theorem lc_eq {P : Pb} (hV : VB P) {bK bZ bL bM : Nat → Int32} {bi bg bh : Int32} (hR : RB P bK bZ bL bM bi bg bh) {v0 : Nat} (hv : VT P = some v0) {lI lC lT lR : Nat → Int32} (hL : ∀ t, t < tt P → lI t = nI (qi P t) ∧ lC t = nI (qo P t) ∧ lT t = nI (qt P t) ∧ lR t = nI (qr P t)) {c : Nat} (hc : c < qn P (tt P)) (p2 : Int32) : ∃ A B, FT P c A ∧ FT P (c + 1) B ∧ A < B ∧ fL_ofColumn (nI c) p2 lI lC lT (nI (tt P)) bK bZ bg = some (cf p2 (nI (B - A)) (nI (qt P (B - 1) + ta P (qi P (B - 1)))) (nI (sa P A (B - A))) (nI (qi P A)) (nI (qi P (B - 1)))) := by
  have htt := tt_le hV
  have hqn := qn_le P (tt P)
  have h12 := hV.1
  obtain ⟨A, a1, a2⟩ := ft_eq hV (fun t ht => (hL t ht).2.1) (show c ≤ 1000 by omega)
  obtain ⟨B, b1, b2⟩ := ft_eq hV (fun t ht => (hL t ht).2.1) (show c + 1 ≤ 1000 by omega)
  obtain ⟨hAB, hAt⟩ := FT_lt a2 b2 hc
  have hBt := b2.1
  refine ⟨A, B, a2, b2, hAB, ?_⟩
  obtain ⟨l1, l2, l3, l4⟩ := hL (B - 1) (by omega)
  obtain ⟨z1, z2, z3, z4⟩ := hL A hAt
  have lo := lo_lp hV (rs_P hV hR) hv (fun t ht => ⟨(hL t ht).1, (hL t ht).2.2.1⟩) (A := A) hBt (by omega) 144 fu 0 (by omega) (by omega) (by rw [fu_eq]; omega)
  have lo2 : fL_outAmong (nI A) (nI (B - 1)) lI lT bK bg = some (nI (sa P A (B - A))) := by
    unfold fL_outAmong
    rw [ln_0]
    exact lo
  unfold fL_ofColumn cf
  rw [a1, bd1_s, nI_1, b1, bd1_s, if_neg (nI_pos (by omega)), ln_1, pk_sub (by omega), if_pos (by rw [nI_leI (by omega) (by omega)]; omega), ← ln_1, if_neg (nI_ne0 (show 0 < B - A by omega) (by omega))]
  by_cases e0 : p2 = 0
  · rw [if_pos e0, if_pos e0, pk_sub (by omega), nI_1, show B - 1 - A + 1 = B - A by omega]
  · rw [if_neg e0, if_neg e0]
    by_cases e1 : p2 = 1
    · rw [if_pos e1, if_pos e1, ig_f (show B - 1 < 144 by omega) (by omega), ig_f (show B - 1 < 144 by omega) (by omega), nI_clamp (by omega), l1, b_tall hV hR (q_t hV (show B - 1 < tt P by omega)).1, bd1_s, l3, nI_add]
    · rw [if_neg e1, if_neg e1]
      by_cases e2 : p2 = 2
      · rw [if_pos e2, if_pos e2, lo2, bd1_s]
      · rw [if_neg e2, if_neg e2]
        by_cases e3 : p2 = 3
        · rw [if_pos e3, if_pos e3, ig_f (show A < 144 by omega) (by omega), nI_clamp (by omega), z1]
        · rw [if_neg e3, if_neg e3, ig_f (show B - 1 < 144 by omega) (by omega), nI_clamp (by omega), l1]
theorem op_column (p1 p2 : Int32) (xk xl : Int32) (bK bZ bL bM : Nat → Int32) (bi bg bh : Int32) (sB sO : Nat → Int32) (sh sw sr : Int32) (lI lC lT lR : Nat → Int32) (lth lro lsp lle lex lco lou : Int32) (iK iZ iL iM : Nat → Int32) (ii ig ih : Int32) (jK jZ jL jM : Nat → Int32) (ji jg jh : Int32) (gS gI gK gO gL gT gB gC gP gR gG : Nat → Int32) (gn : Int32) (h : Inv xk xl bK bZ bL bM bi bg bh lI lC lT lR lth lro lsp lle lex lco lou iK iZ iL iM ii ig ih jK jZ jL jM ji jg jh gS gI gK) : ∃ (r : Int32) (xl' : Int32) (sB' : Nat → Int32) (sO' : Nat → Int32) (sh' : Int32) (sw' : Int32) (sr' : Int32) (lI' : Nat → Int32) (lC' : Nat → Int32) (lT' : Nat → Int32) (lR' : Nat → Int32) (lth' : Int32) (lro' : Int32) (lsp' : Int32) (lle' : Int32) (lex' : Int32) (lco' : Int32) (lou' : Int32) (gO' : Nat → Int32) (gL' : Nat → Int32) (gT' : Nat → Int32) (gB' : Nat → Int32) (gC' : Nat → Int32) (gP' : Nat → Int32) (gR' : Nat → Int32) (gG' : Nat → Int32) (gn' : Int32), fX_column p1 p2 xl bK bZ bL bM bi bg bh sB sO sh sw sr lI lC lT lR lth lro lsp lle lex lco lou = some (r, xl', sB', sO', sh', sw', sr', lI', lC', lT', lR', lth', lro', lsp', lle', lex', lco', lou') ∧ fM_column p1 p2 gS gO gL gT gB gC gP gR gG gn = some (r, gO', gL', gT', gB', gC', gP', gR', gG', gn') ∧ Inv xk xl' bK bZ bL bM bi bg bh lI' lC' lT' lR' lth' lro' lsp' lle' lex' lco' lou' iK iZ iL iM ii ig ih jK jZ jL jM ji jg jh gS gI gK := by
  have h0 := h
  obtain ⟨P, Pi, Pj, a, b, hV, hRB, hRG, ha, hb, hxk, hk0, hk1, hi, hj, hl⟩ := h
  have htt := tt_le hV
  have hqn := qn_le P (tt P)
  unfold fX_column fM_column fX_column_b9 fX_column_b34
  rw [mi_eq, bd1_s]
  by_cases c1 : p2 < 0
  · rw [if_pos c1, if_pos c1, if_pos rfl]
    exact ⟨_, _, _, _, _, _, _, _, _, _, _, _, _, _, _, _, _, _, _, _, _, _, _, _, _, _, _, rfl, rfl, h0⟩
  · rw [if_neg c1, if_neg c1]
    by_cases c2 : p2 ≤ 4
    · have c3 : ¬ (4 : Int32) < p2 := fun q => by
        rw [i_le] at c2; rw [i_lt] at q; omega
      rw [if_pos c2, if_neg c3, if_neg one_ne]
      obtain ⟨sB', sO', sh', sw', sr', lI', lC', lT', lR', lth', lro', lsp', lle', lex', lco', lou', k1, k2⟩ := lb_eq hV hRB hl sB sO sh sw sr
      obtain ⟨gO', gL', gT', gB', gC', gP', gR', gG', m1, m2, m3⟩ := m_layBest hV hRG gO gL gT gB gC gP gR gG gn
      have hI : Inv xk 1 bK bZ bL bM bi bg bh lI' lC' lT' lR' lth' lro' lsp' lle' lex' lco' lou' iK iZ iL iM ii ig ih jK jZ jL jM ji jg jh gS gI gK := ⟨P, Pi, Pj, a, b, hV, hRB, hRG, ha, hb, hxk, hk0, hk1, hi, hj, Or.inr ⟨rfl, k2⟩⟩
      rw [k1, bd18_s, m1, bd10_s]
      cases hv : VT P with
      | none =>
        rw [if_pos rfl, if_pos rfl, if_pos rfl]
        exact ⟨_, _, _, _, _, _, _, _, _, _, _, _, _, _, _, _, _, _, _, _, _, _, _, _, _, _, _, rfl, rfl, hI⟩
      | some v =>
        have ne : ¬ (some v = (none : Option Nat)) := fun q => by cases q
        have hL := m3 (by rw [hv]; exact ne)
        rw [if_neg ne, if_neg one_ne, if_neg one_ne]
        rcases k2 with ⟨q, -⟩ | ⟨-, -, d1, d2, d3, d4, d5, d6, d7⟩
        · rw [hv] at q; cases q
        have miss : (∀ t, 0 ≤ t → t < tt P → ¬ gC' t = p1) → fM_column_b41 fu p1 p2 0 0 0 (-6) (-6) 0 gS gO' gL' gT' gB' gC' gP' gR' gG' (nI (tt P)) = some (-6, gO', gL', gT', gB', gC', gP', gR', gG', nI (tt P)) := by
          intro hno
          have w := mc3 (gS := gS) (gO := gO') (gL := gL') (gT := gT') (gC := gC') (gP := gP') (gR := gR') (gG := gG') htt (p1 := p1) (p2 := p2) (v3 := 0) (v4 := 0) (v5 := 0) (v6 := -6) (v7 := -6) gB' (t0 := 0) hno 144 fu 0 (by omega) (by omega) (by omega) (by rw [fu_eq]; omega)
          rw [nI_0, cf_0] at w
          exact w
        by_cases e1 : p1 < 0
        · rw [if_pos e1, miss (fun t _ ht q => by
            have hq := qo_le P t
            rw [(hL t ht).1] at q
            rw [← q] at e1
            exact nI_pos (by omega) e1)]
          exact ⟨_, _, _, _, _, _, _, _, _, _, _, _, _, _, _, _, _, _, _, _, _, _, _, _, _, _, _, rfl, rfl, hI⟩
        rw [if_neg e1, d3]
        by_cases e2 : nI (qn P (tt P)) ≤ p1
        · have e3 : ¬ p1 < nI (qn P (tt P)) := fun q => by
            rw [i_le] at e2; rw [i_lt] at q; omega
          rw [if_neg e3, miss (fun t _ ht q => by
            have hq := qo_le P t
            have hq2 := qo_top P ht
            rw [(hL t ht).1] at q
            rw [← q, nI_leI (by omega) (by omega)] at e2
            omega)]
          rw [d3] at hI
          exact ⟨_, _, _, _, _, _, _, _, _, _, _, _, _, _, _, _, _, _, _, _, _, _, _, _, _, _, _, rfl, rfl, hI⟩
        obtain ⟨c, hc, rfl⟩ := in_range (by omega) e1 e2
        obtain ⟨A, B, f1, f2, f3, f4⟩ := lc_eq hV hRB hv d2 hc p2
        have w := mc1 hV hRG m2 hv hL gB' (show c ≤ 1000 by omega) f1 f2 f3 (p2 := p2) 144 fu 0 (by omega) (by omega) (by rw [fu_eq]; omega)
        rw [nI_0] at w
        rw [if_pos (by rw [nI_ltI (by omega) (by omega)]; exact hc), d1, f4, bd1_s, w]
        rw [d1, d3] at hI
        exact ⟨_, _, _, _, _, _, _, _, _, _, _, _, _, _, _, _, _, _, _, _, _, _, _, _, _, _, _, rfl, rfl, hI⟩
    · have c3 : (4 : Int32) < p2 := by
        rw [i_le] at c2; rw [i_lt]; omega
      rw [if_neg c2, if_pos c3, if_pos rfl]
      exact ⟨_, _, _, _, _, _, _, _, _, _, _, _, _, _, _, _, _, _, _, _, _, _, _, _, _, _, _, rfl, rfl, h0⟩
