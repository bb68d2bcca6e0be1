/-! MEET -/
section ME
variable {P : Pb}
/-- whether a line among the m things from a on has its top at x -/
def hln (P : Pb) (x : Nat) : Nat → Nat → Bool
  | _, 0 => false
  | a, m + 1 => decide (pK P (qi P a) = 0 ∧ qt P a = x) || hln P x (a + 1) m
theorem hln_iff {x : Nat} : ∀ {m a : Nat}, hln P x a m = true ↔ ∃ t, a ≤ t ∧ t < a + m ∧ pK P (qi P t) = 0 ∧ qt P t = x
  | 0, a => ⟨(fun h => absurd h Bool.false_ne_true), (fun ⟨t, h1, h2, _⟩ => absurd h2 (by omega))⟩
  | m + 1, a => by
    rw [hln, Bool.or_eq_true, decide_eq_true_iff, hln_iff (m := m) (a := a + 1)]
    refine ⟨fun h => ?_, fun ⟨t, h1, h2, h3⟩ => ?_⟩
    · rcases h with h | ⟨t, h1, h2, h3⟩
      · exact ⟨a, Nat.le_refl _, by omega, h⟩
      · exact ⟨t, by omega, by omega, h3⟩
    · by_cases e : t = a
      · rw [e] at h3; exact Or.inl h3
      · exact Or.inr ⟨t, by omega, by omega, h3⟩
/-- the same among those of column c -/
def hxn (P : Pb) (c x : Nat) : Nat → Nat → Bool
  | _, 0 => false
  | a, m + 1 => decide (qo P a = c ∧ pK P (qi P a) = 0 ∧ qt P a = x) || hxn P c x (a + 1) m
theorem hxn_iff {c x : Nat} : ∀ {m a : Nat}, hxn P c x a m = true ↔ ∃ t, a ≤ t ∧ t < a + m ∧ qo P t = c ∧ pK P (qi P t) = 0 ∧ qt P t = x
  | 0, a => ⟨(fun h => absurd h Bool.false_ne_true), (fun ⟨t, h1, h2, _⟩ => absurd h2 (by omega))⟩
  | m + 1, a => by
    rw [hxn, Bool.or_eq_true, decide_eq_true_iff, hxn_iff (m := m) (a := a + 1)]
    refine ⟨fun h => ?_, fun ⟨t, h1, h2, h3⟩ => ?_⟩
    · rcases h with h | ⟨t, h1, h2, h3⟩
      · exact ⟨a, Nat.le_refl _, by omega, h⟩
      · exact ⟨t, by omega, by omega, h3⟩
    · by_cases e : t = a
      · rw [e] at h3; exact Or.inl h3
      · exact Or.inr ⟨t, by omega, by omega, h3⟩
theorem hxn_hln {c A B x : Nat} (hA : FT P c A) (hB : FT P (c + 1) B) : hxn P c x 0 (tt P) = hln P x A (B - A) := by
  have hAB := FT_le hA hB
  have hBt := hB.1
  rw [Bool.eq_iff_iff, hxn_iff, hln_iff]
  refine ⟨fun ⟨t, h1, h2, h3, h4⟩ => ?_, fun ⟨t, h1, h2, h4⟩ => ?_⟩
  · have := (FT_col hA hB (show t < tt P by omega)).mp h3
    exact ⟨t, this.1, by omega, h4⟩
  · exact ⟨t, Nat.zero_le _, by omega, (FT_col hA hB (show t < tt P by omega)).mpr ⟨h1, by omega⟩, h4⟩
/-- tops grow within a column -/
theorem qt_up (hV : VB P) {t : Nat} (ht : t + 1 < tt P) (h : qo P (t + 1) = qo P t) : qt P t < qt P (t + 1) := by
  rw [qo_1] at h
  have hta := (ta_b hV (q_t hV (show t < tt P by omega)).1).1
  cases hx : qx P (t + 1) with
  | none =>
    rw [hx] at h
    have h : qo P t + 1 = qo P t := h
    omega
  | some x =>
    have e : qt P (t + 1) = qe P (t + 1) + x := by unfold qt; rw [hx]
    rw [e, qe_s]
    omega
theorem qt_lt (hV : VB P) {s : Nat} : ∀ t, s < t → t < tt P → qo P s = qo P t → qt P s < qt P t
  | 0, h, _, _ => absurd h (Nat.not_lt_zero _)
  | t + 1, h, ht, he => by
    have h1 := qo_mono P (show s ≤ t by omega)
    have h2 := (qo_st P t).1
    have h3 := qt_up hV ht (by omega)
    by_cases e : s = t
    · rw [e]; exact h3
    · have := qt_lt hV (s := s) t (by omega) (by omega) (by omega)
      omega
theorem sm_cg {f g : Nat → Nat} : ∀ t, (∀ q, q < t → f q = g q) → sm f t = sm g t
  | 0, _ => rfl
  | t + 1, h => by
    have h1 := sm_cg t (fun q hq => h q (by omega))
    rw [sm, sm, h1, h t (by omega)]
theorem sm_hit {f g : Nat → Nat} {x : Nat} (hx : f x = g x + 1) (h : ∀ q, q ≠ x → f q = g q) : ∀ t, x < t → sm f t = sm g t + 1
  | 0, ht => absurd ht (Nat.not_lt_zero _)
  | t + 1, ht => by
    by_cases e : x = t
    · have h1 := sm_cg (f := f) (g := g) t (fun q hq => h q (by omega))
      rw [sm, sm, h1, ← e, hx]; omega
    · have h1 := sm_hit hx h t (by omega)
      rw [sm, sm, h1, h t (fun q => e q.symm)]; omega
/-- at how many tops lines among the ma things from a on and the mb things from b on meet -/
def cn (P : Pb) (a ma b mb : Nat) : Nat := sm (fun x => if (hln P x a ma && hln P x b mb) = true then 1 else 0) 201
theorem cn_0a {a b mb : Nat} : cn P a 0 b mb = 0 := by
  have : sm (fun x => if (hln P x a 0 && hln P x b mb) = true then 1 else 0) 201 ≤ 201 * 0 := sm_le 201 (fun q _ => by
    show (if (false && hln P q b mb) = true then 1 else 0) ≤ 0
    exact Nat.le_refl _)
  unfold cn; omega
theorem cn_0b {a b ma : Nat} : cn P a ma b 0 = 0 := by
  have : sm (fun x => if (hln P x a ma && hln P x b 0) = true then 1 else 0) 201 ≤ 201 * 0 := sm_le 201 (fun q _ => by
    show (if (hln P q a ma && false) = true then 1 else 0) ≤ 0
    rw [Bool.and_false]
    exact Nat.le_refl _)
  unfold cn; omega
theorem cn_skipA {a m b mb : Nat} (h : ¬ pK P (qi P a) = 0 ∨ hln P (qt P a) b mb = false) : cn P a (m + 1) b mb = cn P (a + 1) m b mb := by
  refine sm_cg 201 (fun x _ => ?_)
  show (if ((decide (pK P (qi P a) = 0 ∧ qt P a = x) || hln P x (a + 1) m) && hln P x b mb) = true then 1 else 0) = if (hln P x (a + 1) m && hln P x b mb) = true then 1 else 0
  by_cases c : pK P (qi P a) = 0 ∧ qt P a = x
  · rcases h with h | h
    · exact absurd c.1 h
    · rw [c.2] at h
      rw [h, Bool.and_false, Bool.and_false]
  · rw [decide_eq_false c, Bool.false_or]
theorem cn_skipB {a ma b m : Nat} (h : ¬ pK P (qi P b) = 0 ∨ hln P (qt P b) a ma = false) : cn P a ma b (m + 1) = cn P a ma (b + 1) m := by
  refine sm_cg 201 (fun x _ => ?_)
  show (if (hln P x a ma && (decide (pK P (qi P b) = 0 ∧ qt P b = x) || hln P x (b + 1) m)) = true then 1 else 0) = if (hln P x a ma && hln P x (b + 1) m) = true then 1 else 0
  by_cases c : pK P (qi P b) = 0 ∧ qt P b = x
  · rcases h with h | h
    · exact absurd c.1 h
    · rw [c.2] at h
      rw [h, Bool.false_and, Bool.false_and]
  · rw [decide_eq_false c, Bool.false_or]
theorem cn_hit {a m b mb : Nat} (hk : pK P (qi P a) = 0) (h1 : hln P (qt P a) (a + 1) m = false) (h2 : hln P (qt P a) b mb = true) (h3 : qt P a < 201) : cn P a (m + 1) b mb = cn P (a + 1) m b mb + 1 := by
  refine sm_hit (x := qt P a) ?_ (fun x hx => ?_) 201 h3
  · show (if ((decide (pK P (qi P a) = 0 ∧ qt P a = qt P a) || hln P (qt P a) (a + 1) m) && hln P (qt P a) b mb) = true then 1 else 0) = (if (hln P (qt P a) (a + 1) m && hln P (qt P a) b mb) = true then 1 else 0) + 1
    rw [h1, h2, decide_eq_true (show pK P (qi P a) = 0 ∧ qt P a = qt P a from ⟨hk, rfl⟩)]
    rfl
  · show (if ((decide (pK P (qi P a) = 0 ∧ qt P a = x) || hln P x (a + 1) m) && hln P x b mb) = true then 1 else 0) = if (hln P x (a + 1) m && hln P x b mb) = true then 1 else 0
    rw [decide_eq_false (fun q => hx q.2.symm), Bool.false_or]
theorem hln_no {x a m : Nat} (h : ∀ t, a ≤ t → t < a + m → ¬ qt P t = x) : hln P x a m = false := by
  cases e : hln P x a m with
  | false => rfl
  | true =>
    obtain ⟨t, h1, h2, -, h4⟩ := hln_iff.mp e
    exact absurd h4 (h t h1 h2)
theorem n_sub0 {a b : Nat} (ha : a < 2 ^ 30) (hb : b < 2 ^ 30) : nI a - nI b = 0 ↔ a = b := by
  have e : (0 : Int32).toInt = 0 := by decide
  rw [i_eq, pk_sub_toInt ha hb, e]
  omega
theorem n_subp {a b : Nat} (ha : a < 2 ^ 30) (hb : b < 2 ^ 30) : 0 < nI a - nI b ↔ b < a := by
  have e : (0 : Int32).toInt = 0 := by decide
  rw [i_lt, pk_sub_toInt ha hb, e]
  omega
theorem li_eq (hV : VB P) {bK bZ bL bM : Nat → Int32} {bi bg bh : Int32} (hR : RB P bK bZ bL bM bi bg bh) {lI : Nat → Int32} {t : Nat} (ht : t < tt P) (hI : lI t = nI (qi P t)) : fL_isLine (nI t) lI bK = some (if pK P (qi P t) = 0 then 1 else 0) := by
  have htt := tt_le hV
  have h12 := hV.1
  have hq := (q_t hV ht).1
  unfold fL_isLine fL_isLine_b22
  rw [ig_f (show t < 144 by omega) (by omega), nI_clamp (by omega), hI, ig_f (show qi P t < 12 by omega) (by omega), nI_clamp (by omega), (hR.2.2.2 _ hq).1]
  by_cases c : pK P (qi P t) = 0
  · rw [if_pos ((rb_kz hV hq).mpr c), if_pos c, if_neg (fun q => q (Or.inr rfl))]
  · rw [if_neg (fun q => c ((rb_kz hV hq).mp q)), if_neg c, if_neg (fun q => q (Or.inl rfl))]
theorem lm_lp (hV : VB P) {bK bZ bL bM : Nat → Int32} {bi bg bh : Int32} (hR : RB P bK bZ bL bM bi bg bh) {v0 : Nat} (hv : VT P = some v0) {lI lC lT lR : Nat → Int32} (hL : ∀ t, t < tt P → lI t = nI (qi P t) ∧ lC t = nI (qo P t) ∧ lT t = nI (qt P t) ∧ lR t = nI (qr P t)) {c A B D : Nat} (hc : c ≤ 1000) (hA : FT P c A) (hB : FT P (c + 1) B) (hD : FT P (c + 1 + 1) D) : ∀ (d n a b f : Nat), A ≤ a → a ≤ B → B ≤ b → b ≤ D → (B - a) + (D - b) ≤ d → d < n → fL_meetings_b20 n (nI c) (nI a) (nI b) (nI B) (nI f) lI lC lT (nI (tt P)) bK = some (nI (f + cn P a (B - a) b (D - b)))
  | d, 0, _, _, _, _, _, _, _, _, hh => absurd hh (Nat.not_lt_zero _)
  | d, n + 1, a, b, f, h1, h2, h3, h4, h5, h6 => by
    have htt := tt_le hV
    have hDt := hD.1
    rw [fL_meetings_b20]
    unfold fL_meetings_b102
    by_cases c0 : B ≤ a
    · rw [if_pos (by rw [nI_leI (by omega) (by omega)]; exact c0), show B - a = 0 by omega, cn_0a, Nat.add_zero]
    rw [if_neg (by rw [nI_leI (by omega) (by omega)]; exact c0)]
    by_cases c1 : tt P ≤ b
    · rw [if_pos (by rw [nI_leI (by omega) (by omega)]; exact c1), show D - b = 0 by omega, cn_0b, Nat.add_zero]
    have hb : b < tt P := by omega
    have ha : a < tt P := by omega
    obtain ⟨x1, x2, x3, x4⟩ := hL a ha
    obtain ⟨y1, y2, y3, y4⟩ := hL b hb
    have hqb := qo_le P b
    obtain ⟨-, ta2, -, -⟩ := q_bd hV hv ha
    obtain ⟨-, tb2, -, -⟩ := q_bd hV hv hb
    rw [if_neg (by rw [nI_leI (by omega) (by omega)]; exact c1), ig_f (show b < 144 by omega) (by omega), ig_f (show b < 144 by omega) (by omega), ig_f (show a < 144 by omega) (by omega), nI_clamp (show b < 2 ^ 31 by omega), nI_clamp (show a < 2 ^ 31 by omega), y2, y3, x3, nI_1, nI_1]
    have hcol := FT_col hB hD hb
    by_cases c2 : qo P b = c + 1
    · have hbD : b < D := (hcol.mp c2).2
      rw [if_pos (by rw [c2]), li_eq hV hR ha x1, li_eq hV hR hb y1]
      have ea : B - a = (B - (a + 1)) + 1 := by omega
      have eb : D - b = (D - (b + 1)) + 1 := by omega
      have colA : ∀ t, A ≤ t → t < B → qo P t = c := fun t p q => (FT_col hA hB (by omega)).mpr ⟨p, q⟩
      have colB : ∀ t, B ≤ t → t < D → qo P t = c + 1 := fun t p q => (FT_col hB hD (by omega)).mpr ⟨p, q⟩
      have upA : ∀ t, a + 1 ≤ t → t < B → qt P a < qt P t := fun t p q => qt_lt hV t (by omega) (by omega) (by rw [colA a (by omega) (by omega), colA t (by omega) q])
      have upB : ∀ t, b + 1 ≤ t → t < D → qt P b < qt P t := fun t p q => qt_lt hV t (by omega) (by omega) (by rw [colB b (by omega) (by omega), colB t (by omega) q])
      unfold fL_meetings_b85 fL_meetings_b99
      have goA : ∀ f', fL_meetings_b20 n (nI c) (nI (a + 1)) (nI b) (nI B) (nI f') lI lC lT (nI (tt P)) bK = some (nI (f' + cn P (a + 1) (B - (a + 1)) b (D - b))) := fun f' => lm_lp hV hR hv hL hc hA hB hD (d - 1) n (a + 1) b f' (by omega) (by omega) (by omega) (by omega) (by omega) (by omega)
      by_cases c3 : qt P a = qt P b
      · have n0 : nI (qt P a) - nI (qt P b) = 0 := (n_sub0 (by omega) (by omega)).mpr c3
        have np : ¬ 0 < nI (qt P a) - nI (qt P b) := fun q => by
          have := (n_subp (by omega) (by omega)).mp q
          omega
        rw [if_pos n0, bd1_s, bd1_s, if_neg np, if_neg np, nI_1]
        by_cases c4 : pK P (qi P a) = 0
        · rw [if_pos c4, if_neg one_ne]
          by_cases c5 : pK P (qi P b) = 0
          · rw [if_pos c5, if_neg one_ne, goA, ea, cn_hit c4 (hln_no (fun t p q r => by
              have := upA t p (by omega)
              omega)) (hln_iff.mpr ⟨b, Nat.le_refl _, by omega, c5, c3.symm⟩) (by omega), show f + 1 + cn P (a + 1) (B - (a + 1)) b (D - b) = f + (cn P (a + 1) (B - (a + 1)) b (D - b) + 1) by omega]
          · rw [if_neg c5, if_pos rfl, goA, ea, cn_skipA]
            right
            cases e : hln P (qt P a) b (D - b) with
            | false => rfl
            | true =>
              obtain ⟨t, p1, p2, p3, p4⟩ := hln_iff.mp e
              by_cases e2 : t = b
              · rw [e2] at p3; exact absurd p3 c5
              · have := upB t (by omega) (by omega)
                omega
        · rw [if_neg c4, if_pos rfl, goA, ea, cn_skipA (Or.inl c4)]
      · have n0 : ¬ nI (qt P a) - nI (qt P b) = 0 := fun q => c3 ((n_sub0 (by omega) (by omega)).mp q)
        rw [if_neg n0]
        by_cases c4 : qt P b < qt P a
        · rw [if_pos ((n_subp (by omega) (by omega)).mpr c4), nI_1, lm_lp hV hR hv hL hc hA hB hD (d - 1) n a (b + 1) f (by omega) (by omega) (by omega) (by omega) (by omega) (by omega), eb, cn_skipB]
          right
          refine hln_no (fun t p q r => ?_)
          by_cases e2 : t = a
          · rw [e2] at r; omega
          · have := upA t (by omega) (by omega)
            omega
        · rw [if_neg (fun q => c4 ((n_subp (by omega) (by omega)).mp q)), nI_1, goA, ea, cn_skipA]
          right
          refine hln_no (fun t p q r => ?_)
          by_cases e2 : t = b
          · rw [e2] at r; omega
          · have := upB t (by omega) (by omega)
            omega
    · have e : b = D := by
        apply Classical.byContradiction
        intro q
        exact c2 (hcol.mpr ⟨h3, by omega⟩)
      rw [if_neg (by rw [nI_eq (by omega) (by omega)]; exact c2), show D - b = 0 by omega, cn_0b, Nat.add_zero]
end ME
section MH
variable {P : Pb} {gS gO gL gT gC gP gR gG : Nat → Int32}
theorem mh_lp (hV : VB P) (h : RG P 0 gS) (hT : TH P gO gL gT) {v0 : Nat} (hv : VT P = some v0) (hL : LB P gC gP gR gG (tt P)) {c x : Nat} (hc : c ≤ 1000) (hx : x ≤ 1000) : ∀ (d n t : Nat) (w : Bool), t ≤ tt P → tt P - t ≤ d → d < n → fM_hasLine_b5 n (nI c) (nI x) (if w = true then 1 else 0) (nI t) gS gO gC gP (nI (tt P)) = some (if (w || hxn P c x t (tt P - t)) = true then 1 else 0)
  | d, 0, _, _, _, _, hh => absurd hh (Nat.not_lt_zero _)
  | d, n + 1, t, w, h0, h1, h2 => by
    have htt := tt_le hV
    rw [fM_hasLine_b5]
    by_cases c0 : tt P ≤ t
    · have e : hxn P c x t (tt P - t) = false := by rw [show tt P - t = 0 by omega]; rfl
      rw [if_pos (by rw [nI_leI (by omega) (by omega)]; exact c0), e, Bool.or_false]
      cases w
      · rw [if_neg (fun q => q (Or.inl rfl))]
      · rw [if_neg (fun q => q (Or.inr rfl))]
    · have ht : t < tt P := by omega
      have hq := qo_le P t
      obtain ⟨-, tb2, -, -⟩ := q_bd hV hv ht
      obtain ⟨l1, l2, l3, l4⟩ := hL t ht
      have es : hxn P c x t (tt P - t) = (decide (qo P t = c ∧ pK P (qi P t) = 0 ∧ qt P t = x) || hxn P c x (t + 1) (tt P - (t + 1))) := by
        rw [show tt P - t = tt P - (t + 1) + 1 by omega]; rfl
      have go : ∀ w, fM_hasLine_b5 n (nI c) (nI x) (if w = true then 1 else 0) (nI (t + 1)) gS gO gC gP (nI (tt P)) = some (if (w || hxn P c x (t + 1) (tt P - (t + 1))) = true then 1 else 0) := fun w => mh_lp hV h hT hv hL hc hx (d - 1) n (t + 1) w (by omega) (by omega) (by omega)
      have go1 := go true
      have go0 := go false
      have t1 : (if true = true then (1 : Int32) else 0) = 1 := if_pos rfl
      have t0 : (if false = true then (1 : Int32) else 0) = 0 := if_neg (fun q => by cases q)
      rw [t1] at go1
      rw [t0] at go0
      rw [if_neg (by rw [nI_leI (by omega) (by omega)]; exact c0), es]
      unfold fM_hasLine_b49 fM_hasLine_b53 fM_hasLine_b54
      rw [ig_f (show t < 144 by omega) (by omega), ig_f (show t < 144 by omega) (by omega), nI_clamp (by omega), l1, l2, mq_line hV h hT ht, bd1_s, nI_1, go1, go0]
      cases w with
      | true => rw [t1, if_neg one_ne, Bool.true_or, Bool.true_or]
      | false =>
        rw [t0, if_pos rfl, Bool.false_or, Bool.false_or]
        by_cases c1 : qo P t = c
        · rw [if_pos (by rw [c1])]
          by_cases c2 : pK P (qi P t) = 0
          · rw [if_pos c2, if_neg one_ne]
            by_cases c3 : qt P t = x
            · rw [if_pos (by rw [c3]), decide_eq_true (show qo P t = c ∧ pK P (qi P t) = 0 ∧ qt P t = x from ⟨c1, c2, c3⟩)]
            · rw [if_neg (by rw [nI_eq (by omega) (by omega)]; exact c3), decide_eq_false (fun q => c3 q.2.2), Bool.false_or]
          · rw [if_neg c2, if_pos rfl, decide_eq_false (fun q => c2 q.2.1), Bool.false_or]
        · rw [if_neg (by rw [nI_eq (by omega) (by omega)]; exact c1), decide_eq_false (fun q => c1 q.1), Bool.false_or]
theorem mh_eq (hV : VB P) (h : RG P 0 gS) (hT : TH P gO gL gT) {v0 : Nat} (hv : VT P = some v0) (hL : LB P gC gP gR gG (tt P)) {c x : Nat} (hc : c ≤ 1000) (hx : x ≤ 1000) : fM_hasLine (nI c) (nI x) gS gO gC gP (nI (tt P)) = some (if hxn P c x 0 (tt P) = true then 1 else 0) := by
  have htt := tt_le hV
  have w := mh_lp hV h hT hv hL hc hx 144 fu 0 false (by omega) (by omega) (by rw [fu_eq]; omega)
  have t0 : (if false = true then (1 : Int32) else 0) = 0 := if_neg (fun q => by cases q)
  rw [t0, nI_0, Bool.false_or] at w
  exact w
theorem mm_lp (hV : VB P) (h : RG P 0 gS) (hT : TH P gO gL gT) {v0 : Nat} (hv : VT P = some v0) (hL : LB P gC gP gR gG (tt P)) (gB : Nat → Int32) {p : Nat} (hp : p ≤ 72) : ∀ (d n x : Nat), x ≤ 201 → 201 - x ≤ d → d < n → fM_meet_b48 n (nI p) (nI (sm (fun x => if (hxn P (2 * p) x 0 (tt P) && hxn P (2 * p + 1) x 0 (tt P)) = true then 1 else 0) x)) (nI x) gS gO gL gT gB gC gP gR gG (nI (tt P)) = some (nI (sm (fun x => if (hxn P (2 * p) x 0 (tt P) && hxn P (2 * p + 1) x 0 (tt P)) = true then 1 else 0) 201), gO, gL, gT, gB, gC, gP, gR, gG, nI (tt P))
  | d, 0, _, _, _, hh => absurd hh (Nat.not_lt_zero _)
  | d, n + 1, x, h0, h1, h2 => by
    rw [fM_meet_b48]
    by_cases c0 : x = 201
    · rw [if_pos (by rw [ln_201, nI_leI (by omega) (by omega)]; omega), c0]
    · have ih := mm_lp hV h hT hv hL gB hp (d - 1) n (x + 1) (by omega) (by omega) (by omega)
      have es : sm (fun x => if (hxn P (2 * p) x 0 (tt P) && hxn P (2 * p + 1) x 0 (tt P)) = true then 1 else 0) (x + 1) = sm (fun x => if (hxn P (2 * p) x 0 (tt P) && hxn P (2 * p + 1) x 0 (tt P)) = true then 1 else 0) x + (if (hxn P (2 * p) x 0 (tt P) && hxn P (2 * p + 1) x 0 (tt P)) = true then 1 else 0) := rfl
      rw [es] at ih
      rw [if_neg (by rw [ln_201, nI_leI (by omega) (by omega)]; omega), ln_2, pk_mul, nI_1, mh_eq hV h hT hv hL (by omega) (by omega), bd1_s, mh_eq hV h hT hv hL (by omega) (by omega), bd1_s]
      unfold fM_meet_b84 fM_meet_b85
      have ff : ¬ (false = true) := fun q => by cases q
      rw [nI_1]
      cases e1 : hxn P (2 * p) x 0 (tt P) with
      | false =>
        rw [e1, Bool.false_and, if_neg ff] at ih
        rw [if_neg ff, if_pos rfl, ln_0, nI_add]
        exact ih
      | true =>
        rw [if_pos rfl, if_neg one_ne]
        cases e2 : hxn P (2 * p + 1) x 0 (tt P) with
        | false =>
          rw [e1, e2, Bool.true_and, if_neg ff] at ih
          rw [if_neg ff, if_pos rfl, ln_0, nI_add]
          exact ih
        | true =>
          rw [e1, e2, Bool.true_and, if_pos rfl] at ih
          rw [if_pos rfl, if_neg one_ne, nI_1]
          exact ih
end MH
theorem op_meet (p1 : Int32) (xk xl : Int32) (bK bZ bL bM : Nat → Int32) (bi bg bh : Int32) (sB sO : Nat → Int32) (sh sw sr : Int32) (lI lC lT lR : Nat → Int32) (lth lro lsp lle lex lco lou : Int32) (iK iZ iL iM : Nat → Int32) (ii ig ih : Int32) (jK jZ jL jM : Nat → Int32) (ji jg jh : Int32) (gS gI gK gO gL gT gB gC gP gR gG : Nat → Int32) (gn : Int32) (h : Inv xk xl bK bZ bL bM bi bg bh lI lC lT lR lth lro lsp lle lex lco lou iK iZ iL iM ii ig ih jK jZ jL jM ji jg jh gS gI gK) : ∃ (r : Int32) (xl' : Int32) (sB' : Nat → Int32) (sO' : Nat → Int32) (sh' : Int32) (sw' : Int32) (sr' : Int32) (lI' : Nat → Int32) (lC' : Nat → Int32) (lT' : Nat → Int32) (lR' : Nat → Int32) (lth' : Int32) (lro' : Int32) (lsp' : Int32) (lle' : Int32) (lex' : Int32) (lco' : Int32) (lou' : Int32) (gO' : Nat → Int32) (gL' : Nat → Int32) (gT' : Nat → Int32) (gB' : Nat → Int32) (gC' : Nat → Int32) (gP' : Nat → Int32) (gR' : Nat → Int32) (gG' : Nat → Int32) (gn' : Int32), fX_meet p1 xl bK bZ bL bM bi bg bh sB sO sh sw sr lI lC lT lR lth lro lsp lle lex lco lou = some (r, xl', sB', sO', sh', sw', sr', lI', lC', lT', lR', lth', lro', lsp', lle', lex', lco', lou') ∧ fM_meet p1 gS gO gL gT gB gC gP gR gG gn = some (r, gO', gL', gT', gB', gC', gP', gR', gG', gn') ∧ Inv xk xl' bK bZ bL bM bi bg bh lI' lC' lT' lR' lth' lro' lsp' lle' lex' lco' lou' iK iZ iL iM ii ig ih jK jZ jL jM ji jg jh gS gI gK := by
  have h0 := h
  obtain ⟨P, Pi, Pj, a, b, hV, hRB, hRG, ha, hb, hxk, hk0, hk1, hi, hj, hl⟩ := h
  have htt := tt_le hV
  have hqn := qn_le P (tt P)
  unfold fX_meet fM_meet fX_meet_b26 fM_meet_b41
  obtain ⟨sB', sO', sh', sw', sr', lI', lC', lT', lR', lth', lro', lsp', lle', lex', lco', lou', k1, k2⟩ := lb_eq hV hRB hl sB sO sh sw sr
  obtain ⟨gO', gL', gT', gB', gC', gP', gR', gG', m1, m2, m3⟩ := m_layBest hV hRG gO gL gT gB gC gP gR gG gn
  have hI : Inv xk 1 bK bZ bL bM bi bg bh lI' lC' lT' lR' lth' lro' lsp' lle' lex' lco' lou' iK iZ iL iM ii ig ih jK jZ jL jM ji jg jh gS gI gK := ⟨P, Pi, Pj, a, b, hV, hRB, hRG, ha, hb, hxk, hk0, hk1, hi, hj, Or.inr ⟨rfl, k2⟩⟩
  rw [mi_eq, bd1_s, k1, bd18_s, m1, bd10_s]
  by_cases c1 : p1 < 0
  · rw [if_pos c1, if_pos c1, if_pos rfl]
    by_cases c2 : (if VT P = none then (0 : Int32) else 1) = 0
    · rw [if_pos c2]
      exact ⟨_, _, _, _, _, _, _, _, _, _, _, _, _, _, _, _, _, _, _, _, _, _, _, _, _, _, _, rfl, rfl, hI⟩
    · rw [if_neg c2]
      exact ⟨_, _, _, _, _, _, _, _, _, _, _, _, _, _, _, _, _, _, _, _, _, _, _, _, _, _, _, rfl, rfl, hI⟩
  rw [if_neg c1, if_neg c1]
  cases hv : VT P with
  | none =>
    by_cases c2 : (72 : Int32) < p1
    · rw [if_pos rfl, if_pos rfl, if_pos c2, if_pos rfl]
      exact ⟨_, _, _, _, _, _, _, _, _, _, _, _, _, _, _, _, _, _, _, _, _, _, _, _, _, _, _, rfl, rfl, hI⟩
    · rw [if_pos rfl, if_pos rfl, if_neg c2, if_neg one_ne, if_pos rfl]
      exact ⟨_, _, _, _, _, _, _, _, _, _, _, _, _, _, _, _, _, _, _, _, _, _, _, _, _, _, _, rfl, rfl, hI⟩
  | some v =>
    have ne : ¬ (some v = (none : Option Nat)) := fun q => by cases q
    have hL := m3 (by rw [hv]; exact ne)
    rw [if_neg ne, if_neg one_ne]
    rcases k2 with ⟨q, -⟩ | ⟨-, -, d1, d2, d3, d4, d5, d6, d7⟩
    · rw [hv] at q; cases q
    have e2 : (lco' + 1) / 2 = nI ((qn P (tt P) + 1) / 2) := by
      rw [d3, nI_1, ln_2, pk_div (by omega) (by omega) (by omega)]
    rw [e2]
    by_cases c2 : (72 : Int32) < p1
    · have c3 : ¬ p1 < nI ((qn P (tt P) + 1) / 2) := fun q => by
        rw [ln_72, i_lt, nt (by omega)] at c2
        rw [i_lt, nt (by omega)] at q
        omega
      rw [if_neg c3, if_pos c2, if_pos rfl]
      exact ⟨_, _, _, _, _, _, _, _, _, _, _, _, _, _, _, _, _, _, _, _, _, _, _, _, _, _, _, rfl, rfl, hI⟩
    · obtain ⟨p, hp, rfl⟩ := in_range (n := 73) (by omega) c1 (fun q => by
        rw [i_le, nt (by omega)] at q
        rw [ln_72, i_lt, nt (by omega)] at c2
        omega)
      rw [if_neg c2, if_neg one_ne, if_neg one_ne]
      by_cases c4 : tt P = 0
      · have e3 : qn P (tt P) = 0 := by rw [c4]; rfl
        have c3 : ¬ nI p < nI ((qn P (tt P) + 1) / 2) := by
          rw [e3, nI_ltI (by omega) (by omega)]
          omega
        rw [if_neg c3, if_pos (by rw [c4, nI_0])]
        exact ⟨_, _, _, _, _, _, _, _, _, _, _, _, _, _, _, _, _, _, _, _, _, _, _, _, _, _, _, rfl, rfl, hI⟩
      · have e4 : qo P (tt P - 1) = qn P (tt P) - 1 := by
          unfold qo
          rw [show tt P - 1 + 1 = tt P by omega]
        have hn := qn_pos P (tt P) (by omega)
        rw [if_neg (nI_ne0 (show 0 < tt P by omega) (by omega)), ln_1, pk_sub (show 1 ≤ tt P by omega), ig_f (show tt P - 1 < 144 by omega) (by omega), nI_clamp (by omega), (hL (tt P - 1) (by omega)).1, ln_2, pk_mul, e4]
        by_cases c5 : 2 * p < qn P (tt P)
        · rw [if_pos (by rw [nI_ltI (by omega) (by omega)]; omega), if_pos (by rw [nI_leI (by omega) (by omega)]; omega)]
          obtain ⟨A, a1, a2⟩ := ft_eq hV (fun t ht => (d2 t ht).2.1) (show 2 * p ≤ 1000 by omega)
          obtain ⟨B, b1, b2⟩ := ft_eq hV (fun t ht => (d2 t ht).2.1) (show 2 * p + 1 ≤ 1000 by omega)
          obtain ⟨D, f1, f2⟩ := ft_eq hV (fun t ht => (d2 t ht).2.1) (show 2 * p + 1 + 1 ≤ 1000 by omega)
          have hAB := FT_le a2 b2
          have hBD := FT_le b2 f2
          have hDt := f2.1
          have w := lm_lp hV hRB hv d2 (show 2 * p ≤ 1000 by omega) a2 b2 f2 300 fu A B 0 (by omega) hAB (by omega) hBD (by omega) (by rw [fu_eq]; omega)
          have y := mm_lp hV hRG m2 hv hL gB' (show p ≤ 72 by omega) 201 fu 0 (by omega) (by omega) (by rw [fu_eq]; omega)
          have ez : sm (fun x => if (hxn P (2 * p) x 0 (tt P) && hxn P (2 * p + 1) x 0 (tt P)) = true then 1 else 0) 201 = cn P A (B - A) B (D - B) := sm_cg 201 (fun x _ => by rw [hxn_hln a2 b2, hxn_hln b2 f2])
          rw [ez] at y
          have y2 : fM_meet_b48 fu (nI p) 0 0 gS gO' gL' gT' gB' gC' gP' gR' gG' (nI (tt P)) = some (nI (cn P A (B - A) B (D - B)), gO', gL', gT', gB', gC', gP', gR', gG', nI (tt P)) := y
          have w2 : fL_meetings (nI (2 * p)) lI' lC' lT' lth' bK = some (nI (cn P A (B - A) B (D - B))) := by
            unfold fL_meetings
            rw [d1, a1, bd1_s, nI_1, b1, bd1_s]
            rw [Nat.zero_add, nI_0] at w
            exact w
          rw [w2, bd1_s, y2]
          exact ⟨_, _, _, _, _, _, _, _, _, _, _, _, _, _, _, _, _, _, _, _, _, _, _, _, _, _, _, rfl, rfl, hI⟩
        · rw [if_neg (by rw [nI_ltI (by omega) (by omega)]; omega), if_neg (by rw [nI_leI (by omega) (by omega)]; omega)]
          exact ⟨_, _, _, _, _, _, _, _, _, _, _, _, _, _, _, _, _, _, _, _, _, _, _, _, _, _, _, rfl, rfl, hI⟩
