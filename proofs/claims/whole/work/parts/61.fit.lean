/-! FIT -/
def fcn (P : Pb) (h : Nat) : Nat := match VT (sMH P (pM P) h) with
  | none => 1000
  | some v => v / 1000000
theorem VB_h {P : Pb} (hV : VB P) {h : Nat} (h1 : 12 ≤ h) (h2 : h ≤ 200) : VB (sMH P (pM P) h) := ⟨hV.1, hV.2.1, hV.2.2.1, h1, h2, hV.2.2.2.2.2⟩
theorem VB_Lh {P : Pb} (hV : VB P) {h : Nat} (h1 : 12 ≤ h) (h2 : h ≤ 200) : VB (sMH P (pL P) h) := ⟨hV.1, hV.2.1, hV.2.2.1, h1, h2, fun i hi => by
  obtain ⟨a, b, c⟩ := hV.2.2.2.2.2 i hi
  refine ⟨a, fun q => ?_, fun q => ?_⟩
  · have b1 := b q
    exact ⟨b1.1, b1.2.1, b1.2.2.1, b1.2.2.1⟩
  · have c1 := c q
    exact ⟨c1.1, c1.2.1, Nat.le_refl _, Nat.le_trans c1.2.2.1 c1.2.2.2⟩⟩
theorem fcn_mono {P : Pb} (hV : VB P) {h h' : Nat} (h1 : 12 ≤ h) (h2 : h ≤ h') (h3 : h' ≤ 200) {n : Nat} (hn : n ≤ 150) (q : fcn P h ≤ n) : fcn P h' ≤ n := by
  unfold fcn at q ⊢
  cases hv : VT (sMH P (pM P) h) with
  | none =>
    rw [hv] at q
    have q : 1000 ≤ n := q
    omega
  | some v =>
    rw [hv] at q
    have q : v / 1000000 ≤ n := q
    obtain ⟨v', a, b⟩ := colT_le (VB_h hV h1 (by omega)) (VB_h hV (by omega) h3) h2 hv
    rw [a]
    show v' / 1000000 ≤ n
    omega
theorem cvt_div (v : Nat) : cvt v / 1048576 = v / 1000000 := by
  unfold cvt
  have h1 : v / 1000 % 1000 < 1000 := Nat.mod_lt _ (by omega)
  have h2 : v % 1000 < 1000 := Nat.mod_lt _ (by omega)
  omega
theorem fcn_L {P : Pb} (hV : VB P) {h : Nat} (h1 : 12 ≤ h) (h2 : h ≤ 200) {n : Nat} (hn : n ≤ 150) : cN (VT (sMH P (pL P) h)) / 1048576 ≤ n ↔ fcn P h ≤ n := by
  unfold fcn
  cases hv : VT (sMH P (pM P) h) with
  | none =>
    cases hw : VT (sMH P (pL P) h) with
    | none =>
      show 268435456 / 1048576 ≤ n ↔ 1000 ≤ n
      omega
    | some w =>
      obtain ⟨v', a, b⟩ := colT_le (VB_Lh hV h1 h2) (VB_h hV h1 h2) (Nat.le_refl _) hw
      rw [hv] at a; cases a
  | some v =>
    obtain ⟨w, a, b⟩ := colT_le (VB_h hV h1 h2) (VB_Lh hV h1 h2) (Nat.le_refl _) hv
    obtain ⟨v', a', b'⟩ := colT_le (VB_Lh hV h1 h2) (VB_h hV h1 h2) (Nat.le_refl _) a
    rw [hv] at a'
    cases a'
    rw [a]
    show cvt w / 1048576 ≤ n ↔ v / 1000000 ≤ n
    rw [cvt_div]
    omega
theorem VT_le {P : Pb} (hV : VB P) {v : Nat} (hv : VT P = some v) : Dg v 146 146 360 := by
  have ht := tt_le hV
  have h12 := hV.1
  unfold VT at hv
  by_cases c0 : tt P = 0
  · rw [if_pos c0] at hv
    cases hv
    exact ⟨0, 0, 0, by omega, by omega, by omega, by omega⟩
  · rw [if_neg c0] at hv
    by_cases c1 : ta P 0 ≤ ph P
    · rw [if_pos c1] at hv
      obtain ⟨z, z1, z2⟩ := oa_some hv
      have a0 : At P (tt P - 1 + 1) 0 0 := by rw [show tt P - 1 + 1 = tt P by omega]; exact At_0 hV
      have hd := V_dg hV _ _ _ _ _ z (At_nx hV a0) z1
      rw [z2]
      exact Dg_le (Dg_col hd) (by omega) (by omega) (by omega)
    · rw [if_neg c1] at hv; cases hv
theorem VT_lt {P : Pb} (hV : VB P) {v : Nat} (hv : VT P = some v) : v < 2 ^ 31 := by
  obtain ⟨c, o, x, a1, a2, a3, a4⟩ := VT_le hV hv
  omega
/-- the class's fewest columns -/
theorem fw_eq {P : Pb} (hV : VB P) {bK bZ bL bM : Nat → Int32} {bi bg bh : Int32} (hR : RB P bK bZ bL bM bi bg bh) {h : Nat} (h1 : 12 ≤ h) (h2 : h ≤ 200) (sB sO : Nat → Int32) (sh sw sr : Int32) : ∃ c sB' sO', fS_fewestColumns (nI h) sB sO sh sw sr bK bZ bL bM bi bg = some (nI c, sB', sO', nI h, -1, 1) ∧ c ≤ 256 ∧ ∀ n, n ≤ 150 → (c ≤ n ↔ fcn P h ≤ n) := by
  have hE := VB_Lh hV h1 h2
  have hS : RS (sMH P (pL P) h) (nI h) (-1) 1 bK bZ bL bM bi bg := ⟨hR.1, hR.2.1, rfl, Or.inr rfl, fun i hi => by
    obtain ⟨a, b, c, d⟩ := hR.2.2.2 i hi
    refine ⟨a, b, c, ?_⟩
    rw [if_neg one_ne]
    exact c⟩
  obtain ⟨sB', sO', k1, -⟩ := all_eq hE hS sB sO
  have hb : cN (VT (sMH P (pL P) h)) ≤ 268435456 := Bd_le (fun v hv => VT_le hE hv)
  refine ⟨cN (VT (sMH P (pL P) h)) / 1048576, sB', sO', ?_, by omega, fun n hn => fcn_L hV h1 h2 hn⟩
  unfold fS_fewestColumns
  rw [k1, bd3_s, ln_1048576, pk_div (by omega) (by omega) (by omega)]
/-- the reference's fits -/
theorem fs_eq {P : Pb} (hV : VB P) {gS : Nat → Int32} (hR : RG P 0 gS) {h n : Nat} (h1 : 12 ≤ h) (h2 : h ≤ 200) (hn : n ≤ 150) (gO gL gT gB : Nat → Int32) (gn : Int32) : ∃ gO' gL' gT' gB' gn', fM_fits (nI n) (nI h) gS gO gL gT gB gn = some (if fcn P h ≤ n then 1 else 0, gS, gO', gL', gT', gB', gn') := by
  have hE := VB_h hV h1 h2
  have h12 := hV.1
  have hS : RG (sMH P (pM P) h) 0 (upd gS 49 (nI h)) := by
    refine ⟨?_, ?_, ?_, fun i hi => ?_⟩
    · rw [pk_un (by omega)]; exact hR.1
    · rw [pk_un (by omega)]; exact hR.2.1
    · exact pk_us
    · have hi : i < pn P := hi
      obtain ⟨a, b, c, d⟩ := hR.2.2.2 i hi
      rw [pk_un (by omega), pk_un (by omega), pk_un (by omega), pk_un (by omega)]
      exact ⟨a, b, c, d⟩
  obtain ⟨gO', gL', gT', gB', k1, -, -⟩ := m_solve hE hS gO gL gT gB gn
  refine ⟨gO', gL', gT', gB', nI (tt (sMH P (pM P) h)), ?_⟩
  have hu : upd (upd gS 49 (nI h)) 49 (gS 49) = gS := by
    funext q
    by_cases e : q = 49
    · rw [e, pk_us]
    · rw [pk_un e, pk_un e]
  unfold fM_fits fM_fits_b48 fM_fits_b49
  rw [k1, bd6_s, hu]
  unfold fcn
  cases hv : VT (sMH P (pM P) h) with
  | none =>
    rw [oi_none, if_pos (show (-6 : Int32) < 0 by decide)]
    have e1 : ¬ 1000 ≤ n := by omega
    show _ = some (if 1000 ≤ n then (1 : Int32) else 0, _)
    rw [if_neg e1, if_neg (fun q => q (Or.inl rfl))]
  | some v =>
    have hvl := VT_lt hE hv
    rw [oi_some, if_neg (nI_pos hvl), ln_1000000, pk_div hvl (by omega) (by omega)]
    show _ = some (if v / 1000000 ≤ n then (1 : Int32) else 0, _)
    by_cases c : v / 1000000 ≤ n
    · rw [if_neg (by rw [nI_ltI (by omega) (by omega)]; omega), if_pos c, if_neg (fun q => q (Or.inr rfl))]
    · rw [if_pos (by rw [nI_ltI (by omega) (by omega)]; omega), if_neg c, if_neg (fun q => q (Or.inl rfl))]
theorem least_ex (p : Nat → Prop) [DecidablePred p] (hm : ∀ a b, 12 ≤ a → a ≤ b → b ≤ 200 → p a → p b) (h2 : p 200) : ∃ h0, 12 ≤ h0 ∧ h0 ≤ 200 ∧ ∀ h, 12 ≤ h → h ≤ 200 → (p h ↔ h0 ≤ h) := by
  have : ∀ d h, 12 ≤ h → h ≤ 200 → p h → h - 12 ≤ d → ∃ h0, 12 ≤ h0 ∧ h0 ≤ 200 ∧ ∀ h, 12 ≤ h → h ≤ 200 → (p h ↔ h0 ≤ h) := by
    intro d
    induction d with
    | zero =>
      intro h a b c e
      have : h = 12 := by omega
      subst this
      exact ⟨12, by omega, by omega, fun h a' b' => ⟨fun _ => a', fun q => hm 12 h (by omega) q b' c⟩⟩
    | succ d ih =>
      intro h a b c e
      by_cases e1 : 12 < h
      · by_cases e2 : p (h - 1)
        · exact ih (h - 1) (by omega) (by omega) e2 (by omega)
        · refine ⟨h, a, b, fun h' a' b' => ⟨fun q => ?_, fun q => hm h h' a q b' c⟩⟩
          by_cases e3 : h ≤ h'
          · exact e3
          · exact absurd (hm h' (h - 1) a' (by omega) (by omega) q) e2
      · have : h = 12 := by omega
        subst this
        exact ⟨12, by omega, by omega, fun h a' b' => ⟨fun _ => a', fun q => hm 12 h (by omega) q b' c⟩⟩
  exact this 188 200 (by omega) (by omega) h2 (by omega)
theorem xf_lp {P : Pb} (hV : VB P) {bK bZ bL bM : Nat → Int32} {bi bg bh : Int32} (hR : RB P bK bZ bL bM bi bg bh) {n h0 : Nat} (hn : n ≤ 150) (h1 : 12 ≤ h0) (hp : ∀ h, 12 ≤ h → h ≤ 200 → (fcn P h ≤ n ↔ h0 ≤ h)) : ∀ (k m hi : Nat) (sB sO : Nat → Int32) (sh sw sr : Int32), k < m → k ≤ 8 → h0 ≤ hi → hi ≤ 200 → hi < h0 + 2 ^ k → ∃ sB' sO' sh' sw' sr', fX_fit_b39 m (nI n) (nI hi) (nI (2 ^ k / 2)) bK bZ bL bM bi bg sB sO sh sw sr = some (nI h0, sB', sO', sh', sw', sr')
  | k, 0, _, _, _, _, _, _, hh, _, _, _, _ => absurd hh (Nat.not_lt_zero _)
  | 0, m + 1, hi, sB, sO, sh, sw, sr, _, _, a, b, c => by
    have e : hi = h0 := by have : 2 ^ 0 = 1 := rfl; omega
    rw [fX_fit_b39, show (2 ^ 0 / 2 : Nat) = 0 from rfl, nI_0, if_pos (by decide), e]
    exact ⟨_, _, _, _, _, rfl⟩
  | k + 1, m + 1, hi, sB, sO, sh, sw, sr, h3, h4, a, b, c => by
    have e2 : 2 ^ (k + 1) / 2 = 2 ^ k := by rw [Nat.pow_succ]; omega
    have e3 : 2 ^ (k + 1) = 2 * 2 ^ k := by rw [Nat.pow_succ]; omega
    have e4 : 1 ≤ 2 ^ k := Nat.one_le_two_pow
    have e5 : 2 ^ k ≤ 128 := Nat.pow_le_pow_right (n := 2) (by omega) (show k ≤ 7 by omega)
    have e6 : ∀ hi sB sO sh sw sr, fX_fit_b69 (fX_fit_b39 m) (nI n) hi (nI (2 ^ k)) bK bZ bL bM bi bg sB sO sh sw sr = fX_fit_b39 m (nI n) hi (nI (2 ^ k / 2)) bK bZ bL bM bi bg sB sO sh sw sr := by
      intro hi sB sO sh sw sr
      unfold fX_fit_b69
      rw [ln_2, pk_div (by omega) (by omega) (by omega)]
    have e7 : nI hi - nI (2 ^ k) < 12 ↔ hi < 12 + 2 ^ k := by
      rw [i_lt, pk_sub_toInt (by omega) (by omega), ln_12, nt (by omega)]
      omega
    rw [fX_fit_b39, e2, if_neg (by rw [ln_0, nI_leI (by omega) (by omega)]; omega)]
    by_cases c1 : hi < 12 + 2 ^ k
    · rw [if_pos (e7.mpr c1), e6]
      exact xf_lp hV hR hn h1 hp k m hi sB sO sh sw sr (by omega) (by omega) a b (by omega)
    · rw [if_neg (fun q => c1 (e7.mp q)), pk_sub (by omega)]
      obtain ⟨cc, sB', sO', k1, k2, k3⟩ := fw_eq hV hR (h := hi - 2 ^ k) (by omega) (by omega) sB sO sh sw sr
      have k4 := (k3 n hn).trans (hp (hi - 2 ^ k) (by omega) (by omega))
      rw [k1, bd6_s]
      by_cases c2 : cc ≤ n
      · rw [if_neg (by rw [nI_ltI (by omega) (by omega)]; omega), e6]
        have := k4.mp c2
        exact xf_lp hV hR hn h1 hp k m (hi - 2 ^ k) _ _ _ _ _ (by omega) (by omega) (by omega) (by omega) (by omega)
      · rw [if_pos (by rw [nI_ltI (by omega) (by omega)]; omega), e6]
        have : ¬ h0 ≤ hi - 2 ^ k := fun q => c2 (k4.mpr q)
        exact xf_lp hV hR hn h1 hp k m hi _ _ _ _ _ (by omega) (by omega) a b (by omega)
theorem mf_lp {P : Pb} (hV : VB P) {gS : Nat → Int32} (hR : RG P 0 gS) {n h0 : Nat} (hn : n ≤ 150) (h1 : 12 ≤ h0) (hp : ∀ h, 12 ≤ h → h ≤ 200 → (fcn P h ≤ n ↔ h0 ≤ h)) : ∀ (d m lo hi : Nat) (gO gL gT gB : Nat → Int32) (gn : Int32), hi - lo ≤ d → d < m → 12 ≤ lo → lo ≤ h0 → h0 ≤ hi → hi ≤ 200 → ∃ gO' gL' gT' gB' gn', fM_fit_b35 m (nI n) (nI lo) (nI hi) gS gO gL gT gB gn = some (nI h0, gS, gO', gL', gT', gB', gn')
  | d, 0, _, _, _, _, _, _, _, _, hh, _, _, _, _ => absurd hh (Nat.not_lt_zero _)
  | d, m + 1, lo, hi, gO, gL, gT, gB, gn, h3, h4, h5, h6, h7, h8 => by
    rw [fM_fit_b35]
    by_cases c : hi ≤ lo
    · have e : lo = h0 := by omega
      rw [if_pos (by rw [nI_leI (by omega) (by omega)]; exact c), e]
      exact ⟨_, _, _, _, _, rfl⟩
    · rw [if_neg (by rw [nI_leI (by omega) (by omega)]; exact c), nI_add, ln_2, pk_div (by omega) (by omega) (by omega)]
      obtain ⟨gO', gL', gT', gB', gn', k1⟩ := fs_eq hV hR (h := (lo + hi) / 2) (by omega) (by omega) hn gO gL gT gB gn
      have k4 := hp ((lo + hi) / 2) (by omega) (by omega)
      rw [k1, bd7_s]
      unfold fM_fit_b67 fM_fit_b81
      by_cases c2 : fcn P ((lo + hi) / 2) ≤ n
      · rw [if_pos c2, if_neg one_ne, if_neg one_ne]
        have := k4.mp c2
        exact mf_lp hV hR hn h1 hp (d - 1) m lo ((lo + hi) / 2) _ _ _ _ _ (by omega) (by omega) h5 h6 this (by omega)
      · rw [if_neg c2, if_pos rfl, if_pos rfl, nI_1]
        have : ¬ h0 ≤ (lo + hi) / 2 := fun q => c2 (k4.mpr q)
        exact mf_lp hV hR hn h1 hp (d - 1) m ((lo + hi) / 2 + 1) hi _ _ _ _ _ (by omega) (by omega) (by omega) (by omega) h7 h8
theorem op_fit (p1 : Int32) (xk xl : Int32) (bK bZ bL bM : Nat → Int32) (bi bg bh : Int32) (sB sO : Nat → Int32) (sh sw sr : Int32) (lI lC lT lR : Nat → Int32) (lth lro lsp lle lex lco lou : Int32) (iK iZ iL iM : Nat → Int32) (ii ig ih : Int32) (jK jZ jL jM : Nat → Int32) (ji jg jh : Int32) (gS gI gK gO gL gT gB : Nat → Int32) (gn : Int32) (h : Inv xk xl bK bZ bL bM bi bg bh lI lC lT lR lth lro lsp lle lex lco lou iK iZ iL iM ii ig ih jK jZ jL jM ji jg jh gS gI gK) : ∃ (r : Int32) (sB' : Nat → Int32) (sO' : Nat → Int32) (sh' : Int32) (sw' : Int32) (sr' : Int32) (gS' : Nat → Int32) (gO' : Nat → Int32) (gL' : Nat → Int32) (gT' : Nat → Int32) (gB' : Nat → Int32) (gn' : Int32), fX_fit p1 bK bZ bL bM bi bg sB sO sh sw sr = some (r, sB', sO', sh', sw', sr') ∧ fM_fit p1 gS gO gL gT gB gn = some (r, gS', gO', gL', gT', gB', gn') ∧ Inv xk xl bK bZ bL bM bi bg bh lI lC lT lR lth lro lsp lle lex lco lou iK iZ iL iM ii ig ih jK jZ jL jM ji jg jh gS' gI gK := by
  have h0 := h
  obtain ⟨P, Pi, Pj, a, b, hV, hRB, hRG, -⟩ := h
  unfold fX_fit fM_fit fX_fit_b11
  rw [mi_eq, bd1_s]
  by_cases c1 : p1 < 0
  · rw [if_pos c1, if_pos c1, if_pos rfl]
    exact ⟨_, _, _, _, _, _, _, _, _, _, _, _, rfl, rfl, h0⟩
  · rw [if_neg c1, if_neg c1]
    by_cases c2 : p1 ≤ 150
    · have c3 : ¬ (150 : Int32) < p1 := fun q => by
        rw [i_le] at c2; rw [i_lt] at q; omega
      obtain ⟨n, hn, rfl⟩ := in_range (n := 151) (by omega) c1 (fun q => by
        have e : nI 151 = 151 := by decide +kernel
        rw [e, i_le] at q; rw [i_le] at c2
        have e1 : (151 : Int32).toInt = 151 := by decide
        have e2 : (150 : Int32).toInt = 150 := by decide
        omega)
      rw [if_pos c2, if_neg c3, if_neg one_ne, ln_200]
      obtain ⟨cc, sB', sO', k1, k2, k3⟩ := fw_eq hV hRB (h := 200) (by omega) (by omega) sB sO sh sw sr
      obtain ⟨gO', gL', gT', gB', gn', m1⟩ := fs_eq hV hRG (h := 200) (n := n) (by omega) (by omega) (by omega) gO gL gT gB gn
      have k4 := k3 n (by omega)
      rw [k1, bd6_s, m1, bd7_s]
      by_cases c4 : fcn P 200 ≤ n
      · obtain ⟨h0', q1, q2, q3⟩ := least_ex (fun h => fcn P h ≤ n) (fun x y x1 x2 x3 x4 => fcn_mono hV x1 x2 x3 (by omega) x4) c4
        obtain ⟨sB1, sO1, sh1, sw1, sr1, w1⟩ := xf_lp hV hRB (n := n) (h0 := h0') (by omega) q1 q3 8 fu 200 sB' sO' (nI 200) (-1) 1 (by rw [fu_eq]; omega) (by omega) q2 (by omega) (by have : 2 ^ 8 = 256 := rfl; omega)
        obtain ⟨gO1, gL1, gT1, gB1, gn1, w2⟩ := mf_lp hV hRG (n := n) (h0 := h0') (by omega) q1 q3 188 fu 12 200 gO' gL' gT' gB' gn' (by omega) (by rw [fu_eq]; omega) (by omega) q1 q2 (by omega)
        rw [if_pos (by rw [nI_leI (by omega) (by omega)]; exact k4.mpr c4), if_pos c4, if_neg one_ne, ln_12]
        rw [show (2 ^ 8 / 2 : Nat) = 128 from rfl, ← ln_128] at w1
        exact ⟨_, _, _, _, _, _, _, _, _, _, _, _, w1, w2, h0⟩
      · rw [if_neg (by rw [nI_leI (by omega) (by omega)]; exact fun q => c4 (k4.mp q)), if_neg c4, if_pos rfl]
        exact ⟨_, _, _, _, _, _, _, _, _, _, _, _, rfl, rfl, h0⟩
    · have c3 : (150 : Int32) < p1 := by
        rw [i_le] at c2; rw [i_lt]; omega
      rw [if_neg c2, if_pos c3, if_pos rfl]
      exact ⟨_, _, _, _, _, _, _, _, _, _, _, _, rfl, rfl, h0⟩
