/-! WHAT THE BEST COMES TO IS WHAT ITS LAYING SHOWS -/
section SU
variable {P : Pb}
theorem qr_M (hV : VB P) {t : Nat} (h : t < tt P) : qr P t ≤ pM P (qi P t) := by
  unfold qr
  cases hx : qx P t with
  | none => exact Nat.zero_le _
  | some x =>
    show x ≤ pM P (qi P t)
    rcases Nat.eq_zero_or_pos t with q | q
    · subst q
      have : qx P 0 = none := rfl
      rw [this] at hx; cases hx
    · obtain ⟨t', rfl⟩ : ∃ t', t = t' + 1 := ⟨t - 1, by omega⟩
      unfold qx at hx
      rw [if_neg (by omega)] at hx
      have e : tt P - (t' + 1) = tt P - (t' + 1 + 1) + 1 := by omega
      rw [e] at hx
      have h1 : fd _ _ _ _ = some x := hx
      obtain ⟨a1, a2, -, -⟩ := fd_some h1
      have := VI_of hV (q_t hV h).1
      omega
theorem tn_txt {i k : Nat} (hk : 0 < k) (h : k < tn P i) : pK P i = 0 := by
  unfold tn at h
  by_cases c : pK P i = 0
  · exact c
  · rw [if_neg c] at h; omega
theorem qr_sum (hV : VB P) : ∀ t, t ≤ tt P → sm (qr P) t ≤ 30 * qi P t + (if qk P t = 0 then 0 else 30)
  | 0, _ => Nat.zero_le _
  | t + 1, h => by
    have ih := qr_sum hV t (by omega)
    have ht : t < tt P := by omega
    obtain ⟨a1, a2, a3⟩ := q_t hV ht
    have hr := qr_M hV ht
    have hI := VI_of hV a1
    have hI2 := hV.2.2.2.2.2 _ a1
    have key : sm (qr P) t + qr P t ≤ 30 * qi P t + 30 := by
      by_cases d : qk P t = 0
      · rw [if_pos d] at ih; omega
      · rw [if_neg d] at ih
        have := hI2.2.1 (tn_txt (by omega) a2)
        omega
    show sm (qr P) t + qr P t ≤ _
    rw [qi_s, qk_s]
    by_cases c : qk P t + 1 < tn P (qi P t)
    · rw [nx_in c]
      show _ ≤ 30 * qi P t + (if qk P t + 1 = 0 then 0 else 30)
      rw [if_neg (by omega)]
      exact key
    · rw [nx_end c]
      show _ ≤ 30 * (qi P t + 1) + _
      omega
theorem isO_oz (P : Pb) (t : Nat) : isO P t * 1000 = oz P (qi P t) (qt P t) := by
  unfold isO oz
  by_cases c : pK P (qi P t) = 0 ∧ ¬ qt P t % pg P = 0
  · rw [if_pos c, if_pos c]
  · rw [if_neg c, if_neg c]
theorem isO_le (P : Pb) (t : Nat) : isO P t ≤ 1 := by
  unfold isO
  by_cases c : pK P (qi P t) = 0 ∧ ¬ qt P t % pg P = 0
  · rw [if_pos c]; exact Nat.le_refl _
  · rw [if_neg c]; exact Nat.zero_le _
theorem q_sum (hV : VB P) {v0 : Nat} (hv : VT P = some v0) : ∀ t, t < tt P → ∃ v, V P (tt P - (t + 1)) (qi P (t + 1)) (qk P (t + 1)) (qe P (t + 1)) (qc P (t + 1)) = some v ∧ v0 = v + (qn P (t + 1) * 1000000 + sm (isO P) (t + 1) * 1000 + sm (qr P) (t + 1))
  | 0, h => by
    unfold VT at hv
    have c0 : ¬ tt P = 0 := by omega
    rw [if_neg c0] at hv
    by_cases c1 : ta P 0 ≤ ph P
    · rw [if_pos c1] at hv
      obtain ⟨z, z1, z2⟩ := oa_some hv
      have e1 : qe P 1 = ta P 0 := rfl
      have e2 : qc P 1 = fc P 0 := rfl
      have e3 : qn P 1 = 1 := rfl
      have e4 : sm (isO P) 1 = 0 + isO P 0 := rfl
      have e5 : sm (qr P) 1 = 0 := rfl
      have e6 : isO P 0 = 0 := by
        have e7 : qt P 0 = 0 := rfl
        unfold isO
        rw [if_neg (fun q => q.2 (by rw [e7]; exact Nat.zero_mod _))]
      refine ⟨z, ?_, ?_⟩
      · show V P (tt P - 1) (qi P 1) (qk P 1) (qe P 1) (qc P 1) = _
        rw [e1, e2]
        exact z1
      · show v0 = z + (qn P 1 * 1000000 + sm (isO P) 1 * 1000 + sm (qr P) 1)
        rw [e3, e4, e5, e6]; omega
    · rw [if_neg c1] at hv; cases hv
  | t + 1, h => by
    obtain ⟨v, h2, h3⟩ := q_sum hV hv t (by omega)
    have e : tt P - (t + 1) = tt P - (t + 1 + 1) + 1 := by omega
    rw [e] at h2
    have hx : qx P (t + 1) = ch P (tt P - (t + 1 + 1) + 1) (qi P (t + 1)) (qk P (t + 1)) (qe P (t + 1)) (qc P (t + 1)) := by
      unfold qx
      rw [if_neg (by omega), e]
    have o1 : sm (isO P) (t + 1 + 1) = sm (isO P) (t + 1) + isO P (t + 1) := rfl
    have o2 : sm (qr P) (t + 1 + 1) = sm (qr P) (t + 1) + qr P (t + 1) := rfl
    have o3 := isO_oz P (t + 1)
    rcases ch_spec h2 with ⟨x, v', a1, a2, a3, a4, a5, a6⟩ | ⟨a1, a2, v', a5, a6⟩
    · rw [a1] at hx
      have eq : qt P (t + 1) = qe P (t + 1) + x := by unfold qt; rw [hx]
      have er : qr P (t + 1) = x := by unfold qr; rw [hx]; rfl
      have en : qn P (t + 1 + 1) = qn P (t + 1) := by rw [qn_s P (t + 1), hx]; rfl
      refine ⟨v', ?_, ?_⟩
      · rw [qe_s P (t + 1), eq, qi_s P (t + 1), qk_s P (t + 1), qc_s P (t + 1), hx]
        exact a5
      · rw [eq] at o3
        rw [en, o1, o2, er]
        omega
    · rw [a1] at hx
      have eq : qt P (t + 1) = 0 := by unfold qt; rw [hx]
      have er : qr P (t + 1) = 0 := by unfold qr; rw [hx]; rfl
      have en : qn P (t + 1 + 1) = qn P (t + 1) + 1 := by rw [qn_s P (t + 1), hx]; rfl
      refine ⟨v', ?_, ?_⟩
      · rw [qe_s P (t + 1), eq, Nat.zero_add, qi_s P (t + 1), qk_s P (t + 1), qc_s P (t + 1), hx]
        exact a5
      · rw [eq, oz_0] at o3
        rw [en, o1, o2, er]
        omega
/-- how many lines are out in the best laying, read off what it comes to -/
theorem q_out (hV : VB P) {v0 : Nat} (hv : VT P = some v0) : sm (isO P) (tt P) = v0 / 1000 % 1000 := by
  have htt := tt_le hV
  have h12 := hV.1
  by_cases c : tt P = 0
  · have : v0 = 0 := by
      unfold VT at hv
      rw [if_pos c] at hv
      exact (Option.some.inj hv).symm
    rw [c, this]; rfl
  · obtain ⟨v, h1, h2⟩ := q_sum hV hv (tt P - 1) (by omega)
    rw [show tt P - 1 + 1 = tt P by omega] at h1 h2
    rw [Nat.sub_self, V_0] at h1
    have hv0 : v = 0 := (Option.some.inj h1).symm
    have s1 := sm_le (f := isO P) (b := 1) (tt P) (fun q _ => isO_le P q)
    have s2 := qr_sum hV (tt P - 1) (by omega)
    have s3 : sm (qr P) (tt P) = sm (qr P) (tt P - 1) + qr P (tt P - 1) := by
      obtain ⟨t, ht⟩ : ∃ t, tt P = t + 1 := ⟨tt P - 1, by omega⟩
      rw [ht]; rfl
    have s4 := (q_bd hV hv (t := tt P - 1) (by omega)).2.2.2
    have s5 := (q_t hV (t := tt P - 1) (by omega)).1
    have s6 : sm (qr P) (tt P) < 1000 := by
      by_cases d : qk P (tt P - 1) = 0
      · rw [if_pos d] at s2; omega
      · rw [if_neg d] at s2; omega
    omega
end SU
/-! RELIEF -/
/-- the book in which one item has MOST 30 -/
def wd (P : Pb) (i : Nat) : Pb := sMH P (fun j => if j = i then 30 else pM P j) (ph P)
def ou (P : Pb) : Nat := (VT P).getD 0 / 1000 % 1000
theorem ou_lt (P : Pb) : ou P < 1000 := Nat.mod_lt _ (by omega)
theorem wdn_V {P : Pb} (hV : VB P) {i : Nat} (hi : i < pn P) (hk : ¬ pK P i = 0) : VB (wd P i) := ⟨hV.1, hV.2.1, hV.2.2.1, hV.2.2.2.1, hV.2.2.2.2.1, fun j hj => by
  obtain ⟨a, b, c⟩ := hV.2.2.2.2.2 j hj
  by_cases e : j = i
  · subst e
    have c1 := c hk
    refine ⟨a, fun q => absurd q hk, fun q => ⟨c1.1, c1.2.1, ?_, ?_⟩⟩
    · show pL P j ≤ if j = j then 30 else pM P j
      rw [if_pos rfl]; omega
    · show (if j = j then 30 else pM P j) ≤ 30
      rw [if_pos rfl]; exact Nat.le_refl _
  · have em : pM (wd P i) j = pM P j := by
      show (if j = i then 30 else pM P j) = _
      rw [if_neg e]
    refine ⟨a, fun q => ?_, fun q => ?_⟩
    · rw [em]; exact b q
    · rw [em]; exact c q⟩
theorem wdn_30 {P : Pb} {i : Nat} (h : pM P i = 30) : wd P i = P := by
  have e : (fun j => if j = i then 30 else pM P j) = pM P := by
    funext j
    by_cases c : j = i
    · rw [if_pos c, c, h]
    · rw [if_neg c]
  unfold wd
  rw [e]; rfl
theorem wdn_T {P : Pb} (hV : VB P) {i v : Nat} (hi : i < pn P) (hk : ¬ pK P i = 0) (hv : VT P = some v) : ∃ v', VT (wd P i) = some v' := by
  have hm := VI_of hV hi
  obtain ⟨v', a, -⟩ := mostT_le (P := P) (M := pM P) (M' := fun j => if j = i then 30 else pM P j) (h := ph P) hV (wdn_V hV hi hk) (fun j => by
    by_cases c : j = i
    · show pM P j ≤ if j = i then 30 else pM P j
      rw [if_pos c, c]; exact hm.2.1
    · show pM P j ≤ if j = i then 30 else pM P j
      rw [if_neg c]; exact Nat.le_refl _) hv
  exact ⟨v', a⟩
theorem cvt_out (v : Nat) : cvt v % 1048576 / 1024 = v / 1000 % 1000 := by
  unfold cvt
  have h1 : v / 1000 % 1000 < 1000 := Nat.mod_lt _ (by omega)
  have h2 : v % 1000 < 1000 := Nat.mod_lt _ (by omega)
  omega
theorem xr_eq {P : Pb} (hV : VB P) {bK bZ bL bM : Nat → Int32} {bi bg bh : Int32} (hR : RB P bK bZ bL bM bi bg bh) {i v : Nat} (hi : i < pn P) (hk : ¬ pK P i = 0) (hv : VT P = some v) (sB sO : Nat → Int32) (sh sw sr : Int32) : ∃ sB' sO' sh' sw' sr', fX_reliefBy (nI i) bK bZ bL bM bi bg bh sB sO sh sw sr (nI (ou P)) = some (nI (ou P) - nI (ou (wd P i)), sB', sO', sh', sw', sr') := by
  have h12 := hV.1
  have hm := VI_of hV hi
  obtain ⟨r1, r2, r3, r4⟩ := hR.2.2.2 i hi
  unfold fX_reliefBy
  rw [ig_f (show i < 12 by omega) (by omega), nI_clamp (by omega), r4]
  by_cases c : pM P i = 30
  · rw [if_pos (by rw [c, ← ln_30]), wdn_30 c, Int32.sub_self]
    exact ⟨_, _, _, _, _, rfl⟩
  · rw [if_neg (by rw [ln_30, nI_eq (by omega) (by omega)]; exact c)]
    have hE := wdn_V hV hi hk
    have hS : RS (wd P i) bh (nI i) 0 bK bZ bL bM bi bg := ⟨hR.1, hR.2.1, hR.2.2.1, Or.inl rfl, fun j hj => by
      have hj : j < pn P := hj
      obtain ⟨a, b, c, d⟩ := hR.2.2.2 j hj
      refine ⟨a, b, c, ?_⟩
      rw [if_pos rfl]
      show _ = nI (if j = i then 30 else pM P j)
      by_cases e : j = i
      · rw [if_pos (by rw [e]), if_pos e, ln_30]
      · rw [if_neg (by rw [nI_eq (by omega) (by omega)]; exact e), if_neg e]; exact d⟩
    obtain ⟨sB', sO', k1, -⟩ := all_eq hE hS sB sO
    obtain ⟨v', hv'⟩ := wdn_T hV hi hk hv
    have hb := Dg_cvt (VT_le hE hv') (by omega) (by omega)
    have ec : cN (VT (wd P i)) = cvt v' := by rw [hv']; rfl
    have eo : ou (wd P i) = v' / 1000 % 1000 := by unfold ou; rw [hv']; rfl
    unfold fS_weigh
    rw [k1, bd3_s, bd6_s, ec, ln_1048576, pk_rem (by omega) (by omega) (by omega), ln_1024, pk_div (by have := Nat.mod_lt (cvt v') (show 1048576 > 0 by omega); omega) (by omega) (by omega), cvt_out, eo]
    exact ⟨_, _, _, _, _, rfl⟩
theorem mo_out {v : Nat} (hv : v < 2 ^ 31) : fM_outOf (nI v) = some (nI (v / 1000 % 1000)) := by
  unfold fM_outOf
  rw [ln_1000, pk_div hv (by omega) (by omega), pk_rem (by omega) (by omega) (by omega)]
theorem mr_eq2 {P : Pb} (hV : VB P) {gS : Nat → Int32} (hR : RG P 0 gS) {i v : Nat} (hi : i < pn P) (hk : ¬ pK P i = 0) (hv : VT P = some v) (gO gL gT gB : Nat → Int32) (gn : Int32) : ∃ gO' gL' gT' gB' gn', fM_reliefBy (nI i) gS gO gL gT gB gn = some (nI (ou P) - nI (ou (wd P i)), gS, gO', gL', gT', gB', gn') := by
  have h12 := hV.1
  have hE := wdn_V hV hi hk
  have hS : RG (wd P i) 0 (upd gS (36 + i) 30) := by
    refine ⟨?_, ?_, ?_, fun j hj => ?_⟩
    · rw [pk_un (by omega)]; exact hR.1
    · rw [pk_un (by omega)]; exact hR.2.1
    · rw [pk_un (by omega)]; exact hR.2.2.1
    · have hj : j < pn P := hj
      obtain ⟨a, b, c, d⟩ := hR.2.2.2 j hj
      rw [pk_un (by omega), pk_un (by omega), pk_un (by omega)]
      refine ⟨a, b, c, ?_⟩
      show _ = nI (if j = i then 30 else pM P j)
      by_cases e : j = i
      · rw [e, Nat.zero_add, pk_us, if_pos rfl, ln_30]
      · rw [pk_un (by omega), if_neg e]; exact d
  obtain ⟨gO1, gL1, gT1, gB1, k1, -, -⟩ := m_solve hV hR gO gL gT gB gn
  obtain ⟨gO2, gL2, gT2, gB2, k2, -, -⟩ := m_solve hE hS gO1 gL1 gT1 gB1 (nI (tt P))
  obtain ⟨v', hv'⟩ := wdn_T hV hi hk hv
  have hu : upd (upd gS (36 + i) 30) (36 + i) (gS (36 + i)) = gS := by
    funext q
    by_cases e : q = 36 + i
    · rw [e, pk_us]
    · rw [pk_un e, pk_un e]
  have e1 : ou P = v / 1000 % 1000 := by unfold ou; rw [hv]; rfl
  have e2 : ou (wd P i) = v' / 1000 % 1000 := by unfold ou; rw [hv']; rfl
  unfold fM_reliefBy
  rw [ln_36, nI_add, ig_f (show 36 + i < 51 by omega) (by omega), nI_clamp (by omega), k1, bd6_s, hv, oi_some, mo_out (VT_lt hV hv), bd1_s, ig_g (show 36 + i < 51 by omega) (by omega), k2, bd6_s, hv', oi_some, mo_out (VT_lt hE hv'), bd1_s, ig_g (show 36 + i < 51 by omega) (by omega), hu, e1, e2]
  exact ⟨_, _, _, _, _, rfl⟩
