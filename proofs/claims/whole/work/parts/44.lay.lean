section ML
variable {P : Pb} {gS gO gL gT gB : Nat → Int32}
abbrev LR : Type := Option (Int32 × (Nat → Int32) × (Nat → Int32) × (Nat → Int32) × (Nat → Int32) × (Nat → Int32) × (Nat → Int32) × (Nat → Int32) × (Nat → Int32) × Int32)
abbrev LK15 : Type := Int32 → Int32 → Int32 → (Nat → Int32) → (Nat → Int32) → (Nat → Int32) → (Nat → Int32) → (Nat → Int32) → (Nat → Int32) → (Nat → Int32) → (Nat → Int32) → (Nat → Int32) → Int32 → LR
theorem m_stand {t : Nat} (ht : t < 144) {a b c d : Int32} (hd : d = 0 ∨ d = 1) (gC gP gR gG : Nat → Int32) : fM_stand (nI t) a b c d gC gP gR gG = some (upd gC t a, upd gP t b, upd gR t c, upd gG t d) := by
  unfold fM_stand
  rw [ig_f ht (by omega), ig_f ht (by omega), ig_f ht (by omega), ig_f ht (by omega), nI_clamp (by omega), if_neg (fun q => q hd)]
theorem oi_inj {a b : Option Nat} (ha : ∀ x, a = some x → x < 2 ^ 31) (hb : ∀ x, b = some x → x < 2 ^ 31) (h : oi a = oi b) : a = b := by
  have n6 : ∀ v, v < 2 ^ 31 → ¬ nI v = -6 := fun v hv q => by
    have := nI_pos hv
    rw [q] at this
    exact absurd (by decide) this
  cases a with
  | none =>
    cases b with
    | none => rfl
    | some b => exact absurd h.symm (n6 b (hb b rfl))
  | some a =>
    cases b with
    | none => exact absurd h (n6 a (ha a rfl))
    | some b =>
      have : nI a = nI b := h
      rw [nI_eq (ha a rfl) (hb b rfl)] at this
      rw [this]
/-- the first room that comes to what is due -/
theorem m_seek (hV : VB P) (h : RG P 0 gS) (hT : TH P gO gL gT) {r i k e c v : Nat} (ha : At P (r + 1) i k) (hB : TB P gB r (nx P i k).1 (nx P i k).2) (he : e ≤ 200) (hc : c < 3) (hv : v ≤ 145000000) (K : LK15) (gC gP gR gG : Nat → Int32) (gn : Int32) : ∀ (d n x : Nat), x ≤ pM P i + 1 → pM P i + 1 - x ≤ d → d < n →
    fM_layBest_b70 K n (nI e) (nI c) (nI (pr P i + k)) (nI v) (nI x) gS gO gL gT gB gC gP gR gG gn = fM_layBest_b109 K (nI e) (nI c) (nI (pr P i + k)) (nI ((fd (wi P i e (fun e' => V P r (nx P i k).1 (nx P i k).2 e' (nc P i k c))) (some v) x (pM P i + 1 - x)).getD (pM P i + 1))) gS gO gL gT gB gC gP gR gG gn
  | d, 0, _, _, _, hh => absurd hh (Nat.not_lt_zero _)
  | d, n + 1, x, h0, h1, h2 => by
    have h12 := hV.1
    have ht := tt_le hV
    obtain ⟨hi, hk⟩ := ha.2.resolve_left (by omega)
    have hl := pr_lt (P := P) hi hk
    have h144 : pr P i + k < 144 := by unfold tt at ht; omega
    obtain ⟨t1, t2, t3⟩ := hT i k hi hk
    have f4 := (h.2.2.2 i hi).2.2.2
    rw [Nat.zero_add] at f4
    have hm := VI_of hV hi
    rw [fM_layBest_b70]
    rw [ig_f (show pr P i + k < 144 by omega) (by omega), nI_clamp (show pr P i + k < 2 ^ 31 by omega), t1, ln_36, nI_add, ig_f (show 36 + i < 51 by omega) (by omega), nI_clamp (show 36 + i < 2 ^ 31 by omega), f4]
    by_cases c1 : pM P i < x
    · have e1 : pM P i + 1 - x = 0 := by omega
      have e2 : x = pM P i + 1 := by omega
      rw [if_pos (by rw [nI_ltI (by omega) (by omega)]; exact c1), e1, e2]
      rfl
    · rw [if_neg (by rw [nI_ltI (by omega) (by omega)]; exact c1), m_with hV h hT ha hB he hc (by omega), bd1_s]
      obtain ⟨m', hm'⟩ : ∃ m', pM P i + 1 - x = m' + 1 := ⟨pM P i - x, by omega⟩
      have hw : ∀ y, wi P i e (fun e' => V P r (nx P i k).1 (nx P i k).2 e' (nc P i k c)) x = some y → y ≤ 145000000 := fun y hy => m_own hV ha (j := x) (m := 1) (by omega) (show om (wi P i e (fun e' => V P r (nx P i k).1 (nx P i k).2 e' (nc P i k c)) x) none = some y by rw [om_none]; exact hy)
      rw [hm', fd]
      by_cases c2 : wi P i e (fun e' => V P r (nx P i k).1 (nx P i k).2 e' (nc P i k c)) x = some v
      · rw [if_pos c2, c2, oi_some, if_pos rfl]
        rfl
      · have c3 : ¬ oi (wi P i e (fun e' => V P r (nx P i k).1 (nx P i k).2 e' (nc P i k c)) x) = nI v := fun q => c2 (oi_inj (fun y hy => by have := hw y hy; omega) (fun y hy => by cases hy; omega) (show oi _ = oi (some v) from q))
        rw [if_neg c2, if_neg c3, nI_1]
        rw [m_seek hV h hT ha hB he hc hv K gC gP gR gG gn (d - 1) n (x + 1) (by omega) (by omega) (by omega)]
        have e2 : pM P i + 1 - (x + 1) = m' := by omega
        rw [e2]
end ML
/-- the reference's laying loop -/
theorem m_lay {P : Pb} {gS gO gL gT gB : Nat → Int32} (hV : VB P) (h : RG P 0 gS) (hT : TH P gO gL gT) (hA : TA P gB 1) {v0 : Nat} (hv0 : VT P = some v0) : ∀ (d n t : Nat) (gC gP gR gG : Nat → Int32), t ≤ tt P → tt P - t ≤ d → d < n → LB P gC gP gR gG t →
    ∃ gC' gP' gR' gG', fM_layBest_b15 n (nI (qe P t)) (nI (qc P t)) (nI t) gS gO gL gT gB gC gP gR gG (nI (tt P)) = some (1, gO, gL, gT, gB, gC', gP', gR', gG', nI (tt P)) ∧ LB P gC' gP' gR' gG' (tt P)
  | d, 0, _, _, _, _, _, _, _, hh, _ => absurd hh (Nat.not_lt_zero _)
  | d, n + 1, t, gC, gP, gR, gG, h0, h1, h2, hL => by
    have h12 := hV.1
    have htt := tt_le hV
    have hph := hV.2.2.2.2.1
    rw [fM_layBest_b15]
    by_cases c0 : tt P ≤ t
    · have e : t = tt P := by omega
      rw [if_pos (by rw [nI_leI (by omega) (by omega)]; exact c0)]
      exact ⟨gC, gP, gR, gG, rfl, e ▸ hL⟩
    · rw [if_neg (by rw [nI_leI (by omega) (by omega)]; exact c0)]
      have ht : t < tt P := by omega
      obtain ⟨hi, hk, hik⟩ := q_t hV ht
      obtain ⟨b1, b2, b3, b4⟩ := q_bd hV hv0 ht
      obtain ⟨t1, t2, t3⟩ := hT _ _ hi hk
      rw [hik] at t1 t2 t3
      have hta := ta_b hV hi
      have hcol : qo P t = qn P t + (if (qx P t).isNone then 1 else 0) - 1 := qo_s
      have hnext : ∀ gC1 gP1 gR1 gG1, LB P gC1 gP1 gR1 gG1 (t + 1) → fM_layBest_b214 (fM_layBest_b15 n) (nI (qc P (t + 1))) (nI t) gS gO gL gT gB gC1 gP1 gR1 gG1 (nI (tt P)) = fM_layBest_b15 n (nI (qe P (t + 1))) (nI (qc P (t + 1))) (nI (t + 1)) gS gO gL gT gB gC1 gP1 gR1 gG1 (nI (tt P)) := by
        intro gC1 gP1 gR1 gG1 hL1
        unfold fM_layBest_b214
        rw [ig_f (show t < 144 by omega) (by omega), ig_f (show t < 144 by omega) (by omega), nI_clamp (by omega), (hL1 t (by omega)).2.1, t3, nI_add, nI_1, qe_s]
      have hstep : ∀ gC1 gP1 gR1 gG1, gC1 = upd gC t (nI (qo P t)) → gP1 = upd gP t (nI (qt P t)) → gR1 = upd gR t (nI (qr P t)) → gG1 = upd gG t (nI (if (qx P t).isNone then 1 else 0)) → LB P gC1 gP1 gR1 gG1 (t + 1) := by
        intro gC1 gP1 gR1 gG1 e1 e2 e3 e4 q hq
        subst e1; subst e2; subst e3; subst e4
        by_cases e : q = t
        · subst e
          simp only [pk_us, and_self]
        · simp only [pk_un e]
          exact hL q (by omega)
      have hgo : ∀ gC1 gP1 gR1 gG1, LB P gC1 gP1 gR1 gG1 (t + 1) → ∃ gC' gP' gR' gG', fM_layBest_b214 (fM_layBest_b15 n) (nI (qc P (t + 1))) (nI t) gS gO gL gT gB gC1 gP1 gR1 gG1 (nI (tt P)) = some (1, gO, gL, gT, gB, gC', gP', gR', gG', nI (tt P)) ∧ LB P gC' gP' gR' gG' (tt P) := by
        intro gC1 gP1 gR1 gG1 hL1
        rw [hnext _ _ _ _ hL1]
        exact m_lay hV h hT hA hv0 (d - 1) n (t + 1) gC1 gP1 gR1 gG1 (by omega) (by omega) (by omega) hL1
      have hfirst : qx P t = none → ∃ gC' gP' gR' gG', fM_layBest_b164 (fM_layBest_b15 n) (nI t) (nI t) (nI (qo P t)) gS gO gL gT gB gC gP gR gG (nI (tt P)) = some (1, gO, gL, gT, gB, gC', gP', gR', gG', nI (tt P)) ∧ LB P gC' gP' gR' gG' (tt P) := by
        intro hx
        have ec : qc P (t + 1) = fc P (qi P t) := by rw [qc_s, hx]; rfl
        have e1 : qt P t = 0 := by unfold qt; rw [hx]
        have e2 : qr P t = 0 := by unfold qr; rw [hx]; rfl
        have hm := m_line hV h hT hi hk
        rw [hik] at hm
        unfold fM_layBest_b164 fM_layBest_b183
        rw [m_stand (show t < 144 by omega) (Or.inr rfl), bd4_s, hm, bd1_s]
        have hL1 := hstep (upd gC t (nI (qo P t))) (upd gP t 0) (upd gR t 0) (upd gG t 1) rfl (by rw [e1, ln_0]) (by rw [e2, ln_0]) (by rw [hx]; show _ = upd gG t (nI 1); rw [ln_1])
        have hg := hgo _ _ _ _ hL1
        rw [ec] at hg
        unfold fc at hg
        by_cases e : pK P (qi P t) = 0
        · rw [if_pos e] at hg ⊢
          rw [if_neg one_ne, ln_1]
          rw [ln_1] at hg
          exact hg
        · rw [if_neg e] at hg ⊢
          rw [if_pos rfl]
          rw [nI_0] at hg
          exact hg
      by_cases ct : t = 0
      · have hx : qx P t = none := by unfold qx; rw [if_pos ct]
        have hq0 : qo P t = 0 := by rw [hcol, hx, ct]; rfl
        have hff := hfirst hx
        rw [hq0] at hff
        rw [if_pos (by rw [ct, nI_0])]
        unfold fM_layBest_b43 fM_layBest_b68
        rw [if_pos (by rw [ct, nI_0]), show fu = 99999 + 1 from rfl, fM_layBest_b70]
        have f4 := (h.2.2.2 (qi P t) hi).2.2.2
        rw [Nat.zero_add] at f4
        have hm := VI_of hV hi
        rw [ig_f (show t < 144 by omega) (by omega), nI_clamp (show t < 2 ^ 31 by omega), t1, ln_36, nI_add, ig_f (show 36 + qi P t < 51 by omega) (by omega), nI_clamp (show 36 + qi P t < 2 ^ 31 by omega), f4, if_pos (by rw [ln_31, nI_ltI (by omega) (by omega)]; omega)]
        unfold fM_layBest_b109 fM_layBest_b132 fM_layBest_b137
        rw [if_pos (by rw [ct, nI_0]), if_neg one_ne, if_pos (by rw [ct, nI_0])]
        rw [nI_0] at hff
        exact hff
      · obtain ⟨t', rfl⟩ : ∃ t', t = t' + 1 := ⟨t - 1, by omega⟩
        obtain ⟨he, v, hv⟩ := q_V hV hv0 t' (by omega)
        have hc3 := qc_lt P (t' + 1)
        have e0 : tt P - (t' + 1) = tt P - (t' + 1) - 1 + 1 := by omega
        have ha : At P (tt P - (t' + 1) - 1 + 1) (qi P (t' + 1)) (qk P (t' + 1)) := by rw [← e0]; exact q_At hV _ (by omega)
        have hrow := hA (tt P - (t' + 1)) _ _ (q_At hV _ (by omega)) (by omega) (qe P (t' + 1)) (qc P (t' + 1)) he hc3
        rw [show tt P - (tt P - (t' + 1)) = t' + 1 by omega, hv, oi_some] at hrow
        have hvb : v ≤ 145000000 := by
          have := V_le hV _ _ _ _ _ v (q_At hV (t' + 1) (by omega)) hv
          omega
        have hB := hA _ _ _ (At_nx hV ha) (by omega)
        have hx : qx P (t' + 1) = fd (wi P (qi P (t' + 1)) (qe P (t' + 1)) (fun e' => V P (tt P - (t' + 1) - 1) (nx P (qi P (t' + 1)) (qk P (t' + 1))).1 (nx P (qi P (t' + 1)) (qk P (t' + 1))).2 e' (nc P (qi P (t' + 1)) (qk P (t' + 1)) (qc P (t' + 1))))) (some v) (pL P (qi P (t' + 1))) (pM P (qi P (t' + 1)) + 1 - pL P (qi P (t' + 1))) := by
          have h3 : V P (tt P - (t' + 1) - 1 + 1) (qi P (t' + 1)) (qk P (t' + 1)) (qe P (t' + 1)) (qc P (t' + 1)) = some v := by rw [← e0]; exact hv
          rw [← h3]
          unfold qx
          rw [if_neg (by omega), e0]
          rfl
        have hm := VI_of hV hi
        have f3 := (h.2.2.2 _ hi).2.2.1
        have f4 := (h.2.2.2 _ hi).2.2.2
        rw [Nat.zero_add] at f3 f4
        have hseek := m_seek hV h hT ha hB (show qe P (t' + 1) ≤ 200 by omega) hc3 hvb (fM_layBest_b15 n) gC gP gR gG (nI (tt P)) 31 fu (pL P (qi P (t' + 1))) (by omega) (by omega) (by rw [fu_eq]; omega)
        rw [hik, ← hx] at hseek
        have hprev := (hL t' (by omega)).1
        have hqo : qo P t' = qn P (t' + 1) - 1 := rfl
        have hqn := qn_pos P (t' + 1) (by omega)
        have tne : ¬ nI (t' + 1) = 0 := nI_ne0 (by omega) (by omega)
        rw [if_neg tne, m_at, bd1_s]
        have hlt : (201 * (t' + 1) + qe P (t' + 1)) * 3 + qc P (t' + 1) < 87435 := by omega
        generalize (201 * (t' + 1) + qe P (t' + 1)) * 3 + qc P (t' + 1) = z at hlt hrow ⊢
        rw [ig_f hlt (by omega), nI_clamp (by omega), hrow]
        unfold fM_layBest_b43 fM_layBest_b68
        rw [if_neg tne, ig_f (show t' + 1 < 144 by omega) (by omega), nI_clamp (show t' + 1 < 2 ^ 31 by omega), t1, ln_24, nI_add, ig_f (show 24 + qi P (t' + 1) < 51 by omega) (by omega), nI_clamp (show 24 + qi P (t' + 1) < 2 ^ 31 by omega), f3, hseek]
        unfold fM_layBest_b109 fM_layBest_b132 fM_layBest_b137
        rw [if_neg tne, ig_f (show t' + 1 < 144 by omega) (by omega), nI_clamp (show t' + 1 < 2 ^ 31 by omega), t1, ln_36, nI_add, ig_f (show 36 + qi P (t' + 1) < 51 by omega) (by omega), nI_clamp (show 36 + qi P (t' + 1) < 2 ^ 31 by omega), f4]
        rw [nI_pred]
        simp (disch := omega) only [ig_f, ig_g, nI_clamp, hprev]
        cases hxx : qx P (t' + 1) with
        | none =>
          have hff := hfirst hxx
          have hq2 : qo P (t' + 1) = qo P t' + 1 := by rw [hcol, hxx, hqo]; show qn P (t' + 1) + 1 - 1 = _; omega
          rw [hq2] at hff
          show ∃ gC' gP' gR' gG', (if nI (pM P (qi P (t' + 1)) + 1) ≤ nI (pM P (qi P (t' + 1))) then _ else _) = _ ∧ _
          rw [if_neg (by rw [nI_leI (by omega) (by omega)]; omega), if_neg one_ne, if_neg tne, nI_1]
          exact hff
        | some x =>
          have hxb : x ≤ pM P (qi P (t' + 1)) := by
            have h1 : fd _ _ _ _ = some x := hx.symm.trans hxx
            obtain ⟨a1, a2, -, -⟩ := fd_some h1
            omega
          have e1 : qt P (t' + 1) = qe P (t' + 1) + x := by unfold qt; rw [hxx]
          have e2 : qr P (t' + 1) = x := by unfold qr; rw [hxx]; rfl
          have e3 : qo P (t' + 1) = qo P t' := by rw [hcol, hxx, hqo]; show qn P (t' + 1) + 0 - 1 = _; omega
          have ec : qc P (t' + 1 + 1) = nc P (qi P (t' + 1)) (qk P (t' + 1)) (qc P (t' + 1)) := by rw [qc_s P (t' + 1), hxx]; rfl
          have hln := m_lines hV h hT hi hk hc3
          rw [hik] at hln
          show ∃ gC' gP' gR' gG', (if nI x ≤ nI (pM P (qi P (t' + 1))) then _ else _) = _ ∧ _
          rw [if_pos (by rw [nI_leI (by omega) (by omega)]; exact hxb), if_pos trivial, m_stand (show t' + 1 < 144 by omega) (Or.inl rfl), bd4_s, hln, bd1_s, ← ec]
          exact hgo _ _ _ _ (hstep _ _ _ _ (by rw [e3]) (by rw [e1, nI_add]; rfl) (by rw [e2]; rfl) (by rw [hxx]; show _ = upd gG (t' + 1) (nI 0); rw [ln_0]))
/-- the reference lays the best laying, or says that there is none -/
theorem m_layBest {P : Pb} {gS : Nat → Int32} (hV : VB P) (h : RG P 0 gS) (gO gL gT gB gC gP gR gG : Nat → Int32) (gn : Int32) : ∃ gO' gL' gT' gB' gC' gP' gR' gG', fM_layBest gS gO gL gT gB gC gP gR gG gn = some (if VT P = none then 0 else 1, gO', gL', gT', gB', gC', gP', gR', gG', nI (tt P)) ∧ TH P gO' gL' gT' ∧ (VT P ≠ none → LB P gC' gP' gR' gG' (tt P)) := by
  obtain ⟨gO', gL', gT', gB', k1, hT, hA⟩ := m_solve hV h gO gL gT gB gn
  have ht := tt_le hV
  unfold fM_layBest
  rw [k1, bd6_s]
  cases hv : VT P with
  | none =>
    refine ⟨gO', gL', gT', gB', gC, gP, gR, gG, ?_, hT, fun q => absurd rfl q⟩
    rw [oi_none, if_neg oi_neg, if_pos rfl]
  | some v =>
    have hb : v < 2 ^ 31 := by
      unfold VT at hv
      by_cases c0 : tt P = 0
      · rw [if_pos c0] at hv; cases hv; omega
      · rw [if_neg c0] at hv
        by_cases c1 : ta P 0 ≤ ph P
        · rw [if_pos c1] at hv
          obtain ⟨z, z1, z2⟩ := oa_some hv
          have a0 : At P (tt P - 1 + 1) 0 0 := by rw [show tt P - 1 + 1 = tt P by omega]; exact At_0 hV
          have := V_le hV _ _ _ _ _ z (At_nx hV a0) z1
          omega
        · rw [if_neg c1] at hv; cases hv
    obtain ⟨gC', gP', gR', gG', m1, m2⟩ := m_lay hV h hT hA hv 144 fu 0 gC gP gR gG (by omega) (by omega) (by rw [fu_eq]; omega) (fun q hq => absurd hq (Nat.not_lt_zero _))
    refine ⟨gO', gL', gT', gB', gC', gP', gR', gG', ?_, hT, fun _ => m2⟩
    rw [oi_some, if_pos (nI_pos' hb), if_neg (by simp)]
    have e1 : nI (qe P 0) = 0 := nI_0
    have e2 : nI (qc P 0) = 2 := by show nI 2 = 2; rw [ln_2]
    rw [e1, e2, nI_0] at m1
    exact m1
