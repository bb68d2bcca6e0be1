/-! THE CLASS'S LAYING IS THE BEST LAYING -/
/-- the things before t are laid -/
def LAr (P : Pb) (t : Nat) (lI lC lT lR : Nat → Int32) : Prop := ∀ q, q < t → lI q = nI (qi P q) ∧ lC q = nI (qo P q) ∧ lT q = nI (qt P q) ∧ lR q = nI (qr P q)
def LA (P : Pb) (t : Nat) (lI lC lT lR : Nat → Int32) (lth lro lsp lle lco lou : Int32) : Prop := LAr P t lI lC lT lR ∧ lth = nI t ∧ lro = nI (sm (qr P) t) ∧ lsp = nI (sm (isS P) t) ∧ lle = nI (sm (isE P) (t - 1)) ∧ lco = nI (qn P t) ∧ lou = nI (sm (isO P) t)
section FO
variable {P : Pb} {sh sw sr : Int32} {bK bZ bL bM : Nat → Int32} {bi bg bh : Int32}
theorem q_ik (hV : VB P) {i k : Nat} (hi : i < pn P) (hk : k < tn P i) : qi P (pr P i + k) = i ∧ qk P (pr P i + k) = k ∧ pr P i + k < tt P := by
  have ht : pr P i + k < tt P := pr_lt (P := P) hi hk
  obtain ⟨a1, a2, a3⟩ := q_t hV ht
  have e : qi P (pr P i + k) = i := by
    rcases Nat.lt_trichotomy (qi P (pr P i + k)) i with c | c | c
    · have := pr_mono (P := P) (show qi P (pr P i + k) + 1 ≤ i from c)
      rw [pr_s] at this
      omega
    · exact c
    · have := pr_mono (P := P) (show i + 1 ≤ qi P (pr P i + k) from c)
      rw [pr_s] at this
      omega
  rw [e] at a3
  exact ⟨e, by omega, ht⟩
theorem sm_le {f : Nat → Nat} {b : Nat} : ∀ t, (∀ q, q < t → f q ≤ b) → sm f t ≤ t * b
  | 0, _ => Nat.zero_le _
  | t + 1, h => by
    have h1 := sm_le t (fun q hq => h q (by omega))
    have h2 := h t (by omega)
    rw [sm, Nat.add_mul]
    omega
theorem pt_eq (hV : VB P) (h : RS P sh sw sr bK bZ bL bM bi bg) {v0 : Nat} (hv : VT P = some v0) {t : Nat} (ht : t < tt P) {lI lC lT lR : Nat → Int32} (hL : LAr P t lI lC lT lR) : fL_putThing (nI (qi P t)) (nI (qt P t)) (nI (qr P t)) lI lC lT lR (nI t) (nI (qn P (t + 1))) (nI (sm (isO P) t)) bK bg = some (upd lI t (nI (qi P t)), upd lC t (nI (qo P t)), upd lT t (nI (qt P t)), upd lR t (nI (qr P t)), nI (t + 1), nI (sm (isO P) (t + 1))) ∧ LAr P (t + 1) (upd lI t (nI (qi P t))) (upd lC t (nI (qo P t))) (upd lT t (nI (qt P t))) (upd lR t (nI (qr P t))) := by
  have htt := tt_le hV
  have h12 := hV.1
  obtain ⟨hi, hk, hik⟩ := q_t hV ht
  obtain ⟨b1, b2, b3, b4⟩ := q_bd hV hv ht
  have hn := qn_pos P (t + 1) (by omega)
  refine ⟨?_, fun q hq => ?_⟩
  · unfold fL_putThing fL_putThing_b88
    have hlt : t < 144 := by omega
    rw [if_pos (by rw [ln_144, nI_ltI (by omega) (by omega)]; exact hlt), ig_f hlt (by omega), ig_f hlt (by omega), ig_f hlt (by omega), ig_f hlt (by omega), b_out hV h hi (by omega), bd1_s, nI_clamp (by omega), ln_1, pk_sub hn, nI_add, nI_add]
    show _ = some (_, _, _, _, _, nI (sm (isO P) t + isO P t))
    unfold isO oz qo
    by_cases c : pK P (qi P t) = 0 ∧ ¬ qt P t % pg P = 0
    · rw [if_pos c, if_pos c, if_neg (show ¬ (1000 : Nat) = 0 by omega), if_neg (show ¬ nI 1 = (0 : Int32) by decide +kernel)]
    · rw [if_neg c, if_neg c, if_pos rfl, if_pos rfl]; rfl
  · by_cases e : q = t
    · subst e
      simp only [pk_us, and_self]
    · simp only [pk_un e]
      exact hL q (by omega)
theorem isE_b (P : Pb) (t : Nat) : isE P t ≤ ph P := by
  unfold isE
  by_cases c : t + 1 = tt P ∨ (qx P (t + 1)).isNone
  · rw [if_pos c]; omega
  · rw [if_neg c]; exact Nat.zero_le _
/-- a column is opened before thing t -/
theorem oc_eq (hV : VB P) {v0 : Nat} (hv : VT P = some v0) {t : Nat} (ht : t < tt P) (hx : qx P t = none) : fL_openColumn (nI (qe P t)) (nI (sm (isE P) (t - 1))) (nI (qn P t)) (nI (ph P)) = some (nI (sm (isE P) t), nI (qn P (t + 1))) := by
  have htt := tt_le hV
  have e1 : qn P (t + 1) = qn P t + 1 := by rw [qn_s, hx]; rfl
  unfold fL_openColumn fL_openColumn_b25
  rw [nI_1, e1]
  rcases Nat.eq_zero_or_pos t with c | c
  · subst c
    have e2 : qn P 0 = 0 := rfl
    rw [e2, if_pos nI_0, ln_0, nI_add]; rfl
  · obtain ⟨t', rfl⟩ : ∃ t', t = t' + 1 := ⟨t - 1, by omega⟩
    have hq := (q_V hV hv t' (by omega)).1
    have hb := (q_bd hV hv ht).2.2.1
    rw [if_neg (nI_ne0 (qn_pos P _ c) (by omega)), pk_sub hq, nI_add]
    show some (nI (sm (isE P) t' + (ph P - qe P (t' + 1))), _) = some (nI (sm (isE P) t' + isE P t'), _)
    have e3 : isE P t' = ph P - qe P (t' + 1) := by
      unfold isE
      rw [if_pos (Or.inr (by rw [hx]; rfl)), qe_s]
    rw [e3]
theorem isE_0 {t x : Nat} (ht : t < tt P) (h0 : 0 < t) (hx : qx P t = some x) : sm (isE P) (t - 1) = sm (isE P) t := by
  obtain ⟨t', rfl⟩ : ∃ t', t = t' + 1 := ⟨t - 1, by omega⟩
  show sm (isE P) t' = sm (isE P) t' + isE P t'
  have e3 : isE P t' = 0 := by
    unfold isE
    rw [if_neg]
    rw [hx]
    intro q
    rcases q with q | q
    · omega
    · cases q
  omega
theorem q_F (hV : VB P) {v0 : Nat} (hv : VT P = some v0) {i k t : Nat} (hi : i < pn P) (hk : k < tn P i) (et : t = pr P i + k) (hc : qc P (t + 1) = fc P i) : ∃ v, Fq P (tt P - (pr P i + k + 1)) i k (qt P t) = some v := by
  obtain ⟨a1, a2, a3⟩ := q_ik hV hi hk
  rw [← et] at a1 a2 a3
  obtain ⟨h1, v, h2⟩ := q_V hV hv t a3
  rw [qi_s, qk_s, hc, qe_s, a1, a2] at h2
  rw [qe_s, a1] at h1
  refine ⟨v + oz P i (qt P t), ?_⟩
  unfold Fq
  rw [← et, if_pos h1, h2]; rfl
/-- the lines of an item behind its first thing -/
theorem pi_lp (hV : VB P) (h : RS P sh sw sr bK bZ bL bM bi bg) {v0 : Nat} (hv : VT P = some v0) {i : Nat} (hi : i < pn P) (v4 : Int32) : ∀ (d n k k0 T j : Nat) (lI lC lT lR sB sO : Nat → Int32), tn P i - k ≤ d → d < n → 1 ≤ k → k ≤ tn P i → k0 < k → BR P i k0 T j → k ≤ j → qe P (pr P i + k) = T + (k - k0) * ta P i → (pK P i = 0 → qc P (pr P i + k) = if k = k0 + 1 then 1 else 2) → LAr P (pr P i + k) lI lC lT lR → MM P sB sO (i + 1) → OT P sO i →
    ∃ lI' lC' lT' lR' sB' sO', fL_putItem_b27 n (nI i) v4 (nI (qe P (pr P i + k))) (nI j) (nI k) lI lC lT lR (nI (pr P i + k)) (nI (sm (qr P) (pr P i + k))) (nI (sm (isS P) (pr P i + k))) (nI (sm (isE P) (pr P i + k - 1))) (nI (qn P (pr P i + k))) (nI (sm (isO P) (pr P i + k))) sB sO sh sw sr bK bZ bL bM bi bg (nI (ph P)) = some (nI (qe P (pr P (i + 1))), lI', lC', lT', lR', nI (pr P (i + 1)), nI (sm (qr P) (pr P (i + 1))), nI (sm (isS P) (pr P (i + 1))), nI (sm (isE P) (pr P (i + 1) - 1)), nI (qn P (pr P (i + 1))), nI (sm (isO P) (pr P (i + 1))), sB', sO') ∧ LAr P (pr P (i + 1)) lI' lC' lT' lR' ∧ MM P sB' sO' (i + 1)
  | d, 0, _, _, _, _, _, _, _, _, _, _, _, hh, _, _, _, _, _, _, _, _, _, _ => absurd hh (Nat.not_lt_zero _)
  | d, n + 1, k, k0, T, j, lI, lC, lT, lR, sB, sO, h1, h2, h3, h4, h5, hBR, h6, h7, h8, hL, hM, hO => by
    have h12 := hV.1
    have htt := tt_le hV
    have htb := tn_b hV hi
    have hph := hV.2.2.2.2.1
    rw [fL_putItem_b27, b_things hV (rs_RB h) hi, bd1_s]
    by_cases c0 : tn P i ≤ k
    · have e : k = tn P i := by omega
      rw [if_pos (by rw [nI_leI (by omega) (by omega)]; exact c0), e]
      rw [e] at hL
      rw [← pr_s] at hL ⊢
      exact ⟨lI, lC, lT, lR, sB, sO, rfl, hL, hM⟩
    · rw [if_neg (by rw [nI_leI (by omega) (by omega)]; exact c0)]
      have hk : k < tn P i := by omega
      have hk0 : pK P i = 0 := Classical.byContradiction (fun q => by
        have : tn P i = 1 := by unfold tn; rw [if_neg q]
        omega)
      obtain ⟨t1, t2, t3, t4, t5, t6⟩ := tx_f hV hi hk0
      obtain ⟨a1, a2, a3⟩ := q_ik hV hi hk
      have hqc := h8 hk0
      have hta := ta_b hV hi
      have hqx : qx P (pr P i + k) = ch P (tt P - (pr P i + k)) i k (T + (k - k0) * ta P i) (if k = k0 + 1 then 1 else 2) := by
        unfold qx
        rw [if_neg (by omega), a1, a2, h7, hqc]
      -- putting the thing, and the rest
      have put : ∀ (j' k0' T' : Nat) (sB1 sO1 : Nat → Int32), k0' < k + 1 → BR P i k0' T' j' → k + 1 ≤ j' → qe P (pr P i + k + 1) = T' + (k + 1 - k0') * ta P i → (qc P (pr P i + k + 1) = if k + 1 = k0' + 1 then 1 else 2) → qr P (pr P i + k) = 0 → MM P sB1 sO1 (i + 1) → OT P sO1 i →
          ∃ lI' lC' lT' lR' sB' sO', fL_putItem_b77 (fL_putItem_b27 n) (nI i) v4 (nI (qt P (pr P i + k))) (nI j') (nI k) lI lC lT lR (nI (pr P i + k)) (nI (sm (qr P) (pr P i + k + 1))) (nI (sm (isS P) (pr P i + k + 1))) (nI (sm (isE P) (pr P i + k))) (nI (qn P (pr P i + k + 1))) (nI (sm (isO P) (pr P i + k))) sB1 sO1 sh sw sr bK bZ bL bM bi bg (nI (ph P)) = some (nI (qe P (pr P (i + 1))), lI', lC', lT', lR', nI (pr P (i + 1)), nI (sm (qr P) (pr P (i + 1))), nI (sm (isS P) (pr P (i + 1))), nI (sm (isE P) (pr P (i + 1) - 1)), nI (qn P (pr P (i + 1))), nI (sm (isO P) (pr P (i + 1))), sB', sO') ∧ LAr P (pr P (i + 1)) lI' lC' lT' lR' ∧ MM P sB' sO' (i + 1) := by
        intro j' k0' T' sB1 sO1 p1 p2 p3 p4 p5 p6 p7 p8
        obtain ⟨w1, w2⟩ := pt_eq hV h hv a3 hL
        rw [a1, p6] at w1
        rw [a1, p6] at w2
        unfold fL_putItem_b77 fL_putItem_b92
        rw [if_neg (nI_ne0 (by omega) (by omega)), ln_0, w1, bd6_s, b_tall hV (rs_RB h) hi, bd1_s, nI_1, nI_add]
        have e9 : qt P (pr P i + k) + ta P i = qe P (pr P i + k + 1) := by rw [qe_s, a1]
        rw [e9]
        exact pi_lp hV h hv hi v4 (d - 1) n (k + 1) k0' T' j' _ _ _ _ sB1 sO1 (by omega) (by omega) (by omega) (by omega) p1 p2 p3 p4 (fun _ => p5) w2 p7 p8
      by_cases c1 : k = j
      · subst c1
        obtain ⟨b1, b2⟩ := hBR.2.2.2 hk
        have c2 : ¬ k = k0 + 1 := by omega
        rw [if_neg c2] at hqx
        rw [b2] at hqx
        have eqt : qt P (pr P i + k) = 0 := by unfold qt; rw [hqx]
        have eqr : qr P (pr P i + k) = 0 := by unfold qr; rw [hqx]; rfl
        have eqc : qc P (pr P i + k + 1) = fc P i := by rw [qc_s, hqx, a1]; rfl
        have eis : isS P (pr P i + k) = 1 := by
          unfold isS
          rw [if_pos ⟨by rw [hqx]; rfl, by rw [a1]; exact hk0, by rw [a2]; omega⟩]
        rw [if_pos rfl, oc_eq hV hv a3 hqx, bd2_s]
        obtain ⟨vF, hF⟩ := q_F hV hv hi hk rfl eqc
        rw [eqt] at hF
        obtain ⟨j', sB1, sO1, k1, k2, k3, k4⟩ := bb_eq hV h (T := 0) hi hk (by omega) hM hO hF
        rw [ln_0, k1, bd3_s, nI_1]
        have := put j' k 0 sB1 sO1 (by omega) k2 k2.1 (by rw [qe_s, a1, eqt, show k + 1 - k = 1 by omega, Nat.one_mul]) (by rw [eqc, t5, if_pos rfl]) eqr k3 k4
        have er : sm (qr P) (pr P i + k + 1) = sm (qr P) (pr P i + k) := by rw [sm, eqr, Nat.add_zero]
        have es : sm (isS P) (pr P i + k + 1) = sm (isS P) (pr P i + k) + 1 := by rw [sm, eis]
        rw [er, es, eqt] at this
        exact this
      · have hb := hBR.2.2.1 k h5 (by omega)
        rw [hb] at hqx
        have eqt : qt P (pr P i + k) = qe P (pr P i + k) := by unfold qt; rw [hqx]; rfl
        have eqr : qr P (pr P i + k) = 0 := by unfold qr; rw [hqx]; rfl
        have eqc : qc P (pr P i + k + 1) = 2 := by
          rw [qc_s, hqx, a1, a2]
          show nc P i k (qc P (pr P i + k)) = 2
          unfold nc
          rw [if_neg (fun q => q hk0), if_neg]
          rw [hqc]
          by_cases c2 : k = k0 + 1
          · rw [if_pos c2]; omega
          · rw [if_neg c2]; omega
        have eis : isS P (pr P i + k) = 0 := by
          unfold isS
          rw [if_neg]
          rw [hqx]
          rintro ⟨q, -⟩
          cases q
        rw [if_neg (by rw [nI_eq (by omega) (by have := hBR.2.1; omega)]; exact c1)]
        have := put j k0 T sB sO (by omega) hBR (by omega) (by rw [qe_s, a1, eqt, h7, show k + 1 - k0 = k - k0 + 1 by omega, Nat.add_mul]; omega) (by rw [eqc, if_neg (by omega)]) eqr hM hO
        have er : sm (qr P) (pr P i + k + 1) = sm (qr P) (pr P i + k) := by rw [sm, eqr, Nat.add_zero]
        have es : sm (isS P) (pr P i + k + 1) = sm (isS P) (pr P i + k) := by rw [sm, eis, Nat.add_zero]
        have en : qn P (pr P i + k + 1) = qn P (pr P i + k) := by rw [qn_s, hqx]; rfl
        rw [er, es, en, eqt, ← isE_0 a3 (by omega) hqx] at this
        exact this
/-- an item, its first thing's place being settled -/
theorem pi_eq (hV : VB P) (h : RS P sh sw sr bK bZ bL bM bi bg) {v0 : Nat} (hv : VT P = some v0) {i : Nat} (hi : i < pn P) {lI lC lT lR sB sO : Nat → Int32} (hL : LAr P (pr P i) lI lC lT lR) (hM : MM P sB sO (i + 1)) (hO : OT P sO i) :
    ∃ lI' lC' lT' lR' sB' sO', fL_putItem (nI i) (nI (qt P (pr P i))) (nI (qr P (pr P i))) lI lC lT lR (nI (pr P i)) (nI (sm (qr P) (pr P i))) (nI (sm (isS P) (pr P i))) (nI (sm (isE P) (pr P i))) (nI (qn P (pr P i + 1))) (nI (sm (isO P) (pr P i))) sB sO sh sw sr bK bZ bL bM bi bg (nI (ph P)) = some (nI (qe P (pr P (i + 1))), lI', lC', lT', lR', nI (pr P (i + 1)), nI (sm (qr P) (pr P (i + 1))), nI (sm (isS P) (pr P (i + 1))), nI (sm (isE P) (pr P (i + 1) - 1)), nI (qn P (pr P (i + 1))), nI (sm (isO P) (pr P (i + 1))), sB', sO') ∧ LAr P (pr P (i + 1)) lI' lC' lT' lR' ∧ MM P sB' sO' (i + 1) := by
  have h12 := hV.1
  have htt := tt_le hV
  have htb := tn_b hV hi
  have hph := hV.2.2.2.2.1
  obtain ⟨a1, a2, a3⟩ := q_ik hV hi (show 0 < tn P i by omega)
  rw [Nat.add_zero] at a1 a2 a3
  obtain ⟨b1, b2, b3, b4⟩ := q_bd hV hv a3
  have eqc : qc P (pr P i + 1) = fc P i := by
    rw [qc_s, a1, a2]
    cases hx : (qx P (pr P i)).isNone with
    | true => rfl
    | false =>
      show nc P i 0 _ = fc P i
      unfold nc fc
      by_cases e : pK P i ≠ 0
      · rw [if_pos e, if_neg e]
      · rw [if_neg e, if_pos (Or.inl rfl), if_pos (Classical.byContradiction e)]
  obtain ⟨vF, hF⟩ := q_F hV hv hi (show 0 < tn P i by omega) rfl eqc
  rw [Nat.add_zero] at hF
  obtain ⟨j, sB1, sO1, k1, k2, k3, k4⟩ := bb_eq hV h (k := 0) (T := qt P (pr P i)) hi (by omega) (by omega) hM hO (by rw [Nat.add_zero]; exact hF)
  have eis : isS P (pr P i) = 0 := by
    unfold isS
    rw [if_neg]
    rw [a2]
    rintro ⟨-, -, q⟩
    omega
  unfold fL_putItem
  rw [ln_0, k1, bd3_s, nI_add, show fu = 99999 + 1 from rfl, fL_putItem_b27, b_things hV (rs_RB h) hi, bd1_s, if_neg (by rw [nI_leI (by omega) (by omega)]; omega), if_neg (by rw [nI_eq (by omega) (by have := k2.2.1; omega)]; have := k2.1; omega)]
  obtain ⟨w1, w2⟩ := pt_eq hV h hv a3 hL
  rw [a1] at w1 w2
  unfold fL_putItem_b77 fL_putItem_b92
  rw [if_pos nI_0, w1, bd6_s, b_tall hV (rs_RB h) hi, bd1_s, nI_1, nI_add]
  have e9 : qt P (pr P i) + ta P i = qe P (pr P i + 1) := by rw [qe_s, a1]
  rw [e9]
  have := pi_lp hV h hv hi (nI (qr P (pr P i))) 12 99999 1 0 (qt P (pr P i)) j _ _ _ _ sB1 sO1 (by omega) (by omega) (by omega) (by omega) (by omega) k2 (by have := k2.1; omega) (by rw [← e9]; omega) (fun q => by rw [eqc]; unfold fc; rw [if_pos q, if_pos rfl]) w2 k3 k4
  have er : sm (isS P) (pr P i + 1) = sm (isS P) (pr P i) := by rw [sm, eis, Nat.add_zero]
  rw [er, show pr P i + 1 - 1 = pr P i by omega] at this
  exact this
/-- the class's walk -/
theorem fo_lp (hV : VB P) (h : RS P sh sw sr bK bZ bL bM bi bg) {v0 : Nat} (hv : VT P = some v0) : ∀ (d n i : Nat) (lI lC lT lR sB sO : Nat → Int32), pn P - i ≤ d → d < n → i ≤ pn P → LAr P (pr P i) lI lC lT lR → MM P sB sO i → (i = 0 → 0 < pn P → OT P sO 0) →
    ∃ lI' lC' lT' lR' sB' sO', fL_follow_b34 n (nI (qe P (pr P i))) (nI i) lI lC lT lR (nI (pr P i)) (nI (sm (qr P) (pr P i))) (nI (sm (isS P) (pr P i))) (nI (sm (isE P) (pr P i - 1))) (nI (qn P (pr P i))) (nI (sm (isO P) (pr P i))) sB sO sh sw sr bK bZ bL bM bi bg (nI (ph P)) = some (lI', lC', lT', lR', nI (tt P), nI (sm (qr P) (tt P)), nI (sm (isS P) (tt P)), nI (sm (isE P) (tt P)), nI (qn P (tt P)), nI (sm (isO P) (tt P)), sB', sO') ∧ LAr P (tt P) lI' lC' lT' lR'
  | d, 0, _, _, _, _, _, _, _, _, hh, _, _, _, _ => absurd hh (Nat.not_lt_zero _)
  | d, n + 1, i, lI, lC, lT, lR, sB, sO, h1, h2, h3, hL, hM, hO => by
    have h12 := hV.1
    have htt := tt_le hV
    have hph := hV.2.2.2.2.1
    rw [fL_follow_b34]
    by_cases c0 : pn P ≤ i
    · have e : i = pn P := by omega
      subst e
      have et : pr P (pn P) = tt P := rfl
      rw [et] at hL ⊢
      rw [h.1, if_pos (by rw [nI_leI (by omega) (by omega)]; exact Nat.le_refl _)]
      unfold fL_follow_b123
      refine ⟨lI, lC, lT, lR, sB, sO, ?_, hL⟩
      rcases Nat.eq_zero_or_pos (tt P) with c | c
      · have e2 : qn P (tt P) = 0 := by rw [c]; rfl
        rw [e2, if_pos nI_0, ln_0, nI_add]
        rw [c]
        rfl
      · obtain ⟨t', ht'⟩ : ∃ t', tt P = t' + 1 := ⟨tt P - 1, by omega⟩
        have hq := (q_V hV hv t' (by omega)).1
        have hnb := (q_bd hV hv (show t' < tt P by omega)).2.2.1
        have hn1 : qn P (t' + 1) ≤ t' + 1 := by
          rw [qn_s]
          cases (qx P t').isNone
          · show qn P t' + 0 ≤ _; omega
          · show qn P t' + 1 ≤ _; omega
        have e3 : isE P t' = ph P - qe P (t' + 1) := by
          unfold isE
          rw [if_pos (Or.inl ht'.symm), qe_s]
        rw [if_neg (nI_ne0 (qn_pos P _ c) (by rw [ht']; omega)), ht', pk_sub hq, nI_add]
        have e4 : sm (isE P) (t' + 1) = sm (isE P) t' + (ph P - qe P (t' + 1)) := by rw [sm, e3]
        rw [e4]; rfl
    · have hi : i < pn P := by omega
      have htb := tn_b hV hi
      rw [h.1, if_neg (by rw [nI_leI (by omega) (by omega)]; exact c0), ← h.1]
      obtain ⟨a1, a2, a3⟩ := q_ik hV hi (show 0 < tn P i by omega)
      rw [Nat.add_zero] at a1 a2 a3
      have next : ∀ lI1 lC1 lT1 lR1 sB1 sO1, LAr P (pr P (i + 1)) lI1 lC1 lT1 lR1 → MM P sB1 sO1 (i + 1) → ∃ lI' lC' lT' lR' sB' sO', fL_follow_b92 (fL_follow_b34 n) (nI (qe P (pr P (i + 1)))) (nI i) lI1 lC1 lT1 lR1 (nI (pr P (i + 1))) (nI (sm (qr P) (pr P (i + 1)))) (nI (sm (isS P) (pr P (i + 1)))) (nI (sm (isE P) (pr P (i + 1) - 1))) (nI (qn P (pr P (i + 1)))) (nI (sm (isO P) (pr P (i + 1)))) sB1 sO1 sh sw sr bK bZ bL bM bi bg (nI (ph P)) = some (lI', lC', lT', lR', nI (tt P), nI (sm (qr P) (tt P)), nI (sm (isS P) (tt P)), nI (sm (isE P) (tt P)), nI (qn P (tt P)), nI (sm (isO P) (tt P)), sB', sO') ∧ LAr P (tt P) lI' lC' lT' lR' := by
        intro lI1 lC1 lT1 lR1 sB1 sO1 p1 p2
        unfold fL_follow_b92
        rw [nI_1]
        exact fo_lp hV h hv (d - 1) n (i + 1) lI1 lC1 lT1 lR1 sB1 sO1 (by omega) (by omega) (by omega) p1 p2 (fun q => by omega)
      have opened : ∀ sB1 sO1, qx P (pr P i) = none → MM P sB1 sO1 (i + 1) → OT P sO1 i → ∃ lI' lC' lT' lR' sB' sO', bd2 (fL_openColumn (nI (qe P (pr P i))) (nI (sm (isE P) (pr P i - 1))) (nI (qn P (pr P i))) (nI (ph P))) (fun lle_56 lco_56 => bd13 (fL_putItem (nI i) 0 0 lI lC lT lR (nI (pr P i)) (nI (sm (qr P) (pr P i))) (nI (sm (isS P) (pr P i))) lle_56 lco_56 (nI (sm (isO P) (pr P i))) sB1 sO1 sh sw sr bK bZ bL bM bi bg (nI (ph P))) (fun r_64 lI_64 lC_64 lT_64 lR_64 lth_64 lro_64 lsp_64 lle_64 lco_64 lou_64 sB_64 sO_64 => (fL_follow_b92 (fL_follow_b34 n) r_64 (nI i) lI_64 lC_64 lT_64 lR_64 lth_64 lro_64 lsp_64 lle_64 lco_64 lou_64 sB_64 sO_64 sh sw sr bK bZ bL bM bi bg (nI (ph P))))) = some (lI', lC', lT', lR', nI (tt P), nI (sm (qr P) (tt P)), nI (sm (isS P) (tt P)), nI (sm (isE P) (tt P)), nI (qn P (tt P)), nI (sm (isO P) (tt P)), sB', sO') ∧ LAr P (tt P) lI' lC' lT' lR' := by
        intro sB1 sO1 hx p2 p3
        obtain ⟨lI1, lC1, lT1, lR1, sB2, sO2, w1, w2, w3⟩ := pi_eq hV h hv hi hL p2 p3
        have eqt : qt P (pr P i) = 0 := by unfold qt; rw [hx]
        have eqr : qr P (pr P i) = 0 := by unfold qr; rw [hx]; rfl
        rw [eqt, eqr, nI_0] at w1
        rw [oc_eq hV hv a3 hx, bd2_s, w1, bd13_s]
        exact next _ _ _ _ _ _ w2 w3
      by_cases c1 : i = 0
      · subst c1
        have e0 : fS_opens (nI 0) (nI (qe P (pr P 0))) sB sO sh sw sr bK bZ bL bM bi bg = some (1, sB, sO) := by
          unfold fS_opens fS_opens_b19 fS_opens_b24
          rw [if_pos nI_0, if_neg (fun q => q (Or.inr rfl))]
        rw [e0, bd3_s, if_neg one_ne]
        exact opened sB sO rfl (MM_mono hM (by omega)) (hO rfl (by omega))
      · have hpos : 0 < pr P i := by
          have := pr_lt (P := P) (show 0 < pn P by omega) (tn_b hV (show 0 < pn P by omega)).1
          have h2 := pr_mono (P := P) (show 0 + 1 ≤ i by omega)
          rw [pr_s] at h2
          have := (tn_b hV (show 0 < pn P by omega)).1
          omega
        obtain ⟨t', ht'⟩ : ∃ t', pr P i = t' + 1 := ⟨pr P i - 1, by omega⟩
        obtain ⟨q1, v, q2⟩ := q_V hV hv t' (by omega)
        rw [← ht', a1, a2, V_c0 (c := qc P (pr P i)) (c' := 2) (fun _ => trivial)] at q2
        rw [← ht'] at q1
        have hqx : qx P (pr P i) = ch P (tt P - pr P i) i 0 (qe P (pr P i)) 2 := by
          unfold qx
          rw [if_neg (by omega), a1, a2, ch_c0]
        obtain ⟨sB1, sO1, k1, k2, k3⟩ := opn_eq hV h hi (by omega) q1 hM q2
        rw [k1, bd3_s]
        cases hc : ch P (tt P - pr P i) i 0 (qe P (pr P i)) 2 with
        | none =>
          rw [if_pos rfl, if_neg one_ne]
          exact opened sB1 sO1 (by rw [hqx, hc]) k2 k3
        | some x =>
          rw [hc] at hqx
          have ne : ¬ (some x = (none : Option Nat)) := fun q => by cases q
          rw [if_neg ne, if_pos rfl]
          obtain ⟨sB2, sO2, m1, m2, m3⟩ := rb_eq hV h hi q1 k2 k3 q2 hc
          obtain ⟨lI1, lC1, lT1, lR1, sB3, sO3, w1, w2, w3⟩ := pi_eq hV h hv hi hL m2 m3
          have eqt : qt P (pr P i) = qe P (pr P i) + x := by unfold qt; rw [hqx]
          have eqr : qr P (pr P i) = x := by unfold qr; rw [hqx]; rfl
          have en : qn P (pr P i + 1) = qn P (pr P i) := by rw [qn_s, hqx]; rfl
          rw [eqt, eqr, en, ← isE_0 a3 hpos hqx] at w1
          rw [m1, bd3_s, nI_add, w1, bd13_s]
          exact next _ _ _ _ _ _ w2 w3
end FO
/-- LAYBEST: the class's laying is the best one, and it says whether there is one -/
theorem rs_P {P : Pb} (hV : VB P) {bK bZ bL bM : Nat → Int32} {bi bg bh : Int32} (hR : RB P bK bZ bL bM bi bg bh) : RS P bh (-1) 0 bK bZ bL bM bi bg := ⟨hR.1, hR.2.1, hR.2.2.1, Or.inl rfl, fun i hi => by
  obtain ⟨a, b, c, d⟩ := hR.2.2.2 i hi
  have h12 := hV.1
  refine ⟨a, b, c, ?_⟩
  rw [if_pos rfl, if_neg (neg1 (by omega))]
  exact d⟩
theorem fo_eq {P : Pb} (hV : VB P) {bK bZ bL bM : Nat → Int32} {bi bg bh : Int32} (hR : RB P bK bZ bL bM bi bg bh) {v0 : Nat} (hv : VT P = some v0) {sB sO : Nat → Int32} (hM : 0 < pn P → MM P sB sO 0 ∧ OT P sO 0) (lI lC lT lR : Nat → Int32) (lth lro lsp lle lco lou : Int32) : ∃ lI' lC' lT' lR' lth' lro' lsp' lle' lco' lou' sB' sO', fL_follow lI lC lT lR lth lro lsp lle lco lou sB sO bh (-1) 0 bK bZ bL bM bi bg bh = some (lI', lC', lT', lR', lth', lro', lsp', lle', lco', lou', sB', sO') ∧ LD P lI' lC' lT' lR' lth' lro' lsp' lle' 1 lco' lou' := by
  have h12 := hV.1
  have hM0 : MM P sB sO 0 := by
    by_cases c : 0 < pn P
    · exact (hM c).1
    · exact fun i _ hi => by omega
  obtain ⟨lI', lC', lT', lR', sB', sO', k1, k2⟩ := fo_lp hV (rs_P hV hR) hv 12 fu 0 lI lC lT lR sB sO (by omega) (by rw [fu_eq]; omega) (by omega) (fun q hq => absurd hq (Nat.not_lt_zero _)) hM0 (fun _ c => (hM c).2)
  refine ⟨lI', lC', lT', lR', _, _, _, _, _, _, sB', sO', ?_, Or.inr ⟨⟨v0, hv⟩, rfl, rfl, k2, rfl, rfl, rfl, rfl, rfl⟩⟩
  unfold fL_follow
  rw [← hR.2.2.1] at k1
  exact k1
theorem lb_eq {P : Pb} (hV : VB P) {bK bZ bL bM : Nat → Int32} {bi bg bh : Int32} (hR : RB P bK bZ bL bM bi bg bh) {xl : Int32} {lI lC lT lR : Nat → Int32} {lth lro lsp lle lex lco lou : Int32} (hl : xl = 0 ∨ xl = 1 ∧ LD P lI lC lT lR lth lro lsp lle lex lco lou) (sB sO : Nat → Int32) (sh sw sr : Int32) : ∃ sB' sO' sh' sw' sr' lI' lC' lT' lR' lth' lro' lsp' lle' lex' lco' lou', fX_layBest xl bK bZ bL bM bi bg bh sB sO sh sw sr lI lC lT lR lth lro lsp lle lex lco lou = some ((if VT P = none then 0 else 1), 1, sB', sO', sh', sw', sr', lI', lC', lT', lR', lth', lro', lsp', lle', lex', lco', lou') ∧ LD P lI' lC' lT' lR' lth' lro' lsp' lle' lex' lco' lou' := by
  unfold fX_layBest fX_layBest_b29 fX_layBest_b53 fX_layBest_b58
  rcases hl with c | ⟨c, hLD⟩
  · obtain ⟨sB1, sO1, k1, k2⟩ := all_eq hV (rs_P hV hR) sB sO
    rw [if_pos c]
    unfold fS_weigh
    rw [k1, bd3_s, bd6_s]
    cases hv : VT P with
    | none =>
      have e : (268435456 : Int32) ≤ nI (cN none) := by decide +kernel
      rw [if_pos e, if_neg (fun q => q (Or.inl rfl)), if_pos rfl, if_neg (fun q => q (Or.inl rfl)), if_pos rfl]
      exact ⟨_, _, _, _, _, _, _, _, _, _, _, _, _, _, _, _, rfl, Or.inl ⟨hv, rfl⟩⟩
    | some v =>
      have hb := Dg_cvt (VT_le hV hv) (by omega) (by omega)
      have e : ¬ (268435456 : Int32) ≤ nI (cN (some v)) := by
        rw [ln_268435456, nI_leI (by omega) (by show cvt v < _; omega)]
        show ¬ 268435456 ≤ cvt v
        omega
      have ne : ¬ (some v = (none : Option Nat)) := fun q => by cases q
      obtain ⟨lI', lC', lT', lR', lth', lro', lsp', lle', lco', lou', sB', sO', m1, m2⟩ := fo_eq hV hR hv k2 lI lC lT lR lth lro lsp lle lco lou
      rw [if_neg e, if_neg (fun q => q (Or.inr rfl)), if_neg one_ne, m1, bd12_s, if_neg (fun q => q (Or.inr rfl)), if_neg ne]
      exact ⟨_, _, _, _, _, _, _, _, _, _, _, _, _, _, _, _, rfl, m2⟩
  · subst c
    rw [if_neg one_ne]
    rcases hLD with ⟨a, b⟩ | ⟨⟨v, a⟩, b, c⟩
    · rw [if_neg (fun q => q (Or.inl b)), if_pos a]
      refine ⟨_, _, _, _, _, _, _, _, _, _, _, _, _, _, _, _, by rw [← b], Or.inl ⟨a, b⟩⟩
    · have ne : ¬ (VT P = none) := fun q => by rw [a] at q; cases q
      rw [if_neg (fun q => q (Or.inr b)), if_neg ne]
      refine ⟨_, _, _, _, _, _, _, _, _, _, _, _, _, _, _, _, by rw [← b], Or.inr ⟨⟨v, a⟩, b, c⟩⟩
