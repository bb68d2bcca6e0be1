theorem pr_ix {P : Pb} : ∀ (n t : Nat), t < pr P n → ∃ i k, i < n ∧ k < tn P i ∧ pr P i + k = t
  | 0, t, h => absurd h (Nat.not_lt_zero _)
  | n + 1, t, h => by
    by_cases c : t < pr P n
    · obtain ⟨i, k, h1, h2, h3⟩ := pr_ix n t c
      exact ⟨i, k, by omega, h2, h3⟩
    · rw [pr_s] at h
      exact ⟨n, t - pr P n, by omega, by omega, by omega⟩
theorem pr_un {P : Pb} {i k j m : Nat} (hk : k < tn P i) (hm : m < tn P j) (h : pr P i + k = pr P j + m) : i = j ∧ k = m := by
  rcases Nat.lt_trichotomy i j with c | c | c
  · have := pr_lt (P := P) c hk; omega
  · subst c; exact ⟨rfl, by omega⟩
  · have := pr_lt (P := P) c hm; omega
theorem At_un {P : Pb} (hV : VB P) {r i k j m : Nat} (h1 : At P r i k) (h2 : At P r j m) (hr : 0 < r) : i = j ∧ k = m := by
  obtain ⟨a1, a2⟩ := h1
  obtain ⟨b1, b2⟩ := h2
  exact pr_un (a2.resolve_left (by omega)).2 (b2.resolve_left (by omega)).2 (by omega)
theorem V_0 (P : Pb) (i k e c : Nat) : V P 0 i k e c = some 0 := by rw [V]
theorem V_at {P : Pb} (hV : VB P) {r i k j m : Nat} (h1 : At P r i k) (h2 : At P r j m) (e c : Nat) : V P r i k e c = V P r j m e c := by
  rcases Nat.eq_zero_or_pos r with q | q
  · subst q; rw [V_0, V_0]
  · obtain ⟨rfl, rfl⟩ := At_un hV h1 h2 q; rfl
theorem TB_at {P : Pb} (hV : VB P) {gB : Nat → Int32} {r i k j m : Nat} (h1 : At P r i k) (h2 : At P r j m) (h : TB P gB r i k) : TB P gB r j m := fun e c he hc => by
  rw [h e c he hc, V_at hV h1 h2]
abbrev SR : Type := Option (Int32 × (Nat → Int32) × (Nat → Int32) × (Nat → Int32) × (Nat → Int32) × Int32)
section MS3
variable {P : Pb} {gS gO gL gT : Nat → Int32}
theorem m_own (hV : VB P) {r i k e c : Nat} (ha : At P (r + 1) i k) {j m y : Nat} (hj : j + m ≤ 31) (h : rm (wi P i e (fun e' => V P r (nx P i k).1 (nx P i k).2 e' (nc P i k c))) j m = some y) : y ≤ 145000000 := by
  obtain ⟨⟨q, q1, q2, q3⟩, -⟩ := rm_some h
  unfold wi at q3
  by_cases c1 : e + q + ta P i ≤ ph P
  · rw [if_pos c1] at q3
    obtain ⟨z, z1, z2⟩ := oa_some q3
    have := V_le hV r _ _ _ _ z (At_nx hV ha) z1
    have := oz_le P i (e + q)
    have := ha.1
    have := tt_le hV
    omega
  · rw [if_neg c1] at q3; cases q3
theorem m_rooms (hV : VB P) (h : RG P 0 gS) (hT : TH P gO gL gT) {r i k e c : Nat} {gB : Nat → Int32} (ha : At P (r + 1) i k) (hB : TB P gB r (nx P i k).1 (nx P i k).2) (he : e ≤ 200) (hc : c < 3) (K43 : Int32 → (Nat → Int32) → (Nat → Int32) → (Nat → Int32) → (Nat → Int32) → (Nat → Int32) → Int32 → SR) (K49 : Int32 → Int32 → (Nat → Int32) → (Nat → Int32) → (Nat → Int32) → (Nat → Int32) → (Nat → Int32) → Int32 → SR) (K64 : Int32 → Int32 → Int32 → Int32 → (Nat → Int32) → (Nat → Int32) → (Nat → Int32) → (Nat → Int32) → (Nat → Int32) → Int32 → SR) (v3 gn : Int32) : ∀ (d n x : Nat) (a : Option Nat), x ≤ pM P i + 1 → pM P i + 1 - x ≤ d → d < n → (∀ y, a = some y → y ≤ 145000000) →
    fM_solve_b95 K43 K49 K64 n (nI (pr P i + k)) (nI c) v3 (nI e) (oi a) (nI x) gS gO gL gT gB gn = K64 (nI (pr P i + k)) (nI c) v3 (nI (e + 1)) gS gO gL gT (upd gB ((201 * (pr P i + k) + e) * 3 + c) (oi (om a (rm (wi P i e (fun e' => V P r (nx P i k).1 (nx P i k).2 e' (nc P i k c))) x (pM P i + 1 - x))))) gn
  | d, 0, _, _, _, _, hh, _ => absurd hh (Nat.not_lt_zero _)
  | d, n + 1, x, a, h0, h1, h2, hb => by
    have h12 := hV.1
    have ht := tt_le hV
    obtain ⟨hi, hk⟩ := ha.2.resolve_left (by omega)
    have hl := pr_lt (P := P) hi hk
    have h144 : pr P i + k < 144 := by unfold tt at ht; omega
    obtain ⟨t1, t2, t3⟩ := hT i k hi hk
    have f4 := (h.2.2.2 i hi).2.2.2
    rw [Nat.zero_add] at f4
    have hm := VI_of hV hi
    rw [fM_solve_b95]
    rw [ig_f (show pr P i + k < 144 by omega) (by omega), nI_clamp (show pr P i + k < 2 ^ 31 by omega), t1, ln_36, nI_add, ig_f (show 36 + i < 51 by omega) (by omega), nI_clamp (show 36 + i < 2 ^ 31 by omega), f4]
    by_cases c1 : pM P i < x
    · have e1 : pM P i + 1 - x = 0 := by omega
      rw [if_pos (by rw [nI_ltI (by omega) (by omega)]; exact c1), m_at, bd1_s, e1]
      have hlt : (201 * (pr P i + k) + e) * 3 + c < 87435 := by omega
      generalize (201 * (pr P i + k) + e) * 3 + c = z at hlt ⊢
      rw [ig_f hlt (by omega), nI_clamp (by omega), nI_1]
      have : om a (rm (wi P i e fun e' => V P r (nx P i k).1 (nx P i k).2 e' (nc P i k c)) x 0) = a := om_none a
      rw [this]
    · rw [if_neg (by rw [nI_ltI (by omega) (by omega)]; exact c1), m_with hV h hT ha hB he hc (by omega), bd1_s]
      obtain ⟨m', hm'⟩ : ∃ m', pM P i + 1 - x = m' + 1 := ⟨pM P i - x, by omega⟩
      have hw : ∀ y, wi P i e (fun e' => V P r (nx P i k).1 (nx P i k).2 e' (nc P i k c)) x = some y → y ≤ 145000000 := fun y hy => m_own hV ha (j := x) (m := 1) (by omega) (show om (wi P i e (fun e' => V P r (nx P i k).1 (nx P i k).2 e' (nc P i k c)) x) none = some y by rw [om_none]; exact hy)
      rw [m_better (fun y hy => by have := hb y hy; omega) (fun y hy => by have := hw y hy; omega), bd1_s, nI_1]
      have hb2 : ∀ y, om a (wi P i e (fun e' => V P r (nx P i k).1 (nx P i k).2 e' (nc P i k c)) x) = some y → y ≤ 145000000 := fun y hy => by
        rcases (om_le hy).1 with q | q
        · exact hb y q
        · exact hw y q
      rw [m_rooms hV h hT ha hB he hc K43 K49 K64 v3 gn (d - 1) n (x + 1) _ (by omega) (by omega) (by omega) hb2]
      have e2 : pM P i + 1 - (x + 1) = m' := by omega
      rw [e2, hm', om_assoc]
      rfl
theorem m_ends (hV : VB P) (h : RG P 0 gS) (hT : TH P gO gL gT) {r i k c : Nat} (ha : At P (r + 1) i k) (hc : c < 3) (K43 : Int32 → (Nat → Int32) → (Nat → Int32) → (Nat → Int32) → (Nat → Int32) → (Nat → Int32) → Int32 → SR) (K49 : Int32 → Int32 → (Nat → Int32) → (Nat → Int32) → (Nat → Int32) → (Nat → Int32) → (Nat → Int32) → Int32 → SR) (gn : Int32) (a : Option Nat) (hab : ∀ y, a = some y → y ≤ 145000000) (hae : a = if mB P i k c then oa (V P r (nx P i k).1 (nx P i k).2 (ta P i) (fc P i)) 1000000 else none) : ∀ (d n e : Nat) (gB : Nat → Int32), e ≤ ph P + 1 → ph P + 1 - e ≤ d → d < n → TB P gB r (nx P i k).1 (nx P i k).2 →
    ∃ gB', fM_solve_b64 K43 K49 n (nI (pr P i + k)) (nI c) (oi a) (nI e) gS gO gL gT gB gn = K49 (nI (pr P i + k)) (nI (c + 1)) gS gO gL gT gB' gn ∧ (∀ e', e ≤ e' → e' ≤ ph P → gB' ((201 * (pr P i + k) + e') * 3 + c) = oi (V P (r + 1) i k e' c)) ∧ ∀ q, (∀ e', e ≤ e' → e' ≤ ph P → q ≠ (201 * (pr P i + k) + e') * 3 + c) → gB' q = gB q
  | d, 0, _, _, _, _, hh, _ => absurd hh (Nat.not_lt_zero _)
  | d, n + 1, e, gB, h0, h1, h2, hB => by
    have h12 := hV.1
    have ht := tt_le hV
    obtain ⟨hi, hk⟩ := ha.2.resolve_left (by omega)
    have hl := pr_lt (P := P) hi hk
    have h144 : pr P i + k < 144 := by unfold tt at ht; omega
    obtain ⟨t1, t2, t3⟩ := hT i k hi hk
    have f3 := (h.2.2.2 i hi).2.2.1
    rw [Nat.zero_add] at f3
    have h49 := h.2.2.1
    rw [Nat.zero_add] at h49
    have hph := hV.2.2.2.2.1
    have hm := VI_of hV hi
    rw [fM_solve_b64, h49]
    by_cases c1 : ph P < e
    · rw [if_pos (by rw [nI_ltI (by omega) (by omega)]; exact c1), nI_1]
      exact ⟨gB, rfl, fun e' q1 q2 => by omega, fun _ _ => rfl⟩
    · rw [if_neg (by rw [nI_ltI (by omega) (by omega)]; exact c1)]
      rw [ig_f (show pr P i + k < 144 by omega) (by omega), nI_clamp (show pr P i + k < 2 ^ 31 by omega), t1, ln_24, nI_add, ig_f (show 24 + i < 51 by omega) (by omega), nI_clamp (show 24 + i < 2 ^ 31 by omega), f3]
      rw [m_rooms hV h hT ha hB (by omega) hc K43 K49 _ (oi a) gn 31 fu (pL P i) a (by omega) (by omega) (by rw [fu_eq]; omega) hab]
      have e1 : tt P - r = pr P i + k + 1 := by have := ha.1; omega
      have hB2 : TB P (upd gB ((201 * (pr P i + k) + e) * 3 + c) (oi (om a (rm (wi P i e (fun e' => V P r (nx P i k).1 (nx P i k).2 e' (nc P i k c))) (pL P i) (pM P i + 1 - pL P i))))) r (nx P i k).1 (nx P i k).2 := fun e' c' he' hc' => by
        rw [pk_un (by rw [e1]; omega)]
        exact hB e' c' he' hc'
      obtain ⟨gB', k1, k2, k3⟩ := m_ends hV h hT ha hc K43 K49 gn a hab hae (d - 1) n (e + 1) _ (by omega) (by omega) (by omega) hB2
      refine ⟨gB', k1, fun e' q1 q2 => ?_, fun q hq => ?_⟩
      · by_cases c2 : e' = e
        · subst c2
          rw [k3 _ (fun e'' a1 a2 => by omega), pk_us, V, hae]
        · exact k2 e' (by omega) q2
      · rw [k3 q (fun e' a1 a2 => hq e' (by omega) a2), pk_un (hq e (Nat.le_refl _) (by omega))]
theorem m_firstb (hV : VB P) {r i k c : Nat} (ha : At P (r + 1) i k) : ∀ y, (if mB P i k c then oa (V P r (nx P i k).1 (nx P i k).2 (ta P i) (fc P i)) 1000000 else none) = some y → y ≤ 145000000 := fun y hy => by
  by_cases c1 : mB P i k c
  · rw [if_pos c1] at hy
    obtain ⟨z, z1, z2⟩ := oa_some hy
    have := V_le hV r _ _ _ _ z (At_nx hV ha) z1
    have := ha.1
    have := tt_le hV
    omega
  · rw [if_neg c1] at hy; cases hy
theorem m_cols (hV : VB P) (h : RG P 0 gS) (hT : TH P gO gL gT) {r i k : Nat} (ha : At P (r + 1) i k) (K43 : Int32 → (Nat → Int32) → (Nat → Int32) → (Nat → Int32) → (Nat → Int32) → (Nat → Int32) → Int32 → SR) (gn : Int32) : ∀ (d n c : Nat) (gB : Nat → Int32), c ≤ 3 → 3 - c ≤ d → d < n → TB P gB r (nx P i k).1 (nx P i k).2 →
    ∃ gB', fM_solve_b49 K43 n (nI (pr P i + k)) (nI c) gS gO gL gT gB gn = K43 (nI (pr P i + k) + (-1)) gS gO gL gT gB' gn ∧ (∀ c' e', c ≤ c' → c' < 3 → e' ≤ ph P → gB' ((201 * (pr P i + k) + e') * 3 + c') = oi (V P (r + 1) i k e' c')) ∧ ∀ q, (∀ c' e', c ≤ c' → c' < 3 → e' ≤ ph P → q ≠ (201 * (pr P i + k) + e') * 3 + c') → gB' q = gB q
  | d, 0, _, _, _, _, hh, _ => absurd hh (Nat.not_lt_zero _)
  | d, n + 1, c, gB, h0, h1, h2, hB => by
    have hph := hV.2.2.2.2.1
    rw [fM_solve_b49]
    by_cases c1 : 3 ≤ c
    · rw [if_pos (by rw [ln_3, nI_leI (by omega) (by omega)]; exact c1)]
      exact ⟨gB, rfl, fun c' e' q1 q2 => by omega, fun _ _ => rfl⟩
    · rw [if_neg (by rw [ln_3, nI_leI (by omega) (by omega)]; exact c1), m_first hV h hT ha hB (by omega), bd1_s, ln_0]
      obtain ⟨gB1, k1, k2, k3⟩ := m_ends hV h hT ha (show c < 3 by omega) K43 (fM_solve_b49 K43 n) gn _ (m_firstb hV ha) rfl 201 fu 0 gB (by omega) (by omega) (by rw [fu_eq]; omega) hB
      rw [k1]
      have e1 : tt P - r = pr P i + k + 1 := by have := ha.1; omega
      have hB2 : TB P gB1 r (nx P i k).1 (nx P i k).2 := fun e' c' he' hc' => by
        rw [k3 _ (fun e'' a1 a2 => by rw [e1]; omega)]
        exact hB e' c' he' hc'
      obtain ⟨gB', m1, m2, m3⟩ := m_cols hV h hT ha K43 gn (d - 1) n (c + 1) gB1 (by omega) (by omega) (by omega) hB2
      refine ⟨gB', m1, fun c' e' q1 q2 q3 => ?_, fun q hq => ?_⟩
      · by_cases c2 : c' = c
        · subst c2
          rw [m3 _ (fun c'' e'' a1 a2 a3 => by omega)]
          exact k2 e' (by omega) q3
        · exact m2 c' e' (by omega) q2 q3
      · rw [m3 q (fun c' e' a1 a2 a3 => hq c' e' (by omega) a2 a3)]
        exact k3 q (fun e' a1 a2 => hq c e' (Nat.le_refl _) (by omega) a2)
/-- all rows from t on hold what they should -/
def TA (P : Pb) (gB : Nat → Int32) (t0 : Nat) : Prop := ∀ r i k, At P r i k → t0 ≤ tt P - r → TB P gB r i k
theorem m_down (hV : VB P) (h : RG P 0 gS) (hT : TH P gO gL gT) : ∀ (t n : Nat) (gB : Nat → Int32), t < tt P → t < n → TA P gB (t + 1) →
    ∃ gB', fM_solve_b43 n (nI t) gS gO gL gT gB (nI (tt P)) = some (oi (VT P), gO, gL, gT, gB', nI (tt P)) ∧ TA P gB' 1
  | _, 0, _, _, hh, _ => absurd hh (Nat.not_lt_zero _)
  | 0, n + 1, gB, h0, _, hA => by
    have ht := tt_le hV
    have a0 : At P (tt P - 1 + 1) 0 0 := by rw [show tt P - 1 + 1 = tt P by omega]; exact At_0 hV
    have hB := hA (tt P - 1) _ _ (At_nx hV a0) (by omega)
    have hf := m_first hV h hT a0 hB (c := 2) (by omega)
    have e0 : pr P 0 + 0 = 0 := rfl
    rw [e0] at hf
    refine ⟨gB, ?_, hA⟩
    rw [fM_solve_b43]
    unfold fM_solve_b186
    rw [if_pos (by rw [ln_0]; exact (nI_leI (by omega) (by omega)).mpr (Nat.le_refl _)), if_neg (nI_ne0 (by omega) (by omega)), ln_0, ln_2, hf, bd1_s]
    unfold VT
    have c0 : ¬ tt P = 0 := by omega
    rw [if_neg c0]
    by_cases c1 : ta P 0 ≤ ph P
    · have c2 : mB P 0 0 2 := ⟨c1, fun q => by omega, Or.inr (Or.inl rfl)⟩
      rw [if_pos c2, if_pos c1]
    · have c2 : ¬ mB P 0 0 2 := fun q => c1 q.1
      rw [if_neg c2, if_neg c1]
  | t + 1, n + 1, gB, h0, h1, hA => by
    have ht := tt_le hV
    obtain ⟨i, k, hi, hk, hik⟩ := pr_ix (pn P) (t + 1) h0
    have ha : At P (tt P - (t + 1) - 1 + 1) i k := ⟨by omega, Or.inr ⟨hi, hk⟩⟩
    have hB := hA _ _ _ (At_nx hV ha) (by omega)
    rw [fM_solve_b43, if_neg (nI_nle (by omega) (by omega)), ln_0]
    obtain ⟨gB1, k1, k2, k3⟩ := m_cols hV h hT ha (fM_solve_b43 n) (nI (tt P)) 3 fu 0 gB (by omega) (by omega) (by rw [fu_eq]; omega) hB
    rw [hik] at k1 k2 k3
    rw [k1, pk_m1]
    have hph := hV.2.2.2.2.1
    refine m_down hV h hT t n gB1 (by omega) (by omega) (fun r j m hj hjt => ?_)
    by_cases c1 : tt P - r = t + 1
    · have e1 : r = tt P - (t + 1) - 1 + 1 := by have := hj.1; omega
      subst e1
      refine TB_at hV ha hj (fun e c he hc => ?_)
      rw [c1]
      exact k2 c e (by omega) hc he
    · intro e c he hc
      rw [k3 _ (fun c' e' a1 a2 a3 => by omega)]
      exact hA r j m hj (by omega) e c he hc
theorem m_init (hV : VB P) (gB0 : Nat → Int32) : ∀ (d n x : Nat) (gB : Nat → Int32), x ≤ 603 → 603 - x ≤ d → d < n → ∃ gB', fM_solve_b6 n (nI x) gS gO gL gT gB (nI (tt P)) = fM_solve_b43 fu (nI (tt P) - 1) gS gO gL gT gB' (nI (tt P)) ∧ (∀ y, x ≤ y → y < 603 → gB' (201 * tt P * 3 + y) = 0) ∧ ∀ y, y < x → gB' (201 * tt P * 3 + y) = gB (201 * tt P * 3 + y)
  | d, 0, _, _, _, _, hh => absurd hh (Nat.not_lt_zero _)
  | d, n + 1, x, gB, h0, h1, h2 => by
    have ht := tt_le hV
    rw [fM_solve_b6]
    by_cases c1 : 603 ≤ x
    · rw [if_pos (by rw [ln_603, nI_leI (by omega) (by omega)]; exact c1)]
      exact ⟨gB, rfl, fun y a b => by omega, fun _ _ => rfl⟩
    · rw [if_neg (by rw [ln_603, nI_leI (by omega) (by omega)]; exact c1), ln_0, m_at, bd1_s, nI_add, nI_1]
      have e1 : (201 * tt P + 0) * 3 + 0 + x = 201 * tt P * 3 + x := by omega
      rw [e1]
      have hlt : 201 * tt P * 3 + x < 87435 := by omega
      rw [← ln_0, ig_f hlt (by omega), nI_clamp (by omega)]
      obtain ⟨gB', k1, k2, k3⟩ := m_init hV gB0 (d - 1) n (x + 1) (upd gB (201 * tt P * 3 + x) 0) (by omega) (by omega) (by omega)
      refine ⟨gB', k1, fun y a b => ?_, fun y a => ?_⟩
      · by_cases c2 : y = x
        · subst c2
          rw [k3 y (by omega), pk_us]
        · exact k2 y (by omega) b
      · rw [k3 y (by omega), pk_un (by omega)]
end MS3
theorem m_solve {P : Pb} {gS : Nat → Int32} (hV : VB P) (h : RG P 0 gS) (gO gL gT gB : Nat → Int32) (gn : Int32) : ∃ gO' gL' gT' gB', fM_solve gS gO gL gT gB gn = some (oi (VT P), gO', gL', gT', gB', nI (tt P)) ∧ TH P gO' gL' gT' ∧ TA P gB' 1 := by
  have ht := tt_le hV
  obtain ⟨gO', gL', gT', k1, hT⟩ := lt_eq hV h gO gL gT gn
  obtain ⟨gB1, m1, m2, -⟩ := m_init (gS := gS) (gO := gO') (gL := gL') (gT := gT') hV gB 603 fu 0 gB (by omega) (by omega) (by rw [fu_eq]; omega)
  have hph := hV.2.2.2.2.1
  have hA : TA P gB1 (tt P) := fun r i k ha hr => by
    have r0 : r = 0 := by have := ha.1; omega
    subst r0
    intro e c he hc
    rw [V_0, oi_some, nI_0, Nat.sub_zero]
    have e1 : (201 * tt P + e) * 3 + c = 201 * tt P * 3 + (3 * e + c) := by omega
    rw [e1]
    exact m2 _ (by omega) (by omega)
  unfold fM_solve
  rw [k1, bd4_s, ln_0, m1]
  by_cases c0 : tt P = 0
  · refine ⟨gO', gL', gT', gB1, ?_, hT, fun r i k ha hr => hA r i k ha (by omega)⟩
    rw [show fu = 99999 + 1 from rfl, fM_solve_b43, c0]
    unfold fM_solve_b186
    rw [if_pos (show nI 0 - 1 ≤ 0 by decide +kernel), if_pos nI_0]
    unfold VT
    rw [if_pos c0, oi_some, nI_0]
  · obtain ⟨t, e1⟩ : ∃ t, tt P = t + 1 := ⟨tt P - 1, by omega⟩
    have e2 : nI (tt P) - 1 = nI t := by rw [e1]; exact nI_pred t
    rw [e2]
    obtain ⟨gB', q1, q2⟩ := m_down hV h hT t fu gB1 (by omega) (by rw [fu_eq]; omega) (by rw [← e1]; exact hA)
    exact ⟨gO', gL', gT', gB', q1, hT, q2⟩
