section MS2
variable {P : Pb} {gS gO gL gT gB : Nat → Int32}
theorem m_prev (hV : VB P) (hT : TH P gO gL gT) {i k : Nat} (hi : i < pn P) (hk : k < tn P i) (h0 : 0 < pr P i + k) : ∃ j, j < pn P ∧ gO (pr P i + k - 1) = nI j ∧ (pK P j = 1 ↔ (k = 0 ∧ 0 < i ∧ pK P (i - 1) = 1)) := by
  by_cases e : k = 0
  · subst e
    obtain ⟨j, rfl⟩ : ∃ j, i = j + 1 := ⟨i - 1, by
      rcases Nat.eq_zero_or_pos i with q | q
      · subst q; exact absurd h0 (by show ¬ 0 < 0 + 0; omega)
      · omega⟩
    have hb := tn_b hV (i := j) (by omega)
    obtain ⟨t1, -, -⟩ := hT j (tn P j - 1) (by omega) (by omega)
    refine ⟨j, by omega, ?_, ?_⟩
    · rw [pr_s, show pr P j + tn P j + 0 - 1 = pr P j + (tn P j - 1) by omega]; exact t1
    · simp
  · obtain ⟨t1, -, -⟩ := hT i (k - 1) hi (by omega)
    refine ⟨i, hi, ?_, ?_⟩
    · rw [show pr P i + k - 1 = pr P i + (k - 1) by omega]; exact t1
    · constructor
      · intro h
        unfold tn at hk
        rw [if_neg (by omega)] at hk
        omega
      · intro h; exact absurd h.1 e
theorem m_b39 (hV : VB P) (h : RG P 0 gS) (hT : TH P gO gL gT) {i k c : Nat} (hi : i < pn P) (hk : k < tn P i) (hc : c < 3) : fM_mayBegin_b39 (nI (pr P i + k)) (nI c) gS gO gL gT = some (if (pK P i ≠ 0 ∨ k = 0 ∨ (c = 2 ∧ k + 1 < pZ P i)) then 1 else 0) := by
  have h12 := hV.1
  have ht := tt_le hV
  have hl := pr_lt (P := P) hi hk
  have h144 : pr P i + k < 144 := by unfold tt at ht; omega
  obtain ⟨t1, t2, t3⟩ := hT i k hi hk
  have f2 := (h.2.2.2 i hi).2.1
  simp only [Nat.zero_add] at f2
  have hkb := (tn_b hV hi).2
  have hz := hV.2.2.2.2.2 i hi
  unfold fM_mayBegin_b39 fM_mayBegin_b86 fM_mayBegin_b90 fM_mayBegin_b91
  rw [m_line hV h hT hi hk, bd1_s]
  by_cases e : pK P i = 0
  · have hz2 := hz.2.1 e
    rw [if_pos e, if_neg one_ne]
    simp (disch := omega) only [ig_f, nI_clamp, ig_g, t1, t2]
    simp only [ln_12, nI_add]
    simp (disch := omega) only [ig_f, nI_clamp, ig_g, f2]
    by_cases e1 : k = 0
    · have e3 : pK P i ≠ 0 ∨ k = 0 ∨ (c = 2 ∧ k + 1 < pZ P i) := Or.inr (Or.inl e1)
      rw [if_pos (by rw [e1, nI_0]), if_pos e3]; simp
    · rw [if_neg (nI_ne0 (by omega) (by omega))]
      by_cases e2 : c = 2
      · rw [if_pos (by rw [e2, ln_2]), ln_1, pk_sub (by omega)]
        by_cases e4 : k + 1 < pZ P i
        · have e3 : pK P i ≠ 0 ∨ k = 0 ∨ (c = 2 ∧ k + 1 < pZ P i) := Or.inr (Or.inr ⟨e2, e4⟩)
          rw [if_neg (by rw [nI_leI (by omega) (by omega)]; omega), if_pos e3, ← ln_1]; simp
        · have e3 : ¬ (pK P i ≠ 0 ∨ k = 0 ∨ (c = 2 ∧ k + 1 < pZ P i)) := by omega
          rw [if_pos (by rw [nI_leI (by omega) (by omega)]; omega), if_neg e3]; simp
      · have e3 : ¬ (pK P i ≠ 0 ∨ k = 0 ∨ (c = 2 ∧ k + 1 < pZ P i)) := by omega
        rw [if_neg (by rw [ln_2, nI_eq (by omega) (by omega)]; exact e2), if_neg e3]; simp
  · have e3 : pK P i ≠ 0 ∨ k = 0 ∨ (c = 2 ∧ k + 1 < pZ P i) := Or.inl e
    rw [if_neg e, if_pos rfl, if_pos e3]; simp
theorem m_may (hV : VB P) (h : RG P 0 gS) (hT : TH P gO gL gT) {i k c : Nat} (hi : i < pn P) (hk : k < tn P i) (hc : c < 3) : fM_mayBegin (nI (pr P i + k)) (nI c) gS gO gL gT = some (if mB P i k c then 1 else 0) := by
  have h12 := hV.1
  have ht := tt_le hV
  have hl := pr_lt (P := P) hi hk
  have h144 : pr P i + k < 144 := by unfold tt at ht; omega
  obtain ⟨t1, t2, t3⟩ := hT i k hi hk
  have h49 := h.2.2.1
  rw [Nat.zero_add] at h49
  have hta := ta_b hV hi
  have hph := hV.2.2.2.2.1
  unfold fM_mayBegin fM_mayBegin_b37
  rw [m_b39 hV h hT hi hk hc, h49]
  simp (disch := omega) only [ig_f, nI_clamp, ig_g, t3]
  by_cases c1 : ta P i ≤ ph P
  · rw [if_neg (by rw [nI_ltI (by omega) (by omega)]; omega)]
    by_cases c2 : pr P i + k = 0
    · have hi0 : i = 0 ∨ 0 < i := by omega
      have hz : ¬ (k = 0 ∧ 0 < i ∧ pK P (i - 1) = 1) := by
        rintro ⟨-, q, -⟩
        obtain ⟨j, rfl⟩ : ∃ j, i = j + 1 := ⟨i - 1, by omega⟩
        have := (tn_b hV (i := j) (by omega)).1
        rw [pr_s] at c2; omega
      rw [if_pos (by rw [c2, ln_0]; exact (nI_leI (by omega) (by omega)).mpr (Nat.le_refl _))]
      by_cases c3 : (pK P i ≠ 0 ∨ k = 0 ∨ (c = 2 ∧ k + 1 < pZ P i))
      · rw [if_pos c3, if_pos ⟨c1, hz, c3⟩]
      · rw [if_neg c3, if_neg (fun q => c3 q.2.2)]
    · rw [if_neg (nI_nle (by omega) (by omega))]
      obtain ⟨j, j1, j2, j3⟩ := m_prev hV hT hi hk (by omega)
      have f1 := (h.2.2.2 j j1).1
      rw [Nat.zero_add] at f1
      have hkj := (VI_of hV j1).2.2
      rw [ln_1, pk_sub (by omega)]
      simp (disch := omega) only [ig_f, nI_clamp, ig_g, j2, f1]
      by_cases c3 : pK P j = 1
      · rw [if_pos (by rw [c3])]
        rw [if_neg (fun q => q.2.1 (j3.mp c3))]
      · rw [if_neg (by rw [nI_eq (by omega) (by omega)]; exact c3)]
        by_cases c4 : (pK P i ≠ 0 ∨ k = 0 ∨ (c = 2 ∧ k + 1 < pZ P i))
        · rw [if_pos c4, if_pos ⟨c1, fun q => c3 (j3.mpr q), c4⟩]
        · rw [if_neg c4, if_neg (fun q => c4 q.2.2)]
  · rw [if_pos (by rw [nI_ltI (by omega) (by omega)]; omega), if_neg (fun q => c1 q.1)]
theorem m_first (hV : VB P) (h : RG P 0 gS) (hT : TH P gO gL gT) {r i k c : Nat} (ha : At P (r + 1) i k) (hB : TB P gB r (nx P i k).1 (nx P i k).2) (hc : c < 3) : fM_asFirst (nI (pr P i + k)) (nI c) gS gO gL gT gB = some (oi (if mB P i k c then oa (V P r (nx P i k).1 (nx P i k).2 (ta P i) (fc P i)) 1000000 else none)) := by
  have h12 := hV.1
  have ht := tt_le hV
  obtain ⟨hi, hk⟩ := ha.2.resolve_left (by omega)
  have hl := pr_lt (P := P) hi hk
  have h144 : pr P i + k < 144 := by unfold tt at ht; omega
  obtain ⟨t1, t2, t3⟩ := hT i k hi hk
  have hta := ta_b hV hi
  have hph := hV.2.2.2.2.1
  unfold fM_asFirst fM_asFirst_b38 fM_asFirst_b56
  rw [m_may hV h hT hi hk hc, bd1_s]
  by_cases c1 : mB P i k c
  · rw [if_pos c1, if_neg one_ne, if_pos c1, m_line hV h hT hi hk, bd1_s]
    rw [ig_f (show pr P i + k < 144 by omega) (by omega), nI_clamp (show pr P i + k < 2 ^ 31 by omega), t3, nI_1, ln_0]
    have hfc : fc P i < 3 := by
      unfold fc
      by_cases e : pK P i = 0
      · rw [if_pos e]; omega
      · rw [if_neg e]; omega
    have hrow := hB (ta P i) (fc P i) c1.1 hfc
    have e1 : tt P - r = pr P i + k + 1 := by have := ha.1; omega
    rw [e1] at hrow
    have hlt : (201 * (pr P i + k + 1) + ta P i) * 3 + fc P i < 87435 := by omega
    have hr : r ≤ 144 := by have := ha.1; omega
    have hbd : ∀ v, V P r (nx P i k).1 (nx P i k).2 (ta P i) (fc P i) = some v → v ≤ 144000000 := fun v hv => by
      have := V_le hV r _ _ _ _ v (At_nx hV ha) hv
      omega
    have key : ∀ q : Nat, q = fc P i → bd1 (fM_at (nI (pr P i + k + 1)) (nI (ta P i)) (nI q)) (fun r_38 => if r_38 < nI 0 ∨ 87435 ≤ r_38.toNatClampNeg then none else if nI 0 ≤ gB r_38.toNatClampNeg then some (gB r_38.toNatClampNeg + 1000000) else some (-6)) = some (oi (oa (V P r (nx P i k).1 (nx P i k).2 (ta P i) (fc P i)) 1000000)) := by
      intro q hq
      subst hq
      rw [m_at, bd1_s, ← ln_0]
      generalize V P r (nx P i k).1 (nx P i k).2 (ta P i) (fc P i) = w at hrow hbd ⊢
      generalize (201 * (pr P i + k + 1) + ta P i) * 3 + fc P i = z at hlt hrow ⊢
      rw [ig_f hlt (by omega), nI_clamp (by omega), hrow]
      cases w with
      | none => rw [oi_none, if_neg oi_neg, oa_n, oi_none]
      | some v =>
        have hv2 := hbd v rfl
        rw [oi_some, if_pos (nI_pos' (by omega)), oa_s, oi_some, ln_1000000, nI_add]
    by_cases e : pK P i = 0
    · have : fc P i = 1 := by unfold fc; rw [if_pos e]
      rw [if_pos e, if_neg (by rw [← ln_0]; exact one_ne), ln_1]
      exact key 1 this.symm
    · have : fc P i = 0 := by unfold fc; rw [if_neg e]
      rw [if_neg e, if_pos rfl]
      exact key 0 this.symm
  · rw [if_neg c1, if_pos rfl, if_neg c1, oi_none]
theorem m_better {a b : Option Nat} (ha : ∀ x, a = some x → x < 2 ^ 31) (hb : ∀ x, b = some x → x < 2 ^ 31) : fM_better (oi a) (oi b) = some (oi (om a b)) := by
  unfold fM_better fM_better_b13 fM_better_b17 fM_better_b18
  have n6 : (-6 : Int32) < 0 := by decide
  cases a with
  | none => rw [oi_none, if_pos n6]; rfl
  | some a =>
    have h1 := ha a rfl
    rw [oi_some, if_neg (nI_pos h1)]
    cases b with
    | none => rw [oi_none, if_pos n6]; rfl
    | some b =>
      have h2 := hb b rfl
      rw [oi_some, if_neg (nI_pos h2)]
      show _ = some (nI (if b < a then b else a))
      by_cases c : b < a
      · rw [if_neg (by rw [nI_leI h1 h2]; omega), if_pos c]
      · rw [if_pos (by rw [nI_leI h1 h2]; omega), if_neg c]
end MS2
