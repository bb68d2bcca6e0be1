section SC3
variable {E : Pb} {sh sw sr : Int32} {bK bZ bL bM : Nat → Int32} {bi bg : Int32}
theorem wt_lp (hV : VB E) (h : RS E sh sw sr bK bZ bL bM bi bg) {CB : CBT} {i : Nat} (hi : i < pn E) (hB : Bh E sh sw sr bK bZ bL bM bi bg CB (i + 1)) : ∀ (n k : Nat) (v2 : Int32) (sB sO : Nat → Int32), v2 + 1 = nI k → k ≤ 12 → k < n → (k = 0 ∨ k ≤ tn E i) → MM E sB sO (i + 1) → (∀ q, k ≤ q → (q = 0 ∨ q + 2 ≤ tn E i) → sO (i * 12 + q) = nI (cN (Tq E (tt E - (pr E i + q + 1)) i q))) →
    ∃ sB' sO', fS_weighOnTop_b29 CB n (nI i) v2 sB sO sh sw sr bK bZ bL bM bi bg = some (sB', sO') ∧ MM E sB' sO' (i + 1) ∧ OT E sO' i ∧ (∀ q, q < (i + 1) * 201 → sB' q = sB q) ∧ (∀ q, q < i * 12 → sO' q = sO q)
  | 0, _, _, _, _, _, _, hh, _, _, _ => absurd hh (Nat.not_lt_zero _)
  | n + 1, k, v2, sB, sO, hv, h1, h2, h3, hM, hO => by
    have h12 := hV.1
    have htb := tn_b hV hi
    rw [fS_weighOnTop_b29]
    rcases Nat.eq_zero_or_pos k with e | e
    · subst e
      have hv2 : v2 < 0 := by
        have : v2 = -1 := by
          have h9 : v2 + 1 - 1 = nI 0 - 1 := by rw [hv]
          rw [Int32.add_sub_cancel] at h9
          rw [h9]; decide +kernel
        rw [this]; decide
      rw [if_pos hv2]
      exact ⟨sB, sO, rfl, hM, fun q hq => hO q (by omega) hq, fun _ _ => rfl, fun _ _ => rfl⟩
    · obtain ⟨k', rfl⟩ : ∃ k', k = k' + 1 := ⟨k - 1, by omega⟩
      have hv2 : v2 = nI k' := by
        have h9 : v2 + 1 - 1 = nI (k' + 1) - 1 := by rw [hv]
        rw [Int32.add_sub_cancel, nI_pred] at h9
        exact h9
      subst hv2
      rw [if_neg (nI_pos (by omega)), ln_0]
      obtain ⟨sB1, sO1, k1, k2, k3, k4⟩ := fr_eq hV h (k := k') (top := 0) hi (by omega) hB (by omega) hM (fun q q1 q2 => hO q (by omega) (Or.inr q2))
      have hbF := Bd_Fq hV (At_ik hV hi (show k' < tn E i by omega)) (top := 0)
      have hb := Bd_le hbF
      rw [k1, bd3_s, ln_12, pk_mul, nI_add, ← ln_0, ig_f (show i * 12 + k' < 144 by omega) (by omega), nI_clamp (by omega), ln_1048576, nI_add, n_min (by omega)]
      have e5 : nI (if 1048576 + cN (Fq E (tt E - (pr E i + k' + 1)) i k' 0) < 268435456 then 1048576 + cN (Fq E (tt E - (pr E i + k' + 1)) i k' 0) else 268435456) = nI (cN (Tq E (tt E - (pr E i + k' + 1)) i k')) := by
        unfold Tq
        rw [cN_col hbF]
      rw [e5]
      obtain ⟨sB', sO', m1, m2, m3, m4, m5⟩ := wt_lp hV h hi hB n k' (nI k' + (-1)) sB1 (upd sO1 (i * 12 + k') (nI (cN (Tq E (tt E - (pr E i + k' + 1)) i k')))) (by
          rw [Int32.add_assoc]; show nI k' + 0 = nI k'; rw [Int32.add_zero]) (by omega) (by omega) (by omega) (MM_cong hV k2 (fun _ _ => rfl) (fun q hq => pk_un (by omega))) (fun q q1 q2 => by
          by_cases eq : q = k'
          · rw [eq, pk_us]
          · rw [pk_un (by omega), k4 _ (by omega)]
            exact hO q (by omega) q2)
      refine ⟨sB', sO', m1, m2, m3, fun q hq => (m4 q hq).trans (k3 q hq), fun q hq => ?_⟩
      rw [m5 q hq, pk_un (by omega), k4 q (by omega)]
theorem neg1 {n : Nat} (h : n < 2 ^ 31) : ¬ nI n = -1 := fun q => by
  have := nI_pos h
  rw [q] at this
  exact absurd (by decide) this
theorem wt_eq (hV : VB E) (h : RS E sh sw sr bK bZ bL bM bi bg) {CB : CBT} {i : Nat} {sB sO : Nat → Int32} (hi : i < pn E) (hB : Bh E sh sw sr bK bZ bL bM bi bg CB (i + 1)) (hM : MM E sB sO i) :
    ∃ sB' sO', fS_weighOnTop CB (nI i) sB sO sh sw sr bK bZ bL bM bi bg = some (sB', sO') ∧ MM E sB' sO' i ∧ OT E sO' i ∧ (∀ q, q < (i + 1) * 201 → sB' q = sB q) ∧ (∀ q, q < i * 12 → sO' q = sO q) := by
  have h12 := hV.1
  have htb := tn_b hV hi
  unfold fS_weighOnTop
  rw [ln_12, pk_mul, ig_f (show i * 12 < 144 by omega) (by omega), nI_clamp (by omega)]
  by_cases c : sO (i * 12) = -1
  · rw [if_pos c, b_things hV (rs_RB h) hi, bd1_s]
    have hnot : ¬ OT E sO i := fun q => by
      have := q 0 (Or.inl rfl)
      rw [Nat.add_zero, c] at this
      exact neg1 (by have := Bd_le (Bd_Tq hV (At_ik hV hi (show 0 < tn E i by omega))); omega) this.symm
    have hrows : ∀ e, e ≤ 200 → sB (i * 201 + e) = -1 := fun e he => by
      rcases (hM i (Nat.le_refl _) hi).1 e he with q | ⟨-, q⟩
      · exact q
      · exact absurd q hnot
    have hv2 : (if 0 < nI (tn E i) - 2 then nI (tn E i) - 2 else 0) = nI (tn E i - 2) := by
      by_cases d : 2 < tn E i
      · rw [ln_2, pk_sub (by omega), if_pos (by rw [ln_0, nI_ltI (by omega) (by omega)]; omega)]
      · rw [show tn E i - 2 = 0 by omega, nI_0]
        rcases (show tn E i = 1 ∨ tn E i = 2 by omega) with q | q <;> rw [q] <;> decide +kernel
    rw [hv2]
    obtain ⟨sB', sO', m1, m2, m3, m4, m5⟩ := wt_lp hV h hi hB fu (tn E i - 2 + 1) (nI (tn E i - 2)) sB sO (nI_1 _) (by omega) (by rw [fu_eq]; omega) (by omega) (MM_mono hM (by omega)) (fun q q1 q2 => by omega)
    refine ⟨sB', sO', m1, fun j hj hn => ?_, m3, m4, m5⟩
    by_cases e : j = i
    · subst e
      exact ⟨fun e he => Or.inl (by rw [m4 _ (by omega)]; exact hrows e he), Or.inr m3⟩
    · exact m2 j (by omega) hn
  · rw [if_neg c]
    exact ⟨sB, sO, rfl, hM, ((hM i (Nat.le_refl _) hi).2).resolve_left c, fun _ _ => rfl, fun _ _ => rfl⟩
end SC3
