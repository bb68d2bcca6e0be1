section SG
variable {P : Pb} {i : Nat}
theorem nx_in {P : Pb} {i k : Nat} (h : k + 1 < tn P i) : nx P i k = (i, k + 1) := by unfold nx; rw [if_pos h]
theorem nx_end {P : Pb} {i k : Nat} (h : ¬ k + 1 < tn P i) : nx P i k = (i + 1, 0) := by unfold nx; rw [if_neg h]
/-- the least over the breaks of a text behind line k, which stands at a top: none at all, or before a line from j on -/
def Wq (P : Pb) (i k top : Nat) (R : Nat) : Nat → Nat → Option Nat
  | _, 0 => Uq P i k top (pZ P i) (V P R (i + 1) 0 (top + (pZ P i - k) * ta P i) 2)
  | j, m + 1 => om (Uq P i k top j (Tq P (R + (pZ P i - 1 - j)) i j)) (Wq P i k top R (j + 1) m)
/-- a book's value from the next item on hangs on no lines -/
theorem V_c0 {P : Pb} {r i e c c' : Nat} (hk : (pK P i = 0 → True)) : V P r i 0 e c = V P r i 0 e c' := by
  cases r with
  | zero => rw [V_0, V_0]
  | succ r =>
    have hn : nc P i 0 c = nc P i 0 c' := by
      unfold nc
      by_cases e : pK P i ≠ 0
      · rw [if_pos e, if_pos e]
      · rw [if_neg e, if_neg e, if_pos (Or.inl rfl), if_pos (Or.inl rfl)]
    rw [V, V, hn]
    congr 1
    have : mB P i 0 c ↔ mB P i 0 c' := by
      constructor
      · rintro ⟨h1, h2, h3⟩; exact ⟨h1, h2, Or.inr (Or.inl rfl)⟩
      · rintro ⟨h1, h2, h3⟩; exact ⟨h1, h2, Or.inr (Or.inl rfl)⟩
    by_cases m : mB P i 0 c
    · rw [if_pos m, if_pos (this.mp m)]
    · rw [if_neg m, if_neg (fun q => m (this.mpr q))]
/-- the breaks of a text, line by line and by their place, are the same -/
theorem Wq_eq (hV : VB P) {k top R : Nat} (hi : i < pn P) (hk0 : pK P i = 0) : ∀ (m q : Nat), q + m + 1 = pZ P i → k < q → Wq P i k top R q m = if top + (q - k) * pg P ≤ ph P then oa (V P (R + (pZ P i - q)) i q (top + (q - k) * pg P) 2) ((q - k) * oz P i top) else none
  | 0, q, hq, hkq => by
    obtain ⟨h1, h2, h3, h4, h5, h6⟩ := tx_f hV hi hk0
    have e1 : R + (pZ P i - q) = R + 1 := by omega
    have c1 : ¬ q + 1 < pZ P i := by omega
    have ez : pZ P i - k = (q - k) + 1 := by omega
    rw [e1, V_tx2 hV hi hk0 (by omega), if_neg c1, om_n, nx_end (by rw [h1]; exact c1), oz_add (by omega), Wq]
    unfold Uq
    rw [h2, ez, Nat.add_mul, Nat.add_mul, Nat.one_mul, Nat.one_mul, ← Nat.add_assoc]
    by_cases c2 : top + (q - k) * pg P + pg P ≤ ph P
    · rw [if_pos c2, if_pos c2, if_pos (by omega), oa_oa]
      congr 1
      omega
    · rw [if_neg c2, if_neg c2]
      by_cases c3 : top + (q - k) * pg P ≤ ph P
      · rw [if_pos c3]; rfl
      · rw [if_neg c3]
  | m + 1, q, hq, hkq => by
    obtain ⟨h1, h2, h3, h4, h5, h6⟩ := tx_f hV hi hk0
    have ih := Wq_eq hV (k := k) (top := top) (R := R) hi hk0 m (q + 1) (by omega) (by omega)
    have e1 : R + (pZ P i - q) = R + (pZ P i - (q + 1)) + 1 := by omega
    have e2 : R + (pZ P i - 1 - q) = R + (pZ P i - (q + 1)) := by omega
    have c1 : q + 1 < pZ P i := by omega
    have ez : q + 1 - k = (q - k) + 1 := by omega
    rw [e1, V_tx2 hV hi hk0 (by omega), if_pos c1, nx_in (by rw [h1]; exact c1), oz_add (by omega), Wq, ih, e2]
    unfold Uq
    rw [h2, ez, Nat.add_mul, Nat.add_mul, Nat.one_mul, Nat.one_mul, ← Nat.add_assoc]
    by_cases c3 : top + (q - k) * pg P ≤ ph P
    · rw [if_pos c3, if_pos c3, oa_om]
      congr 1
      by_cases c2 : top + (q - k) * pg P + pg P ≤ ph P
      · rw [if_pos c2, if_pos c2, oa_oa]
        congr 1
        omega
      · rw [if_neg c2, if_neg c2]; rfl
    · rw [if_neg c3, if_neg c3, if_neg (by omega), om_n]
theorem Fq_tx (hV : VB P) {k top R : Nat} (hi : i < pn P) (hk0 : pK P i = 0) (hk : k < pZ P i) : Fq P (R + (pZ P i - 1 - k)) i k top = Wq P i k top R (if k + 2 < pZ P i then k + 2 else k + 1) (pZ P i - 1 - (k + 2)) := by
  obtain ⟨h1, h2, h3, h4, h5, h6⟩ := tx_f hV hi hk0
  unfold Fq
  rw [h2, h5]
  by_cases c1 : k + 1 < pZ P i
  · have e1 : R + (pZ P i - 1 - k) = R + (pZ P i - (k + 2)) + 1 := by omega
    rw [nx_in (by rw [h1]; exact c1), e1, V_tx1 hV hi hk0 (by omega)]
    have eo : oz P i (top + pg P) = oz P i top := by have := oz_add (P := P) (by omega) (i := i) top 1; rwa [Nat.one_mul] at this
    rw [eo]
    by_cases c2 : k + 2 < pZ P i
    · rw [if_pos c2, Wq_eq hV hi hk0 _ (k + 2) (by omega) (by omega), nx_in (by rw [h1]; exact c2)]
      have e2 : k + 2 - k = 2 := by omega
      rw [e2]
      by_cases c3 : top + 2 * pg P ≤ ph P
      · rw [if_pos c3, if_pos (by omega), if_pos (by omega), oa_oa]
        have e3 : top + pg P + pg P = top + 2 * pg P := by omega
        rw [e3]
        congr 1
        omega
      · rw [if_neg c3]
        by_cases c4 : top + pg P ≤ ph P
        · rw [if_pos c4, if_neg (by omega)]; rfl
        · rw [if_neg c4]
    · have e0 : pZ P i - 1 - (k + 2) = 0 := by omega
      have ez : pZ P i - k = 2 := by omega
      have e4 : pZ P i - (k + 2) = 0 := by omega
      rw [if_neg c2, e0, Wq, nx_end (by rw [h1]; exact c2), e4, Nat.add_zero]
      unfold Uq
      rw [ez, h2]
      by_cases c3 : top + 2 * pg P ≤ ph P
      · rw [if_pos c3, if_pos (by omega), if_pos (by omega), oa_oa]
        have e3 : top + pg P + pg P = top + 2 * pg P := by omega
        rw [e3]
        congr 1
        omega
      · rw [if_neg c3]
        by_cases c4 : top + pg P ≤ ph P
        · rw [if_pos c4, if_neg (by omega)]; rfl
        · rw [if_neg c4]
  · have e0 : pZ P i - 1 - (k + 2) = 0 := by omega
    have ez : pZ P i - k = 1 := by omega
    have e4 : pZ P i - 1 - k = 0 := by omega
    rw [e0, Wq, nx_end (by rw [h1]; exact c1), e4, Nat.add_zero]
    unfold Uq
    rw [ez, h2, Nat.one_mul, Nat.one_mul]
    rw [V_c0 (c := 1) (c' := 2) (fun _ => trivial)]
end SG
