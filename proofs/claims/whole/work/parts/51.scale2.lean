theorem n_min2 {a b : Nat} (ha : a < 2 ^ 31) (hb : b < 2 ^ 31) : (if nI a < nI b then nI a else nI b) = nI (if a < b then a else b) := by
  by_cases c : a < b
  · rw [if_pos ((nI_ltI ha hb).mpr c), if_pos c]
  · rw [if_neg (fun q => c ((nI_ltI ha hb).mp q)), if_neg c]
theorem MM_mono {E : Pb} {sB sO : Nat → Int32} {m m' : Nat} (h : MM E sB sO m) (hm : m ≤ m') : MM E sB sO m' := fun i hi hn => h i (by omega) hn
theorem OT_cong {E : Pb} (hV : VB E) {sO sO' : Nat → Int32} {i : Nat} (hi : i < pn E) (h : OT E sO i) (hs : ∀ q, i * 12 ≤ q → q < i * 12 + 12 → sO' q = sO q) : OT E sO' i := fun k hk => by
  have := (tn_b hV hi).2
  rw [hs _ (by omega) (by omega)]
  exact h k hk
theorem MM_cong {E : Pb} (hV : VB E) {sB sO sB' sO' : Nat → Int32} {m : Nat} (h : MM E sB sO m) (h1 : ∀ q, m * 201 ≤ q → sB' q = sB q) (h2 : ∀ q, m * 12 ≤ q → sO' q = sO q) : MM E sB' sO' m := fun i hi hn => by
  obtain ⟨a1, a2⟩ := h i hi hn
  have ho : OT E sO i → OT E sO' i := fun q => OT_cong hV hn q (fun z z1 z2 => h2 z (by omega))
  refine ⟨fun e he => ?_, ?_⟩
  · rw [h1 _ (by omega)]
    rcases a1 e he with q | ⟨q, q'⟩
    · exact Or.inl q
    · exact Or.inr ⟨q, ho q'⟩
  · rw [h2 _ (by omega)]
    exact a2.elim Or.inl (fun q => Or.inr (ho q))
theorem Ok3_trans {E : Pb} {m : Nat} {sB sO sB1 sO1 : Nat → Int32} {x : Option (Int32 × (Nat → Int32) × (Nat → Int32))} {v : Nat} (h : Ok3 E m sB1 sO1 x v) (h1 : ∀ q, q < m * 201 → sB1 q = sB q) (h2 : ∀ q, q < m * 12 → sO1 q = sO q) : Ok3 E m sB sO x v := by
  obtain ⟨sB', sO', k1, k2, k3, k4⟩ := h
  exact ⟨sB', sO', k1, k2, fun q hq => (k3 q hq).trans (h1 q hq), fun q hq => (k4 q hq).trans (h2 q hq)⟩
section SC2
variable {E : Pb} {sh sw sr : Int32} {bK bZ bL bM : Nat → Int32} {bi bg : Int32}
theorem U_le {i k top j : Nat} {x : Option Nat} (hx : Bd x) (hj : j - k ≤ 12) : cN (Uq E i k top j x) ≤ 268435456 := by
  unfold Uq
  by_cases c : top + (j - k) * ta E i ≤ ph E
  · rw [if_pos c]
    rcases oz_or E i top with q | q
    · rw [q, Nat.mul_zero, oa_0]; exact Bd_le hx
    · rw [q, cN_oa hx hj]
      by_cases d : (j - k) * 1024 + cN x < 268435456
      · rw [if_pos d]; omega
      · rw [if_neg d]; exact Nat.le_refl _
  · rw [if_neg c]; exact Nat.le_refl _
theorem W_le (hV : VB E) {i k top : Nat} (hi : i < pn E) (hk0 : pK E i = 0) : ∀ (m j : Nat), j + m + 1 = pZ E i → cN (Wq E i k top (tt E - pr E (i + 1)) j m) ≤ 268435456
  | 0, j, _ => by
    obtain ⟨h1, h2, -, -, -, -⟩ := tx_f hV hi hk0
    have htb := tn_b hV hi
    rw [Wq]
    exact U_le (Bd_V hV (At_i hV (by omega))) (by omega)
  | m + 1, j, hj => by
    obtain ⟨h1, h2, -, -, -, -⟩ := tx_f hV hi hk0
    have htb := tn_b hV hi
    have hp := pr_mono (P := E) (show i + 1 ≤ pn E by omega)
    rw [pr_s, h1] at hp
    have e1 : tt E - pr E (i + 1) + (pZ E i - 1 - j) = tt E - (pr E i + j + 1) := by rw [pr_s, h1]; unfold tt; omega
    have hb : Bd (Tq E (tt E - pr E (i + 1) + (pZ E i - 1 - j)) i j) := by rw [e1]; exact Bd_Tq hV (At_ik hV hi (show j < tn E i by omega))
    have ha := U_le (E := E) (i := i) (k := k) (top := top) (j := j) hb (by omega)
    have hw := W_le hV (k := k) (top := top) hi hk0 m (j + 1) (by omega)
    rw [Wq, cN_om ha hw]
    by_cases c : cN (Wq E i k top (tt E - pr E (i + 1)) (j + 1) m) < cN (Uq E i k top j (Tq E (tt E - pr E (i + 1) + (pZ E i - 1 - j)) i j))
    · rw [if_pos c]; exact hw
    · rw [if_neg c]; exact ha
theorem fr_lp (hV : VB E) (h : RS E sh sw sr bK bZ bL bM bi bg) {CB : CBT} {i k top : Nat} (hi : i < pn E) (hk0 : pK E i = 0) (hB : Bh E sh sw sr bK bZ bL bM bi bg CB (i + 1)) (htop : top ≤ 200) : ∀ (d n j : Nat) (sB sO : Nat → Int32), k + 1 ≤ j → j + 2 ≤ pZ E i → j - (k + 1) ≤ d → d < n → MM E sB sO (i + 1) → (∀ q, k + 2 ≤ q → q + 2 ≤ pZ E i → sO (i * 12 + q) = nI (cN (Tq E (tt E - (pr E i + q + 1)) i q))) →
    Ok3 E (i + 1) sB sO (fS_costFrom_b27 CB n (nI i) (nI k) (nI top) (nI (cN (Wq E i k top (tt E - pr E (i + 1)) (j + 1) (pZ E i - 1 - (j + 1))))) (nI j) sB sO sh sw sr bK bZ bL bM bi bg) (cN (Wq E i k top (tt E - pr E (i + 1)) (k + 2) (pZ E i - 1 - (k + 2))))
  | d, 0, _, _, _, _, _, _, hh, _, _ => absurd hh (Nat.not_lt_zero _)
  | d, n + 1, j, sB, sO, h1, h2, h3, h4, hM, hO => by
    have h12 := hV.1
    obtain ⟨t1, t2, -, -, -, -⟩ := tx_f hV hi hk0
    have htb := tn_b hV hi
    rw [fS_costFrom_b27, ln_2, nI_add]
    by_cases c : j < k + 2
    · have e : j = k + 1 := by omega
      subst e
      rw [if_pos (by rw [nI_ltI (by omega) (by omega)]; exact c)]
      exact ⟨sB, sO, rfl, hM, fun _ _ => rfl, fun _ _ => rfl⟩
    · rw [if_neg (by rw [nI_ltI (by omega) (by omega)]; exact c)]
      obtain ⟨sB1, sO1, k1, k2, k3, k4⟩ := up_eq hV h (k := k) (top := top) (j := j) hi hB hM (by omega) (by omega) htop (Or.inr ⟨by omega, hO j (by omega) h2⟩)
      rw [k1, bd3_s, if_neg (show ¬ j = tn E i by omega)]
      obtain ⟨j', rfl⟩ : ∃ j', j = j' + 1 := ⟨j - 1, by omega⟩
      rw [pk_m1]
      have hp := pr_mono (P := E) (show i + 1 ≤ pn E by omega)
      rw [pr_s, t1] at hp
      have e1 : tt E - pr E (i + 1) + (pZ E i - 1 - (j' + 1)) = tt E - (pr E i + (j' + 1) + 1) := by rw [pr_s, t1]; unfold tt; omega
      have hbT := Bd_Tq hV (At_ik hV hi (show j' + 1 < tn E i by omega))
      have hU := U_le (E := E) (i := i) (k := k) (top := top) (j := j' + 1) hbT (by omega)
      have hW := W_le hV (k := k) (top := top) hi hk0 (pZ E i - 1 - (j' + 1 + 1)) (j' + 1 + 1) (by omega)
      have e2 : pZ E i - 1 - (j' + 1) = pZ E i - 1 - (j' + 1 + 1) + 1 := by omega
      have e3 : cN (Wq E i k top (tt E - pr E (i + 1)) (j' + 1) (pZ E i - 1 - (j' + 1))) = if cN (Uq E i k top (j' + 1) (Tq E (tt E - (pr E i + (j' + 1) + 1)) i (j' + 1))) < cN (Wq E i k top (tt E - pr E (i + 1)) (j' + 1 + 1) (pZ E i - 1 - (j' + 1 + 1))) then cN (Uq E i k top (j' + 1) (Tq E (tt E - (pr E i + (j' + 1) + 1)) i (j' + 1))) else cN (Wq E i k top (tt E - pr E (i + 1)) (j' + 1 + 1) (pZ E i - 1 - (j' + 1 + 1))) := by
        rw [← cN_om hW hU, om_comm, e2, Wq, e1]
      rw [n_min2 (by omega) (by omega), ← e3]
      refine Ok3_trans (fr_lp hV h hi hk0 hB htop (d - 1) n j' sB1 sO1 (by omega) (by omega) (by omega) (by omega) k2 (fun q q1 q2 => ?_)) k3 k4
      rw [k4 _ (by omega)]
      exact hO q q1 q2
theorem fr_eq (hV : VB E) (h : RS E sh sw sr bK bZ bL bM bi bg) {CB : CBT} {i k top : Nat} {sB sO : Nat → Int32} (hi : i < pn E) (hk : k < tn E i) (hB : Bh E sh sw sr bK bZ bL bM bi bg CB (i + 1)) (htop : top ≤ 200) (hM : MM E sB sO (i + 1)) (hO : ∀ q, k + 2 ≤ q → q + 2 ≤ tn E i → sO (i * 12 + q) = nI (cN (Tq E (tt E - (pr E i + q + 1)) i q))) :
    Ok3 E (i + 1) sB sO (fS_costFrom CB (nI i) (nI k) (nI top) sB sO sh sw sr bK bZ bL bM bi bg) (cN (Fq E (tt E - (pr E i + k + 1)) i k top)) := by
  have h12 := hV.1
  have htb := tn_b hV hi
  have hp := pr_mono (P := E) (show i + 1 ≤ pn E by omega)
  rw [pr_s] at hp
  unfold fS_costFrom
  rw [b_things hV (rs_RB h) hi, bd1_s]
  obtain ⟨sB1, sO1, k1, k2, k3, k4⟩ := up_eq hV h (k := k) (top := top) (j := tn E i) hi hB hM hk (Nat.le_refl _) htop (Or.inl rfl)
  rw [k1, bd3_s, if_pos rfl]
  refine Ok3_trans ?_ k3 k4
  by_cases hk0 : pK E i = 0
  · obtain ⟨t1, t2, -, -, -, -⟩ := tx_f hV hi hk0
    have e1 : tt E - (pr E i + k + 1) = tt E - pr E (i + 1) + (pZ E i - 1 - k) := by rw [pr_s, t1]; unfold tt; rw [t1] at hp; omega
    rw [e1, Fq_tx hV hi hk0 (by omega)]
    have e2 : ∀ j, Uq E i k top (tn E i) (V E (tt E - pr E (i + 1)) (i + 1) 0 (top + (tn E i - k) * ta E i) 2) = Wq E i k top (tt E - pr E (i + 1)) j 0 := by intro j; rw [Wq, t1]
    by_cases c : k + 2 < pZ E i
    · rw [if_pos c, e2 (pZ E i - 2 + 1)]
      have e3 : pZ E i - 1 - (pZ E i - 2 + 1) = 0 := by omega
      have e4 : nI (tn E i) - 2 = nI (pZ E i - 2) := by rw [ln_2, pk_sub (by omega), t1]
      have hl := fr_lp hV h (k := k) (top := top) hi hk0 hB htop 12 fu (pZ E i - 2) sB1 sO1 (by omega) (by omega) (by omega) (by rw [fu_eq]; omega) k2 (fun q q1 q2 => by rw [k4 _ (by omega)]; exact hO q q1 (by omega))
      rw [e3] at hl
      rw [e4]
      exact hl
    · have e3 : pZ E i - 1 - (k + 2) = 0 := by omega
      rw [if_neg c, e3, e2 (k + 1), show fu = 99999 + 1 from rfl, fS_costFrom_b27]
      have c2 : nI (tn E i) - 2 < nI k + 2 := by
        rw [i_lt, ln_2, nI_add, pk_sub_toInt (by omega) (by omega), nt (by omega)]
        omega
      rw [if_pos c2]
      exact ⟨sB1, sO1, rfl, k2, fun _ _ => rfl, fun _ _ => rfl⟩
  · have et : tn E i = 1 := by unfold tn; rw [if_neg hk0]
    have ek : k = 0 := by omega
    subst ek
    have c2 : nI (tn E i) - 2 < nI 0 + 2 := by rw [et]; decide +kernel
    rw [show fu = 99999 + 1 from rfl, fS_costFrom_b27, if_pos c2]
    refine ⟨sB1, sO1, ?_, k2, fun _ _ => rfl, fun _ _ => rfl⟩
    have e5 : Uq E i 0 top (tn E i) (V E (tt E - pr E (i + 1)) (i + 1) 0 (top + (tn E i - 0) * ta E i) 2) = Fq E (tt E - (pr E i + 0 + 1)) i 0 top := by
      unfold Uq Fq
      rw [et, nx_end (by omega), pr_s, et]
      rw [show (1 - 0) * ta E i = ta E i by omega, show (1 - 0) * oz E i top = oz E i top by omega, V_c0 (c := fc E i) (c' := 2) (fun _ => trivial)]
    rw [e5]
end SC2
