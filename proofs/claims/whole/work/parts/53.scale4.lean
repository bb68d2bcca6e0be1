section SC4
variable {E : Pb} {sh sw sr : Int32} {bK bZ bL bM : Nat → Int32} {bi bg : Int32}
theorem mr_eq (hV : VB E) (h : RS E sh sw sr bK bZ bL bM bi bg) {i e : Nat} (hi : i < pn E) : fS_mostRoom (nI i) (nI e) sh sw sr bK bZ bL bM bg = some (if nI (ph E) - nI (ta E i) - nI e < nI (pM E i) then nI (ph E) - nI (ta E i) - nI e else nI (pM E i)) := by
  have h12 := hV.1
  have hl := (h.2.2.2.2 i hi).2.2.2
  unfold fS_mostRoom fS_mostRoom_b22 fS_mostRoom_b40
  rw [b_tall hV (rs_RB h) hi, h.2.2.1]
  simp (disch := omega) only [ig_f, nI_clamp, ig_g]
  by_cases c0 : sr = 0
  · rw [if_pos c0] at hl
    by_cases c1 : nI i = sw
    · rw [if_pos c1] at hl
      rw [if_pos c1, if_pos c0, bd1_s, hl]
    · rw [if_neg c1] at hl
      rw [if_neg c1, if_pos c0, bd1_s, hl]
  · rw [if_neg c0] at hl
    by_cases c1 : nI i = sw
    · rw [if_pos c1, if_neg c0, bd1_s, hl]
    · rw [if_neg c1, if_neg c0, bd1_s, hl]
theorem wi_n {i e x r : Nat} (hk0 : ¬ pK E i = 0) : wi E i e (fun e' => V E r (nx E i 0).1 (nx E i 0).2 e' (nc E i 0 2)) x = if e + x + ta E i ≤ ph E then oa (V E r (i + 1) 0 (e + x + ta E i) 2) x else none := by
  have et : tn E i = 1 := by unfold tn; rw [if_neg hk0]
  have eo : oz E i (e + x) = 0 := by unfold oz; rw [if_neg (fun q => hk0 q.1)]
  unfold wi
  rw [nx_end (by omega), eo, Nat.add_zero]
  show (if e + x + ta E i ≤ ph E then oa (V E r (i + 1) 0 (e + x + ta E i) (nc E i 0 2)) x else none) = _
  rw [V_c0 (c := nc E i 0 2) (c' := 2) (fun _ => trivial)]
theorem lim_lt (hV : VB E) {i e x : Nat} (hi : i < pn E) (he : e ≤ ph E) (hx : x ≤ 31) : (if nI (ph E) - nI (ta E i) - nI e < nI (pM E i) then nI (ph E) - nI (ta E i) - nI e else nI (pM E i)) < nI x ↔ (ph E < e + x + ta E i ∨ pM E i < x) := by
  have hph := hV.2.2.2.2.1
  have hta := ta_b hV hi
  have hm := VI_of hV hi
  have e1 : (nI (ph E) - nI (ta E i) - nI e).toInt = (ph E : Int) - ta E i - e := by
    rw [Int32.toInt_sub, pk_sub_toInt (by omega) (by omega), nt (by omega)]
    rw [Int.bmod_eq_of_le (by omega) (by omega)]
  by_cases c : nI (ph E) - nI (ta E i) - nI e < nI (pM E i)
  · rw [if_pos c]
    rw [i_lt, e1, nt (by omega)] at c
    rw [i_lt, e1, nt (by omega)]
    omega
  · rw [if_neg c]
    rw [i_lt, e1, nt (by omega)] at c
    rw [i_lt, nt (by omega), nt (by omega)]
    omega
theorem cw_lp (hV : VB E) {CB : CBT} {i e : Nat} (hi : i < pn E) (hk0 : ¬ pK E i = 0) (hB : Bh E sh sw sr bK bZ bL bM bi bg CB (i + 1)) (he : e ≤ ph E) : ∀ (d n x : Nat) (acc : Option Nat) (sB sO : Nat → Int32), x ≤ pM E i + 1 → pM E i + 1 - x ≤ d → d < n → cN acc ≤ 268435456 → MM E sB sO (i + 1) →
    Ok3 E (i + 1) sB sO (fS_costWithin_b55 CB n (nI i) (nI (cN acc)) (if nI (ph E) - nI (ta E i) - nI e < nI (pM E i) then nI (ph E) - nI (ta E i) - nI e else nI (pM E i)) (nI (e + ta E i)) (nI x) sB sO sh sw sr bK bZ bL bM bi bg) (cN (om acc (rm (wi E i e (fun e' => V E (tt E - pr E (i + 1)) (nx E i 0).1 (nx E i 0).2 e' (nc E i 0 2))) x (pM E i + 1 - x))))
  | d, 0, _, _, _, _, _, _, hh, _, _ => absurd hh (Nat.not_lt_zero _)
  | d, n + 1, x, acc, sB, sO, h0, h1, h2, hacc, hM => by
    have h12 := hV.1
    have hph := hV.2.2.2.2.1
    have hta := ta_b hV hi
    have hm := VI_of hV hi
    rw [fS_costWithin_b55]
    by_cases c : ph E < e + x + ta E i ∨ pM E i < x
    · rw [if_pos ((lim_lt hV hi he (by omega)).mpr c)]
      have hr : rm (wi E i e (fun e' => V E (tt E - pr E (i + 1)) (nx E i 0).1 (nx E i 0).2 e' (nc E i 0 2))) x (pM E i + 1 - x) = none := rm_none.mpr (fun j j1 j2 => by
        rw [wi_n hk0, if_neg (by omega)])
      rw [hr, om_none]
      exact ⟨sB, sO, rfl, hM, fun _ _ => rfl, fun _ _ => rfl⟩
    · rw [if_neg (fun q => c ((lim_lt hV hi he (by omega)).mp q)), nI_1, nI_add]
      obtain ⟨sB1, sO1, k1, k2, k3, k4⟩ := hB (i + 1) (e + ta E i + x) sB sO (Nat.le_refl _) (by omega) (by omega) hM
      have hbV := Bd_V hV (At_i hV (i := i + 1) (by omega)) (e := e + ta E i + x) (c := 2)
      have hb := Bd_le hbV
      have hdg : ∀ v, V E (tt E - pr E (i + 1)) (i + 1) 0 (e + ta E i + x) 2 = some v → Dg v 146 146 330 := fun v hv => by
        have q1 := V_dg hV _ _ _ _ _ v (At_i hV (i := i + 1) (by omega)) hv
        have q2 := tt_le hV
        exact Dg_le q1 (by omega) (by omega) (by omega)
      rw [k1, bd3_s, nI_add, nI_1]
      obtain ⟨m', hm'⟩ : ∃ m', pM E i + 1 - x = m' + 1 := ⟨pM E i - x, by omega⟩
      have ew : wi E i e (fun e' => V E (tt E - pr E (i + 1)) (nx E i 0).1 (nx E i 0).2 e' (nc E i 0 2)) x = oa (V E (tt E - pr E (i + 1)) (i + 1) 0 (e + ta E i + x) 2) x := by
        rw [wi_n hk0, if_pos (by omega), show e + x + ta E i = e + ta E i + x by omega]
      have hcw := cN_room hdg (m := x) (by omega)
      rw [← ew] at hcw
      have hle : cN (wi E i e (fun e' => V E (tt E - pr E (i + 1)) (nx E i 0).1 (nx E i 0).2 e' (nc E i 0 2)) x) ≤ 268435456 := by
        rw [hcw]
        by_cases q : x + cN (V E (tt E - pr E (i + 1)) (i + 1) 0 (e + ta E i + x) 2) < 268435456
        · rw [if_pos q]; omega
        · rw [if_neg q]; exact Nat.le_refl _
      have e3 : (if x + cN (V E (tt E - pr E (i + 1)) (i + 1) 0 (e + ta E i + x) 2) < cN acc then x + cN (V E (tt E - pr E (i + 1)) (i + 1) 0 (e + ta E i + x) 2) else cN acc) = cN (om acc (wi E i e (fun e' => V E (tt E - pr E (i + 1)) (nx E i 0).1 (nx E i 0).2 e' (nc E i 0 2)) x)) := by
        rw [cN_om hacc hle, hcw]
        by_cases q : x + cN (V E (tt E - pr E (i + 1)) (i + 1) 0 (e + ta E i + x) 2) < 268435456
        · rw [if_pos q]
        · rw [if_neg q, if_neg (by omega), if_neg (by omega)]
      rw [n_min2 (by omega) (by omega), e3]
      have hacc2 : cN (om acc (wi E i e (fun e' => V E (tt E - pr E (i + 1)) (nx E i 0).1 (nx E i 0).2 e' (nc E i 0 2)) x)) ≤ 268435456 := by
        rw [cN_om hacc hle]
        by_cases q : cN (wi E i e (fun e' => V E (tt E - pr E (i + 1)) (nx E i 0).1 (nx E i 0).2 e' (nc E i 0 2)) x) < cN acc
        · rw [if_pos q]; exact hle
        · rw [if_neg q]; exact hacc
      have ih := cw_lp hV hi hk0 hB he (d - 1) n (x + 1) _ sB1 sO1 (by omega) (by omega) (by omega) hacc2 k2
      have e4 : pM E i + 1 - (x + 1) = m' := by omega
      rw [e4, om_assoc] at ih
      rw [hm']
      exact Ok3_trans ih k3 k4
theorem cw_eq (hV : VB E) (h : RS E sh sw sr bK bZ bL bM bi bg) {CB : CBT} {i e : Nat} {sB sO : Nat → Int32} (hi : i < pn E) (hB : Bh E sh sw sr bK bZ bL bM bi bg CB (i + 1)) (he : e ≤ ph E) (hM : MM E sB sO (i + 1)) (hO : OT E sO i) :
    Ok3 E (i + 1) sB sO (fS_costWithin CB (nI i) (nI e) sB sO sh sw sr bK bZ bL bM bi bg) (cN (rm (wi E i e (fun e' => V E (tt E - (pr E i + 1)) (nx E i 0).1 (nx E i 0).2 e' (nc E i 0 2))) (pL E i) (pM E i + 1 - pL E i))) := by
  have h12 := hV.1
  have hph := hV.2.2.2.2.1
  have hta := ta_b hV hi
  have htb := tn_b hV hi
  have hm := VI_of hV hi
  obtain ⟨e1, e2, e3, -⟩ := h.2.2.2.2 i hi
  unfold fS_costWithin
  rw [ig_f (show i < 12 by omega) (by omega), nI_clamp (by omega), e1, e2, e3]
  by_cases hk0 : pK E i = 0
  · obtain ⟨t1, t2, t3, t4, t5, t6⟩ := tx_f hV hi hk0
    rw [if_pos ((rb_kz hV hi).mpr hk0), ln_0]
    obtain ⟨sB1, sO1, k1, k2, k3, k4⟩ := fr_eq hV h (k := 0) (top := e) hi (by omega) hB (by omega) hM (fun q q1 q2 => hO q (Or.inr q2))
    refine ⟨sB1, sO1, ?_, k2, k3, k4⟩
    rw [k1, bd3_s, t3, t4, rm_1]
    have en : nc E i 0 2 = fc E i := by unfold nc; rw [if_neg (fun q => q hk0), if_pos (Or.inl rfl), t5]
    have ew : wi E i e (fun e' => V E (tt E - (pr E i + 1)) (nx E i 0).1 (nx E i 0).2 e' (nc E i 0 2)) 0 = Fq E (tt E - (pr E i + 0 + 1)) i 0 e := by
      unfold wi Fq
      rw [en, Nat.add_zero, Nat.zero_add, Nat.add_zero]
    rw [ew]
  · have et : tn E i = 1 := by unfold tn; rw [if_neg hk0]
    have ea : ta E i = pZ E i := by unfold ta; rw [if_neg hk0]
    have ep : tt E - (pr E i + 1) = tt E - pr E (i + 1) := by rw [pr_s, et]
    rw [if_neg (fun q => hk0 ((rb_kz hV hi).mp q)), mr_eq hV h hi, bd1_s, ig_g (show i < 12 by omega) (by omega), ig_g (show i < 12 by omega) (by omega), nI_add, ← ea, ln_268435456, ep]
    have hl := cw_lp hV hi hk0 hB he 31 fu (pL E i) none sB sO (by omega) (by omega) (by rw [fu_eq]; omega) (Nat.le_refl _) hM
    rw [om_n] at hl
    exact hl
end SC4
