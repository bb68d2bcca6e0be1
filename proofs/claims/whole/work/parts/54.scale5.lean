theorem cvt_0 : cvt 0 = 0 := by decide +kernel
section SC5
variable {E : Pb} {sh sw sr : Int32} {bK bZ bL bM : Nat → Int32} {bi bg : Int32}
theorem V_top (hV : VB E) {i e : Nat} (hi : i < pn E) : V E (tt E - pr E i) i 0 e 2 = om (if ¬ (0 < i ∧ pK E (i - 1) = 1) then Tq E (tt E - (pr E i + 0 + 1)) i 0 else none) (rm (wi E i e (fun e' => V E (tt E - (pr E i + 1)) (nx E i 0).1 (nx E i 0).2 e' (nc E i 0 2))) (pL E i) (pM E i + 1 - pL E i)) := by
  have htb := tn_b hV hi
  have hl := pr_lt (P := E) hi (show 0 < tn E i by omega)
  have e1 : tt E - pr E i = tt E - (pr E i + 1) + 1 := by unfold tt; omega
  rw [e1, V]
  congr 1
  unfold Tq Fq
  simp only [oz_0, oa_0, Nat.zero_add, Nat.add_zero]
  by_cases c1 : ta E i ≤ ph E
  · rw [if_pos c1]
    by_cases c2 : 0 < i ∧ pK E (i - 1) = 1
    · rw [if_neg (fun q : mB E i 0 2 => q.2.1 ⟨rfl, c2⟩), if_neg (fun q => q c2)]
    · have c3 : mB E i 0 2 := ⟨c1, fun q => c2 q.2, Or.inr (Or.inl rfl)⟩
      rw [if_pos c3, if_pos c2]
  · rw [if_neg (fun q : mB E i 0 2 => c1 q.1), if_neg c1, oa_n]
    by_cases c2 : 0 < i ∧ pK E (i - 1) = 1
    · rw [if_neg (fun q => q c2)]
    · rw [if_pos c2]
theorem cb_eq (hV : VB E) (h : RS E sh sw sr bK bZ bL bM bi bg) {CB : CBT} {i e : Nat} {sB sO : Nat → Int32} (hi : i ≤ pn E) (hB : Bh E sh sw sr bK bZ bL bM bi bg CB (i + 1)) (he : e ≤ ph E) (hM : MM E sB sO i) :
    Ok3 E i sB sO (fS_costBehindB CB (nI i) (nI e) sB sO sh sw sr bK bZ bL bM bi bg) (cN (V E (tt E - pr E i) i 0 e 2)) := by
  have h12 := hV.1
  have hph := hV.2.2.2.2.1
  unfold fS_costBehindB
  rw [h.1]
  by_cases c0 : i < pn E
  · have htb := tn_b hV c0
    have hbV := Bd_le (Bd_V hV (At_i hV hi) (e := e) (c := 2))
    rw [if_pos (by rw [nI_ltI (by omega) (by omega)]; exact c0), ln_201, pk_mul, nI_add, ← h.1]
    have hidx : i * 201 + e < 2412 := by omega
    have h87 : ∀ sB1 sO1, fS_costBehind_b87 CB (nI (i * 201 + e)) sB1 sO1 sh sw sr bK bZ bL bM bi bg = some (sB1 (i * 201 + e), sB1, sO1) := fun sB1 sO1 => by
      unfold fS_costBehind_b87
      rw [ig_f hidx (by omega), nI_clamp (by omega)]
    rw [h87]
    rw [ig_f hidx (by omega), nI_clamp (by omega)]
    by_cases c1 : sB (i * 201 + e) = -1
    · rw [if_pos c1]
      obtain ⟨sB1, sO1, k1, k2, k3, k4, k5⟩ := wt_eq hV h c0 hB hM
      rw [k1, bd2_s]
      obtain ⟨sB2, sO2, m1, m2, m3, m4⟩ := cw_eq hV h c0 hB he (MM_mono k2 (by omega)) k3
      rw [m1, bd3_s]
      have hO2 : OT E sO2 i := OT_cong hV c0 k3 (fun q q1 q2 => m4 q (by omega))
      -- the end, whatever is stored
      have fin : ∀ w, w = cN (V E (tt E - pr E i) i 0 e 2) → Ok3 E i sB sO (fS_costBehind_b79 CB (nI (i * 201 + e)) (nI w) sB2 sO2 sh sw sr bK bZ bL bM bi bg) (cN (V E (tt E - pr E i) i 0 e 2)) := by
        intro w hw
        subst hw
        unfold fS_costBehind_b79
        rw [ig_f hidx (by omega), nI_clamp (by omega), h87, pk_us]
        refine ⟨_, _, rfl, ?_, fun q hq => ?_, fun q hq => ?_⟩
        · intro j hj hn
          by_cases ej : j = i
          · subst ej
            refine ⟨fun e' he' => ?_, Or.inr hO2⟩
            by_cases ee : e' = e
            · subst ee
              rw [pk_us]
              exact Or.inr ⟨rfl, hO2⟩
            · rw [pk_un (by omega), m3 _ (by omega)]
              rcases (k2 j (Nat.le_refl _) hn).1 e' he' with q | ⟨q, -⟩
              · exact Or.inl q
              · exact Or.inr ⟨q, hO2⟩
          · exact MM_cong hV m2 (fun q hq => pk_un (by omega)) (fun _ _ => rfl) j (by omega) hn
        · rw [pk_un (by omega), m3 q (by omega), k4 q (by omega)]
        · rw [m4 q (by omega), k5 q hq]
      have hT := hO2 0 (Or.inl rfl)
      rw [Nat.add_zero] at hT
      have hbT := Bd_le (Bd_Tq hV (At_ik hV c0 (show 0 < tn E i by omega)))
      have hVt := V_top hV (e := e) c0
      have hle : cN (rm (wi E i e (fun e' => V E (tt E - (pr E i + 1)) (nx E i 0).1 (nx E i 0).2 e' (nc E i 0 2))) (pL E i) (pM E i + 1 - pL E i)) ≤ 268435456 := by
        cases hr : rm (wi E i e (fun e' => V E (tt E - (pr E i + 1)) (nx E i 0).1 (nx E i 0).2 e' (nc E i 0 2))) (pL E i) (pM E i + 1 - pL E i) with
        | none => exact Nat.le_refl _
        | some v =>
          -- it is no less than the value itself, and both are within the bound: by its digits
          have hl := pr_lt (P := E) c0 (show 0 < tn E i by omega)
          have e1 : tt E - (pr E i + 1) + 1 = tt E - pr E i := by unfold tt; omega
          have ha : At E (tt E - (pr E i + 1) + 1) i 0 := by rw [e1]; exact At_i hV hi
          obtain ⟨⟨j, j1, j2, j3⟩, -⟩ := rm_some hr
          unfold wi at j3
          by_cases c3 : e + j + ta E i ≤ ph E
          · rw [if_pos c3] at j3
            obtain ⟨z, z1, z2⟩ := oa_some j3
            have hm := VI_of hV c0
            have hd := V_dg hV _ _ _ _ _ z (At_nx hV ha) z1
            have q2 := tt_le hV
            have q3 : 30 * (pn E - (nx E i 0).1) ≤ 360 := by omega
            obtain ⟨cc, o, x, a1, a2, a3, a4⟩ := hd
            rcases oz_or E i (e + j) with q | q
            · have := Dg_cvt (v := v) (C := 146) (O := 146) (X := 390) ⟨cc, o, x + j, by omega, by omega, by omega, by omega⟩ (by omega) (by omega)
              show cvt v ≤ _
              omega
            · have := Dg_cvt (v := v) (C := 146) (O := 146) (X := 390) ⟨cc, o + 1, x + j, by omega, by omega, by omega, by omega⟩ (by omega) (by omega)
              show cvt v ≤ _
              omega
          · rw [if_neg c3] at j3; cases j3
      have fin2 : ¬ (0 < i ∧ pK E (i - 1) = 1) → Ok3 E i sB sO (fS_costBehind_b63 CB (nI i) (nI (i * 201 + e)) (nI (cN (rm (wi E i e (fun e' => V E (tt E - (pr E i + 1)) (nx E i 0).1 (nx E i 0).2 e' (nc E i 0 2))) (pL E i) (pM E i + 1 - pL E i)))) sB2 sO2 sh sw sr bK bZ bL bM bi bg) (cN (V E (tt E - pr E i) i 0 e 2)) := by
        intro hn
        unfold fS_costBehind_b63
        rw [ln_12, pk_mul, ig_f (show i * 12 < 144 by omega) (by omega), nI_clamp (by omega), hT, n_min2 (by omega) (by omega)]
        refine fin _ ?_
        rw [hVt, if_pos hn, om_comm, cN_om hle hbT]
      by_cases c2 : i = 0
      · rw [if_pos (by rw [c2, nI_0])]
        exact fin2 (by omega)
      · rw [if_neg (nI_ne0 (by omega) (by omega)), ln_1, pk_sub (by omega), ig_f (show i - 1 < 12 by omega) (by omega), nI_clamp (by omega), (h.2.2.2.2 (i - 1) (by omega)).1]
        have hkj := (VI_of hV (show i - 1 < pn E by omega)).2.2
        by_cases c3 : pK E (i - 1) = 1
        · rw [if_pos (by rw [c3])]
          refine fin _ ?_
          have c4 : ¬ ¬ (0 < i ∧ pK E (i - 1) = 1) := fun q => q ⟨by omega, c3⟩
          rw [hVt, if_neg c4, om_n]
        · rw [if_neg (by rw [nI_eq (by omega) (by omega)]; exact c3)]
          exact fin2 (fun q => c3 q.2)
    · rw [if_neg c1]
      rcases (hM i (Nat.le_refl _) c0).1 e (by omega) with q | ⟨q, -⟩
      · exact absurd q c1
      · exact ⟨sB, sO, by rw [q], hM, fun _ _ => rfl, fun _ _ => rfl⟩
  · have e0 : i = pn E := by omega
    rw [if_neg (by rw [nI_ltI (by omega) (by omega)]; exact c0)]
    refine ⟨sB, sO, ?_, hM, fun _ _ => rfl, fun _ _ => rfl⟩
    have e1 : tt E - pr E i = 0 := by rw [e0]; unfold tt; omega
    rw [e1, V_0]
    show _ = some (nI (cvt 0), sB, sO)
    have e2 : cvt 0 = 0 := cvt_0
    rw [e2, nI_0]
theorem bh_all (hV : VB E) (h : RS E sh sw sr bK bZ bL bM bi bg) : ∀ d m, pn E < m + d → Bh E sh sw sr bK bZ bL bM bi bg (fS_costBehind d) m
  | 0, m, hm => fun i e sB sO h1 h2 _ _ => by omega
  | d + 1, m, hm => fun i e sB sO h1 h2 h3 h4 => by
    rw [fS_costBehind]
    exact cb_eq hV h h2 (bh_all hV h d (i + 1) (by omega)) h3 h4
end SC5
theorem fl_lp {N : Nat} (hN : N ≤ 3000) (v : Int32) : ∀ (d n x : Nat) (f : Nat → Int32), x ≤ N → N - x ≤ d → d < n → ∃ g, fJ_fill_b5 n v (nI x) (nI N) N f = some g ∧ (∀ q, x ≤ q → q < N → g q = v) ∧ ∀ q, q < x → g q = f q
  | d, 0, _, _, _, _, hh => absurd hh (Nat.not_lt_zero _)
  | d, n + 1, x, f, h0, h1, h2 => by
    rw [fJ_fill_b5]
    by_cases c : N ≤ x
    · rw [if_pos (by rw [nI_leI (by omega) (by omega)]; exact c)]
      exact ⟨f, rfl, fun q a b => by omega, fun _ _ => rfl⟩
    · rw [if_neg (by rw [nI_leI (by omega) (by omega)]; exact c), ig_f (show x < N by omega) (by omega), nI_clamp (by omega), nI_1]
      obtain ⟨g, k1, k2, k3⟩ := fl_lp hN v (d - 1) n (x + 1) (upd f x v) (by omega) (by omega) (by omega)
      refine ⟨g, k1, fun q a b => ?_, fun q a => ?_⟩
      · by_cases e : q = x
        · rw [k3 q (by omega), e, pk_us]
        · exact k2 q (by omega) b
      · rw [k3 q (by omega), pk_un (by omega)]
theorem fl_eq {N : Nat} (hN : N ≤ 3000) (v : Int32) (f : Nat → Int32) : ∃ g, fJ_fill v N f = some g ∧ ∀ q, q < N → g q = v := by
  obtain ⟨g, k1, k2, -⟩ := fl_lp hN v N fu 0 f (by omega) (by omega) (by rw [fu_eq]; omega)
  exact ⟨g, by unfold fJ_fill; rw [ln_0]; exact k1, fun q hq => k2 q (by omega) hq⟩
section SC6
variable {E : Pb} {sh sw sr : Int32} {bK bZ bL bM : Nat → Int32} {bi bg : Int32}
theorem all_eq (hV : VB E) (h : RS E sh sw sr bK bZ bL bM bi bg) (sB sO : Nat → Int32) : ∃ sB' sO', fS_costOfAll sB sO sh sw sr bK bZ bL bM bi bg = some (nI (cN (VT E)), sB', sO') ∧ (0 < pn E → MM E sB' sO' 0 ∧ OT E sO' 0) := by
  have h12 := hV.1
  unfold fS_costOfAll
  by_cases c0 : pn E = 0
  · refine ⟨sB, sO, ?_, fun q => by omega⟩
    rw [h.1, if_pos (by rw [c0, nI_0])]
    have e1 : tt E = 0 := by unfold tt; rw [c0]; rfl
    unfold VT
    rw [if_pos e1]
    show _ = some (nI (cvt 0), sB, sO)
    have e2 : cvt 0 = 0 := cvt_0
    rw [e2, nI_0]
  · have c1 : 0 < pn E := by omega
    have htb := tn_b hV c1
    have hl := pr_lt (P := E) c1 (show 0 < tn E 0 by omega)
    rw [if_neg (by rw [h.1]; exact nI_ne0 (by omega) (by omega))]
    obtain ⟨g1, k1, k2⟩ := fl_eq (N := 2412) (by omega) (-1) sB
    obtain ⟨g2, m1, m2⟩ := fl_eq (N := 144) (by omega) (-1) sO
    rw [k1, bd1_s, m1, bd1_s]
    have hM : MM E g1 g2 0 := fun i hi hn => ⟨fun e he => Or.inl (k2 _ (by omega)), Or.inl (m2 _ (by omega))⟩
    obtain ⟨sB', sO', q1, q2, q3, -, -⟩ := wt_eq hV h c1 (bh_all hV h 13 1 (by omega)) hM
    rw [ln_0, q1, bd2_s]
    refine ⟨sB', sO', ?_, fun _ => ⟨q2, q3⟩⟩
    have e3 := q3 0 (Or.inl rfl)
    rw [Nat.zero_mul] at e3
    rw [e3]
    have e4 : VT E = Tq E (tt E - (pr E 0 + 0 + 1)) 0 0 := by
      have p0 : pr E 0 = 0 := rfl
      unfold VT Tq Fq
      rw [if_neg (by unfold tt; omega)]
      simp only [oz_0, oa_0, Nat.zero_add, Nat.add_zero, p0]
      by_cases c : ta E 0 ≤ ph E
      · rw [if_pos c, if_pos c]
      · rw [if_neg c, if_neg c]; rfl
    rw [e4]
end SC6
