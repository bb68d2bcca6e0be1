/-! THE CLASS'S CHOICES: opens, roomBehind, breakBehind -/
theorem bd2_i {α1 α2 β : Type} {x : Option (α1 × α2)} {K : α1 → α2 → Option β} {y : β} (h : bd2 x K = some y) : ∃ a b, x = some (a, b) ∧ K a b = some y := by
  cases x with
  | none => cases h
  | some q => exact ⟨q.1, q.2, rfl, h⟩
theorem bd3_i {α1 α2 α3 β : Type} {x : Option (α1 × α2 × α3)} {K : α1 → α2 → α3 → Option β} {y : β} (h : bd3 x K = some y) : ∃ a b c, x = some (a, b, c) ∧ K a b c = some y := by
  cases x with
  | none => cases h
  | some q => exact ⟨q.1, q.2.1, q.2.2, rfl, h⟩
section CC
variable {E : Pb} {sh sw sr : Int32} {bK bZ bL bM : Nat → Int32} {bi bg : Int32}
/-- what costBehind answers is what it has remembered -/
theorem cb_mem (hV : VB E) (h : RS E sh sw sr bK bZ bL bM bi bg) {CB : CBT} {i e : Nat} (hi : i < pn E) (he : e ≤ 200) {sB sO sB' sO' : Nat → Int32} {v : Int32} (hc : fS_costBehindB CB (nI i) (nI e) sB sO sh sw sr bK bZ bL bM bi bg = some (v, sB', sO')) : v = sB' (i * 201 + e) := by
  have h12 := hV.1
  have hidx : i * 201 + e < 2412 := by omega
  have h87 : ∀ sB1 sO1, fS_costBehind_b87 CB (nI (i * 201 + e)) sB1 sO1 sh sw sr bK bZ bL bM bi bg = some (v, sB', sO') → v = sB' (i * 201 + e) := fun sB1 sO1 q => by
    unfold fS_costBehind_b87 at q
    rw [ig_f hidx (by omega), nI_clamp (by omega)] at q
    have q1 := Option.some.inj q
    have q2 : sB1 = sB' := congrArg (fun z => z.2.1) q1
    have q3 : sB1 (i * 201 + e) = v := congrArg (fun z => z.1) q1
    rw [← q2, q3]
  have h79 : ∀ w sB1 sO1, fS_costBehind_b79 CB (nI (i * 201 + e)) w sB1 sO1 sh sw sr bK bZ bL bM bi bg = some (v, sB', sO') → v = sB' (i * 201 + e) := fun w sB1 sO1 q => by
    unfold fS_costBehind_b79 at q
    rw [ig_f hidx (by omega)] at q
    exact h87 _ _ q
  have h63 : ∀ w sB1 sO1, fS_costBehind_b63 CB (nI i) (nI (i * 201 + e)) w sB1 sO1 sh sw sr bK bZ bL bM bi bg = some (v, sB', sO') → v = sB' (i * 201 + e) := fun w sB1 sO1 q => by
    unfold fS_costBehind_b63 at q
    rw [ln_12, pk_mul, ig_f (show i * 12 < 144 by omega) (by omega)] at q
    exact h79 _ _ _ q
  unfold fS_costBehindB at hc
  rw [if_pos (by rw [h.1, nI_ltI (by omega) (by omega)]; exact hi), ln_201, pk_mul, nI_add, ig_f hidx (by omega), nI_clamp (by omega)] at hc
  by_cases c1 : sB (i * 201 + e) = -1
  · rw [if_pos c1] at hc
    obtain ⟨sB1, sO1, -, hc⟩ := bd2_i hc
    obtain ⟨r, sB2, sO2, -, hc⟩ := bd3_i hc
    by_cases c2 : nI i = 0
    · rw [if_pos c2] at hc
      exact h63 _ _ _ hc
    · have c3 : i ≠ 0 := fun q => c2 (by rw [q, nI_0])
      rw [if_neg c2, ln_1, pk_sub (by omega), ig_f (show i - 1 < 12 by omega) (by omega)] at hc
      by_cases c4 : bK (nI (i - 1)).toNatClampNeg = nI 1
      · rw [if_pos c4] at hc; exact h79 _ _ _ hc
      · rw [if_neg c4] at hc; exact h63 _ _ _ hc
  · rw [if_neg c1] at hc
    exact h87 _ _ hc
theorem cb13 (hV : VB E) (h : RS E sh sw sr bK bZ bL bM bi bg) {i e : Nat} {sB sO : Nat → Int32} (hi : i < pn E) (he : e ≤ ph E) (hM : MM E sB sO i) : ∃ sB' sO', fS_costBehind 13 (nI i) (nI e) sB sO sh sw sr bK bZ bL bM bi bg = some (nI (cN (V E (tt E - pr E i) i 0 e 2)), sB', sO') ∧ MM E sB' sO' i ∧ OT E sO' i := by
  have h12 := hV.1
  have hph := hV.2.2.2.2.1
  obtain ⟨sB', sO', k1, k2, -, -⟩ := bh_all hV h 13 0 (by omega) i e sB sO (by omega) (by omega) he hM
  refine ⟨sB', sO', k1, k2, ?_⟩
  have k3 := k1
  rw [fS_costBehind] at k3
  have k4 := cb_mem hV h hi (by omega) k3
  have hb := Bd_le (Bd_V hV (At_i hV (show i ≤ pn E by omega)) (e := e) (c := 2))
  rcases (k2 i (Nat.le_refl _) hi).1 e (by omega) with q | ⟨-, q⟩
  · rw [q] at k4
    exact absurd k4 (neg1 (by omega))
  · exact q
theorem ch_c0 {r i e c : Nat} : ch E r i 0 e c = ch E r i 0 e 2 := by
  cases r with
  | zero => rfl
  | succ r =>
    have hn : nc E i 0 c = nc E i 0 2 := by
      unfold nc
      by_cases e : pK E i ≠ 0
      · rw [if_pos e, if_pos e]
      · rw [if_neg e, if_neg e, if_pos (Or.inl rfl), if_pos (Or.inl rfl)]
    show fd _ _ _ _ = fd _ _ _ _
    rw [hn, V_c0 (c := c) (c' := 2) (fun _ => trivial)]
theorem cN_v {x : Option Nat} {v : Nat} (hv : cvt v < 268435456) : cN x = cvt v ↔ x = some v := by
  cases x with
  | none =>
    constructor
    · intro h; have h : 268435456 = cvt v := h; omega
    · intro h; cases h
  | some w =>
    show cvt w = cvt v ↔ _
    rw [cvt_inj]
    constructor
    · intro h; rw [h]
    · intro h; exact Option.some.inj h
/-- the rooms of item i behind an end -/
abbrev Wi (E : Pb) (i e : Nat) : Nat → Option Nat := wi E i e (fun e' => V E (tt E - (pr E i + 1)) (nx E i 0).1 (nx E i 0).2 e' (nc E i 0 2))
theorem ch_fd (hV : VB E) {i e : Nat} (hi : i < pn E) : ch E (tt E - pr E i) i 0 e 2 = fd (Wi E i e) (V E (tt E - pr E i) i 0 e 2) (pL E i) (pM E i + 1 - pL E i) := by
  have htb := tn_b hV hi
  have hl := pr_lt (P := E) hi (show 0 < tn E i by omega)
  have e1 : tt E - pr E i = tt E - (pr E i + 1) + 1 := by unfold tt; omega
  rw [e1]; rfl
/-- it opens a column just if standing within is dearer -/
theorem ch_rm (hV : VB E) {i e v : Nat} (hi : i < pn E) (hv : V E (tt E - pr E i) i 0 e 2 = some v) : ch E (tt E - pr E i) i 0 e 2 = none ↔ ¬ rm (Wi E i e) (pL E i) (pM E i + 1 - pL E i) = some v := by
  have h1 := V_top hV (e := e) hi
  rw [hv] at h1
  have h2 := om_le h1.symm
  rw [ch_fd hV hi, hv]
  constructor
  · intro h q
    obtain ⟨⟨j, j1, j2, j3⟩, -⟩ := rm_some q
    exact fd_none h j j1 j2 j3
  · intro h
    cases hf : fd (Wi E i e) (some v) (pL E i) (pM E i + 1 - pL E i) with
    | none => rfl
    | some x =>
      obtain ⟨a1, a2, a3, -⟩ := fd_some hf
      obtain ⟨y, y1, y2⟩ := rm_l a1 a2 a3
      have := h2.2.2 y y1
      exact absurd (by rw [y1]; congr 1; omega) h
theorem V_cv (hV : VB E) {r i k e c v : Nat} (ha : At E r i k) (hv : V E r i k e c = some v) : cvt v < 268435456 := by
  have := Dg_cvt (Bd_V hV ha v hv) (by omega) (by omega)
  omega
theorem W_bd (hV : VB E) {i e : Nat} (hi : i < pn E) : cN (rm (Wi E i e) (pL E i) (pM E i + 1 - pL E i)) ≤ 268435456 := by
  have htb := tn_b hV hi
  cases hr : rm (Wi E i e) (pL E i) (pM E i + 1 - pL E i) with
  | none => exact Nat.le_refl _
  | some v =>
    have hl := pr_lt (P := E) hi (show 0 < tn E i by omega)
    have e1 : tt E - (pr E i + 1) + 1 = tt E - pr E i := by unfold tt; omega
    have ha : At E (tt E - (pr E i + 1) + 1) i 0 := by rw [e1]; exact At_i hV (by omega)
    obtain ⟨⟨j, j1, j2, j3⟩, -⟩ := rm_some hr
    unfold Wi wi at j3
    by_cases c3 : e + j + ta E i ≤ ph E
    · rw [if_pos c3] at j3
      obtain ⟨z, z1, z2⟩ := oa_some j3
      have hm := VI_of hV hi
      have hd := V_dg hV _ _ _ _ _ z (At_nx hV ha) z1
      have q2 := tt_le hV
      have h12 := hV.1
      have q3 : 30 * (pn E - (nx E i 0).1) ≤ 360 := by omega
      obtain ⟨cc, o, x, a1, a2, a3, a4⟩ := hd
      rcases oz_or E i (e + j) with q | q
      · have := Dg_cvt (v := v) (C := 146) (O := 146) (X := 390) ⟨cc, o, x + j, by omega, by omega, by omega, by omega⟩ (by omega) (by omega)
        show cvt v ≤ _
        omega
      · have := Dg_cvt (v := v) (C := 146) (O := 146) (X := 390) ⟨cc, o + 1, x + j, by omega, by omega, by omega, by omega⟩ (by omega) (by omega)
        show cvt v ≤ _
        omega
    · rw [if_neg c3] at j3; cases j3
theorem opn_eq (hV : VB E) (h : RS E sh sw sr bK bZ bL bM bi bg) {i e v : Nat} {sB sO : Nat → Int32} (hi : i < pn E) (h0 : 0 < i) (he : e ≤ ph E) (hM : MM E sB sO i) (hv : V E (tt E - pr E i) i 0 e 2 = some v) : ∃ sB' sO', fS_opens (nI i) (nI e) sB sO sh sw sr bK bZ bL bM bi bg = some ((if ch E (tt E - pr E i) i 0 e 2 = none then 1 else 0), sB', sO') ∧ MM E sB' sO' (i + 1) ∧ OT E sO' i := by
  have h12 := hV.1
  obtain ⟨sB1, sO1, k1, k2, k3⟩ := cb13 hV h hi he hM
  obtain ⟨sB2, sO2, m1, m2, m3, m4⟩ := cw_eq hV h hi (bh_all hV h 13 (i + 1) (by omega)) he (MM_mono k2 (by omega)) k3
  refine ⟨sB2, sO2, ?_, m2, OT_cong hV hi k3 (fun q q1 q2 => m4 q (by omega))⟩
  unfold fS_opens fS_opens_b19 fS_opens_b24
  rw [if_neg (nI_ne0 (by omega) (by omega)), k1, bd3_s, m1, bd3_s]
  have hW := W_bd hV (e := e) hi
  have hcv := V_cv hV (At_i hV (show i ≤ pn E by omega)) hv
  have h1 := V_top hV (e := e) hi
  rw [hv] at h1
  have h2 := om_le h1.symm
  have hcv2 : cN (some v) < 2 ^ 31 := by show cvt v < _; omega
  rw [hv]
  have key : cN (rm (Wi E i e) (pL E i) (pM E i + 1 - pL E i)) ≤ cvt v ↔ rm (Wi E i e) (pL E i) (pM E i + 1 - pL E i) = some v := by
    rw [← cN_v hcv]
    constructor
    · intro q
      cases hr : rm (Wi E i e) (pL E i) (pM E i + 1 - pL E i) with
      | none =>
        rw [hr] at q
        have q : 268435456 ≤ cvt v := q
        omega
      | some w =>
        rw [hr] at q
        have q : cvt w ≤ cvt v := q
        have h3 := h2.2.2 w hr
        have h4 := cvt_lt (a := w) (b := v)
        have h5 := cvt_lt (a := v) (b := w)
        show cvt w = cvt v
        omega
    · intro q; rw [q]; exact Nat.le_refl _
  by_cases c : ch E (tt E - pr E i) i 0 e 2 = none
  · have c2 := (ch_rm hV hi hv).mp c
    rw [if_pos c]
    have c3 : ¬ cN (rm (Wi E i e) (pL E i) (pM E i + 1 - pL E i)) ≤ cN (some v) := fun q => c2 (key.mp q)
    rw [if_neg (fun q => c3 ((nI_leI (by omega) hcv2).mp q)), if_neg (fun q => q (Or.inr rfl))]
  · have c2 : rm (Wi E i e) (pL E i) (pM E i + 1 - pL E i) = some v := Classical.byContradiction (fun q => c ((ch_rm hV hi hv).mpr q))
    rw [if_neg c]
    have c3 : cN (rm (Wi E i e) (pL E i) (pM E i + 1 - pL E i)) ≤ cN (some v) := key.mpr c2
    rw [if_pos ((nI_leI (by omega) hcv2).mpr c3), if_neg (fun q => q (Or.inl rfl))]
theorem rb_lp (hV : VB E) (h : RS E sh sw sr bK bZ bL bM bi bg) {i e v x mr : Nat} (hi : i < pn E) (he : e ≤ ph E) (hv : cvt v < 268435456) (hx : fd (Wi E i e) (some v) (pL E i) (pM E i + 1 - pL E i) = some x) (hmr : mr = if ph E - ta E i - e < pM E i then ph E - ta E i - e else pM E i) (hxm : x ≤ mr) : ∀ (d n y : Nat) (sB sO : Nat → Int32), mr - y ≤ d → d < n → pL E i ≤ y → y ≤ x → MM E sB sO (i + 1) → OT E sO i → ∃ sB' sO', fS_roomBehind_b26 n (nI i) (nI e) (nI (cvt v)) (nI mr) (nI y) sB sO sh sw sr bK bZ bL bM bi bg = some (nI x, sB', sO') ∧ MM E sB' sO' (i + 1) ∧ OT E sO' i
  | d, 0, _, _, _, _, hh, _, _, _, _ => absurd hh (Nat.not_lt_zero _)
  | d, n + 1, y, sB, sO, h1, h2, h3, h4, hM, hO => by
    have h12 := hV.1
    have hph := hV.2.2.2.2.1
    have hta := ta_b hV hi
    have hm := VI_of hV hi
    have hmr2 : mr ≤ pM E i ∧ mr ≤ ph E - ta E i - e := by
      rw [hmr]
      by_cases c : ph E - ta E i - e < pM E i
      · rw [if_pos c]; omega
      · rw [if_neg c]; omega
    rw [fS_roomBehind_b26]
    by_cases c : mr ≤ y
    · have e1 : mr = x := by omega
      rw [if_pos (by rw [nI_leI (by omega) (by omega)]; exact c), e1]
      exact ⟨sB, sO, rfl, hM, hO⟩
    · rw [if_neg (by rw [nI_leI (by omega) (by omega)]; exact c), nI_add, ln_0]
      have hk0 : ¬ pK E i = 0 := fun q => by
        obtain ⟨-, -, -, t4, -, -⟩ := tx_f hV hi q
        omega
      have et : tn E i = 1 := by unfold tn; rw [if_neg hk0]
      obtain ⟨sB1, sO1, k1, k2, k3, k4⟩ := fr_eq hV h (k := 0) (top := e + y) hi (by omega) (bh_all hV h 13 (i + 1) (by omega)) (by omega) hM (fun q q1 q2 => hO q (Or.inr q2))
      have hO1 : OT E sO1 i := OT_cong hV hi hO (fun q q1 q2 => k4 q (by omega))
      have hbF := Bd_le (Bd_Fq hV (At_ik hV hi (show 0 < tn E i by omega)) (top := e + y))
      rw [k1, bd3_s, nI_add]
      have eo : oz E i (e + y) = 0 := by unfold oz; rw [if_neg (fun q => hk0 q.1)]
      have eF : Fq E (tt E - (pr E i + 0 + 1)) i 0 (e + y) = V E (tt E - pr E (i + 1)) (i + 1) 0 (e + y + ta E i) 2 := by
        unfold Fq
        rw [if_pos (by omega), nx_end (by omega), eo, oa_0, V_c0 (c := fc E i) (c' := 2) (fun _ => trivial), pr_s, et]
      have eW : Wi E i e y = oa (V E (tt E - pr E (i + 1)) (i + 1) 0 (e + y + ta E i) 2) y := by
        unfold Wi
        rw [wi_n hk0, if_pos (by omega), pr_s, et]
      have hdg : ∀ v, V E (tt E - pr E (i + 1)) (i + 1) 0 (e + y + ta E i) 2 = some v → Dg v 146 146 330 := fun v hv => by
        have q1 := V_dg hV _ _ _ _ _ v (At_i hV (i := i + 1) (by omega)) hv
        have q2 := tt_le hV
        exact Dg_le q1 (by omega) (by omega) (by omega)
      have hcr := cN_room hdg (m := y) (by omega)
      rw [← eW] at hcr
      have key : y + cN (Fq E (tt E - (pr E i + 0 + 1)) i 0 (e + y)) = cvt v ↔ Wi E i e y = some v := by
        rw [← cN_v hv, hcr, eF]
        by_cases c5 : y + cN (V E (tt E - pr E (i + 1)) (i + 1) 0 (e + y + ta E i) 2) < 268435456
        · rw [if_pos c5]
        · rw [if_neg c5]; omega
      obtain ⟨a1, a2, a3, a4⟩ := fd_some hx
      by_cases c6 : Wi E i e y = some v
      · have e2 : y = x := by
          by_cases e3 : y = x
          · exact e3
          · exact absurd c6 (a4 y h3 (by omega))
        rw [if_pos (by rw [key.mpr c6]), e2]
        exact ⟨sB1, sO1, rfl, k2, hO1⟩
      · have e2 : y ≠ x := fun q => c6 (by rw [q]; exact a3)
        rw [if_neg (by rw [nI_eq (by omega) (by omega)]; exact fun q => c6 (key.mp q)), nI_1]
        exact rb_lp hV h hi he hv hx hmr hxm (d - 1) n (y + 1) sB1 sO1 (by omega) (by omega) (by omega) (by omega) k2 hO1
theorem rb_eq (hV : VB E) (h : RS E sh sw sr bK bZ bL bM bi bg) {i e v x : Nat} {sB sO : Nat → Int32} (hi : i < pn E) (he : e ≤ ph E) (hM : MM E sB sO (i + 1)) (hO : OT E sO i) (hv : V E (tt E - pr E i) i 0 e 2 = some v) (hx : ch E (tt E - pr E i) i 0 e 2 = some x) : ∃ sB' sO', fS_roomBehind (nI i) (nI e) sB sO sh sw sr bK bZ bL bM bi bg = some (nI x, sB', sO') ∧ MM E sB' sO' (i + 1) ∧ OT E sO' i := by
  have h12 := hV.1
  have hph := hV.2.2.2.2.1
  have hta := ta_b hV hi
  have hm := VI_of hV hi
  obtain ⟨sB2, sO2, m1, m2, m3, m4⟩ := cw_eq hV h hi (bh_all hV h 13 (i + 1) (by omega)) he hM hO
  have hO2 : OT E sO2 i := OT_cong hV hi hO (fun q q1 q2 => m4 q (by omega))
  have hcv := V_cv hV (At_i hV (show i ≤ pn E by omega)) hv
  have hr : rm (Wi E i e) (pL E i) (pM E i + 1 - pL E i) = some v := Classical.byContradiction (fun q => by
    have := (ch_rm hV hi hv).mpr q
    rw [hx] at this; cases this)
  have hf := ch_fd hV (e := e) hi
  rw [hx, hv] at hf
  obtain ⟨a1, a2, a3, -⟩ := fd_some hf.symm
  have hfit : e + x + ta E i ≤ ph E := by
    unfold Wi wi at a3
    by_cases c : e + x + ta E i ≤ ph E
    · exact c
    · rw [if_neg c] at a3; cases a3
  unfold fS_roomBehind
  rw [m1, bd3_s, mr_eq hV h hi, bd1_s, ig_f (show i < 12 by omega) (by omega), nI_clamp (by omega), (h.2.2.2.2 i hi).2.2.1, pk_sub (by omega), pk_sub (by omega), n_min2 (by omega) (by omega)]
  have hr2 : cN (rm (Wi E i e) (pL E i) (pM E i + 1 - pL E i)) = cvt v := by rw [hr]; rfl
  unfold Wi at hr2
  rw [hr2]
  refine rb_lp hV h hi he hcv hf.symm rfl ?_ 31 fu (pL E i) sB2 sO2 ?_ (by rw [fu_eq]; omega) (Nat.le_refl _) a1 m2 hO2
  · by_cases c : ph E - ta E i - e < pM E i
    · rw [if_pos c]; omega
    · rw [if_neg c]; omega
  · by_cases c : ph E - ta E i - e < pM E i
    · rw [if_pos c]; omega
    · rw [if_neg c]; omega
theorem bb_lp (hV : VB E) (h : RS E sh sw sr bK bZ bL bM bi bg) {i k T v : Nat} (hi : i < pn E) (hk0 : pK E i = 0) (hv : cvt v < 268435456) (hT : T ≤ 200) (hW : Wk E i k T (k + 2) = some v) : ∀ (d n j : Nat) (sB sO : Nat → Int32), j ≤ d → d < n → k + 1 ≤ j → j + 2 ≤ pZ E i → ¬ Wk E i k T (j + 1) = some v → MM E sB sO (i + 1) → OT E sO i → ∃ j' sB' sO', fS_breakBehind_b42 n (nI i) (nI k) (nI T) (nI (tn E i)) (nI (cvt v)) (nI j) sB sO sh sw sr bK bZ bL bM bi bg = some (nI j', sB', sO') ∧ BR E i k T j' ∧ MM E sB' sO' (i + 1) ∧ OT E sO' i
  | d, 0, _, _, _, _, hh, _, _, _, _, _ => absurd hh (Nat.not_lt_zero _)
  | d, n + 1, j, sB, sO, h1, h2, h3, h4, hn, hM, hO => by
    have h12 := hV.1
    obtain ⟨t1, t2, -, -, -, -⟩ := tx_f hV hi hk0
    have htb := tn_b hV hi
    rw [fS_breakBehind_b42, ln_2, nI_add]
    by_cases c : j < k + 2
    · have e : j = k + 1 := by omega
      subst e
      exact absurd hW hn
    · rw [if_neg (by rw [nI_ltI (by omega) (by omega)]; exact c)]
      obtain ⟨sB1, sO1, k1, k2, k3, k4⟩ := up_eq hV h (k := k) (top := T) (j := j) hi (bh_all hV h 13 (i + 1) (by omega)) hM (by omega) (by omega) hT (Or.inr ⟨by omega, hO j (Or.inr (by omega))⟩)
      have hO1 : OT E sO1 i := OT_cong hV hi hO (fun q q1 q2 => k4 q (by omega))
      have hU := U_le (E := E) (i := i) (k := k) (top := T) (j := j) (Bd_Tq hV (At_ik hV hi (show j < tn E i by omega))) (by omega)
      rw [k1, bd3_s, if_neg (show ¬ j = tn E i by omega)]
      by_cases c2 : Uq E i k T j (Tq E (tt E - (pr E i + j + 1)) i j) = some v
      · rw [if_pos (by rw [c2]; rfl)]
        exact ⟨j, sB1, sO1, rfl, BR_at hV hi hk0 (by omega) (by omega) hW c2 hn, k2, hO1⟩
      · rw [if_neg (by rw [nI_eq (by omega) (by omega), cN_v hv]; exact c2)]
        obtain ⟨j', rfl⟩ : ∃ j', j = j' + 1 := ⟨j - 1, by omega⟩
        rw [pk_m1]
        refine bb_lp hV h hi hk0 hv hT hW (d - 1) n j' sB1 sO1 (by omega) (by omega) (by omega) (by omega) ?_ k2 hO1
        intro q
        have hp := pr_mono (P := E) (show i + 1 ≤ pn E by omega)
        rw [pr_s, t1] at hp
        have e1 : tt E - pr E (i + 1) + (pZ E i - 1 - (j' + 1)) = tt E - (pr E i + (j' + 1) + 1) := by rw [pr_s, t1]; unfold tt; omega
        rw [Wk_s (by omega), e1] at q
        rcases (om_le q).1 with q | q
        · exact c2 q
        · exact hn q
theorem bb_eq (hV : VB E) (h : RS E sh sw sr bK bZ bL bM bi bg) {i k T v : Nat} {sB sO : Nat → Int32} (hi : i < pn E) (hk : k < tn E i) (hT : T ≤ 200) (hM : MM E sB sO (i + 1)) (hO : OT E sO i) (hF : Fq E (tt E - (pr E i + k + 1)) i k T = some v) : ∃ j sB' sO', fS_breakBehind (nI i) (nI k) (nI T) sB sO sh sw sr bK bZ bL bM bi bg = some (nI j, sB', sO') ∧ BR E i k T j ∧ MM E sB' sO' (i + 1) ∧ OT E sO' i := by
  have h12 := hV.1
  have htb := tn_b hV hi
  have hp := pr_mono (P := E) (show i + 1 ≤ pn E by omega)
  rw [pr_s] at hp
  obtain ⟨sB1, sO1, k1, k2, k3, k4⟩ := fr_eq hV h (k := k) (top := T) hi hk (bh_all hV h 13 (i + 1) (by omega)) hT hM (fun q q1 q2 => hO q (Or.inr q2))
  have hO1 : OT E sO1 i := OT_cong hV hi hO (fun q q1 q2 => k4 q (by omega))
  obtain ⟨sB2, sO2, m1, m2, m3, m4⟩ := up_eq hV h (k := k) (top := T) (j := tn E i) hi (bh_all hV h 13 (i + 1) (by omega)) k2 hk (Nat.le_refl _) hT (Or.inl rfl)
  have hO2 : OT E sO2 i := OT_cong hV hi hO1 (fun q q1 q2 => m4 q (by omega))
  have hcv : cvt v < 268435456 := by
    have := Dg_cvt (Bd_Fq hV (At_ik hV hi hk) v hF) (by omega) (by omega)
    omega
  have hU := U_le (E := E) (i := i) (k := k) (top := T) (j := tn E i) (Bd_V hV (At_i hV (i := i + 1) (by omega)) (e := T + (tn E i - k) * ta E i) (c := 2)) (by omega)
  unfold fS_breakBehind
  rw [b_things hV (rs_RB h) hi, bd1_s, k1, bd3_s, m1, bd3_s, if_pos rfl, hF]
  have hc : cN (some v) = cvt v := rfl
  rw [hc]
  by_cases hk0 : pK E i = 0
  · obtain ⟨t1, t2, -, -, -, -⟩ := tx_f hV hi hk0
    have e1 : tt E - (pr E i + k + 1) = tt E - pr E (i + 1) + (pZ E i - 1 - k) := by rw [pr_s, t1]; unfold tt; rw [t1] at hp; omega
    have hF2 := hF
    rw [e1, Fq_tx hV hi hk0 (by omega)] at hF2
    have e2 : Uq E i k T (tn E i) (V E (tt E - pr E (i + 1)) (i + 1) 0 (T + (tn E i - k) * ta E i) 2) = Wk E i k T (pZ E i - 1) := by
      unfold Wk
      rw [show pZ E i - 1 - (pZ E i - 1) = 0 by omega, Wq, t1]
    rw [e2] at hU ⊢
    by_cases c : k + 2 < pZ E i
    · rw [if_pos c] at hF2
      have hW : Wk E i k T (k + 2) = some v := hF2
      by_cases c2 : Wk E i k T (pZ E i - 1) = some v
      · rw [if_pos (by rw [c2]; rfl)]
        exact ⟨_, sB2, sO2, rfl, BR_end hV hi hk0 c hW c2, m2, hO2⟩
      · rw [if_neg (by rw [nI_eq (by omega) (by omega), cN_v hcv]; exact c2), ln_2, pk_sub (by omega)]
        refine bb_lp hV h hi hk0 hcv hT hW 12 fu (tn E i - 2) sB2 sO2 (by omega) (by rw [fu_eq]; omega) (by omega) (by omega) ?_ m2 hO2
        rw [show tn E i - 2 + 1 = pZ E i - 1 by omega]
        exact c2
    · rw [if_neg c] at hF2
      have e3 : pZ E i - 1 - (k + 2) = 0 := by omega
      rw [e3, Wq] at hF2
      have c2 : Wk E i k T (pZ E i - 1) = some v := by
        rw [← e2, t1]; exact hF2
      rw [if_pos (by rw [c2]; rfl)]
      exact ⟨_, sB2, sO2, rfl, BR_two hV hi hk0 (by omega) c, m2, hO2⟩
  · have et : tn E i = 1 := by unfold tn; rw [if_neg hk0]
    have ek : k = 0 := by omega
    subst ek
    have e5 : Uq E i 0 T (tn E i) (V E (tt E - pr E (i + 1)) (i + 1) 0 (T + (tn E i - 0) * ta E i) 2) = Fq E (tt E - (pr E i + 0 + 1)) i 0 T := by
      unfold Uq Fq
      rw [et, nx_end (by omega), pr_s, et]
      rw [show (1 - 0) * ta E i = ta E i by omega, show (1 - 0) * oz E i T = oz E i T by omega, V_c0 (c := fc E i) (c' := 2) (fun _ => trivial)]
    rw [e5, hF, if_pos (show nI (cN (some v)) = nI (cvt v) from rfl)]
    exact ⟨_, sB2, sO2, rfl, BR_one (by omega), m2, hO2⟩
end CC
