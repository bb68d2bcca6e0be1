/-- what was at a comes to b, those between go one on -/
def rt {α : Type} (f : Nat → α) (a b : Nat) : Nat → α := fun q => if q = b then f a else if a ≤ q ∧ q < b then f (q + 1) else if b < q ∧ q ≤ a then f (q - 1) else f q
theorem n_m1 (i : Nat) : nI (i + 1) - 1 = nI i := nI_pred i
theorem sh_dn {b N : Nat} {x : Int32} (hN : N < 2 ^ 30) (hb : b < N) : ∀ (d n i : Nat) (g : Nat → Int32), i - b ≤ d → d < n → i < N → fB_shiftNumber_b32 n (nI b) x (nI i) N g = some (upd (fun q => if b < q ∧ q ≤ i then g (q - 1) else g q) b x)
  | d, 0, _, _, _, h, _ => absurd h (Nat.not_lt_zero _)
  | d, n + 1, i, g, h1, h2, h3 => by
    unfold fB_shiftNumber_b32
    by_cases c : i ≤ b
    · rw [if_pos (by rw [nI_leI (by omega) (by omega)]; exact c)]
      simp (disch := omega) only [ig_f, nI_clamp, ig_g]
      congr 1
      funext q
      unfold upd
      by_cases e : q = b
      · simp [e]
      · have a1 : ¬ (b < q ∧ q ≤ i) := by omega
        simp only [e, a1, if_false]
    · rw [if_neg (by rw [nI_leI (by omega) (by omega)]; exact c)]
      obtain ⟨j, rfl⟩ : ∃ j, i = j + 1 := ⟨i - 1, by omega⟩
      rw [n_m1, pk_m1]
      simp (disch := omega) only [ig_f, nI_clamp, ig_g]
      rw [sh_dn hN hb (d - 1) n j _ (by omega) (by omega) (by omega)]
      congr 1
      congr 1
      funext q
      unfold upd
      by_cases e1 : b < q ∧ q ≤ j
      · have a1 : ¬ q - 1 = j + 1 := by omega
        have a2 : b < q ∧ q ≤ j + 1 := by omega
        rw [if_pos e1, if_neg a1, if_pos a2]
      · by_cases e2 : q = j + 1
        · have a2 : b < q ∧ q ≤ j + 1 := by omega
          rw [if_neg e1, if_pos e2, if_pos a2, e2]; rfl
        · have a2 : ¬ (b < q ∧ q ≤ j + 1) := by omega
          rw [if_neg e1, if_neg e2, if_neg a2]
theorem sh_up {a b N : Nat} {x : Int32} (hN : N < 2 ^ 30) (ha : a < N) (hb : b < N) : ∀ (d n i : Nat) (g : Nat → Int32), b - i ≤ d → d < n → i < N → fB_shiftNumber_b7 n (nI a) (nI b) x (nI i) N g = fB_shiftNumber_b32 fu (nI b) x (nI a) N (fun q => if i ≤ q ∧ q < b then g (q + 1) else g q)
  | d, 0, _, _, _, h, _ => absurd h (Nat.not_lt_zero _)
  | d, n + 1, i, g, h1, h2, h3 => by
    unfold fB_shiftNumber_b7
    by_cases c : b ≤ i
    · rw [if_pos (by rw [nI_leI (by omega) (by omega)]; exact c)]
      congr 1
      funext q
      have a1 : ¬ (i ≤ q ∧ q < b) := by omega
      rw [if_neg a1]
    · rw [if_neg (by rw [nI_leI (by omega) (by omega)]; exact c)]
      rw [nI_1]
      simp (disch := omega) only [ig_f, nI_clamp, ig_g]
      rw [sh_up hN ha hb (d - 1) n (i + 1) _ (by omega) (by omega) (by omega)]
      congr 1
      funext q
      unfold upd
      by_cases e1 : i + 1 ≤ q ∧ q < b
      · have a1 : ¬ q + 1 = i := by omega
        have a2 : i ≤ q ∧ q < b := by omega
        rw [if_pos e1, if_neg a1, if_pos a2]
      · by_cases e2 : q = i
        · have a2 : i ≤ q ∧ q < b := by omega
          rw [if_neg e1, if_pos e2, if_pos a2, e2]
        · have a2 : ¬ (i ≤ q ∧ q < b) := by omega
          rw [if_neg e1, if_neg e2, if_neg a2]
theorem fu_eq : fu = 100000 := rfl
theorem sh_eq {a b N : Nat} (hN : N < 1000) (ha : a < N) (hb : b < N) (f : Nat → Int32) : fB_shiftNumber (nI a) (nI b) N f = some (rt f a b) := by
  unfold fB_shiftNumber
  simp (disch := omega) only [ig_f, nI_clamp, ig_g]
  rw [sh_up (by omega) ha hb (b - a) fu a f (Nat.le_refl _) (by rw [fu_eq]; omega) ha, sh_dn (by omega) hb (a - b) fu a _ (Nat.le_refl _) (by rw [fu_eq]; omega) ha]
  congr 1
  funext q
  unfold upd rt
  by_cases e : q = b
  · rw [if_pos e, if_pos e]
  · rw [if_neg e, if_neg e]
    by_cases e1 : b < q ∧ q ≤ a
    · have a1 : ¬ (a ≤ q - 1 ∧ q - 1 < b) := by omega
      have a2 : ¬ (a ≤ q ∧ q < b) := by omega
      simp only [if_pos e1, if_neg a1, if_neg a2]
    · simp only [if_neg e1]
def rtP (P : Pb) (x y n : Nat) : Pb := (rt (pK P) x y, rt (pZ P) x y, rt (pL P) x y, rt (pM P) x y, n, pg P, ph P)
theorem rt_at {α : Type} (f : Nat → α) {x y n q : Nat} (hx : x < n) (hy : y < n) (hq : q < n) : ∃ z, z < n ∧ ∀ {β : Type} (g : Nat → β), rt g x y q = g z := by
  unfold rt
  by_cases e : q = y
  · exact ⟨x, hx, fun g => by rw [if_pos e]⟩
  · by_cases e1 : x ≤ q ∧ q < y
    · exact ⟨q + 1, by omega, fun g => by rw [if_neg e, if_pos e1]⟩
    · by_cases e2 : y < q ∧ q ≤ x
      · exact ⟨q - 1, by omega, fun g => by rw [if_neg e, if_neg e1, if_pos e2]⟩
      · exact ⟨q, hq, fun g => by rw [if_neg e, if_neg e1, if_neg e2]⟩
theorem rt_VB {P : Pb} {x y n : Nat} (hV : VB P) (hx : x < pn P) (hy : y < pn P) (hn : n ≤ pn P) : VB (rtP P x y n) := by
  obtain ⟨h1, h2, h3, h4, h5, h6⟩ := hV
  refine ⟨by show n ≤ 12; omega, h2, h3, h4, h5, ?_⟩
  intro i hi
  have hi : i < n := hi
  obtain ⟨z, hz, hg⟩ := rt_at (pK P) hx hy (q := i) (by omega)
  have := h6 z hz
  show rt (pK P) x y i ≤ 2 ∧ (rt (pK P) x y i = 0 → 1 ≤ rt (pZ P) x y i ∧ rt (pZ P) x y i ≤ 12 ∧ rt (pL P) x y i = 0 ∧ rt (pM P) x y i = 0) ∧ (rt (pK P) x y i ≠ 0 → 1 ≤ rt (pZ P) x y i ∧ rt (pZ P) x y i ≤ 80 ∧ rt (pL P) x y i ≤ rt (pM P) x y i ∧ rt (pM P) x y i ≤ 30)
  simp only [hg]
  exact this
theorem rt_RB {P : Pb} {x y n : Nat} {bK bZ bL bM : Nat → Int32} (hB : ∀ i, i < pn P → bK i = nI (pK P i) ∧ bZ i = nI (pZ P i) ∧ bL i = nI (pL P i) ∧ bM i = nI (pM P i)) (hx : x < pn P) (hy : y < pn P) (hn : n ≤ pn P) {z : Int32} (hz : z = nI n) : RB (rtP P x y n) (rt bK x y) (rt bZ x y) (rt bL x y) (rt bM x y) z (nI (pg P)) (nI (ph P)) := by
  refine ⟨hz, rfl, rfl, ?_⟩
  intro i hi
  have hi : i < n := hi
  obtain ⟨z, hz, hg⟩ := rt_at (pK P) hx hy (q := i) (by omega)
  show rt bK x y i = nI (rt (pK P) x y i) ∧ rt bZ x y i = nI (rt (pZ P) x y i) ∧ rt bL x y i = nI (rt (pL P) x y i) ∧ rt bM x y i = nI (rt (pM P) x y i)
  simp only [hg]
  exact hB z hz
theorem bs_eq {x y : Nat} (hx : x < 12) (hy : y < 12) {bK bZ bL bM : Nat → Int32} : fB_shift (nI x) (nI y) bK bZ bL bM = some (rt bK x y, rt bZ x y, rt bL x y, rt bM x y) := by
  unfold fB_shift
  rw [sh_eq (by omega) hx hy, bd1_s, sh_eq (by omega) hx hy, bd1_s, sh_eq (by omega) hx hy, bd1_s, sh_eq (by omega) hx hy, bd1_s]
theorem ms_s1 (n : Nat) {i j r : Nat} (hi : i < 12) (hj : j < 12) (hr : r ≤ 36) (gS : Nat → Int32) : fM_shift_b2 (n + 1) (nI i) (nI j) (nI r) gS = fM_shift_b2 n (nI i) (nI j) (nI (r + 12)) (upd gS (r + j) (gS (r + i))) := by
  rw [fM_shift_b2]
  have c : ¬ (36 : Int32) < nI r := by rw [ln_36, nI_ltI (by omega) (by omega)]; omega
  rw [if_neg c, ln_12]
  simp only [nI_add]
  simp (disch := omega) only [ig_f, nI_clamp, ig_g]
theorem ms_sh {i j : Nat} (hi : i < 12) (hj : j < 12) (hij : i ≠ j) (gS : Nat → Int32) : fM_shift (nI i) (nI j) gS = some (upd (upd (upd (upd gS j (gS i)) (12 + j) (gS (12 + i))) (24 + j) (gS (24 + i))) (36 + j) (gS (36 + i))) := by
  unfold fM_shift
  rw [show fu = 99995 + 1 + 1 + 1 + 1 + 1 from rfl, ln_0, ms_s1 _ hi hj (by omega), ms_s1 _ hi hj (by omega), ms_s1 _ hi hj (by omega), ms_s1 _ hi hj (by omega), fM_shift_b2]
  have c : (36 : Int32) < nI (0 + 12 + 12 + 12 + 12) := by rw [ln_36, nI_ltI (by omega) (by omega)]; omega
  rw [if_pos c]
  simp only [Nat.zero_add]
  rw [pk_un (show 12 + i ≠ j by omega), pk_un (show 12 + 12 + i ≠ 12 + j by omega), pk_un (show 12 + 12 + i ≠ j by omega), pk_un (show 12 + 12 + 12 + i ≠ 12 + 12 + j by omega), pk_un (show 12 + 12 + 12 + i ≠ 12 + j by omega), pk_un (show 12 + 12 + 12 + i ≠ j by omega)]
def sw1 (f : Nat → Int32) (i j r : Nat) : Nat → Int32 := upd (upd f (r + i) (f (r + j))) (r + j) (f (r + i))
theorem ms_w1 (n : Nat) {i j r : Nat} (hi : i < 12) (hj : j < 12) (hr : r ≤ 36) (gS : Nat → Int32) : fM_swap_b2 (n + 1) (nI i) (nI j) (nI r) gS = fM_swap_b2 n (nI i) (nI j) (nI (r + 12)) (sw1 gS i j r) := by
  rw [fM_swap_b2]
  have c : ¬ (36 : Int32) < nI r := by rw [ln_36, nI_ltI (by omega) (by omega)]; omega
  rw [if_neg c, ln_12]
  simp only [nI_add]
  simp (disch := omega) only [ig_f, nI_clamp, ig_g]
  rfl
theorem sw_in {i j s : Nat} (hi : i < 12) (hj : j < 12) (hij : i ≠ j) {f gS : Nat → Int32} (hf : ∀ z, s ≤ z → z < s + 12 → f z = gS z) {q : Nat} (hq : q < 12) : sw1 f i j s (s + q) = if q = i then gS (s + j) else if q = j then gS (s + i) else gS (s + q) := by
  unfold sw1
  by_cases e1 : q = i
  · subst e1
    rw [if_pos rfl, pk_un (by omega), pk_us, hf _ (by omega) (by omega)]
  · by_cases e2 : q = j
    · subst e2
      rw [if_neg e1, if_pos rfl, pk_us, hf _ (by omega) (by omega)]
    · rw [if_neg e1, if_neg e2, pk_un (by omega), pk_un (by omega), hf _ (by omega) (by omega)]
theorem sw_out {i j s z : Nat} (hi : i < 12) (hj : j < 12) {f : Nat → Int32} (hz : z < s ∨ s + 12 ≤ z) : sw1 f i j s z = f z := by
  unfold sw1
  rw [pk_un (by omega), pk_un (by omega)]
/-- two items exchanged in the reference's row -/
theorem ms_sw {i j : Nat} (hi : i < 12) (hj : j < 12) (hij : i ≠ j) (gS : Nat → Int32) : ∃ g, fM_swap (nI i) (nI j) gS = some g ∧ (∀ q, 48 ≤ q → g q = gS q) ∧ ∀ r q, (r = 0 ∨ r = 12 ∨ r = 24 ∨ r = 36) → q < 12 → g (r + q) = if q = i then gS (r + j) else if q = j then gS (r + i) else gS (r + q) := by
  refine ⟨sw1 (sw1 (sw1 (sw1 gS i j 0) i j 12) i j 24) i j 36, ?_, ?_, ?_⟩
  · unfold fM_swap
    rw [show fu = 99995 + 1 + 1 + 1 + 1 + 1 from rfl, ln_0, ms_w1 _ hi hj (by omega), ms_w1 _ hi hj (by omega), ms_w1 _ hi hj (by omega), ms_w1 _ hi hj (by omega), fM_swap_b2]
    have c : (36 : Int32) < nI (0 + 12 + 12 + 12 + 12) := by rw [ln_36, nI_ltI (by omega) (by omega)]; omega
    rw [if_pos c]
  · intro q hq
    rw [sw_out hi hj (by omega), sw_out hi hj (by omega), sw_out hi hj (by omega), sw_out hi hj (by omega)]
  · intro r q hr hq
    rcases hr with rfl | rfl | rfl | rfl
    · rw [sw_out hi hj (by omega), sw_out hi hj (by omega), sw_out hi hj (by omega)]
      exact sw_in hi hj hij (fun _ _ _ => rfl) hq
    · rw [sw_out hi hj (by omega), sw_out hi hj (by omega)]
      exact sw_in hi hj hij (fun z h1 h2 => sw_out hi hj (by omega)) hq
    · rw [sw_out hi hj (by omega)]
      exact sw_in hi hj hij (fun z h1 h2 => by rw [sw_out hi hj (by omega), sw_out hi hj (by omega)]) hq
    · exact sw_in hi hj hij (fun z h1 h2 => by rw [sw_out hi hj (by omega), sw_out hi hj (by omega), sw_out hi hj (by omega)]) hq
/-- the loop of moves to the right: what was at a comes to b -/
theorem mv_up {b : Nat} (hb : b < 12) (v1 : Int32) : ∀ (d n i : Nat) (gS : Nat → Int32), i ≤ b → b - i ≤ d → d < n → ∃ g, fM_move_b23 n v1 (nI b) (nI i) gS = fM_move_b44 fu (nI b) v1 g ∧ (∀ q, 48 ≤ q → g q = gS q) ∧ ∀ r q, (r = 0 ∨ r = 12 ∨ r = 24 ∨ r = 36) → q < 12 → g (r + q) = rt (fun z => gS (r + z)) i b q
  | d, 0, _, _, _, _, h => absurd h (Nat.not_lt_zero _)
  | d, n + 1, i, gS, h0, h1, h2 => by
    rw [fM_move_b23]
    by_cases c : b ≤ i
    · have e : i = b := by omega
      subst e
      refine ⟨gS, by rw [if_pos (by rw [nI_leI (by omega) (by omega)]; exact c)], fun _ _ => rfl, fun r q hr hq => ?_⟩
      unfold rt
      by_cases e : q = i
      · subst e; simp
      · simp only [e, if_false]
        rw [if_neg (by omega), if_neg (by omega)]
    · rw [if_neg (by rw [nI_leI (by omega) (by omega)]; exact c), nI_1]
      obtain ⟨g1, e1, e2, e3⟩ := ms_sw (i := i) (j := i + 1) (by omega) (by omega) (by omega) gS
      rw [e1, bd1_s]
      obtain ⟨g, k1, k2, k3⟩ := mv_up hb v1 (d - 1) n (i + 1) g1 (by omega) (by omega) (by omega)
      refine ⟨g, k1, fun q hq => (k2 q hq).trans (e2 q hq), fun r q hr hq => ?_⟩
      rw [k3 r q hr hq]
      unfold rt
      by_cases c1 : q = b
      · subst c1
        simp only [if_true]
        rw [e3 r (i + 1) hr (by omega), if_neg (by omega), if_pos rfl]
      · simp only [c1, if_false]
        by_cases c2 : i + 1 ≤ q ∧ q < b
        · have c3 : i ≤ q ∧ q < b := by omega
          rw [if_pos c2, if_pos c3, e3 r (q + 1) hr (by omega), if_neg (by omega), if_neg (by omega)]
        · rw [if_neg c2]
          have c4 : ¬ (b < q ∧ q ≤ i + 1) := by omega
          have c5 : ¬ (b < q ∧ q ≤ i) := by omega
          rw [if_neg c4, if_neg c5, e3 r q hr hq]
          by_cases c6 : q = i
          · have c3 : i ≤ q ∧ q < b := by omega
            rw [if_pos c6, if_pos c3, c6]
          · have c3 : ¬ (i ≤ q ∧ q < b) := by omega
            rw [if_neg c6, if_neg c3, if_neg (by omega)]
theorem mv_dn {b : Nat} (hb : b < 12) : ∀ (d n i : Nat) (gS : Nat → Int32), i < 12 → i - b ≤ d → d < n → ∃ g, fM_move_b44 n (nI b) (nI i) gS = some (1, g) ∧ (∀ q, 48 ≤ q → g q = gS q) ∧ ∀ r q, (r = 0 ∨ r = 12 ∨ r = 24 ∨ r = 36) → q < 12 → g (r + q) = if i ≤ b then gS (r + q) else rt (fun z => gS (r + z)) i b q
  | d, 0, _, _, _, _, h => absurd h (Nat.not_lt_zero _)
  | d, n + 1, i, gS, h0, h1, h2 => by
    rw [fM_move_b44]
    by_cases c : i ≤ b
    · exact ⟨gS, by rw [if_pos (by rw [nI_leI (by omega) (by omega)]; exact c)], fun _ _ => rfl, fun r q hr hq => by rw [if_pos c]⟩
    · rw [if_neg (by rw [nI_leI (by omega) (by omega)]; exact c)]
      obtain ⟨j, rfl⟩ : ∃ j, i = j + 1 := ⟨i - 1, by omega⟩
      rw [n_m1, pk_m1]
      obtain ⟨g1, e1, e2, e3⟩ := ms_sw (i := j + 1) (j := j) (by omega) (by omega) (by omega) gS
      rw [e1, bd1_s]
      obtain ⟨g, k1, k2, k3⟩ := mv_dn hb (d - 1) n j g1 (by omega) (by omega) (by omega)
      refine ⟨g, k1, fun q hq => (k2 q hq).trans (e2 q hq), fun r q hr hq => ?_⟩
      rw [k3 r q hr hq, if_neg c]
      by_cases c0 : j ≤ b
      · have e : j = b := by omega
        subst e
        rw [if_pos (Nat.le_refl _), e3 r q hr hq]
        unfold rt
        by_cases c1 : q = j
        · subst c1
          rw [if_neg (by omega), if_pos rfl, if_pos rfl]
        · by_cases c2 : q = j + 1
          · have a2 : ¬ (j + 1 ≤ q ∧ q < j) := by omega
            have a3 : j < q ∧ q ≤ j + 1 := by omega
            simp only [if_neg c1, if_pos c2, if_neg a2, if_pos a3]
            rw [c2]; rfl
          · have a2 : ¬ (j + 1 ≤ q ∧ q < j) := by omega
            have a3 : ¬ (j < q ∧ q ≤ j + 1) := by omega
            simp only [if_neg c1, if_neg c2, if_neg a2, if_neg a3]
      · rw [if_neg c0]
        unfold rt
        by_cases c1 : q = b
        · subst c1
          simp only [if_true]
          rw [e3 r j hr (by omega), if_neg (by omega), if_pos rfl]
        · simp only [c1, if_false]
          have c2 : ¬ (j ≤ q ∧ q < b) := by omega
          have c3 : ¬ (j + 1 ≤ q ∧ q < b) := by omega
          rw [if_neg c2, if_neg c3]
          by_cases c4 : b < q ∧ q ≤ j
          · have c5 : b < q ∧ q ≤ j + 1 := by omega
            rw [if_pos c4, if_pos c5, e3 r (q - 1) hr (by omega), if_neg (by omega), if_neg (by omega)]
          · rw [if_neg c4, e3 r q hr hq]
            by_cases c6 : q = j + 1
            · have c5 : b < q ∧ q ≤ j + 1 := by omega
              rw [if_pos c6, if_pos c5, c6]
              rfl
            · have c5 : ¬ (b < q ∧ q ≤ j + 1) := by omega
              rw [if_neg c6, if_neg c5, if_neg (by omega)]
theorem op_move (p1 p2 : Int32) (xk xl : Int32) (bK bZ bL bM : Nat → Int32) (bi bg bh : Int32) (lI lC lT lR : Nat → Int32) (lth lro lsp lle lex lco lou : Int32) (iK iZ iL iM : Nat → Int32) (ii ig ih : Int32) (jK jZ jL jM : Nat → Int32) (ji jg jh : Int32) (gS gI gK : Nat → Int32) (h : Inv xk xl bK bZ bL bM bi bg bh lI lC lT lR lth lro lsp lle lex lco lou iK iZ iL iM ii ig ih jK jZ jL jM ji jg jh gS gI gK) : ∃ (r : Int32) (xl' : Int32) (bK' : Nat → Int32) (bZ' : Nat → Int32) (bL' : Nat → Int32) (bM' : Nat → Int32) (gS' : Nat → Int32), fX_move p1 p2 xl bK bZ bL bM bi = some (r, xl', bK', bZ', bL', bM') ∧ fM_move p1 p2 gS = some (r, gS') ∧ Inv xk xl' bK' bZ' bL' bM' bi bg bh lI lC lT lR lth lro lsp lle lex lco lou iK iZ iL iM ii ig ih jK jZ jL jM ji jg jh gS' gI gK := by
  have h0 := h
  obtain ⟨P, Pi, Pj, a, b, hV, ⟨rfl, rfl, rfl, hB⟩, ⟨hG50, hG48, hG49, hG⟩, ha, hb, hxk, hk0, hk1, hi, hj, hl⟩ := h
  simp only [Nat.zero_add] at hG50 hG48 hG49 hG
  have hn12 := hV.1
  unfold fX_move fM_move
  rw [hs_eq, hs_eq, ms_eq (n := pn P) (by omega) hG50, ms_eq (n := pn P) (by omega) hG50, bd1_s, bd1_s, bd1_s, bd1_s]
  by_cases c1 : p1 < 0
  · refine ⟨-1, xl, bK, bZ, bL, bM, gS, ?_, ?_, h0⟩ <;> simp [c1]
  by_cases c2 : nI (pn P) ≤ p1
  · refine ⟨-1, xl, bK, bZ, bL, bM, gS, ?_, ?_, h0⟩ <;> simp [c1, c2]
  simp only [if_neg c1, if_neg c2, one_ne, if_false]
  by_cases d1 : p2 < 0
  · refine ⟨-2, xl, bK, bZ, bL, bM, gS, ?_, ?_, h0⟩ <;> simp [d1]
  by_cases d2 : nI (pn P) ≤ p2
  · refine ⟨-2, xl, bK, bZ, bL, bM, gS, ?_, ?_, h0⟩ <;> simp [d1, d2]
  simp only [if_neg d1, if_neg d2, one_ne, if_false]
  obtain ⟨x, hx, rfl⟩ := in_range (by omega) c1 c2
  obtain ⟨y, hy, rfl⟩ := in_range (by omega) d1 d2
  rw [bs_eq (by omega) (by omega), bd4_s]
  have hg : ∃ g, fM_move_b23 fu (nI x) (nI y) (nI x) gS = some (1, g) ∧ (∀ q, 48 ≤ q → g q = gS q) ∧ ∀ r q, (r = 0 ∨ r = 12 ∨ r = 24 ∨ r = 36) → q < 12 → g (r + q) = rt (fun z => gS (r + z)) x y q := by
    by_cases c : x ≤ y
    · obtain ⟨g, k1, k2, k3⟩ := mv_up (b := y) (by omega) (nI x) (y - x) fu x gS c (Nat.le_refl _) (by rw [fu_eq]; omega)
      obtain ⟨g', m1, m2, m3⟩ := mv_dn (b := y) (by omega) (x - y) fu x g (by omega) (Nat.le_refl _) (by rw [fu_eq]; omega)
      refine ⟨g', k1.trans m1, fun q hq => (m2 q hq).trans (k2 q hq), fun r q hr hq => ?_⟩
      rw [m3 r q hr hq, if_pos c]
      exact k3 r q hr hq
    · rw [show fu = 99999 + 1 from rfl, fM_move_b23, if_pos (by rw [nI_leI (by omega) (by omega)]; omega)]
      obtain ⟨g', m1, m2, m3⟩ := mv_dn (b := y) (by omega) (x - y) fu x gS (by omega) (Nat.le_refl _) (by rw [fu_eq]; omega)
      refine ⟨g', m1, m2, fun r q hr hq => ?_⟩
      rw [m3 r q hr hq, if_neg c]
  obtain ⟨g, k1, k2, k3⟩ := hg
  refine ⟨1, 0, _, _, _, _, g, rfl, k1, rtP P x y (pn P), Pi, Pj, a, b, rt_VB hV hx hy (Nat.le_refl _), rt_RB hB hx hy (Nat.le_refl _) rfl, ⟨?_, ?_, ?_, ?_⟩, ha, hb, hxk, hk0, hk1, hi, hj, Or.inl rfl⟩
  · rw [k2 _ (by omega)]; exact hG50
  · rw [k2 _ (by omega)]; exact hG48
  · rw [k2 _ (by omega)]; exact hG49
  · intro q hq
    have hq : q < pn P := hq
    obtain ⟨z, hz, hgz⟩ := rt_at (pK P) hx hy hq
    obtain ⟨f1, f2, f3, f4⟩ := hG z hz
    have r0 := k3 0 q (Or.inl rfl) (by omega)
    have r1 := k3 12 q (Or.inr (Or.inl rfl)) (by omega)
    have r2 := k3 24 q (Or.inr (Or.inr (Or.inl rfl))) (by omega)
    have r3 := k3 36 q (Or.inr (Or.inr (Or.inr rfl))) (by omega)
    rw [hgz] at r0 r1 r2 r3
    simp only [Nat.zero_add] at r0 ⊢
    refine ⟨?_, ?_, ?_, ?_⟩
    · show g q = nI (rt (pK P) x y q); rw [r0, hgz]; exact f1
    · show g (12 + q) = nI (rt (pZ P) x y q); rw [r1, hgz]; exact f2
    · show g (24 + q) = nI (rt (pL P) x y q); rw [r2, hgz]; exact f3
    · show g (36 + q) = nI (rt (pM P) x y q); rw [r3, hgz]; exact f4
