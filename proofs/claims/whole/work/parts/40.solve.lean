/-! THE REFERENCE'S TABLE -/
def oi : Option Nat → Int32
  | none => -6
  | some v => nI v
def At (P : Pb) (r i k : Nat) : Prop := pr P i + k + r = tt P ∧ (r = 0 ∨ (i < pn P ∧ k < tn P i))
theorem At_nx {P : Pb} (hV : VB P) {r i k : Nat} (h : At P (r + 1) i k) : At P r (nx P i k).1 (nx P i k).2 := by
  obtain ⟨h1, h2⟩ := h
  obtain ⟨hi, hk⟩ := h2.resolve_left (by omega)
  unfold nx
  by_cases c : k + 1 < tn P i
  · rw [if_pos c]
    exact ⟨by show pr P i + (k + 1) + r = _; omega, Or.inr ⟨hi, c⟩⟩
  · rw [if_neg c]
    refine ⟨by show pr P (i + 1) + 0 + r = _; rw [pr_s]; omega, ?_⟩
    by_cases e : i + 1 < pn P
    · exact Or.inr ⟨e, (tn_b hV e).1⟩
    · left
      have : i + 1 = pn P := by omega
      have h3 : pr P (i + 1) = tt P := by rw [this]; rfl
      rw [pr_s] at h3
      omega
theorem At_0 {P : Pb} (hV : VB P) : At P (tt P) 0 0 := by
  refine ⟨by show 0 + 0 + _ = _; omega, ?_⟩
  by_cases e : 0 < pn P
  · exact Or.inr ⟨e, (tn_b hV e).1⟩
  · left
    have : pn P = 0 := by omega
    unfold tt
    rw [this]; rfl
theorem VI_of {P : Pb} (hV : VB P) {i : Nat} (hi : i < pn P) : pL P i ≤ pM P i ∧ pM P i ≤ 30 ∧ pK P i ≤ 2 := by
  have h := hV.2.2.2.2.2 i hi
  have h1 := h.1
  by_cases e : pK P i = 0
  · have := h.2.1 e; omega
  · have := h.2.2 e; omega
theorem nx_t {P : Pb} {i k : Nat} (hk : k < tn P i) : pr P (nx P i k).1 + (nx P i k).2 = pr P i + k + 1 := by
  unfold nx
  by_cases c : k + 1 < tn P i
  · rw [if_pos c]; show pr P i + (k + 1) = _; omega
  · rw [if_neg c]; show pr P (i + 1) + 0 = _; rw [pr_s]; omega
theorem om_none (a : Option Nat) : om a none = a := by cases a <;> rfl
theorem om_assoc (a b c : Option Nat) : om (om a b) c = om a (om b c) := by
  cases a with
  | none => rfl
  | some a =>
    cases b with
    | none => rfl
    | some b =>
      cases c with
      | none => rfl
      | some c =>
        show some (if c < (if b < a then b else a) then c else (if b < a then b else a)) = some (if (if c < b then c else b) < a then (if c < b then c else b) else a)
        congr 1
        by_cases h1 : b < a <;> by_cases h2 : c < b <;> by_cases h3 : c < a <;> simp [h1, h2, h3] <;> omega
theorem om_le {a b : Option Nat} {x : Nat} (h : om a b = some x) : (a = some x ∨ b = some x) ∧ (∀ y, a = some y → x ≤ y) ∧ (∀ y, b = some y → x ≤ y) := by
  cases a with
  | none =>
    have hb : b = some x := h
    refine ⟨Or.inr hb, ?_, ?_⟩
    · intro y h; cases h
    · intro y h'; rw [hb] at h'; cases h'; exact Nat.le_refl _
  | some a =>
    cases b with
    | none =>
      cases h
      refine ⟨Or.inl rfl, ?_, ?_⟩
      · intro y h; cases h; exact Nat.le_refl _
      · intro y h; cases h
    | some b =>
      have h : (if b < a then b else a) = x := Option.some.inj h
      by_cases c : b < a
      · rw [if_pos c] at h; subst h
        refine ⟨Or.inr rfl, ?_, ?_⟩
        · intro y h; cases h; omega
        · intro y h; cases h; exact Nat.le_refl _
      · rw [if_neg c] at h; subst h
        refine ⟨Or.inl rfl, ?_, ?_⟩
        · intro y h; cases h; exact Nat.le_refl _
        · intro y h; cases h; omega
theorem om_none_iff {a b : Option Nat} : om a b = none ↔ a = none ∧ b = none := by
  cases a <;> cases b <;> simp [om]
theorem rm_some {f : Nat → Option Nat} : ∀ {m lo : Nat} {x : Nat}, rm f lo m = some x → (∃ j, lo ≤ j ∧ j < lo + m ∧ f j = some x) ∧ ∀ j y, lo ≤ j → j < lo + m → f j = some y → x ≤ y
  | 0, lo, x, h => by cases h
  | m + 1, lo, x, h => by
    have h : om (f lo) (rm f (lo + 1) m) = some x := h
    obtain ⟨h1, h2, h3⟩ := om_le h
    constructor
    · rcases h1 with h1 | h1
      · exact ⟨lo, Nat.le_refl _, by omega, h1⟩
      · obtain ⟨⟨j, j1, j2, j3⟩, -⟩ := rm_some h1
        exact ⟨j, by omega, by omega, j3⟩
    · intro j y j1 j2 j3
      by_cases e : j = lo
      · subst e; exact h2 y j3
      · cases hr : rm f (lo + 1) m with
        | none =>
          exfalso
          have : ∀ (m lo : Nat), rm f lo m = none → ∀ j, lo ≤ j → j < lo + m → f j = none := by
            intro m
            induction m with
            | zero => intro lo _ j a b; omega
            | succ m ih =>
              intro lo h j a b
              have h : om (f lo) (rm f (lo + 1) m) = none := h
              obtain ⟨h1, h2⟩ := om_none_iff.mp h
              by_cases e : j = lo
              · rw [e]; exact h1
              · exact ih (lo + 1) h2 j (by omega) (by omega)
          rw [this m (lo + 1) hr j (by omega) (by omega)] at j3
          cases j3
        | some z =>
          have := (rm_some hr).2 j y (by omega) (by omega) j3
          have := h3 z hr
          omega
theorem rm_none {f : Nat → Option Nat} : ∀ {m lo : Nat}, rm f lo m = none ↔ ∀ j, lo ≤ j → j < lo + m → f j = none
  | 0, lo => ⟨fun _ j a b => by omega, fun _ => rfl⟩
  | m + 1, lo => by
    show om (f lo) (rm f (lo + 1) m) = none ↔ _
    rw [om_none_iff, rm_none (m := m)]
    constructor
    · intro ⟨h1, h2⟩ j a b
      by_cases e : j = lo
      · rw [e]; exact h1
      · exact h2 j (by omega) (by omega)
    · intro h
      exact ⟨h lo (by omega) (by omega), fun j a b => h j (by omega) (by omega)⟩
theorem oz_le (P : Pb) (i t : Nat) : oz P i t ≤ 1000 := by
  unfold oz
  by_cases e : pK P i = 0 ∧ ¬ t % pg P = 0
  · rw [if_pos e]; omega
  · rw [if_neg e]; omega
theorem oa_some {x : Option Nat} {k y : Nat} (h : oa x k = some y) : ∃ z, x = some z ∧ y = z + k := by
  cases x with
  | none => cases h
  | some z => exact ⟨z, rfl, (Option.some.inj h).symm⟩
/-- no more than a column for each thing -/
theorem V_le {P : Pb} (hV : VB P) : ∀ (r i k e c x : Nat), At P r i k → V P r i k e c = some x → x ≤ r * 1000000
  | 0, i, k, e, c, x, _, h => by
    have : x = 0 := (Option.some.inj h).symm
    omega
  | r + 1, i, k, e, c, x, ha, h => by
    have hn := At_nx hV ha
    obtain ⟨hi, hk⟩ := ha.2.resolve_left (by omega)
    have hm := VI_of hV hi
    rw [V] at h
    rcases (om_le h).1 with h1 | h1
    · by_cases c1 : mB P i k c
      · rw [if_pos c1] at h1
        obtain ⟨z, z1, z2⟩ := oa_some h1
        have := V_le hV r _ _ _ _ z hn z1
        omega
      · rw [if_neg c1] at h1; cases h1
    · obtain ⟨⟨j, j1, j2, j3⟩, -⟩ := rm_some h1
      unfold wi at j3
      by_cases c1 : e + j + ta P i ≤ ph P
      · rw [if_pos c1] at j3
        obtain ⟨z, z1, z2⟩ := oa_some j3
        have := V_le hV r _ _ _ _ z hn z1
        have := oz_le P i (e + j)
        omega
      · rw [if_neg c1] at j3; cases j3
/-- the row of the table for the things from (i, k) on -/
def TB (P : Pb) (gB : Nat → Int32) (r i k : Nat) : Prop := ∀ e c, e ≤ ph P → c < 3 → gB ((201 * (tt P - r) + e) * 3 + c) = oi (V P r i k e c)
theorem oi_none : oi none = -6 := rfl
theorem oi_some (v : Nat) : oi (some v) = nI v := rfl
theorem oa_n (k : Nat) : oa none k = none := rfl
theorem oa_s (v k : Nat) : oa (some v) k = some (v + k) := rfl
theorem oi_neg : ¬ (0 : Int32) ≤ -6 := by decide
theorem m_at {t e c : Nat} : fM_at (nI t) (nI e) (nI c) = some (nI ((201 * t + e) * 3 + c)) := by
  unfold fM_at
  rw [ln_201, ln_3]
  simp only [pk_mul, nI_add]
section MS
variable {P : Pb} {gS gO gL gT gB : Nat → Int32}
theorem m_line (hV : VB P) (h : RG P 0 gS) (hT : TH P gO gL gT) {i k : Nat} (hi : i < pn P) (hk : k < tn P i) : fM_isLine (nI (pr P i + k)) gS gO = some (if pK P i = 0 then 1 else 0) := by
  have h12 := hV.1
  have ht := tt_le hV
  have hl := pr_lt (P := P) hi hk
  have h144 : pr P i + k < 144 := by unfold tt at ht; omega
  obtain ⟨t1, t2, t3⟩ := hT i k hi hk
  have f1 := (h.2.2.2 i hi).1
  rw [Nat.zero_add] at f1
  unfold fM_isLine fM_isLine_b19
  simp (disch := omega) only [ig_f, nI_clamp, ig_g, t1, f1]
  by_cases e : pK P i = 0
  · rw [if_pos ((rb_kz hV hi).mpr e), if_pos e]; simp
  · rw [if_neg (fun q => e ((rb_kz hV hi).mp q)), if_neg e]; simp
theorem m_lines (hV : VB P) (h : RG P 0 gS) (hT : TH P gO gL gT) {i k c : Nat} (hi : i < pn P) (hk : k < tn P i) (hc : c < 3) : fM_linesBy (nI (pr P i + k)) (nI c) gS gO gL = some (nI (nc P i k c)) := by
  have h12 := hV.1
  have ht := tt_le hV
  have hl := pr_lt (P := P) hi hk
  have h144 : pr P i + k < 144 := by unfold tt at ht; omega
  obtain ⟨t1, t2, t3⟩ := hT i k hi hk
  have hkb := (tn_b hV hi).2
  unfold fM_linesBy fM_linesBy_b25 fM_linesBy_b30 nc
  rw [m_line hV h hT hi hk, bd1_s]
  by_cases e : pK P i = 0
  · have hne : ¬ (pK P i ≠ 0) := fun q => q e
    rw [if_pos e, if_neg one_ne, if_neg hne]
    simp (disch := omega) only [ig_f, nI_clamp, ig_g, t2]
    simp (disch := omega) only [ln_0, nI_eq]
    by_cases e1 : k = 0
    · have e3 : k = 0 ∨ c = 0 := Or.inl e1
      rw [if_pos e1, if_pos e3, ln_1]
    · rw [if_neg e1]
      by_cases e2 : c = 0
      · have e3 : k = 0 ∨ c = 0 := Or.inr e2
        rw [if_pos e2, if_pos e3, ln_1]
      · have e3 : ¬ (k = 0 ∨ c = 0) := by omega
        rw [if_neg e2, if_neg e3, ln_2]
  · rw [if_neg e, if_pos rfl, if_pos e, ln_0]
theorem m_with (hV : VB P) (h : RG P 0 gS) (hT : TH P gO gL gT) {r i k e c x : Nat} (ha : At P (r + 1) i k) (hB : TB P gB r (nx P i k).1 (nx P i k).2) (he : e ≤ 200) (hc : c < 3) (hx : x ≤ 30) : fM_withRoom (nI (pr P i + k)) (nI e) (nI c) (nI x) gS gO gL gT gB = some (oi (wi P i e (fun e' => V P r (nx P i k).1 (nx P i k).2 e' (nc P i k c)) x)) := by
  have h12 := hV.1
  have ht := tt_le hV
  obtain ⟨hi, hk⟩ := ha.2.resolve_left (by omega)
  have hl := pr_lt (P := P) hi hk
  have h144 : pr P i + k < 144 := by unfold tt at ht; omega
  obtain ⟨t1, t2, t3⟩ := hT i k hi hk
  have h49 := h.2.2.1
  have h48 := h.2.1
  rw [Nat.zero_add] at h48 h49
  have hta := ta_b hV hi
  have hph := hV.2.2.2.2.1
  have hnc : nc P i k c < 3 := by
    unfold nc
    by_cases e : pK P i ≠ 0
    · rw [if_pos e]; omega
    · rw [if_neg e]
      by_cases e2 : k = 0 ∨ c = 0
      · rw [if_pos e2]; omega
      · rw [if_neg e2]; omega
  have hpg : 3 ≤ pg P ∧ pg P ≤ 20 := ⟨hV.2.1, hV.2.2.1⟩
  unfold fM_withRoom fM_withRoom_b98 fM_withRoom_b99 fM_withRoom_b100 wi
  rw [ig_f (show pr P i + k < 144 by omega) (by omega), ig_f (show pr P i + k < 144 by omega) (by omega), nI_clamp (show pr P i + k < 2 ^ 31 by omega), t3, h49, m_lines hV h hT hi hk hc, m_line hV h hT hi hk, bd1_s, nI_add, nI_add, nI_1]
  by_cases c1 : e + x + ta P i ≤ ph P
  · rw [if_pos (by rw [nI_leI (by omega) (by omega)]; exact c1), if_pos c1, m_at, bd1_s, bd1_s]
    have hrow := hB (e + x + ta P i) (nc P i k c) c1 hnc
    have e1 : tt P - r = pr P i + k + 1 := by have := ha.1; omega
    rw [e1] at hrow
    have hlt : (201 * (pr P i + k + 1) + (e + x + ta P i)) * 3 + nc P i k c < 87435 := by omega
    have hr : r ≤ 144 := by have := ha.1; omega
    have hbd : ∀ v, V P r (nx P i k).1 (nx P i k).2 (e + x + ta P i) (nc P i k c) = some v → v ≤ 144000000 := fun v hv => by
      have := V_le hV r _ _ _ _ v (At_nx hV ha) hv
      omega
    show _ = some (oi (oa (V P r (nx P i k).1 (nx P i k).2 (e + x + ta P i) (nc P i k c)) (x + oz P i (e + x))))
    generalize V P r (nx P i k).1 (nx P i k).2 (e + x + ta P i) (nc P i k c) = w at hrow hbd ⊢
    generalize (201 * (pr P i + k + 1) + (e + x + ta P i)) * 3 + nc P i k c = z at hlt hrow ⊢
    rw [ig_f hlt (by omega), nI_clamp (by omega), hrow]
    cases w with
    | none => rw [oi_none, if_neg oi_neg, oa_n, oi_none]
    | some v =>
      have hv2 := hbd v rfl
      rw [oi_some, if_pos (nI_pos' (by omega)), oa_s, oi_some]
      have hmod := Nat.mod_lt (e + x) (show pg P > 0 by omega)
      unfold oz
      by_cases ek : pK P i = 0
      · rw [if_pos ek, if_neg one_ne, h48, if_neg (nI_ne0 (by omega) (by omega)), pk_rem (by omega) (by omega) (by omega)]
        by_cases em : (e + x) % pg P = 0
        · have e3 : ¬ (pK P i = 0 ∧ ¬ (e + x) % pg P = 0) := fun q => q.2 em
          rw [if_pos (by rw [em, nI_0]), if_neg e3, ln_0, nI_add, nI_add, Nat.add_zero, Nat.add_zero]
        · rw [if_neg (nI_ne0 (by omega) (by omega)), if_pos ⟨ek, em⟩, ln_1000, nI_add, nI_add, Nat.add_assoc]
      · have e3 : ¬ (pK P i = 0 ∧ ¬ (e + x) % pg P = 0) := fun q => ek q.1
        rw [if_neg ek, if_pos rfl, if_neg e3, ln_0, nI_add, nI_add, Nat.add_zero, Nat.add_zero]
  · rw [if_neg (by rw [nI_leI (by omega) (by omega)]; exact c1), if_neg c1, oi_none]
end MS
