/-! THE BEST LAYING, step by step -/
theorem fd_some {f : Nat → Option Nat} {v : Option Nat} : ∀ {m lo x : Nat}, fd f v lo m = some x → lo ≤ x ∧ x < lo + m ∧ f x = v ∧ ∀ y, lo ≤ y → y < x → f y ≠ v
  | 0, lo, x, h => by cases h
  | m + 1, lo, x, h => by
    rw [fd] at h
    by_cases c : f lo = v
    · rw [if_pos c] at h
      cases h
      exact ⟨Nat.le_refl _, by omega, c, fun y a b => by omega⟩
    · rw [if_neg c] at h
      obtain ⟨h1, h2, h3, h4⟩ := fd_some h
      refine ⟨by omega, by omega, h3, fun y a b => ?_⟩
      by_cases e : y = lo
      · rw [e]; exact c
      · exact h4 y (by omega) b
theorem fd_none {f : Nat → Option Nat} {v : Option Nat} : ∀ {m lo : Nat}, fd f v lo m = none → ∀ y, lo ≤ y → y < lo + m → f y ≠ v
  | 0, lo, h => fun y a b => by omega
  | m + 1, lo, h => by
    rw [fd] at h
    by_cases c : f lo = v
    · rw [if_pos c] at h; cases h
    · rw [if_neg c] at h
      intro y a b
      by_cases e : y = lo
      · rw [e]; exact c
      · exact fd_none h y (by omega) (by omega)
theorem ch_spec {P : Pb} {r i k e c v : Nat} (h : V P (r + 1) i k e c = some v) : (∃ x v', ch P (r + 1) i k e c = some x ∧ pL P i ≤ x ∧ x ≤ pM P i ∧ e + x + ta P i ≤ ph P ∧ V P r (nx P i k).1 (nx P i k).2 (e + x + ta P i) (nc P i k c) = some v' ∧ v = v' + (x + oz P i (e + x))) ∨ (ch P (r + 1) i k e c = none ∧ mB P i k c ∧ ∃ v', V P r (nx P i k).1 (nx P i k).2 (ta P i) (fc P i) = some v' ∧ v = v' + 1000000) := by
  cases hc : ch P (r + 1) i k e c with
  | some x =>
    left
    have h1 : fd (wi P i e (fun e' => V P r (nx P i k).1 (nx P i k).2 e' (nc P i k c))) (V P (r + 1) i k e c) (pL P i) (pM P i + 1 - pL P i) = some x := hc
    obtain ⟨a1, a2, a3, -⟩ := fd_some h1
    rw [h] at a3
    unfold wi at a3
    by_cases c1 : e + x + ta P i ≤ ph P
    · rw [if_pos c1] at a3
      obtain ⟨z, z1, z2⟩ := oa_some a3
      exact ⟨x, z, rfl, a1, by omega, c1, z1, z2⟩
    · rw [if_neg c1] at a3; cases a3
  | none =>
    right
    have h1 : fd (wi P i e (fun e' => V P r (nx P i k).1 (nx P i k).2 e' (nc P i k c))) (V P (r + 1) i k e c) (pL P i) (pM P i + 1 - pL P i) = none := hc
    have h2 := fd_none h1
    rw [h] at h2
    rw [V] at h
    rcases (om_le h).1 with q | q
    · by_cases c1 : mB P i k c
      · rw [if_pos c1] at q
        obtain ⟨z, z1, z2⟩ := oa_some q
        exact ⟨rfl, c1, z, z1, z2⟩
      · rw [if_neg c1] at q; cases q
    · obtain ⟨⟨j, j1, j2, j3⟩, -⟩ := rm_some q
      exact absurd j3 (h2 j j1 j2)
theorem sq_s (P : Pb) (t : Nat) : sq P (t + 1) = match qx P t with
    | some x => ((nx P (qi P t) (qk P t)).1, (nx P (qi P t) (qk P t)).2, qe P t + x + ta P (qi P t), nc P (qi P t) (qk P t) (qc P t), qn P t)
    | none => ((nx P (qi P t) (qk P t)).1, (nx P (qi P t) (qk P t)).2, ta P (qi P t), fc P (qi P t), qn P t + 1) := rfl
theorem qi_s (P : Pb) (t : Nat) : qi P (t + 1) = (nx P (qi P t) (qk P t)).1 := by
  unfold qi; rw [sq_s]; cases qx P t <;> rfl
theorem qk_s (P : Pb) (t : Nat) : qk P (t + 1) = (nx P (qi P t) (qk P t)).2 := by
  unfold qk; rw [sq_s]; cases qx P t <;> rfl
theorem qe_s (P : Pb) (t : Nat) : qe P (t + 1) = qt P t + ta P (qi P t) := by
  have h : qe P (t + 1) = (sq P (t + 1)).2.2.1 := rfl
  rw [h, sq_s]
  unfold qt
  cases qx P t with
  | none => show ta P (qi P t) = 0 + ta P (qi P t); omega
  | some x => rfl
theorem qc_s (P : Pb) (t : Nat) : qc P (t + 1) = if (qx P t).isNone then fc P (qi P t) else nc P (qi P t) (qk P t) (qc P t) := by
  have h : qc P (t + 1) = (sq P (t + 1)).2.2.2.1 := rfl
  rw [h, sq_s]
  cases qx P t <;> rfl
theorem qn_s (P : Pb) (t : Nat) : qn P (t + 1) = qn P t + if (qx P t).isNone then 1 else 0 := by
  have h : qn P (t + 1) = (sq P (t + 1)).2.2.2.2 := rfl
  rw [h, sq_s]
  cases qx P t <;> rfl
theorem qn_pos (P : Pb) : ∀ t, 0 < t → 1 ≤ qn P t
  | 0, h => absurd h (Nat.lt_irrefl _)
  | 1, _ => by rw [qn_s]; show 1 ≤ 0 + 1; omega
  | t + 2, _ => by
    have := qn_pos P (t + 1) (by omega)
    rw [qn_s]; omega
theorem nc_lt (P : Pb) (i k c : Nat) : nc P i k c < 3 := by
  unfold nc
  by_cases e : pK P i ≠ 0
  · rw [if_pos e]; omega
  · rw [if_neg e]
    by_cases e2 : k = 0 ∨ c = 0
    · rw [if_pos e2]; omega
    · rw [if_neg e2]; omega
theorem fc_lt (P : Pb) (i : Nat) : fc P i < 3 := by
  unfold fc
  by_cases e : pK P i = 0
  · rw [if_pos e]; omega
  · rw [if_neg e]; omega
theorem qc_lt (P : Pb) : ∀ t, qc P t < 3
  | 0 => by show 2 < 3; omega
  | t + 1 => by
    rw [qc_s]
    cases (qx P t).isNone
    · exact nc_lt _ _ _ _
    · exact fc_lt _ _
theorem q_At {P : Pb} (hV : VB P) : ∀ t, t ≤ tt P → At P (tt P - t) (qi P t) (qk P t)
  | 0, _ => by rw [Nat.sub_zero]; exact At_0 hV
  | t + 1, h => by
    have h1 := q_At hV t (by omega)
    have e : tt P - t = tt P - (t + 1) + 1 := by omega
    rw [e] at h1
    rw [qi_s, qk_s]
    exact At_nx hV h1
theorem q_t {P : Pb} (hV : VB P) {t : Nat} (h : t < tt P) : qi P t < pn P ∧ qk P t < tn P (qi P t) ∧ pr P (qi P t) + qk P t = t := by
  obtain ⟨h1, h2⟩ := q_At hV t (by omega)
  obtain ⟨h3, h4⟩ := h2.resolve_left (by omega)
  exact ⟨h3, h4, by omega⟩
/-- where there is a laying, each state on the way has one that goes on, and the end before it is within the height -/
theorem q_V {P : Pb} (hV : VB P) {v0 : Nat} (hv : VT P = some v0) : ∀ t, t < tt P → qe P (t + 1) ≤ ph P ∧ ∃ v, V P (tt P - (t + 1)) (qi P (t + 1)) (qk P (t + 1)) (qe P (t + 1)) (qc P (t + 1)) = some v
  | 0, h => by
    unfold VT at hv
    have c0 : ¬ tt P = 0 := by omega
    rw [if_neg c0] at hv
    by_cases c1 : ta P 0 ≤ ph P
    · rw [if_pos c1] at hv
      obtain ⟨z, z1, -⟩ := oa_some hv
      have e1 : qe P 1 = ta P 0 := rfl
      have e2 : qc P 1 = fc P 0 := rfl
      refine ⟨by show qe P 1 ≤ _; rw [e1]; exact c1, z, ?_⟩
      show V P (tt P - 1) (qi P 1) (qk P 1) (qe P 1) (qc P 1) = _
      rw [e1, e2]
      exact z1
    · rw [if_neg c1] at hv; cases hv
  | t + 1, h => by
    obtain ⟨-, v, h2⟩ := q_V hV hv t (by omega)
    have e : tt P - (t + 1) = tt P - (t + 1 + 1) + 1 := by omega
    rw [e] at h2
    have hta := (ta_b hV (q_t hV h).1).1
    have hx : qx P (t + 1) = ch P (tt P - (t + 1 + 1) + 1) (qi P (t + 1)) (qk P (t + 1)) (qe P (t + 1)) (qc P (t + 1)) := by
      unfold qx
      rw [if_neg (by omega), e]
    rcases ch_spec h2 with ⟨x, v', a1, a2, a3, a4, a5, a6⟩ | ⟨a1, a2, v', a5, a6⟩
    · rw [a1] at hx
      have eq : qt P (t + 1) = qe P (t + 1) + x := by unfold qt; rw [hx]
      rw [qe_s P (t + 1), eq, qi_s P (t + 1), qk_s P (t + 1), qc_s P (t + 1), hx]
      exact ⟨a4, v', a5⟩
    · rw [a1] at hx
      have eq : qt P (t + 1) = 0 := by unfold qt; rw [hx]
      rw [qe_s P (t + 1), eq, Nat.zero_add, qi_s P (t + 1), qk_s P (t + 1), qc_s P (t + 1), hx]
      exact ⟨a2.1, v', a5⟩
/-- what the arrays of the reference hold before thing t is laid -/
def LB (P : Pb) (gC gP gR gG : Nat → Int32) (t : Nat) : Prop := ∀ q, q < t → gC q = nI (qo P q) ∧ gP q = nI (qt P q) ∧ gR q = nI (qr P q) ∧ gG q = nI (if (qx P q).isNone then 1 else 0)
theorem qo_s {P : Pb} {t : Nat} : qo P t = qn P t + (if (qx P t).isNone then 1 else 0) - 1 := by
  unfold qo; rw [qn_s]
theorem q_bd {P : Pb} (hV : VB P) {v0 : Nat} (hv : VT P = some v0) {t : Nat} (h : t < tt P) : qt P t + ta P (qi P t) ≤ ph P ∧ qt P t ≤ 200 ∧ qn P t ≤ t ∧ qr P t ≤ 30 := by
  have h1 := (q_V hV hv t h).1
  rw [qe_s] at h1
  have hph := hV.2.2.2.2.1
  refine ⟨h1, by omega, ?_, ?_⟩
  · have : ∀ t, qn P t ≤ t := by
      intro t
      induction t with
      | zero => exact Nat.le_refl _
      | succ t ih =>
        rw [qn_s]
        cases (qx P t).isNone
        · show qn P t + 0 ≤ _; omega
        · show qn P t + 1 ≤ _; omega
    exact this t
  · unfold qr
    cases hx : qx P t with
    | none => exact Nat.zero_le _
    | some x =>
      show x ≤ 30
      rcases Nat.eq_zero_or_pos t with q | q
      · subst q
        have : qx P 0 = none := rfl
        rw [this] at hx; cases hx
      · obtain ⟨t', rfl⟩ : ∃ t', t = t' + 1 := ⟨t - 1, by omega⟩
        unfold qx at hx
        rw [if_neg (by omega)] at hx
        have e : tt P - (t' + 1) = tt P - (t' + 1 + 1) + 1 := by omega
        rw [e] at hx
        have h1 : fd _ _ _ _ = some x := hx
        obtain ⟨a1, a2, -, -⟩ := fd_some h1
        have := VI_of hV (q_t hV h).1
        omega
